theorem dX6_find_15 : decode cX6_find 15 = .ok (.invokestatic 56, 3) := by decide +kernel
theorem dX6_find_18 : decode cX6_find 18 = .ok (.ifCond .ne 5, 3) := by decide +kernel
theorem dX6_find_21 : decode cX6_find 21 = .ok (.iconst (-1), 1) := by decide +kernel
theorem dX6_find_22 : decode cX6_find 22 = .ok (.ireturn, 1) := by decide +kernel
theorem dX6_find_23 : decode cX6_find 23 = .ok (.aload_n 0, 1) := by decide +kernel
theorem dX6_find_24 : decode cX6_find 24 = .ok (.getfield 19, 3) := by decide +kernel
theorem dX6_find_27 : decode cX6_find 27 = .ok (.iload_n 1, 1) := by decide +kernel
theorem dX6_find_28 : decode cX6_find 28 = .ok (.iload_n 2, 1) := by decide +kernel
theorem dX6_find_29 : decode cX6_find 29 = .ok (.iload_n 3, 1) := by decide +kernel
theorem dX6_find_30 : decode cX6_find 30 = .ok (.invokevirtual 149, 3) := by decide +kernel
theorem dX6_find_33 : decode cX6_find 33 = .ok (.ireturn, 1) := by decide +kernel
theorem dX6_then_0 : decode cX6_then 0 = .ok (.iload_n 1, 1) := by decide +kernel
theorem dX6_then_1 : decode cX6_then 1 = .ok (.invokestatic 89, 3) := by decide +kernel
theorem dX6_then_4 : decode cX6_then 4 = .ok (.ifCond .eq 17, 3) := by decide +kernel
theorem dX6_then_7 : decode cX6_then 7 = .ok (.iload_n 2, 1) := by decide +kernel
theorem dX6_then_8 : decode cX6_then 8 = .ok (.invokestatic 152, 3) := by decide +kernel
theorem dX6_then_11 : decode cX6_then 11 = .ok (.ifCond .eq 10, 3) := by decide +kernel
theorem dX6_then_14 : decode cX6_then 14 = .ok (.iload_n 3, 1) := by decide +kernel
theorem dX6_then_15 : decode cX6_then 15 = .ok (.invokestatic 56, 3) := by decide +kernel
theorem dX6_then_18 : decode cX6_then 18 = .ok (.ifCond .ne 5, 3) := by decide +kernel
theorem dX6_then_21 : decode cX6_then 21 = .ok (.lconst 0, 1) := by decide +kernel
theorem dX6_then_22 : decode cX6_then 22 = .ok (.lreturn, 1) := by decide +kernel
theorem dX6_then_23 : decode cX6_then 23 = .ok (.lconst 0, 1) := by decide +kernel
theorem dX6_then_24 : decode cX6_then 24 = .ok (.lstore 4, 2) := by decide +kernel
theorem dX6_then_26 : decode cX6_then 26 = .ok (.iconst 0, 1) := by decide +kernel
theorem dX6_then_27 : decode cX6_then 27 = .ok (.istore 6, 2) := by decide +kernel
theorem dX6_then_29 : decode cX6_then 29 = .ok (.iload 6, 2) := by decide +kernel
theorem dX6_then_31 : decode cX6_then 31 = .ok (.aload_n 0, 1) := by decide +kernel
theorem dX6_then_32 : decode cX6_then 32 = .ok (.getfield 35, 3) := by decide +kernel
theorem dX6_then_35 : decode cX6_then 35 = .ok (.invokevirtual 155, 3) := by decide +kernel
theorem dX6_then_38 : decode cX6_then 38 = .ok (.if_icmp .ge 49, 3) := by decide +kernel
theorem dX6_then_41 : decode cX6_then 41 = .ok (.aload_n 0, 1) := by decide +kernel
theorem dX6_then_42 : decode cX6_then 42 = .ok (.getfield 35, 3) := by decide +kernel
theorem dX6_then_45 : decode cX6_then 45 = .ok (.iload 6, 2) := by decide +kernel
theorem dX6_then_47 : decode cX6_then 47 = .ok (.iload_n 3, 1) := by decide +kernel
theorem dX6_then_48 : decode cX6_then 48 = .ok (.invokevirtual 145, 3) := by decide +kernel
theorem dX6_then_51 : decode cX6_then 51 = .ok (.ifCond .eq 30, 3) := by decide +kernel
theorem dX6_then_54 : decode cX6_then 54 = .ok (.aload_n 0, 1) := by decide +kernel
theorem dX6_then_55 : decode cX6_then 55 = .ok (.iload 6, 2) := by decide +kernel
theorem dX6_then_57 : decode cX6_then 57 = .ok (.iload_n 1, 1) := by decide +kernel
theorem dX6_then_58 : decode cX6_then 58 = .ok (.iload_n 2, 1) := by decide +kernel
theorem dX6_then_59 : decode cX6_then 59 = .ok (.iload_n 3, 1) := by decide +kernel
theorem dX6_then_60 : decode cX6_then 60 = .ok (.invokevirtual 158, 3) := by decide +kernel
theorem dX6_then_63 : decode cX6_then 63 = .ok (.ifCond .eq 18, 3) := by decide +kernel
theorem dX6_then_66 : decode cX6_then 66 = .ok (.lload 4, 2) := by decide +kernel
theorem dX6_then_68 : decode cX6_then 68 = .ok (.aload_n 0, 1) := by decide +kernel
theorem dX6_then_69 : decode cX6_then 69 = .ok (.getfield 35, 3) := by decide +kernel
theorem dX6_then_72 : decode cX6_then 72 = .ok (.iload 6, 2) := by decide +kernel
theorem dX6_then_74 : decode cX6_then 74 = .ok (.invokevirtual 161, 3) := by decide +kernel
theorem dX6_then_77 : decode cX6_then 77 = .ok (.i2l, 1) := by decide +kernel
theorem dX6_then_78 : decode cX6_then 78 = .ok (.ladd, 1) := by decide +kernel
theorem dX6_then_79 : decode cX6_then 79 = .ok (.lstore 4, 2) := by decide +kernel
theorem dX6_then_81 : decode cX6_then 81 = .ok (.iinc 6 1, 3) := by decide +kernel
theorem dX6_then_84 : decode cX6_then 84 = .ok (.goto (-55), 3) := by decide +kernel
theorem dX6_then_87 : decode cX6_then 87 = .ok (.lload 4, 2) := by decide +kernel
theorem dX6_then_89 : decode cX6_then 89 = .ok (.lreturn, 1) := by decide +kernel
theorem dX6_by_0 : decode cX6_by 0 = .ok (.iload_n 1, 1) := by decide +kernel
theorem dX6_by_1 : decode cX6_by 1 = .ok (.invokestatic 89, 3) := by decide +kernel
theorem dX6_by_4 : decode cX6_by 4 = .ok (.ifCond .eq 25, 3) := by decide +kernel
theorem dX6_by_7 : decode cX6_by 7 = .ok (.iload_n 2, 1) := by decide +kernel
theorem dX6_by_8 : decode cX6_by 8 = .ok (.invokestatic 152, 3) := by decide +kernel
theorem dX6_by_11 : decode cX6_by 11 = .ok (.ifCond .eq 18, 3) := by decide +kernel
theorem dX6_by_14 : decode cX6_by 14 = .ok (.iload_n 3, 1) := by decide +kernel
theorem dX6_by_15 : decode cX6_by 15 = .ok (.invokestatic 56, 3) := by decide +kernel
theorem dX6_by_18 : decode cX6_by 18 = .ok (.ifCond .eq 11, 3) := by decide +kernel
theorem dX6_by_21 : decode cX6_by 21 = .ok (.iload 4, 2) := by decide +kernel
theorem dX6_by_23 : decode cX6_by 23 = .ok (.invokestatic 56, 3) := by decide +kernel
theorem dX6_by_26 : decode cX6_by 26 = .ok (.ifCond .ne 5, 3) := by decide +kernel
theorem dX6_by_29 : decode cX6_by 29 = .ok (.lconst 0, 1) := by decide +kernel
theorem dX6_by_30 : decode cX6_by 30 = .ok (.lreturn, 1) := by decide +kernel
theorem dX6_by_31 : decode cX6_by 31 = .ok (.aload_n 0, 1) := by decide +kernel
theorem dX6_by_32 : decode cX6_by 32 = .ok (.iload_n 3, 1) := by decide +kernel
theorem dX6_by_33 : decode cX6_by 33 = .ok (.iload 4, 2) := by decide +kernel
theorem dX6_by_35 : decode cX6_by 35 = .ok (.invokevirtual 164, 3) := by decide +kernel
theorem dX6_by_38 : decode cX6_by 38 = .ok (.lconst 0, 1) := by decide +kernel
theorem dX6_by_39 : decode cX6_by 39 = .ok (.lstore 5, 2) := by decide +kernel
theorem dX6_by_41 : decode cX6_by 41 = .ok (.iconst 0, 1) := by decide +kernel
theorem dX6_by_42 : decode cX6_by 42 = .ok (.istore 7, 2) := by decide +kernel
theorem dX6_by_44 : decode cX6_by 44 = .ok (.iload 7, 2) := by decide +kernel
theorem dX6_by_46 : decode cX6_by 46 = .ok (.aload_n 0, 1) := by decide +kernel
theorem dX6_by_47 : decode cX6_by 47 = .ok (.getfield 19, 3) := by decide +kernel
theorem dX6_by_50 : decode cX6_by 50 = .ok (.invokevirtual 167, 3) := by decide +kernel
theorem dX6_by_53 : decode cX6_by 53 = .ok (.if_icmp .ge 40, 3) := by decide +kernel
theorem dX6_by_56 : decode cX6_by 56 = .ok (.aload_n 0, 1) := by decide +kernel
theorem dX6_by_57 : decode cX6_by 57 = .ok (.getfield 28, 3) := by decide +kernel
theorem dX6_by_60 : decode cX6_by 60 = .ok (.iload 7, 2) := by decide +kernel
theorem dX6_by_62 : decode cX6_by 62 = .ok (.iload_n 1, 1) := by decide +kernel
theorem dX6_by_63 : decode cX6_by 63 = .ok (.iload_n 3, 1) := by decide +kernel
theorem dX6_by_64 : decode cX6_by 64 = .ok (.iload 4, 2) := by decide +kernel
theorem dX6_by_66 : decode cX6_by 66 = .ok (.invokevirtual 123, 3) := by decide +kernel
theorem dX6_by_69 : decode cX6_by 69 = .ok (.iload_n 2, 1) := by decide +kernel
theorem dX6_by_70 : decode cX6_by 70 = .ok (.if_icmp .ne 17, 3) := by decide +kernel
theorem dX6_by_73 : decode cX6_by 73 = .ok (.lload 5, 2) := by decide +kernel
theorem dX6_by_75 : decode cX6_by 75 = .ok (.aload_n 0, 1) := by decide +kernel
theorem dX6_by_76 : decode cX6_by 76 = .ok (.getfield 44, 3) := by decide +kernel
theorem dX6_by_79 : decode cX6_by 79 = .ok (.iload 7, 2) := by decide +kernel
theorem dX6_by_81 : decode cX6_by 81 = .ok (.invokevirtual 168, 3) := by decide +kernel
theorem dX6_by_84 : decode cX6_by 84 = .ok (.ladd, 1) := by decide +kernel
theorem dX6_by_85 : decode cX6_by 85 = .ok (.lstore 5, 2) := by decide +kernel
theorem dX6_by_87 : decode cX6_by 87 = .ok (.iinc 7 1, 3) := by decide +kernel
theorem dX6_by_90 : decode cX6_by 90 = .ok (.goto (-46), 3) := by decide +kernel
theorem dX6_by_93 : decode cX6_by 93 = .ok (.lload 5, 2) := by decide +kernel
theorem dX6_by_95 : decode cX6_by 95 = .ok (.lreturn, 1) := by decide +kernel
theorem dX6_sum_0 : decode cX6_sum 0 = .ok (.iload_n 2, 1) := by decide +kernel
theorem dX6_sum_1 : decode cX6_sum 1 = .ok (.invokestatic 56, 3) := by decide +kernel
theorem dX6_sum_4 : decode cX6_sum 4 = .ok (.ifCond .eq 10, 3) := by decide +kernel
theorem dX6_sum_7 : decode cX6_sum 7 = .ok (.iload_n 3, 1) := by decide +kernel
theorem dX6_sum_8 : decode cX6_sum 8 = .ok (.invokestatic 56, 3) := by decide +kernel
theorem dX6_sum_11 : decode cX6_sum 11 = .ok (.ifCond .ne 5, 3) := by decide +kernel
theorem dX6_sum_14 : decode cX6_sum 14 = .ok (.lconst 0, 1) := by decide +kernel
theorem dX6_sum_15 : decode cX6_sum 15 = .ok (.lreturn, 1) := by decide +kernel
theorem dX6_sum_16 : decode cX6_sum 16 = .ok (.iload_n 1, 1) := by decide +kernel
theorem dX6_sum_17 : decode cX6_sum 17 = .ok (.tableswitch 55 0 2 #[27, 34, 41], 27) := by decide +kernel
theorem dX6_sum_44 : decode cX6_sum 44 = .ok (.aload_n 0, 1) := by decide +kernel
theorem dX6_sum_45 : decode cX6_sum 45 = .ok (.iload_n 3, 1) := by decide +kernel
theorem dX6_sum_46 : decode cX6_sum 46 = .ok (.iconst 0, 1) := by decide +kernel
theorem dX6_sum_47 : decode cX6_sum 47 = .ok (.invokevirtual 172, 3) := by decide +kernel
theorem dX6_sum_50 : decode cX6_sum 50 = .ok (.lreturn, 1) := by decide +kernel
theorem dX6_sum_51 : decode cX6_sum 51 = .ok (.aload_n 0, 1) := by decide +kernel
theorem dX6_sum_52 : decode cX6_sum 52 = .ok (.iload_n 3, 1) := by decide +kernel
theorem dX6_sum_53 : decode cX6_sum 53 = .ok (.iconst 1, 1) := by decide +kernel
theorem dX6_sum_54 : decode cX6_sum 54 = .ok (.invokevirtual 172, 3) := by decide +kernel
theorem dX6_sum_57 : decode cX6_sum 57 = .ok (.lreturn, 1) := by decide +kernel
theorem dX6_sum_58 : decode cX6_sum 58 = .ok (.aload_n 0, 1) := by decide +kernel
theorem dX6_sum_59 : decode cX6_sum 59 = .ok (.iload_n 2, 1) := by decide +kernel
theorem dX6_sum_60 : decode cX6_sum 60 = .ok (.iload_n 3, 1) := by decide +kernel
theorem dX6_sum_61 : decode cX6_sum 61 = .ok (.invokevirtual 164, 3) := by decide +kernel
theorem dX6_sum_64 : decode cX6_sum 64 = .ok (.aload_n 0, 1) := by decide +kernel
theorem dX6_sum_65 : decode cX6_sum 65 = .ok (.getfield 44, 3) := by decide +kernel
theorem dX6_sum_68 : decode cX6_sum 68 = .ok (.invokevirtual 176, 3) := by decide +kernel
theorem dX6_sum_71 : decode cX6_sum 71 = .ok (.lreturn, 1) := by decide +kernel
theorem dX6_sum_72 : decode cX6_sum 72 = .ok (.lconst 0, 1) := by decide +kernel
theorem dX6_sum_73 : decode cX6_sum 73 = .ok (.lreturn, 1) := by decide +kernel
theorem dX6_compare_0 : decode cX6_compare 0 = .ok (.iload_n 1, 1) := by decide +kernel
theorem dX6_compare_1 : decode cX6_compare 1 = .ok (.invokestatic 89, 3) := by decide +kernel
theorem dX6_compare_4 : decode cX6_compare 4 = .ok (.ifCond .eq 25, 3) := by decide +kernel
theorem dX6_compare_7 : decode cX6_compare 7 = .ok (.iload_n 2, 1) := by decide +kernel
theorem dX6_compare_8 : decode cX6_compare 8 = .ok (.invokestatic 56, 3) := by decide +kernel
theorem dX6_compare_11 : decode cX6_compare 11 = .ok (.ifCond .eq 18, 3) := by decide +kernel
theorem dX6_compare_14 : decode cX6_compare 14 = .ok (.iload_n 3, 1) := by decide +kernel
theorem dX6_compare_15 : decode cX6_compare 15 = .ok (.invokestatic 56, 3) := by decide +kernel
theorem dX6_compare_18 : decode cX6_compare 18 = .ok (.ifCond .eq 11, 3) := by decide +kernel
theorem dX6_compare_21 : decode cX6_compare 21 = .ok (.iload 4, 2) := by decide +kernel
theorem dX6_compare_23 : decode cX6_compare 23 = .ok (.invokestatic 56, 3) := by decide +kernel
theorem dX6_compare_26 : decode cX6_compare 26 = .ok (.ifCond .ne 5, 3) := by decide +kernel
theorem dX6_compare_29 : decode cX6_compare 29 = .ok (.iconst (-1), 1) := by decide +kernel
theorem dX6_compare_30 : decode cX6_compare 30 = .ok (.ireturn, 1) := by decide +kernel
theorem dX6_compare_31 : decode cX6_compare 31 = .ok (.iload 5, 2) := by decide +kernel
theorem dX6_compare_33 : decode cX6_compare 33 = .ok (.tableswitch 74 0 3 #[31, 42, 53, 64], 31) := by decide +kernel
theorem dX6_compare_64 : decode cX6_compare 64 = .ok (.aload_n 0, 1) := by decide +kernel
theorem dX6_compare_65 : decode cX6_compare 65 = .ok (.iload_n 2, 1) := by decide +kernel
theorem dX6_compare_66 : decode cX6_compare 66 = .ok (.iconst 1, 1) := by decide +kernel
theorem dX6_compare_67 : decode cX6_compare 67 = .ok (.iload_n 3, 1) := by decide +kernel
theorem dX6_compare_68 : decode cX6_compare 68 = .ok (.iconst 1, 1) := by decide +kernel
theorem dX6_compare_69 : decode cX6_compare 69 = .ok (.iload 4, 2) := by decide +kernel
theorem dX6_compare_71 : decode cX6_compare 71 = .ok (.invokevirtual 180, 3) := by decide +kernel
theorem dX6_compare_74 : decode cX6_compare 74 = .ok (.ireturn, 1) := by decide +kernel
theorem dX6_compare_75 : decode cX6_compare 75 = .ok (.aload_n 0, 1) := by decide +kernel
theorem dX6_compare_76 : decode cX6_compare 76 = .ok (.iload_n 2, 1) := by decide +kernel
theorem dX6_compare_77 : decode cX6_compare 77 = .ok (.iconst 0, 1) := by decide +kernel
theorem dX6_compare_78 : decode cX6_compare 78 = .ok (.iload_n 3, 1) := by decide +kernel
theorem dX6_compare_79 : decode cX6_compare 79 = .ok (.iconst 1, 1) := by decide +kernel
theorem dX6_compare_80 : decode cX6_compare 80 = .ok (.iload 4, 2) := by decide +kernel
theorem dX6_compare_82 : decode cX6_compare 82 = .ok (.invokevirtual 180, 3) := by decide +kernel
theorem dX6_compare_85 : decode cX6_compare 85 = .ok (.ireturn, 1) := by decide +kernel
theorem dX6_compare_86 : decode cX6_compare 86 = .ok (.aload_n 0, 1) := by decide +kernel
theorem dX6_compare_87 : decode cX6_compare 87 = .ok (.iload_n 2, 1) := by decide +kernel
theorem dX6_compare_88 : decode cX6_compare 88 = .ok (.iconst 1, 1) := by decide +kernel
theorem dX6_compare_89 : decode cX6_compare 89 = .ok (.iload_n 3, 1) := by decide +kernel
theorem dX6_compare_90 : decode cX6_compare 90 = .ok (.iconst 0, 1) := by decide +kernel
theorem dX6_compare_91 : decode cX6_compare 91 = .ok (.iload 4, 2) := by decide +kernel
theorem dX6_compare_93 : decode cX6_compare 93 = .ok (.invokevirtual 180, 3) := by decide +kernel
theorem dX6_compare_96 : decode cX6_compare 96 = .ok (.ireturn, 1) := by decide +kernel
theorem dX6_compare_97 : decode cX6_compare 97 = .ok (.aload_n 0, 1) := by decide +kernel
theorem dX6_compare_98 : decode cX6_compare 98 = .ok (.iload_n 1, 1) := by decide +kernel
theorem dX6_compare_99 : decode cX6_compare 99 = .ok (.iload_n 2, 1) := by decide +kernel
theorem dX6_compare_100 : decode cX6_compare 100 = .ok (.iload_n 3, 1) := by decide +kernel
theorem dX6_compare_101 : decode cX6_compare 101 = .ok (.iload 4, 2) := by decide +kernel
theorem dX6_compare_103 : decode cX6_compare 103 = .ok (.invokevirtual 184, 3) := by decide +kernel
theorem dX6_compare_106 : decode cX6_compare 106 = .ok (.ireturn, 1) := by decide +kernel
theorem dX6_compare_107 : decode cX6_compare 107 = .ok (.iconst (-1), 1) := by decide +kernel
theorem dX6_compare_108 : decode cX6_compare 108 = .ok (.ireturn, 1) := by decide +kernel
theorem dX6_count_0 : decode cX6_count 0 = .ok (.iload_n 1, 1) := by decide +kernel
theorem dX6_count_1 : decode cX6_count 1 = .ok (.tableswitch 84 0 5 #[39, 44, 52, 60, 68, 76], 39) := by decide +kernel
theorem dX6_count_40 : decode cX6_count 40 = .ok (.aload_n 0, 1) := by decide +kernel
theorem dX6_count_41 : decode cX6_count 41 = .ok (.getfield 48, 3) := by decide +kernel
theorem dX6_count_44 : decode cX6_count 44 = .ok (.ireturn, 1) := by decide +kernel
theorem dX6_count_45 : decode cX6_count 45 = .ok (.aload_n 0, 1) := by decide +kernel
theorem dX6_count_46 : decode cX6_count 46 = .ok (.getfield 19, 3) := by decide +kernel
theorem dX6_count_49 : decode cX6_count 49 = .ok (.invokevirtual 167, 3) := by decide +kernel
theorem dX6_count_52 : decode cX6_count 52 = .ok (.ireturn, 1) := by decide +kernel
theorem dX6_count_53 : decode cX6_count 53 = .ok (.aload_n 0, 1) := by decide +kernel
theorem dX6_count_54 : decode cX6_count 54 = .ok (.getfield 35, 3) := by decide +kernel
theorem dX6_count_57 : decode cX6_count 57 = .ok (.invokevirtual 155, 3) := by decide +kernel
theorem dX6_count_60 : decode cX6_count 60 = .ok (.ireturn, 1) := by decide +kernel
theorem dX6_count_61 : decode cX6_count 61 = .ok (.aload_n 0, 1) := by decide +kernel
theorem dX6_count_62 : decode cX6_count 62 = .ok (.getfield 28, 3) := by decide +kernel
theorem dX6_count_65 : decode cX6_count 65 = .ok (.invokevirtual 187, 3) := by decide +kernel
theorem dX6_count_68 : decode cX6_count 68 = .ok (.ireturn, 1) := by decide +kernel
theorem dX6_count_69 : decode cX6_count 69 = .ok (.aload_n 0, 1) := by decide +kernel
theorem dX6_count_70 : decode cX6_count 70 = .ok (.getfield 12, 3) := by decide +kernel
theorem dX6_count_73 : decode cX6_count 73 = .ok (.invokevirtual 188, 3) := by decide +kernel
theorem dX6_count_76 : decode cX6_count 76 = .ok (.ireturn, 1) := by decide +kernel
theorem dX6_count_77 : decode cX6_count 77 = .ok (.aload_n 0, 1) := by decide +kernel
theorem dX6_count_78 : decode cX6_count 78 = .ok (.getfield 12, 3) := by decide +kernel
theorem dX6_count_81 : decode cX6_count 81 = .ok (.invokevirtual 191, 3) := by decide +kernel
theorem dX6_count_84 : decode cX6_count 84 = .ok (.ireturn, 1) := by decide +kernel
theorem dX6_count_85 : decode cX6_count 85 = .ok (.iconst (-1), 1) := by decide +kernel
theorem dX6_count_86 : decode cX6_count 86 = .ok (.ireturn, 1) := by decide +kernel
theorem dX6_isDay_0 : decode cX6_isDay 0 = .ok (.iload_n 0, 1) := by decide +kernel
theorem dX6_isDay_1 : decode cX6_isDay 1 = .ok (.ifCond .lt 14, 3) := by decide +kernel
theorem dX6_isDay_4 : decode cX6_isDay 4 = .ok (.iload_n 0, 1) := by decide +kernel
theorem dX6_isDay_5 : decode cX6_isDay 5 = .ok (.sipush 2000, 3) := by decide +kernel
theorem dX6_isDay_8 : decode cX6_isDay 8 = .ok (.if_icmp .gt 7, 3) := by decide +kernel
theorem dX6_isDay_11 : decode cX6_isDay 11 = .ok (.iconst 1, 1) := by decide +kernel
theorem dX6_isDay_12 : decode cX6_isDay 12 = .ok (.goto 4, 3) := by decide +kernel
theorem dX6_isDay_15 : decode cX6_isDay 15 = .ok (.iconst 0, 1) := by decide +kernel
theorem dX6_isDay_16 : decode cX6_isDay 16 = .ok (.ireturn, 1) := by decide +kernel
theorem dX6_isCode_0 : decode cX6_isCode 0 = .ok (.iload_n 0, 1) := by decide +kernel
theorem dX6_isCode_1 : decode cX6_isCode 1 = .ok (.ifCond .lt 13, 3) := by decide +kernel
theorem dX6_isCode_4 : decode cX6_isCode 4 = .ok (.iload_n 0, 1) := by decide +kernel
theorem dX6_isCode_5 : decode cX6_isCode 5 = .ok (.bipush 99, 2) := by decide +kernel
theorem dX6_isCode_7 : decode cX6_isCode 7 = .ok (.if_icmp .gt 7, 3) := by decide +kernel
theorem dX6_isCode_10 : decode cX6_isCode 10 = .ok (.iconst 1, 1) := by decide +kernel
theorem dX6_isCode_11 : decode cX6_isCode 11 = .ok (.goto 4, 3) := by decide +kernel
theorem dX6_isCode_14 : decode cX6_isCode 14 = .ok (.iconst 0, 1) := by decide +kernel
theorem dX6_isCode_15 : decode cX6_isCode 15 = .ok (.ireturn, 1) := by decide +kernel
theorem dX6_isMark_0 : decode cX6_isMark 0 = .ok (.iload_n 0, 1) := by decide +kernel
theorem dX6_isMark_1 : decode cX6_isMark 1 = .ok (.ifCond .lt 12, 3) := by decide +kernel
theorem dX6_isMark_4 : decode cX6_isMark 4 = .ok (.iload_n 0, 1) := by decide +kernel
theorem dX6_isMark_5 : decode cX6_isMark 5 = .ok (.iconst 3, 1) := by decide +kernel
theorem dX6_isMark_6 : decode cX6_isMark 6 = .ok (.if_icmp .gt 7, 3) := by decide +kernel
theorem dX6_isMark_9 : decode cX6_isMark 9 = .ok (.iconst 1, 1) := by decide +kernel
theorem dX6_isMark_10 : decode cX6_isMark 10 = .ok (.goto 4, 3) := by decide +kernel
theorem dX6_isMark_13 : decode cX6_isMark 13 = .ok (.iconst 0, 1) := by decide +kernel
theorem dX6_isMark_14 : decode cX6_isMark 14 = .ok (.ireturn, 1) := by decide +kernel
theorem dX6_isAnswer_0 : decode cX6_isAnswer 0 = .ok (.iload_n 0, 1) := by decide +kernel
theorem dX6_isAnswer_1 : decode cX6_isAnswer 1 = .ok (.ifCond .lt 13, 3) := by decide +kernel
theorem dX6_isAnswer_4 : decode cX6_isAnswer 4 = .ok (.iload_n 0, 1) := by decide +kernel
theorem dX6_isAnswer_5 : decode cX6_isAnswer 5 = .ok (.bipush 100, 2) := by decide +kernel
theorem dX6_isAnswer_7 : decode cX6_isAnswer 7 = .ok (.if_icmp .gt 7, 3) := by decide +kernel
theorem dX6_isAnswer_10 : decode cX6_isAnswer 10 = .ok (.iconst 1, 1) := by decide +kernel
theorem dX6_isAnswer_11 : decode cX6_isAnswer 11 = .ok (.goto 4, 3) := by decide +kernel
theorem dX6_isAnswer_14 : decode cX6_isAnswer 14 = .ok (.iconst 0, 1) := by decide +kernel
theorem dX6_isAnswer_15 : decode cX6_isAnswer 15 = .ok (.ireturn, 1) := by decide +kernel
theorem dX6_isShare_0 : decode cX6_isShare 0 = .ok (.iload_n 1, 1) := by decide +kernel
theorem dX6_isShare_1 : decode cX6_isShare 1 = .ok (.iconst 1, 1) := by decide +kernel
theorem dX6_isShare_2 : decode cX6_isShare 2 = .ok (.if_icmp .lt 22, 3) := by decide +kernel
theorem dX6_isShare_5 : decode cX6_isShare 5 = .ok (.iload_n 1, 1) := by decide +kernel
theorem dX6_isShare_6 : decode cX6_isShare 6 = .ok (.bipush 100, 2) := by decide +kernel
theorem dX6_isShare_8 : decode cX6_isShare 8 = .ok (.if_icmp .gt 16, 3) := by decide +kernel
theorem dX6_isShare_11 : decode cX6_isShare 11 = .ok (.iload_n 0, 1) := by decide +kernel
theorem dX6_isShare_12 : decode cX6_isShare 12 = .ok (.ifCond .lt 12, 3) := by decide +kernel
theorem dX6_isShare_15 : decode cX6_isShare 15 = .ok (.iload_n 0, 1) := by decide +kernel
theorem dX6_isShare_16 : decode cX6_isShare 16 = .ok (.iload_n 1, 1) := by decide +kernel
theorem dX6_isShare_17 : decode cX6_isShare 17 = .ok (.if_icmp .gt 7, 3) := by decide +kernel
theorem dX6_isShare_20 : decode cX6_isShare 20 = .ok (.iconst 1, 1) := by decide +kernel
theorem dX6_isShare_21 : decode cX6_isShare 21 = .ok (.goto 4, 3) := by decide +kernel
theorem dX6_isShare_24 : decode cX6_isShare 24 = .ok (.iconst 0, 1) := by decide +kernel
theorem dX6_isShare_25 : decode cX6_isShare 25 = .ok (.ireturn, 1) := by decide +kernel
theorem dX6_canEnd_0 : decode cX6_canEnd 0 = .ok (.iload_n 2, 1) := by decide +kernel
theorem dX6_canEnd_1 : decode cX6_canEnd 1 = .ok (.invokestatic 56, 3) := by decide +kernel
theorem dX6_canEnd_4 : decode cX6_canEnd 4 = .ok (.ifCond .eq 41, 3) := by decide +kernel
theorem dX6_canEnd_7 : decode cX6_canEnd 7 = .ok (.aload_n 0, 1) := by decide +kernel
theorem dX6_canEnd_8 : decode cX6_canEnd 8 = .ok (.getfield 19, 3) := by decide +kernel
theorem dX6_canEnd_11 : decode cX6_canEnd 11 = .ok (.iload_n 1, 1) := by decide +kernel
theorem dX6_canEnd_12 : decode cX6_canEnd 12 = .ok (.invokevirtual 86, 3) := by decide +kernel
theorem dX6_canEnd_15 : decode cX6_canEnd 15 = .ok (.ifCond .eq 30, 3) := by decide +kernel
theorem dX6_canEnd_18 : decode cX6_canEnd 18 = .ok (.aload_n 0, 1) := by decide +kernel
theorem dX6_canEnd_19 : decode cX6_canEnd 19 = .ok (.getfield 19, 3) := by decide +kernel
theorem dX6_canEnd_22 : decode cX6_canEnd 22 = .ok (.iload_n 1, 1) := by decide +kernel
theorem dX6_canEnd_23 : decode cX6_canEnd 23 = .ok (.invokevirtual 194, 3) := by decide +kernel
theorem dX6_canEnd_26 : decode cX6_canEnd 26 = .ok (.ifCond .ne 19, 3) := by decide +kernel
theorem dX6_canEnd_29 : decode cX6_canEnd 29 = .ok (.iload_n 2, 1) := by decide +kernel
theorem dX6_canEnd_30 : decode cX6_canEnd 30 = .ok (.aload_n 0, 1) := by decide +kernel
theorem dX6_canEnd_31 : decode cX6_canEnd 31 = .ok (.getfield 19, 3) := by decide +kernel
theorem dX6_canEnd_34 : decode cX6_canEnd 34 = .ok (.iload_n 1, 1) := by decide +kernel
theorem dX6_canEnd_35 : decode cX6_canEnd 35 = .ok (.invokevirtual 129, 3) := by decide +kernel
theorem dX6_canEnd_38 : decode cX6_canEnd 38 = .ok (.if_icmp .le 7, 3) := by decide +kernel
theorem dX6_canEnd_41 : decode cX6_canEnd 41 = .ok (.iconst 1, 1) := by decide +kernel
theorem dX6_canEnd_42 : decode cX6_canEnd 42 = .ok (.goto 4, 3) := by decide +kernel
theorem dX6_canEnd_45 : decode cX6_canEnd 45 = .ok (.iconst 0, 1) := by decide +kernel
theorem dX6_canEnd_46 : decode cX6_canEnd 46 = .ok (.ireturn, 1) := by decide +kernel
theorem dX6_isFixed_0 : decode cX6_isFixed 0 = .ok (.aload_n 0, 1) := by decide +kernel
theorem dX6_isFixed_1 : decode cX6_isFixed 1 = .ok (.getfield 28, 3) := by decide +kernel
theorem dX6_isFixed_4 : decode cX6_isFixed 4 = .ok (.iload_n 1, 1) := by decide +kernel
theorem dX6_isFixed_5 : decode cX6_isFixed 5 = .ok (.iconst 0, 1) := by decide +kernel
theorem dX6_isFixed_6 : decode cX6_isFixed 6 = .ok (.aload_n 0, 1) := by decide +kernel
theorem dX6_isFixed_7 : decode cX6_isFixed 7 = .ok (.getfield 48, 3) := by decide +kernel
theorem dX6_isFixed_10 : decode cX6_isFixed 10 = .ok (.aload_n 0, 1) := by decide +kernel
theorem dX6_isFixed_11 : decode cX6_isFixed 11 = .ok (.getfield 48, 3) := by decide +kernel
theorem dX6_isFixed_14 : decode cX6_isFixed 14 = .ok (.invokevirtual 123, 3) := by decide +kernel
theorem dX6_isFixed_17 : decode cX6_isFixed 17 = .ok (.bipush 100, 2) := by decide +kernel
theorem dX6_isFixed_19 : decode cX6_isFixed 19 = .ok (.if_icmp .eq 7, 3) := by decide +kernel
theorem dX6_isFixed_22 : decode cX6_isFixed 22 = .ok (.iconst 1, 1) := by decide +kernel
theorem dX6_isFixed_23 : decode cX6_isFixed 23 = .ok (.goto 4, 3) := by decide +kernel
theorem dX6_isFixed_26 : decode cX6_isFixed 26 = .ok (.iconst 0, 1) := by decide +kernel
theorem dX6_isFixed_27 : decode cX6_isFixed 27 = .ok (.ireturn, 1) := by decide +kernel
theorem dX6_thingOfFact_0 : decode cX6_thingOfFact 0 = .ok (.aload_n 0, 1) := by decide +kernel
theorem dX6_thingOfFact_1 : decode cX6_thingOfFact 1 = .ok (.getfield 19, 3) := by decide +kernel
theorem dX6_thingOfFact_4 : decode cX6_thingOfFact 4 = .ok (.aload_n 0, 1) := by decide +kernel
theorem dX6_thingOfFact_5 : decode cX6_thingOfFact 5 = .ok (.getfield 35, 3) := by decide +kernel
theorem dX6_thingOfFact_8 : decode cX6_thingOfFact 8 = .ok (.iload_n 1, 1) := by decide +kernel
theorem dX6_thingOfFact_9 : decode cX6_thingOfFact 9 = .ok (.invokevirtual 197, 3) := by decide +kernel
theorem dX6_thingOfFact_12 : decode cX6_thingOfFact 12 = .ok (.aload_n 0, 1) := by decide +kernel
theorem dX6_thingOfFact_13 : decode cX6_thingOfFact 13 = .ok (.getfield 35, 3) := by decide +kernel
theorem dX6_thingOfFact_16 : decode cX6_thingOfFact 16 = .ok (.iload_n 1, 1) := by decide +kernel
theorem dX6_thingOfFact_17 : decode cX6_thingOfFact 17 = .ok (.invokevirtual 198, 3) := by decide +kernel
theorem dX6_thingOfFact_20 : decode cX6_thingOfFact 20 = .ok (.iload_n 2, 1) := by decide +kernel
theorem dX6_thingOfFact_21 : decode cX6_thingOfFact 21 = .ok (.invokevirtual 149, 3) := by decide +kernel
theorem dX6_thingOfFact_24 : decode cX6_thingOfFact 24 = .ok (.ireturn, 1) := by decide +kernel
theorem dX6_isMarkedThen_0 : decode cX6_isMarkedThen 0 = .ok (.aload_n 0, 1) := by decide +kernel
theorem dX6_isMarkedThen_1 : decode cX6_isMarkedThen 1 = .ok (.iload_n 1, 1) := by decide +kernel
theorem dX6_isMarkedThen_2 : decode cX6_isMarkedThen 2 = .ok (.iload 4, 2) := by decide +kernel
theorem dX6_isMarkedThen_4 : decode cX6_isMarkedThen 4 = .ok (.invokevirtual 146, 3) := by decide +kernel
theorem dX6_isMarkedThen_7 : decode cX6_isMarkedThen 7 = .ok (.istore 5, 2) := by decide +kernel
theorem dX6_isMarkedThen_9 : decode cX6_isMarkedThen 9 = .ok (.iload 5, 2) := by decide +kernel
theorem dX6_isMarkedThen_11 : decode cX6_isMarkedThen 11 = .ok (.iconst (-1), 1) := by decide +kernel
theorem dX6_isMarkedThen_12 : decode cX6_isMarkedThen 12 = .ok (.if_icmp .eq 31, 3) := by decide +kernel
theorem dX6_isMarkedThen_15 : decode cX6_isMarkedThen 15 = .ok (.aload_n 0, 1) := by decide +kernel
theorem dX6_isMarkedThen_16 : decode cX6_isMarkedThen 16 = .ok (.getfield 28, 3) := by decide +kernel
theorem dX6_isMarkedThen_19 : decode cX6_isMarkedThen 19 = .ok (.iload 5, 2) := by decide +kernel
theorem dX6_isMarkedThen_21 : decode cX6_isMarkedThen 21 = .ok (.iload_n 2, 1) := by decide +kernel
theorem dX6_isMarkedThen_22 : decode cX6_isMarkedThen 22 = .ok (.aload_n 0, 1) := by decide +kernel
theorem dX6_isMarkedThen_23 : decode cX6_isMarkedThen 23 = .ok (.getfield 35, 3) := by decide +kernel
theorem dX6_isMarkedThen_26 : decode cX6_isMarkedThen 26 = .ok (.iload_n 1, 1) := by decide +kernel
theorem dX6_isMarkedThen_27 : decode cX6_isMarkedThen 27 = .ok (.invokevirtual 198, 3) := by decide +kernel
theorem dX6_isMarkedThen_30 : decode cX6_isMarkedThen 30 = .ok (.iload 4, 2) := by decide +kernel
theorem dX6_isMarkedThen_32 : decode cX6_isMarkedThen 32 = .ok (.invokevirtual 123, 3) := by decide +kernel
theorem dX6_isMarkedThen_35 : decode cX6_isMarkedThen 35 = .ok (.iload_n 3, 1) := by decide +kernel
theorem dX6_isMarkedThen_36 : decode cX6_isMarkedThen 36 = .ok (.if_icmp .ne 7, 3) := by decide +kernel
theorem dX6_isMarkedThen_39 : decode cX6_isMarkedThen 39 = .ok (.iconst 1, 1) := by decide +kernel
theorem dX6_isMarkedThen_40 : decode cX6_isMarkedThen 40 = .ok (.goto 4, 3) := by decide +kernel
theorem dX6_isMarkedThen_43 : decode cX6_isMarkedThen 43 = .ok (.iconst 0, 1) := by decide +kernel
theorem dX6_isMarkedThen_44 : decode cX6_isMarkedThen 44 = .ok (.ireturn, 1) := by decide +kernel
theorem dX6_carryAll_0 : decode cX6_carryAll 0 = .ok (.aload_n 0, 1) := by decide +kernel
theorem dX6_carryAll_1 : decode cX6_carryAll 1 = .ok (.getfield 44, 3) := by decide +kernel
theorem dX6_carryAll_4 : decode cX6_carryAll 4 = .ok (.iload_n 1, 1) := by decide +kernel
theorem dX6_carryAll_5 : decode cX6_carryAll 5 = .ok (.iload_n 2, 1) := by decide +kernel
theorem dX6_carryAll_6 : decode cX6_carryAll 6 = .ok (.invokevirtual 201, 3) := by decide +kernel
theorem dX6_carryAll_9 : decode cX6_carryAll 9 = .ok (.iconst 0, 1) := by decide +kernel
theorem dX6_carryAll_10 : decode cX6_carryAll 10 = .ok (.istore_n 3, 1) := by decide +kernel
theorem dX6_carryAll_11 : decode cX6_carryAll 11 = .ok (.iload_n 3, 1) := by decide +kernel
theorem dX6_carryAll_12 : decode cX6_carryAll 12 = .ok (.aload_n 0, 1) := by decide +kernel
theorem dX6_carryAll_13 : decode cX6_carryAll 13 = .ok (.getfield 35, 3) := by decide +kernel
theorem dX6_carryAll_16 : decode cX6_carryAll 16 = .ok (.invokevirtual 155, 3) := by decide +kernel
theorem dX6_carryAll_19 : decode cX6_carryAll 19 = .ok (.if_icmp .ge 42, 3) := by decide +kernel
theorem dX6_carryAll_22 : decode cX6_carryAll 22 = .ok (.aload_n 0, 1) := by decide +kernel
theorem dX6_carryAll_23 : decode cX6_carryAll 23 = .ok (.getfield 35, 3) := by decide +kernel
theorem dX6_carryAll_26 : decode cX6_carryAll 26 = .ok (.iload_n 3, 1) := by decide +kernel
theorem dX6_carryAll_27 : decode cX6_carryAll 27 = .ok (.iload_n 2, 1) := by decide +kernel
theorem dX6_carryAll_28 : decode cX6_carryAll 28 = .ok (.invokevirtual 145, 3) := by decide +kernel
theorem dX6_carryAll_31 : decode cX6_carryAll 31 = .ok (.ifCond .eq 24, 3) := by decide +kernel
theorem dX6_carryAll_34 : decode cX6_carryAll 34 = .ok (.aload_n 0, 1) := by decide +kernel
theorem dX6_carryAll_35 : decode cX6_carryAll 35 = .ok (.getfield 44, 3) := by decide +kernel
theorem dX6_carryAll_38 : decode cX6_carryAll 38 = .ok (.aload_n 0, 1) := by decide +kernel
theorem dX6_carryAll_39 : decode cX6_carryAll 39 = .ok (.iload_n 3, 1) := by decide +kernel
theorem dX6_carryAll_40 : decode cX6_carryAll 40 = .ok (.iload_n 2, 1) := by decide +kernel
theorem dX6_carryAll_41 : decode cX6_carryAll 41 = .ok (.invokevirtual 146, 3) := by decide +kernel
theorem dX6_carryAll_44 : decode cX6_carryAll 44 = .ok (.aload_n 0, 1) := by decide +kernel
theorem dX6_carryAll_45 : decode cX6_carryAll 45 = .ok (.getfield 35, 3) := by decide +kernel
theorem dX6_carryAll_48 : decode cX6_carryAll 48 = .ok (.iload_n 3, 1) := by decide +kernel
theorem dX6_carryAll_49 : decode cX6_carryAll 49 = .ok (.invokevirtual 161, 3) := by decide +kernel
theorem dX6_carryAll_52 : decode cX6_carryAll 52 = .ok (.invokevirtual 204, 3) := by decide +kernel
theorem dX6_carryAll_55 : decode cX6_carryAll 55 = .ok (.iinc 3 1, 3) := by decide +kernel
theorem dX6_carryAll_58 : decode cX6_carryAll 58 = .ok (.goto (-47), 3) := by decide +kernel
theorem dX6_carryAll_61 : decode cX6_carryAll 61 = .ok (.return_, 1) := by decide +kernel
theorem dX6_sumOfFacts_0 : decode cX6_sumOfFacts 0 = .ok (.lconst 0, 1) := by decide +kernel
theorem dX6_sumOfFacts_1 : decode cX6_sumOfFacts 1 = .ok (.lstore_n 3, 1) := by decide +kernel
theorem dX6_sumOfFacts_2 : decode cX6_sumOfFacts 2 = .ok (.iconst 0, 1) := by decide +kernel
theorem dX6_sumOfFacts_3 : decode cX6_sumOfFacts 3 = .ok (.istore 5, 2) := by decide +kernel
theorem dX6_sumOfFacts_5 : decode cX6_sumOfFacts 5 = .ok (.iload 5, 2) := by decide +kernel
theorem dX6_sumOfFacts_7 : decode cX6_sumOfFacts 7 = .ok (.aload_n 0, 1) := by decide +kernel
theorem dX6_sumOfFacts_8 : decode cX6_sumOfFacts 8 = .ok (.getfield 35, 3) := by decide +kernel
theorem dX6_sumOfFacts_11 : decode cX6_sumOfFacts 11 = .ok (.invokevirtual 155, 3) := by decide +kernel
theorem dX6_sumOfFacts_14 : decode cX6_sumOfFacts 14 = .ok (.if_icmp .ge 50, 3) := by decide +kernel
theorem dX6_sumOfFacts_17 : decode cX6_sumOfFacts 17 = .ok (.aload_n 0, 1) := by decide +kernel
theorem dX6_sumOfFacts_18 : decode cX6_sumOfFacts 18 = .ok (.getfield 35, 3) := by decide +kernel
theorem dX6_sumOfFacts_21 : decode cX6_sumOfFacts 21 = .ok (.iload 5, 2) := by decide +kernel
theorem dX6_sumOfFacts_23 : decode cX6_sumOfFacts 23 = .ok (.iload_n 1, 1) := by decide +kernel
theorem dX6_sumOfFacts_24 : decode cX6_sumOfFacts 24 = .ok (.invokevirtual 145, 3) := by decide +kernel
theorem dX6_sumOfFacts_27 : decode cX6_sumOfFacts 27 = .ok (.ifCond .eq 31, 3) := by decide +kernel
theorem dX6_sumOfFacts_30 : decode cX6_sumOfFacts 30 = .ok (.iload_n 2, 1) := by decide +kernel
theorem dX6_sumOfFacts_31 : decode cX6_sumOfFacts 31 = .ok (.ifCond .eq 14, 3) := by decide +kernel
theorem dX6_sumOfFacts_34 : decode cX6_sumOfFacts 34 = .ok (.aload_n 0, 1) := by decide +kernel
theorem dX6_sumOfFacts_35 : decode cX6_sumOfFacts 35 = .ok (.iload 5, 2) := by decide +kernel
theorem dX6_sumOfFacts_37 : decode cX6_sumOfFacts 37 = .ok (.iload_n 1, 1) := by decide +kernel
theorem dX6_sumOfFacts_38 : decode cX6_sumOfFacts 38 = .ok (.invokevirtual 146, 3) := by decide +kernel
theorem dX6_sumOfFacts_41 : decode cX6_sumOfFacts 41 = .ok (.iconst (-1), 1) := by decide +kernel
theorem dX6_sumOfFacts_42 : decode cX6_sumOfFacts 42 = .ok (.if_icmp .ne 16, 3) := by decide +kernel
theorem dX6_sumOfFacts_45 : decode cX6_sumOfFacts 45 = .ok (.lload_n 3, 1) := by decide +kernel
theorem dX6_sumOfFacts_46 : decode cX6_sumOfFacts 46 = .ok (.aload_n 0, 1) := by decide +kernel
theorem dX6_sumOfFacts_47 : decode cX6_sumOfFacts 47 = .ok (.getfield 35, 3) := by decide +kernel
theorem dX6_sumOfFacts_50 : decode cX6_sumOfFacts 50 = .ok (.iload 5, 2) := by decide +kernel
theorem dX6_sumOfFacts_52 : decode cX6_sumOfFacts 52 = .ok (.invokevirtual 161, 3) := by decide +kernel
theorem dX6_sumOfFacts_55 : decode cX6_sumOfFacts 55 = .ok (.i2l, 1) := by decide +kernel
theorem dX6_sumOfFacts_56 : decode cX6_sumOfFacts 56 = .ok (.ladd, 1) := by decide +kernel
theorem dX6_sumOfFacts_57 : decode cX6_sumOfFacts 57 = .ok (.lstore_n 3, 1) := by decide +kernel
theorem dX6_sumOfFacts_58 : decode cX6_sumOfFacts 58 = .ok (.iinc 5 1, 3) := by decide +kernel
theorem dX6_sumOfFacts_61 : decode cX6_sumOfFacts 61 = .ok (.goto (-56), 3) := by decide +kernel
theorem dX6_sumOfFacts_64 : decode cX6_sumOfFacts 64 = .ok (.lload_n 3, 1) := by decide +kernel
theorem dX6_sumOfFacts_65 : decode cX6_sumOfFacts 65 = .ok (.lreturn, 1) := by decide +kernel
theorem dX6_countLiving_0 : decode cX6_countLiving 0 = .ok (.iconst 0, 1) := by decide +kernel
theorem dX6_countLiving_1 : decode cX6_countLiving 1 = .ok (.istore 6, 2) := by decide +kernel
theorem dX6_countLiving_3 : decode cX6_countLiving 3 = .ok (.iconst 0, 1) := by decide +kernel
theorem dX6_countLiving_4 : decode cX6_countLiving 4 = .ok (.istore 7, 2) := by decide +kernel
theorem dX6_countLiving_6 : decode cX6_countLiving 6 = .ok (.iload 7, 2) := by decide +kernel
theorem dX6_countLiving_8 : decode cX6_countLiving 8 = .ok (.aload_n 0, 1) := by decide +kernel
theorem dX6_countLiving_9 : decode cX6_countLiving 9 = .ok (.getfield 19, 3) := by decide +kernel
theorem dX6_countLiving_12 : decode cX6_countLiving 12 = .ok (.invokevirtual 167, 3) := by decide +kernel
theorem dX6_countLiving_15 : decode cX6_countLiving 15 = .ok (.if_icmp .ge 45, 3) := by decide +kernel
theorem dX6_countLiving_18 : decode cX6_countLiving 18 = .ok (.aload_n 0, 1) := by decide +kernel
theorem dX6_countLiving_19 : decode cX6_countLiving 19 = .ok (.getfield 19, 3) := by decide +kernel
theorem dX6_countLiving_22 : decode cX6_countLiving 22 = .ok (.iload 7, 2) := by decide +kernel
theorem dX6_countLiving_24 : decode cX6_countLiving 24 = .ok (.iload_n 1, 1) := by decide +kernel
theorem dX6_countLiving_25 : decode cX6_countLiving 25 = .ok (.iload 5, 2) := by decide +kernel
theorem dX6_countLiving_27 : decode cX6_countLiving 27 = .ok (.invokevirtual 206, 3) := by decide +kernel
theorem dX6_countLiving_30 : decode cX6_countLiving 30 = .ok (.iload_n 2, 1) := by decide +kernel
theorem dX6_countLiving_31 : decode cX6_countLiving 31 = .ok (.if_icmp .ne 23, 3) := by decide +kernel
theorem dX6_countLiving_34 : decode cX6_countLiving 34 = .ok (.aload_n 0, 1) := by decide +kernel
theorem dX6_countLiving_35 : decode cX6_countLiving 35 = .ok (.getfield 19, 3) := by decide +kernel
theorem dX6_countLiving_38 : decode cX6_countLiving 38 = .ok (.iload 7, 2) := by decide +kernel
theorem dX6_countLiving_40 : decode cX6_countLiving 40 = .ok (.iload_n 3, 1) := by decide +kernel
theorem dX6_countLiving_41 : decode cX6_countLiving 41 = .ok (.iload 5, 2) := by decide +kernel
theorem dX6_countLiving_43 : decode cX6_countLiving 43 = .ok (.invokevirtual 206, 3) := by decide +kernel
theorem dX6_countLiving_46 : decode cX6_countLiving 46 = .ok (.iload 4, 2) := by decide +kernel
theorem dX6_countLiving_48 : decode cX6_countLiving 48 = .ok (.if_icmp .ne 6, 3) := by decide +kernel
theorem dX6_countLiving_51 : decode cX6_countLiving 51 = .ok (.iinc 6 1, 3) := by decide +kernel
theorem dX6_countLiving_54 : decode cX6_countLiving 54 = .ok (.iinc 7 1, 3) := by decide +kernel
theorem dX6_countLiving_57 : decode cX6_countLiving 57 = .ok (.goto (-51), 3) := by decide +kernel
theorem dX6_countLiving_60 : decode cX6_countLiving 60 = .ok (.iload 6, 2) := by decide +kernel
theorem dX6_countLiving_62 : decode cX6_countLiving 62 = .ok (.ireturn, 1) := by decide +kernel
theorem dX6_countMoved_0 : decode cX6_countMoved 0 = .ok (.iconst 0, 1) := by decide +kernel
theorem dX6_countMoved_1 : decode cX6_countMoved 1 = .ok (.istore 5, 2) := by decide +kernel
theorem dX6_countMoved_3 : decode cX6_countMoved 3 = .ok (.iconst 0, 1) := by decide +kernel
theorem dX6_countMoved_4 : decode cX6_countMoved 4 = .ok (.istore 6, 2) := by decide +kernel
theorem dX6_countMoved_6 : decode cX6_countMoved 6 = .ok (.iload 6, 2) := by decide +kernel
theorem dX6_countMoved_8 : decode cX6_countMoved 8 = .ok (.aload_n 0, 1) := by decide +kernel
theorem dX6_countMoved_9 : decode cX6_countMoved 9 = .ok (.getfield 19, 3) := by decide +kernel
theorem dX6_countMoved_12 : decode cX6_countMoved 12 = .ok (.invokevirtual 167, 3) := by decide +kernel
theorem dX6_countMoved_15 : decode cX6_countMoved 15 = .ok (.if_icmp .ge 71, 3) := by decide +kernel
theorem dX6_countMoved_18 : decode cX6_countMoved 18 = .ok (.aload_n 0, 1) := by decide +kernel
theorem dX6_countMoved_19 : decode cX6_countMoved 19 = .ok (.getfield 19, 3) := by decide +kernel
theorem dX6_countMoved_22 : decode cX6_countMoved 22 = .ok (.iload 6, 2) := by decide +kernel
theorem dX6_countMoved_24 : decode cX6_countMoved 24 = .ok (.iload_n 2, 1) := by decide +kernel
theorem dX6_countMoved_25 : decode cX6_countMoved 25 = .ok (.iload 4, 2) := by decide +kernel
theorem dX6_countMoved_27 : decode cX6_countMoved 27 = .ok (.invokevirtual 206, 3) := by decide +kernel
theorem dX6_countMoved_30 : decode cX6_countMoved 30 = .ok (.ifCond .eq 50, 3) := by decide +kernel
theorem dX6_countMoved_33 : decode cX6_countMoved 33 = .ok (.aload_n 0, 1) := by decide +kernel
theorem dX6_countMoved_34 : decode cX6_countMoved 34 = .ok (.getfield 19, 3) := by decide +kernel
theorem dX6_countMoved_37 : decode cX6_countMoved 37 = .ok (.iload 6, 2) := by decide +kernel
theorem dX6_countMoved_39 : decode cX6_countMoved 39 = .ok (.iload_n 3, 1) := by decide +kernel
theorem dX6_countMoved_40 : decode cX6_countMoved 40 = .ok (.iload 4, 2) := by decide +kernel
theorem dX6_countMoved_42 : decode cX6_countMoved 42 = .ok (.invokevirtual 206, 3) := by decide +kernel
theorem dX6_countMoved_45 : decode cX6_countMoved 45 = .ok (.ifCond .eq 35, 3) := by decide +kernel
theorem dX6_countMoved_48 : decode cX6_countMoved 48 = .ok (.aload_n 0, 1) := by decide +kernel
theorem dX6_countMoved_49 : decode cX6_countMoved 49 = .ok (.getfield 28, 3) := by decide +kernel
theorem dX6_countMoved_52 : decode cX6_countMoved 52 = .ok (.iload 6, 2) := by decide +kernel
theorem dX6_countMoved_54 : decode cX6_countMoved 54 = .ok (.iload_n 1, 1) := by decide +kernel
theorem dX6_countMoved_55 : decode cX6_countMoved 55 = .ok (.iload_n 2, 1) := by decide +kernel
theorem dX6_countMoved_56 : decode cX6_countMoved 56 = .ok (.iload 4, 2) := by decide +kernel
theorem dX6_countMoved_58 : decode cX6_countMoved 58 = .ok (.invokevirtual 123, 3) := by decide +kernel
theorem dX6_countMoved_61 : decode cX6_countMoved 61 = .ok (.aload_n 0, 1) := by decide +kernel
theorem dX6_countMoved_62 : decode cX6_countMoved 62 = .ok (.getfield 28, 3) := by decide +kernel
theorem dX6_countMoved_65 : decode cX6_countMoved 65 = .ok (.iload 6, 2) := by decide +kernel
theorem dX6_countMoved_67 : decode cX6_countMoved 67 = .ok (.iload_n 1, 1) := by decide +kernel
theorem dX6_countMoved_68 : decode cX6_countMoved 68 = .ok (.iload_n 3, 1) := by decide +kernel
theorem dX6_countMoved_69 : decode cX6_countMoved 69 = .ok (.iload 4, 2) := by decide +kernel
theorem dX6_countMoved_71 : decode cX6_countMoved 71 = .ok (.invokevirtual 123, 3) := by decide +kernel
theorem dX6_countMoved_74 : decode cX6_countMoved 74 = .ok (.if_icmp .eq 6, 3) := by decide +kernel
theorem dX6_countMoved_77 : decode cX6_countMoved 77 = .ok (.iinc 5 1, 3) := by decide +kernel
theorem dX6_countMoved_80 : decode cX6_countMoved 80 = .ok (.iinc 6 1, 3) := by decide +kernel
theorem dX6_countMoved_83 : decode cX6_countMoved 83 = .ok (.goto (-77), 3) := by decide +kernel
theorem dX6_countMoved_86 : decode cX6_countMoved 86 = .ok (.iload 5, 2) := by decide +kernel
theorem dX6_countMoved_88 : decode cX6_countMoved 88 = .ok (.ireturn, 1) := by decide +kernel
theorem dX7_init_0 : decode cX7_init 0 = .ok (.aload_n 0, 1) := by decide +kernel
theorem dX7_init_1 : decode cX7_init 1 = .ok (.invokespecial 1, 3) := by decide +kernel
theorem dX7_init_4 : decode cX7_init 4 = .ok (.aload_n 0, 1) := by decide +kernel
theorem dX7_init_5 : decode cX7_init 5 = .ok (.bipush 40, 2) := by decide +kernel
theorem dX7_init_7 : decode cX7_init 7 = .ok (.newarray .int, 2) := by decide +kernel
theorem dX7_init_9 : decode cX7_init 9 = .ok (.putfield 7, 3) := by decide +kernel
theorem dX7_init_12 : decode cX7_init 12 = .ok (.aload_n 0, 1) := by decide +kernel
theorem dX7_init_13 : decode cX7_init 13 = .ok (.bipush 40, 2) := by decide +kernel
theorem dX7_init_15 : decode cX7_init 15 = .ok (.newarray .int, 2) := by decide +kernel
theorem dX7_init_17 : decode cX7_init 17 = .ok (.putfield 13, 3) := by decide +kernel
theorem dX7_init_20 : decode cX7_init 20 = .ok (.aload_n 0, 1) := by decide +kernel
theorem dX7_init_21 : decode cX7_init 21 = .ok (.bipush 40, 2) := by decide +kernel
theorem dX7_init_23 : decode cX7_init 23 = .ok (.newarray .int, 2) := by decide +kernel
theorem dX7_init_25 : decode cX7_init 25 = .ok (.putfield 16, 3) := by decide +kernel
theorem dX7_init_28 : decode cX7_init 28 = .ok (.aload_n 0, 1) := by decide +kernel
theorem dX7_init_29 : decode cX7_init 29 = .ok (.bipush 40, 2) := by decide +kernel
theorem dX7_init_31 : decode cX7_init 31 = .ok (.newarray .int, 2) := by decide +kernel
theorem dX7_init_33 : decode cX7_init 33 = .ok (.putfield 19, 3) := by decide +kernel
theorem dX7_init_36 : decode cX7_init 36 = .ok (.aload_n 0, 1) := by decide +kernel
theorem dX7_init_37 : decode cX7_init 37 = .ok (.bipush 40, 2) := by decide +kernel
theorem dX7_init_39 : decode cX7_init 39 = .ok (.newarray .int, 2) := by decide +kernel
theorem dX7_init_41 : decode cX7_init 41 = .ok (.putfield 22, 3) := by decide +kernel
theorem dX7_init_44 : decode cX7_init 44 = .ok (.aload_n 0, 1) := by decide +kernel
theorem dX7_init_45 : decode cX7_init 45 = .ok (.bipush 40, 2) := by decide +kernel
theorem dX7_init_47 : decode cX7_init 47 = .ok (.newarray .int, 2) := by decide +kernel
theorem dX7_init_49 : decode cX7_init 49 = .ok (.putfield 25, 3) := by decide +kernel
theorem dX7_init_52 : decode cX7_init 52 = .ok (.aload_n 0, 1) := by decide +kernel
theorem dX7_init_53 : decode cX7_init 53 = .ok (.bipush 40, 2) := by decide +kernel
theorem dX7_init_55 : decode cX7_init 55 = .ok (.newarray .int, 2) := by decide +kernel
theorem dX7_init_57 : decode cX7_init 57 = .ok (.putfield 28, 3) := by decide +kernel
theorem dX7_init_60 : decode cX7_init 60 = .ok (.aload_n 0, 1) := by decide +kernel
theorem dX7_init_61 : decode cX7_init 61 = .ok (.bipush 40, 2) := by decide +kernel
theorem dX7_init_63 : decode cX7_init 63 = .ok (.newarray .int, 2) := by decide +kernel
theorem dX7_init_65 : decode cX7_init 65 = .ok (.putfield 31, 3) := by decide +kernel
theorem dX7_init_68 : decode cX7_init 68 = .ok (.aload_n 0, 1) := by decide +kernel
theorem dX7_init_69 : decode cX7_init 69 = .ok (.bipush 40, 2) := by decide +kernel
theorem dX7_init_71 : decode cX7_init 71 = .ok (.newarray .int, 2) := by decide +kernel
theorem dX7_init_73 : decode cX7_init 73 = .ok (.putfield 34, 3) := by decide +kernel
theorem dX7_init_76 : decode cX7_init 76 = .ok (.aload_n 0, 1) := by decide +kernel
theorem dX7_init_77 : decode cX7_init 77 = .ok (.sipush 200, 3) := by decide +kernel
theorem dX7_init_80 : decode cX7_init 80 = .ok (.newarray .int, 2) := by decide +kernel
theorem dX7_init_82 : decode cX7_init 82 = .ok (.putfield 37, 3) := by decide +kernel
theorem dX7_init_85 : decode cX7_init 85 = .ok (.aload_n 0, 1) := by decide +kernel
theorem dX7_init_86 : decode cX7_init 86 = .ok (.sipush 200, 3) := by decide +kernel
theorem dX7_init_89 : decode cX7_init 89 = .ok (.newarray .int, 2) := by decide +kernel
theorem dX7_init_91 : decode cX7_init 91 = .ok (.putfield 40, 3) := by decide +kernel
theorem dX7_init_94 : decode cX7_init 94 = .ok (.aload_n 0, 1) := by decide +kernel
theorem dX7_init_95 : decode cX7_init 95 = .ok (.sipush 200, 3) := by decide +kernel
theorem dX7_init_98 : decode cX7_init 98 = .ok (.newarray .int, 2) := by decide +kernel
theorem dX7_init_100 : decode cX7_init 100 = .ok (.putfield 43, 3) := by decide +kernel
theorem dX7_init_103 : decode cX7_init 103 = .ok (.aload_n 0, 1) := by decide +kernel
theorem dX7_init_104 : decode cX7_init 104 = .ok (.sipush 200, 3) := by decide +kernel
theorem dX7_init_107 : decode cX7_init 107 = .ok (.newarray .int, 2) := by decide +kernel
theorem dX7_init_109 : decode cX7_init 109 = .ok (.putfield 46, 3) := by decide +kernel
theorem dX7_init_112 : decode cX7_init 112 = .ok (.aload_n 0, 1) := by decide +kernel
theorem dX7_init_113 : decode cX7_init 113 = .ok (.sipush 200, 3) := by decide +kernel
theorem dX7_init_116 : decode cX7_init 116 = .ok (.newarray .int, 2) := by decide +kernel
theorem dX7_init_118 : decode cX7_init 118 = .ok (.putfield 49, 3) := by decide +kernel
theorem dX7_init_121 : decode cX7_init 121 = .ok (.aload_n 0, 1) := by decide +kernel
theorem dX7_init_122 : decode cX7_init 122 = .ok (.sipush 300, 3) := by decide +kernel
theorem dX7_init_125 : decode cX7_init 125 = .ok (.newarray .int, 2) := by decide +kernel
theorem dX7_init_127 : decode cX7_init 127 = .ok (.putfield 52, 3) := by decide +kernel
theorem dX7_init_130 : decode cX7_init 130 = .ok (.aload_n 0, 1) := by decide +kernel
theorem dX7_init_131 : decode cX7_init 131 = .ok (.sipush 300, 3) := by decide +kernel
theorem dX7_init_134 : decode cX7_init 134 = .ok (.newarray .int, 2) := by decide +kernel
theorem dX7_init_136 : decode cX7_init 136 = .ok (.putfield 55, 3) := by decide +kernel
theorem dX7_init_139 : decode cX7_init 139 = .ok (.aload_n 0, 1) := by decide +kernel
theorem dX7_init_140 : decode cX7_init 140 = .ok (.sipush 300, 3) := by decide +kernel
theorem dX7_init_143 : decode cX7_init 143 = .ok (.newarray .int, 2) := by decide +kernel
theorem dX7_init_145 : decode cX7_init 145 = .ok (.putfield 58, 3) := by decide +kernel
theorem dX7_init_148 : decode cX7_init 148 = .ok (.aload_n 0, 1) := by decide +kernel
theorem dX7_init_149 : decode cX7_init 149 = .ok (.sipush 300, 3) := by decide +kernel
theorem dX7_init_152 : decode cX7_init 152 = .ok (.newarray .int, 2) := by decide +kernel
theorem dX7_init_154 : decode cX7_init 154 = .ok (.putfield 61, 3) := by decide +kernel
theorem dX7_init_157 : decode cX7_init 157 = .ok (.aload_n 0, 1) := by decide +kernel
theorem dX7_init_158 : decode cX7_init 158 = .ok (.sipush 300, 3) := by decide +kernel
theorem dX7_init_161 : decode cX7_init 161 = .ok (.newarray .int, 2) := by decide +kernel
theorem dX7_init_163 : decode cX7_init 163 = .ok (.putfield 64, 3) := by decide +kernel
theorem dX7_init_166 : decode cX7_init 166 = .ok (.aload_n 0, 1) := by decide +kernel
theorem dX7_init_167 : decode cX7_init 167 = .ok (.sipush 300, 3) := by decide +kernel
theorem dX7_init_170 : decode cX7_init 170 = .ok (.newarray .int, 2) := by decide +kernel
theorem dX7_init_172 : decode cX7_init 172 = .ok (.putfield 67, 3) := by decide +kernel
theorem dX7_init_175 : decode cX7_init 175 = .ok (.aload_n 0, 1) := by decide +kernel
theorem dX7_init_176 : decode cX7_init 176 = .ok (.bipush 40, 2) := by decide +kernel
theorem dX7_init_178 : decode cX7_init 178 = .ok (.newarray .int, 2) := by decide +kernel
theorem dX7_init_180 : decode cX7_init 180 = .ok (.putfield 70, 3) := by decide +kernel
theorem dX7_init_183 : decode cX7_init 183 = .ok (.iconst 0, 1) := by decide +kernel
theorem dX7_init_184 : decode cX7_init 184 = .ok (.istore_n 1, 1) := by decide +kernel
theorem dX7_init_185 : decode cX7_init 185 = .ok (.iload_n 1, 1) := by decide +kernel
theorem dX7_init_186 : decode cX7_init 186 = .ok (.bipush 40, 2) := by decide +kernel
theorem dX7_init_188 : decode cX7_init 188 = .ok (.if_icmp .ge 18, 3) := by decide +kernel
theorem dX7_init_191 : decode cX7_init 191 = .ok (.aload_n 0, 1) := by decide +kernel
theorem dX7_init_192 : decode cX7_init 192 = .ok (.getfield 70, 3) := by decide +kernel
theorem dX7_init_195 : decode cX7_init 195 = .ok (.iload_n 1, 1) := by decide +kernel
theorem dX7_init_196 : decode cX7_init 196 = .ok (.sipush 2001, 3) := by decide +kernel
theorem dX7_init_199 : decode cX7_init 199 = .ok (.iastore, 1) := by decide +kernel
theorem dX7_init_200 : decode cX7_init 200 = .ok (.iinc 1 1, 3) := by decide +kernel
theorem dX7_init_203 : decode cX7_init 203 = .ok (.goto (-18), 3) := by decide +kernel
theorem dX7_init_206 : decode cX7_init 206 = .ok (.return_, 1) := by decide +kernel
theorem dX7_isIn_0 : decode cX7_isIn 0 = .ok (.iload_n 0, 1) := by decide +kernel
theorem dX7_isIn_1 : decode cX7_isIn 1 = .ok (.iload_n 1, 1) := by decide +kernel
theorem dX7_isIn_2 : decode cX7_isIn 2 = .ok (.if_icmp .lt 12, 3) := by decide +kernel
theorem dX7_isIn_5 : decode cX7_isIn 5 = .ok (.iload_n 0, 1) := by decide +kernel
theorem dX7_isIn_6 : decode cX7_isIn 6 = .ok (.iload_n 2, 1) := by decide +kernel
theorem dX7_isIn_7 : decode cX7_isIn 7 = .ok (.if_icmp .gt 7, 3) := by decide +kernel
theorem dX7_isIn_10 : decode cX7_isIn 10 = .ok (.iconst 1, 1) := by decide +kernel
theorem dX7_isIn_11 : decode cX7_isIn 11 = .ok (.goto 4, 3) := by decide +kernel
theorem dX7_isIn_14 : decode cX7_isIn 14 = .ok (.iconst 0, 1) := by decide +kernel
theorem dX7_isIn_15 : decode cX7_isIn 15 = .ok (.ireturn, 1) := by decide +kernel
theorem dX7_isDay_0 : decode cX7_isDay 0 = .ok (.iload_n 0, 1) := by decide +kernel
theorem dX7_isDay_1 : decode cX7_isDay 1 = .ok (.iconst 0, 1) := by decide +kernel
theorem dX7_isDay_2 : decode cX7_isDay 2 = .ok (.sipush 2000, 3) := by decide +kernel
theorem dX7_isDay_5 : decode cX7_isDay 5 = .ok (.invokestatic 73, 3) := by decide +kernel
theorem dX7_isDay_8 : decode cX7_isDay 8 = .ok (.ireturn, 1) := by decide +kernel
theorem dX7_isCode_0 : decode cX7_isCode 0 = .ok (.iload_n 0, 1) := by decide +kernel
theorem dX7_isCode_1 : decode cX7_isCode 1 = .ok (.iconst 0, 1) := by decide +kernel
theorem dX7_isCode_2 : decode cX7_isCode 2 = .ok (.bipush 99, 2) := by decide +kernel
theorem dX7_isCode_4 : decode cX7_isCode 4 = .ok (.invokestatic 73, 3) := by decide +kernel
theorem dX7_isCode_7 : decode cX7_isCode 7 = .ok (.ireturn, 1) := by decide +kernel
theorem dX7_isMark_0 : decode cX7_isMark 0 = .ok (.iload_n 0, 1) := by decide +kernel
theorem dX7_isMark_1 : decode cX7_isMark 1 = .ok (.iconst 0, 1) := by decide +kernel
theorem dX7_isMark_2 : decode cX7_isMark 2 = .ok (.iconst 3, 1) := by decide +kernel
theorem dX7_isMark_3 : decode cX7_isMark 3 = .ok (.invokestatic 73, 3) := by decide +kernel
theorem dX7_isMark_6 : decode cX7_isMark 6 = .ok (.ireturn, 1) := by decide +kernel
theorem dX7_one_0 : decode cX7_one 0 = .ok (.iload_n 0, 1) := by decide +kernel
theorem dX7_one_1 : decode cX7_one 1 = .ok (.ifCond .eq 7, 3) := by decide +kernel
theorem dX7_one_4 : decode cX7_one 4 = .ok (.iconst 1, 1) := by decide +kernel
theorem dX7_one_5 : decode cX7_one 5 = .ok (.goto 4, 3) := by decide +kernel
theorem dX7_one_8 : decode cX7_one 8 = .ok (.iconst 0, 1) := by decide +kernel
theorem dX7_one_9 : decode cX7_one 9 = .ok (.ireturn, 1) := by decide +kernel
theorem dX7_isThing_0 : decode cX7_isThing 0 = .ok (.iload_n 1, 1) := by decide +kernel
theorem dX7_isThing_1 : decode cX7_isThing 1 = .ok (.iconst 0, 1) := by decide +kernel
theorem dX7_isThing_2 : decode cX7_isThing 2 = .ok (.aload_n 0, 1) := by decide +kernel
theorem dX7_isThing_3 : decode cX7_isThing 3 = .ok (.getfield 77, 3) := by decide +kernel
theorem dX7_isThing_6 : decode cX7_isThing 6 = .ok (.iconst 1, 1) := by decide +kernel
theorem dX7_isThing_7 : decode cX7_isThing 7 = .ok (.isub, 1) := by decide +kernel
theorem dX7_isThing_8 : decode cX7_isThing 8 = .ok (.invokestatic 73, 3) := by decide +kernel
theorem dX7_isThing_11 : decode cX7_isThing 11 = .ok (.ireturn, 1) := by decide +kernel
theorem dX7_day_0 : decode cX7_day 0 = .ok (.iload_n 1, 1) := by decide +kernel
theorem dX7_day_1 : decode cX7_day 1 = .ok (.aload_n 0, 1) := by decide +kernel
theorem dX7_day_2 : decode cX7_day 2 = .ok (.getfield 81, 3) := by decide +kernel
theorem dX7_day_5 : decode cX7_day 5 = .ok (.if_icmp .le 10, 3) := by decide +kernel
theorem dX7_day_8 : decode cX7_day 8 = .ok (.iload_n 1, 1) := by decide +kernel
theorem dX7_day_9 : decode cX7_day 9 = .ok (.sipush 2000, 3) := by decide +kernel
theorem dX7_day_12 : decode cX7_day 12 = .ok (.if_icmp .le 5, 3) := by decide +kernel
theorem dX7_day_15 : decode cX7_day 15 = .ok (.iconst 0, 1) := by decide +kernel
theorem dX7_day_16 : decode cX7_day 16 = .ok (.ireturn, 1) := by decide +kernel
theorem dX7_day_17 : decode cX7_day 17 = .ok (.aload_n 0, 1) := by decide +kernel
theorem dX7_day_18 : decode cX7_day 18 = .ok (.iload_n 1, 1) := by decide +kernel
theorem dX7_day_19 : decode cX7_day 19 = .ok (.putfield 81, 3) := by decide +kernel
theorem dX7_day_22 : decode cX7_day 22 = .ok (.iconst 1, 1) := by decide +kernel
theorem dX7_day_23 : decode cX7_day 23 = .ok (.ireturn, 1) := by decide +kernel
theorem dX7_endBy_0 : decode cX7_endBy 0 = .ok (.aload_n 0, 1) := by decide +kernel
theorem dX7_endBy_1 : decode cX7_endBy 1 = .ok (.getfield 22, 3) := by decide +kernel
theorem dX7_endBy_4 : decode cX7_endBy 4 = .ok (.iload_n 1, 1) := by decide +kernel
theorem dX7_endBy_5 : decode cX7_endBy 5 = .ok (.iaload, 1) := by decide +kernel
theorem dX7_endBy_6 : decode cX7_endBy 6 = .ok (.iload_n 2, 1) := by decide +kernel
theorem dX7_endBy_7 : decode cX7_endBy 7 = .ok (.if_icmp .gt 12, 3) := by decide +kernel
theorem dX7_endBy_10 : decode cX7_endBy 10 = .ok (.aload_n 0, 1) := by decide +kernel
theorem dX7_endBy_11 : decode cX7_endBy 11 = .ok (.getfield 19, 3) := by decide +kernel
theorem dX7_endBy_14 : decode cX7_endBy 14 = .ok (.iload_n 1, 1) := by decide +kernel
theorem dX7_endBy_15 : decode cX7_endBy 15 = .ok (.iaload, 1) := by decide +kernel
theorem dX7_endBy_16 : decode cX7_endBy 16 = .ok (.goto 6, 3) := by decide +kernel
theorem dX7_endBy_19 : decode cX7_endBy 19 = .ok (.sipush 2001, 3) := by decide +kernel
theorem dX7_endBy_22 : decode cX7_endBy 22 = .ok (.ireturn, 1) := by decide +kernel
theorem dX7_lives_0 : decode cX7_lives 0 = .ok (.aload_n 0, 1) := by decide +kernel
theorem dX7_lives_1 : decode cX7_lives 1 = .ok (.getfield 16, 3) := by decide +kernel
theorem dX7_lives_4 : decode cX7_lives 4 = .ok (.iload_n 1, 1) := by decide +kernel
theorem dX7_lives_5 : decode cX7_lives 5 = .ok (.iaload, 1) := by decide +kernel
theorem dX7_lives_6 : decode cX7_lives 6 = .ok (.iload_n 3, 1) := by decide +kernel
theorem dX7_lives_7 : decode cX7_lives 7 = .ok (.if_icmp .gt 27, 3) := by decide +kernel
theorem dX7_lives_10 : decode cX7_lives 10 = .ok (.aload_n 0, 1) := by decide +kernel
theorem dX7_lives_11 : decode cX7_lives 11 = .ok (.getfield 13, 3) := by decide +kernel
theorem dX7_lives_14 : decode cX7_lives 14 = .ok (.iload_n 1, 1) := by decide +kernel
theorem dX7_lives_15 : decode cX7_lives 15 = .ok (.iaload, 1) := by decide +kernel
theorem dX7_lives_16 : decode cX7_lives 16 = .ok (.iload_n 2, 1) := by decide +kernel
theorem dX7_lives_17 : decode cX7_lives 17 = .ok (.if_icmp .gt 17, 3) := by decide +kernel
theorem dX7_lives_20 : decode cX7_lives 20 = .ok (.iload_n 2, 1) := by decide +kernel
theorem dX7_lives_21 : decode cX7_lives 21 = .ok (.aload_n 0, 1) := by decide +kernel
theorem dX7_lives_22 : decode cX7_lives 22 = .ok (.iload_n 1, 1) := by decide +kernel
theorem dX7_lives_23 : decode cX7_lives 23 = .ok (.iload_n 3, 1) := by decide +kernel
theorem dX7_lives_24 : decode cX7_lives 24 = .ok (.invokevirtual 84, 3) := by decide +kernel
theorem dX7_lives_27 : decode cX7_lives 27 = .ok (.if_icmp .ge 7, 3) := by decide +kernel
theorem dX7_lives_30 : decode cX7_lives 30 = .ok (.iconst 1, 1) := by decide +kernel
theorem dX7_lives_31 : decode cX7_lives 31 = .ok (.goto 4, 3) := by decide +kernel
theorem dX7_lives_34 : decode cX7_lives 34 = .ok (.iconst 0, 1) := by decide +kernel
theorem dX7_lives_35 : decode cX7_lives 35 = .ok (.ireturn, 1) := by decide +kernel
theorem dX7_isTaken_0 : decode cX7_isTaken 0 = .ok (.iconst 0, 1) := by decide +kernel
theorem dX7_isTaken_1 : decode cX7_isTaken 1 = .ok (.istore 5, 2) := by decide +kernel
theorem dX7_isTaken_3 : decode cX7_isTaken 3 = .ok (.iconst 0, 1) := by decide +kernel
theorem dX7_isTaken_4 : decode cX7_isTaken 4 = .ok (.istore 6, 2) := by decide +kernel
theorem dX7_isTaken_6 : decode cX7_isTaken 6 = .ok (.iload 6, 2) := by decide +kernel
theorem dX7_isTaken_8 : decode cX7_isTaken 8 = .ok (.aload_n 0, 1) := by decide +kernel
theorem dX7_isTaken_9 : decode cX7_isTaken 9 = .ok (.getfield 77, 3) := by decide +kernel
theorem dX7_isTaken_12 : decode cX7_isTaken 12 = .ok (.if_icmp .ge 70, 3) := by decide +kernel
theorem dX7_isTaken_15 : decode cX7_isTaken 15 = .ok (.iload 5, 2) := by decide +kernel
theorem dX7_isTaken_17 : decode cX7_isTaken 17 = .ok (.ifCond .ne 52, 3) := by decide +kernel
theorem dX7_isTaken_20 : decode cX7_isTaken 20 = .ok (.aload_n 0, 1) := by decide +kernel
theorem dX7_isTaken_21 : decode cX7_isTaken 21 = .ok (.getfield 7, 3) := by decide +kernel
theorem dX7_isTaken_24 : decode cX7_isTaken 24 = .ok (.iload 6, 2) := by decide +kernel
theorem dX7_isTaken_26 : decode cX7_isTaken 26 = .ok (.iaload, 1) := by decide +kernel
theorem dX7_isTaken_27 : decode cX7_isTaken 27 = .ok (.iload_n 1, 1) := by decide +kernel
theorem dX7_isTaken_28 : decode cX7_isTaken 28 = .ok (.if_icmp .ne 45, 3) := by decide +kernel
theorem dX7_isTaken_31 : decode cX7_isTaken 31 = .ok (.aload_n 0, 1) := by decide +kernel
theorem dX7_isTaken_32 : decode cX7_isTaken 32 = .ok (.getfield 13, 3) := by decide +kernel
theorem dX7_isTaken_35 : decode cX7_isTaken 35 = .ok (.iload 6, 2) := by decide +kernel
theorem dX7_isTaken_37 : decode cX7_isTaken 37 = .ok (.iaload, 1) := by decide +kernel
theorem dX7_isTaken_38 : decode cX7_isTaken 38 = .ok (.iload_n 2, 1) := by decide +kernel
theorem dX7_isTaken_39 : decode cX7_isTaken 39 = .ok (.if_icmp .gt 30, 3) := by decide +kernel
theorem dX7_isTaken_42 : decode cX7_isTaken 42 = .ok (.iload 6, 2) := by decide +kernel
theorem dX7_isTaken_44 : decode cX7_isTaken 44 = .ok (.iload_n 3, 1) := by decide +kernel
theorem dX7_isTaken_45 : decode cX7_isTaken 45 = .ok (.if_icmp .eq 28, 3) := by decide +kernel
theorem dX7_isTaken_48 : decode cX7_isTaken 48 = .ok (.iload 6, 2) := by decide +kernel
theorem dX7_isTaken_50 : decode cX7_isTaken 50 = .ok (.iload 4, 2) := by decide +kernel
theorem dX7_isTaken_52 : decode cX7_isTaken 52 = .ok (.if_icmp .eq 21, 3) := by decide +kernel
theorem dX7_isTaken_55 : decode cX7_isTaken 55 = .ok (.aload_n 0, 1) := by decide +kernel
theorem dX7_isTaken_56 : decode cX7_isTaken 56 = .ok (.iload 6, 2) := by decide +kernel
theorem dX7_isTaken_58 : decode cX7_isTaken 58 = .ok (.iload_n 2, 1) := by decide +kernel
theorem dX7_isTaken_59 : decode cX7_isTaken 59 = .ok (.aload_n 0, 1) := by decide +kernel
theorem dX7_isTaken_60 : decode cX7_isTaken 60 = .ok (.getfield 81, 3) := by decide +kernel
theorem dX7_isTaken_63 : decode cX7_isTaken 63 = .ok (.invokevirtual 88, 3) := by decide +kernel
theorem dX7_isTaken_66 : decode cX7_isTaken 66 = .ok (.ifCond .eq 7, 3) := by decide +kernel
theorem dX7_isTaken_69 : decode cX7_isTaken 69 = .ok (.iconst 1, 1) := by decide +kernel
theorem dX7_isTaken_70 : decode cX7_isTaken 70 = .ok (.goto 4, 3) := by decide +kernel
theorem dX7_isTaken_73 : decode cX7_isTaken 73 = .ok (.iconst 0, 1) := by decide +kernel
