theorem dX7_undo_56 : decode cX7_undo 56 = .ok (.iaload, 1) := by decide +kernel
theorem dX7_undo_57 : decode cX7_undo 57 = .ok (.iload_n 1, 1) := by decide +kernel
theorem dX7_undo_58 : decode cX7_undo 58 = .ok (.if_icmp .ne 7, 3) := by decide +kernel
theorem dX7_undo_61 : decode cX7_undo 61 = .ok (.iconst 1, 1) := by decide +kernel
theorem dX7_undo_62 : decode cX7_undo 62 = .ok (.goto 4, 3) := by decide +kernel
theorem dX7_undo_65 : decode cX7_undo 65 = .ok (.iconst 0, 1) := by decide +kernel
theorem dX7_undo_66 : decode cX7_undo 66 = .ok (.invokestatic 135, 3) := by decide +kernel
theorem dX7_undo_69 : decode cX7_undo 69 = .ok (.iadd, 1) := by decide +kernel
theorem dX7_undo_70 : decode cX7_undo 70 = .ok (.istore_n 2, 1) := by decide +kernel
theorem dX7_undo_71 : decode cX7_undo 71 = .ok (.iinc 3 1, 3) := by decide +kernel
theorem dX7_undo_74 : decode cX7_undo 74 = .ok (.goto (-32), 3) := by decide +kernel
theorem dX7_undo_77 : decode cX7_undo 77 = .ok (.iconst 0, 1) := by decide +kernel
theorem dX7_undo_78 : decode cX7_undo 78 = .ok (.istore_n 3, 1) := by decide +kernel
theorem dX7_undo_79 : decode cX7_undo 79 = .ok (.iload_n 3, 1) := by decide +kernel
theorem dX7_undo_80 : decode cX7_undo 80 = .ok (.aload_n 0, 1) := by decide +kernel
theorem dX7_undo_81 : decode cX7_undo 81 = .ok (.getfield 142, 3) := by decide +kernel
theorem dX7_undo_84 : decode cX7_undo 84 = .ok (.if_icmp .ge 30, 3) := by decide +kernel
theorem dX7_undo_87 : decode cX7_undo 87 = .ok (.iload_n 2, 1) := by decide +kernel
theorem dX7_undo_88 : decode cX7_undo 88 = .ok (.aload_n 0, 1) := by decide +kernel
theorem dX7_undo_89 : decode cX7_undo 89 = .ok (.getfield 49, 3) := by decide +kernel
theorem dX7_undo_92 : decode cX7_undo 92 = .ok (.iload_n 3, 1) := by decide +kernel
theorem dX7_undo_93 : decode cX7_undo 93 = .ok (.iaload, 1) := by decide +kernel
theorem dX7_undo_94 : decode cX7_undo 94 = .ok (.iload_n 1, 1) := by decide +kernel
theorem dX7_undo_95 : decode cX7_undo 95 = .ok (.if_icmp .ne 7, 3) := by decide +kernel
theorem dX7_undo_98 : decode cX7_undo 98 = .ok (.iconst 1, 1) := by decide +kernel
theorem dX7_undo_99 : decode cX7_undo 99 = .ok (.goto 4, 3) := by decide +kernel
theorem dX7_undo_102 : decode cX7_undo 102 = .ok (.iconst 0, 1) := by decide +kernel
theorem dX7_undo_103 : decode cX7_undo 103 = .ok (.invokestatic 135, 3) := by decide +kernel
theorem dX7_undo_106 : decode cX7_undo 106 = .ok (.iadd, 1) := by decide +kernel
theorem dX7_undo_107 : decode cX7_undo 107 = .ok (.istore_n 2, 1) := by decide +kernel
theorem dX7_undo_108 : decode cX7_undo 108 = .ok (.iinc 3 1, 3) := by decide +kernel
theorem dX7_undo_111 : decode cX7_undo 111 = .ok (.goto (-32), 3) := by decide +kernel
theorem dX7_undo_114 : decode cX7_undo 114 = .ok (.iload_n 2, 1) := by decide +kernel
theorem dX7_undo_115 : decode cX7_undo 115 = .ok (.ireturn, 1) := by decide +kernel
theorem dX7_living_0 : decode cX7_living 0 = .ok (.iconst 0, 1) := by decide +kernel
theorem dX7_living_1 : decode cX7_living 1 = .ok (.istore 4, 2) := by decide +kernel
theorem dX7_living_3 : decode cX7_living 3 = .ok (.iload 4, 2) := by decide +kernel
theorem dX7_living_5 : decode cX7_living 5 = .ok (.aload_n 0, 1) := by decide +kernel
theorem dX7_living_6 : decode cX7_living 6 = .ok (.getfield 77, 3) := by decide +kernel
theorem dX7_living_9 : decode cX7_living 9 = .ok (.if_icmp .ge 34, 3) := by decide +kernel
theorem dX7_living_12 : decode cX7_living 12 = .ok (.aload_n 0, 1) := by decide +kernel
theorem dX7_living_13 : decode cX7_living 13 = .ok (.getfield 7, 3) := by decide +kernel
theorem dX7_living_16 : decode cX7_living 16 = .ok (.iload 4, 2) := by decide +kernel
theorem dX7_living_18 : decode cX7_living 18 = .ok (.iaload, 1) := by decide +kernel
theorem dX7_living_19 : decode cX7_living 19 = .ok (.iload_n 1, 1) := by decide +kernel
theorem dX7_living_20 : decode cX7_living 20 = .ok (.if_icmp .ne 17, 3) := by decide +kernel
theorem dX7_living_23 : decode cX7_living 23 = .ok (.aload_n 0, 1) := by decide +kernel
theorem dX7_living_24 : decode cX7_living 24 = .ok (.iload 4, 2) := by decide +kernel
theorem dX7_living_26 : decode cX7_living 26 = .ok (.iload_n 2, 1) := by decide +kernel
theorem dX7_living_27 : decode cX7_living 27 = .ok (.iload_n 3, 1) := by decide +kernel
theorem dX7_living_28 : decode cX7_living 28 = .ok (.invokevirtual 88, 3) := by decide +kernel
theorem dX7_living_31 : decode cX7_living 31 = .ok (.ifCond .eq 6, 3) := by decide +kernel
theorem dX7_living_34 : decode cX7_living 34 = .ok (.iload 4, 2) := by decide +kernel
theorem dX7_living_36 : decode cX7_living 36 = .ok (.ireturn, 1) := by decide +kernel
theorem dX7_living_37 : decode cX7_living 37 = .ok (.iinc 4 1, 3) := by decide +kernel
theorem dX7_living_40 : decode cX7_living 40 = .ok (.goto (-37), 3) := by decide +kernel
theorem dX7_living_43 : decode cX7_living 43 = .ok (.iconst (-1), 1) := by decide +kernel
theorem dX7_living_44 : decode cX7_living 44 = .ok (.ireturn, 1) := by decide +kernel
theorem dX7_isFact_0 : decode cX7_isFact 0 = .ok (.aload_n 0, 1) := by decide +kernel
theorem dX7_isFact_1 : decode cX7_isFact 1 = .ok (.aload_n 0, 1) := by decide +kernel
theorem dX7_isFact_2 : decode cX7_isFact 2 = .ok (.getfield 46, 3) := by decide +kernel
theorem dX7_isFact_5 : decode cX7_isFact 5 = .ok (.iload_n 1, 1) := by decide +kernel
theorem dX7_isFact_6 : decode cX7_isFact 6 = .ok (.iaload, 1) := by decide +kernel
theorem dX7_isFact_7 : decode cX7_isFact 7 = .ok (.aload_n 0, 1) := by decide +kernel
theorem dX7_isFact_8 : decode cX7_isFact 8 = .ok (.getfield 49, 3) := by decide +kernel
theorem dX7_isFact_11 : decode cX7_isFact 11 = .ok (.iload_n 1, 1) := by decide +kernel
theorem dX7_isFact_12 : decode cX7_isFact 12 = .ok (.iaload, 1) := by decide +kernel
theorem dX7_isFact_13 : decode cX7_isFact 13 = .ok (.iload_n 2, 1) := by decide +kernel
theorem dX7_isFact_14 : decode cX7_isFact 14 = .ok (.invokevirtual 116, 3) := by decide +kernel
theorem dX7_isFact_17 : decode cX7_isFact 17 = .ok (.ireturn, 1) := by decide +kernel
theorem dX7_thingOf_0 : decode cX7_thingOf 0 = .ok (.aload_n 0, 1) := by decide +kernel
theorem dX7_thingOf_1 : decode cX7_thingOf 1 = .ok (.aload_n 0, 1) := by decide +kernel
theorem dX7_thingOf_2 : decode cX7_thingOf 2 = .ok (.getfield 37, 3) := by decide +kernel
theorem dX7_thingOf_5 : decode cX7_thingOf 5 = .ok (.iload_n 1, 1) := by decide +kernel
theorem dX7_thingOf_6 : decode cX7_thingOf 6 = .ok (.iaload, 1) := by decide +kernel
theorem dX7_thingOf_7 : decode cX7_thingOf 7 = .ok (.aload_n 0, 1) := by decide +kernel
theorem dX7_thingOf_8 : decode cX7_thingOf 8 = .ok (.getfield 40, 3) := by decide +kernel
theorem dX7_thingOf_11 : decode cX7_thingOf 11 = .ok (.iload_n 1, 1) := by decide +kernel
theorem dX7_thingOf_12 : decode cX7_thingOf 12 = .ok (.iaload, 1) := by decide +kernel
theorem dX7_thingOf_13 : decode cX7_thingOf 13 = .ok (.iload_n 2, 1) := by decide +kernel
theorem dX7_thingOf_14 : decode cX7_thingOf 14 = .ok (.invokevirtual 145, 3) := by decide +kernel
theorem dX7_thingOf_17 : decode cX7_thingOf 17 = .ok (.ireturn, 1) := by decide +kernel
theorem dX7_hangs_0 : decode cX7_hangs 0 = .ok (.iload_n 1, 1) := by decide +kernel
theorem dX7_hangs_1 : decode cX7_hangs 1 = .ok (.iconst 0, 1) := by decide +kernel
theorem dX7_hangs_2 : decode cX7_hangs 2 = .ok (.aload_n 0, 1) := by decide +kernel
theorem dX7_hangs_3 : decode cX7_hangs 3 = .ok (.getfield 142, 3) := by decide +kernel
theorem dX7_hangs_6 : decode cX7_hangs 6 = .ok (.iconst 1, 1) := by decide +kernel
theorem dX7_hangs_7 : decode cX7_hangs 7 = .ok (.isub, 1) := by decide +kernel
theorem dX7_hangs_8 : decode cX7_hangs 8 = .ok (.invokestatic 73, 3) := by decide +kernel
theorem dX7_hangs_11 : decode cX7_hangs 11 = .ok (.ifCond .eq 28, 3) := by decide +kernel
theorem dX7_hangs_14 : decode cX7_hangs 14 = .ok (.iload_n 2, 1) := by decide +kernel
theorem dX7_hangs_15 : decode cX7_hangs 15 = .ok (.invokestatic 95, 3) := by decide +kernel
theorem dX7_hangs_18 : decode cX7_hangs 18 = .ok (.ifCond .eq 21, 3) := by decide +kernel
theorem dX7_hangs_21 : decode cX7_hangs 21 = .ok (.aload_n 0, 1) := by decide +kernel
theorem dX7_hangs_22 : decode cX7_hangs 22 = .ok (.iload_n 1, 1) := by decide +kernel
theorem dX7_hangs_23 : decode cX7_hangs 23 = .ok (.iload_n 2, 1) := by decide +kernel
theorem dX7_hangs_24 : decode cX7_hangs 24 = .ok (.invokevirtual 149, 3) := by decide +kernel
theorem dX7_hangs_27 : decode cX7_hangs 27 = .ok (.ifCond .eq 12, 3) := by decide +kernel
theorem dX7_hangs_30 : decode cX7_hangs 30 = .ok (.aload_n 0, 1) := by decide +kernel
theorem dX7_hangs_31 : decode cX7_hangs 31 = .ok (.iload_n 1, 1) := by decide +kernel
theorem dX7_hangs_32 : decode cX7_hangs 32 = .ok (.iload_n 2, 1) := by decide +kernel
theorem dX7_hangs_33 : decode cX7_hangs 33 = .ok (.invokevirtual 152, 3) := by decide +kernel
theorem dX7_hangs_36 : decode cX7_hangs 36 = .ok (.goto 5, 3) := by decide +kernel
theorem dX7_hangs_39 : decode cX7_hangs 39 = .ok (.bipush (-2), 2) := by decide +kernel
theorem dX7_hangs_41 : decode cX7_hangs 41 = .ok (.ireturn, 1) := by decide +kernel
theorem dX7_find_0 : decode cX7_find 0 = .ok (.iload_n 2, 1) := by decide +kernel
theorem dX7_find_1 : decode cX7_find 1 = .ok (.invokestatic 95, 3) := by decide +kernel
theorem dX7_find_4 : decode cX7_find 4 = .ok (.ifCond .eq 20, 3) := by decide +kernel
theorem dX7_find_7 : decode cX7_find 7 = .ok (.iload_n 3, 1) := by decide +kernel
theorem dX7_find_8 : decode cX7_find 8 = .ok (.invokestatic 95, 3) := by decide +kernel
theorem dX7_find_11 : decode cX7_find 11 = .ok (.ifCond .eq 13, 3) := by decide +kernel
theorem dX7_find_14 : decode cX7_find 14 = .ok (.aload_n 0, 1) := by decide +kernel
theorem dX7_find_15 : decode cX7_find 15 = .ok (.iload_n 1, 1) := by decide +kernel
theorem dX7_find_16 : decode cX7_find 16 = .ok (.iload_n 2, 1) := by decide +kernel
theorem dX7_find_17 : decode cX7_find 17 = .ok (.iload_n 3, 1) := by decide +kernel
theorem dX7_find_18 : decode cX7_find 18 = .ok (.invokevirtual 145, 3) := by decide +kernel
theorem dX7_find_21 : decode cX7_find 21 = .ok (.goto 4, 3) := by decide +kernel
theorem dX7_find_24 : decode cX7_find 24 = .ok (.iconst (-1), 1) := by decide +kernel
theorem dX7_find_25 : decode cX7_find 25 = .ok (.ireturn, 1) := by decide +kernel
theorem dX7_isAsked_0 : decode cX7_isAsked 0 = .ok (.iload_n 1, 1) := by decide +kernel
theorem dX7_isAsked_1 : decode cX7_isAsked 1 = .ok (.invokestatic 119, 3) := by decide +kernel
theorem dX7_isAsked_4 : decode cX7_isAsked 4 = .ok (.ifCond .eq 24, 3) := by decide +kernel
theorem dX7_isAsked_7 : decode cX7_isAsked 7 = .ok (.iload_n 2, 1) := by decide +kernel
theorem dX7_isAsked_8 : decode cX7_isAsked 8 = .ok (.iconst 0, 1) := by decide +kernel
theorem dX7_isAsked_9 : decode cX7_isAsked 9 = .ok (.bipush 100, 2) := by decide +kernel
theorem dX7_isAsked_11 : decode cX7_isAsked 11 = .ok (.invokestatic 73, 3) := by decide +kernel
theorem dX7_isAsked_14 : decode cX7_isAsked 14 = .ok (.ifCond .eq 14, 3) := by decide +kernel
theorem dX7_isAsked_17 : decode cX7_isAsked 17 = .ok (.iload_n 3, 1) := by decide +kernel
theorem dX7_isAsked_18 : decode cX7_isAsked 18 = .ok (.invokestatic 95, 3) := by decide +kernel
theorem dX7_isAsked_21 : decode cX7_isAsked 21 = .ok (.ifCond .eq 7, 3) := by decide +kernel
theorem dX7_isAsked_24 : decode cX7_isAsked 24 = .ok (.iconst 1, 1) := by decide +kernel
theorem dX7_isAsked_25 : decode cX7_isAsked 25 = .ok (.goto 4, 3) := by decide +kernel
theorem dX7_isAsked_28 : decode cX7_isAsked 28 = .ok (.iconst 0, 1) := by decide +kernel
theorem dX7_isAsked_29 : decode cX7_isAsked 29 = .ok (.ireturn, 1) := by decide +kernel
theorem dX7_then_0 : decode cX7_then 0 = .ok (.lconst 0, 1) := by decide +kernel
theorem dX7_then_1 : decode cX7_then 1 = .ok (.lstore 4, 2) := by decide +kernel
theorem dX7_then_3 : decode cX7_then 3 = .ok (.iconst 0, 1) := by decide +kernel
theorem dX7_then_4 : decode cX7_then 4 = .ok (.istore 6, 2) := by decide +kernel
theorem dX7_then_6 : decode cX7_then 6 = .ok (.iload 6, 2) := by decide +kernel
theorem dX7_then_8 : decode cX7_then 8 = .ok (.aload_n 0, 1) := by decide +kernel
theorem dX7_then_9 : decode cX7_then 9 = .ok (.getfield 142, 3) := by decide +kernel
theorem dX7_then_12 : decode cX7_then 12 = .ok (.if_icmp .ge 79, 3) := by decide +kernel
theorem dX7_then_15 : decode cX7_then 15 = .ok (.aload_n 0, 1) := by decide +kernel
theorem dX7_then_16 : decode cX7_then 16 = .ok (.iload_n 1, 1) := by decide +kernel
theorem dX7_then_17 : decode cX7_then 17 = .ok (.iload_n 2, 1) := by decide +kernel
theorem dX7_then_18 : decode cX7_then 18 = .ok (.iload_n 3, 1) := by decide +kernel
theorem dX7_then_19 : decode cX7_then 19 = .ok (.invokevirtual 155, 3) := by decide +kernel
theorem dX7_then_22 : decode cX7_then 22 = .ok (.ifCond .eq 69, 3) := by decide +kernel
theorem dX7_then_25 : decode cX7_then 25 = .ok (.aload_n 0, 1) := by decide +kernel
theorem dX7_then_26 : decode cX7_then 26 = .ok (.iload 6, 2) := by decide +kernel
theorem dX7_then_28 : decode cX7_then 28 = .ok (.iload_n 3, 1) := by decide +kernel
theorem dX7_then_29 : decode cX7_then 29 = .ok (.invokevirtual 149, 3) := by decide +kernel
theorem dX7_then_32 : decode cX7_then 32 = .ok (.ifCond .ne 6, 3) := by decide +kernel
theorem dX7_then_35 : decode cX7_then 35 = .ok (.goto 50, 3) := by decide +kernel
theorem dX7_then_38 : decode cX7_then 38 = .ok (.aload_n 0, 1) := by decide +kernel
theorem dX7_then_39 : decode cX7_then 39 = .ok (.iload 6, 2) := by decide +kernel
theorem dX7_then_41 : decode cX7_then 41 = .ok (.iload_n 3, 1) := by decide +kernel
theorem dX7_then_42 : decode cX7_then 42 = .ok (.invokevirtual 152, 3) := by decide +kernel
theorem dX7_then_45 : decode cX7_then 45 = .ok (.istore 7, 2) := by decide +kernel
theorem dX7_then_47 : decode cX7_then 47 = .ok (.iload 7, 2) := by decide +kernel
theorem dX7_then_49 : decode cX7_then 49 = .ok (.iconst (-1), 1) := by decide +kernel
theorem dX7_then_50 : decode cX7_then 50 = .ok (.if_icmp .eq 35, 3) := by decide +kernel
theorem dX7_then_53 : decode cX7_then 53 = .ok (.aload_n 0, 1) := by decide +kernel
theorem dX7_then_54 : decode cX7_then 54 = .ok (.iload 7, 2) := by decide +kernel
theorem dX7_then_56 : decode cX7_then 56 = .ok (.iload_n 1, 1) := by decide +kernel
theorem dX7_then_57 : decode cX7_then 57 = .ok (.aload_n 0, 1) := by decide +kernel
theorem dX7_then_58 : decode cX7_then 58 = .ok (.getfield 40, 3) := by decide +kernel
theorem dX7_then_61 : decode cX7_then 61 = .ok (.iload 6, 2) := by decide +kernel
theorem dX7_then_63 : decode cX7_then 63 = .ok (.iaload, 1) := by decide +kernel
theorem dX7_then_64 : decode cX7_then 64 = .ok (.iload_n 3, 1) := by decide +kernel
theorem dX7_then_65 : decode cX7_then 65 = .ok (.invokevirtual 131, 3) := by decide +kernel
theorem dX7_then_68 : decode cX7_then 68 = .ok (.iload_n 2, 1) := by decide +kernel
theorem dX7_then_69 : decode cX7_then 69 = .ok (.if_icmp .ne 16, 3) := by decide +kernel
theorem dX7_then_72 : decode cX7_then 72 = .ok (.lload 4, 2) := by decide +kernel
theorem dX7_then_74 : decode cX7_then 74 = .ok (.aload_n 0, 1) := by decide +kernel
theorem dX7_then_75 : decode cX7_then 75 = .ok (.getfield 43, 3) := by decide +kernel
theorem dX7_then_78 : decode cX7_then 78 = .ok (.iload 6, 2) := by decide +kernel
theorem dX7_then_80 : decode cX7_then 80 = .ok (.iaload, 1) := by decide +kernel
theorem dX7_then_81 : decode cX7_then 81 = .ok (.i2l, 1) := by decide +kernel
theorem dX7_then_82 : decode cX7_then 82 = .ok (.ladd, 1) := by decide +kernel
theorem dX7_then_83 : decode cX7_then 83 = .ok (.lstore 4, 2) := by decide +kernel
theorem dX7_then_85 : decode cX7_then 85 = .ok (.iinc 6 1, 3) := by decide +kernel
theorem dX7_then_88 : decode cX7_then 88 = .ok (.goto (-82), 3) := by decide +kernel
theorem dX7_then_91 : decode cX7_then 91 = .ok (.lload 4, 2) := by decide +kernel
theorem dX7_then_93 : decode cX7_then 93 = .ok (.lreturn, 1) := by decide +kernel
theorem dX7_carried_0 : decode cX7_carried 0 = .ok (.aload_n 0, 1) := by decide +kernel
theorem dX7_carried_1 : decode cX7_carried 1 = .ok (.iload_n 2, 1) := by decide +kernel
theorem dX7_carried_2 : decode cX7_carried 2 = .ok (.iload_n 3, 1) := by decide +kernel
theorem dX7_carried_3 : decode cX7_carried 3 = .ok (.iload 4, 2) := by decide +kernel
theorem dX7_carried_5 : decode cX7_carried 5 = .ok (.invokevirtual 88, 3) := by decide +kernel
theorem dX7_carried_8 : decode cX7_carried 8 = .ok (.ifCond .eq 31, 3) := by decide +kernel
theorem dX7_carried_11 : decode cX7_carried 11 = .ok (.iload 5, 2) := by decide +kernel
theorem dX7_carried_13 : decode cX7_carried 13 = .ok (.iconst (-1), 1) := by decide +kernel
theorem dX7_carried_14 : decode cX7_carried 14 = .ok (.if_icmp .eq 23, 3) := by decide +kernel
theorem dX7_carried_17 : decode cX7_carried 17 = .ok (.aload_n 0, 1) := by decide +kernel
theorem dX7_carried_18 : decode cX7_carried 18 = .ok (.iload_n 2, 1) := by decide +kernel
theorem dX7_carried_19 : decode cX7_carried 19 = .ok (.iload 5, 2) := by decide +kernel
theorem dX7_carried_21 : decode cX7_carried 21 = .ok (.iload_n 3, 1) := by decide +kernel
theorem dX7_carried_22 : decode cX7_carried 22 = .ok (.iload 4, 2) := by decide +kernel
theorem dX7_carried_24 : decode cX7_carried 24 = .ok (.invokevirtual 131, 3) := by decide +kernel
theorem dX7_carried_27 : decode cX7_carried 27 = .ok (.iload 6, 2) := by decide +kernel
theorem dX7_carried_29 : decode cX7_carried 29 = .ok (.if_icmp .ne 8, 3) := by decide +kernel
theorem dX7_carried_32 : decode cX7_carried 32 = .ok (.iload_n 1, 1) := by decide +kernel
theorem dX7_carried_33 : decode cX7_carried 33 = .ok (.i2l, 1) := by decide +kernel
theorem dX7_carried_34 : decode cX7_carried 34 = .ok (.goto 4, 3) := by decide +kernel
theorem dX7_carried_37 : decode cX7_carried 37 = .ok (.lconst 0, 1) := by decide +kernel
theorem dX7_carried_38 : decode cX7_carried 38 = .ok (.lreturn, 1) := by decide +kernel
theorem dX7_carried_39 : decode cX7_carried 39 = .ok (.iload_n 3, 1) := by decide +kernel
theorem dX7_carried_40 : decode cX7_carried 40 = .ok (.aload_n 0, 1) := by decide +kernel
theorem dX7_carried_41 : decode cX7_carried 41 = .ok (.getfield 13, 3) := by decide +kernel
theorem dX7_carried_44 : decode cX7_carried 44 = .ok (.iload_n 2, 1) := by decide +kernel
theorem dX7_carried_45 : decode cX7_carried 45 = .ok (.iaload, 1) := by decide +kernel
theorem dX7_carried_46 : decode cX7_carried 46 = .ok (.if_icmp .lt 18, 3) := by decide +kernel
theorem dX7_carried_49 : decode cX7_carried 49 = .ok (.aload_n 0, 1) := by decide +kernel
theorem dX7_carried_50 : decode cX7_carried 50 = .ok (.iload_n 2, 1) := by decide +kernel
theorem dX7_carried_51 : decode cX7_carried 51 = .ok (.iload 4, 2) := by decide +kernel
theorem dX7_carried_53 : decode cX7_carried 53 = .ok (.invokevirtual 84, 3) := by decide +kernel
theorem dX7_carried_56 : decode cX7_carried 56 = .ok (.iload_n 3, 1) := by decide +kernel
theorem dX7_carried_57 : decode cX7_carried 57 = .ok (.if_icmp .gt 7, 3) := by decide +kernel
theorem dX7_carried_60 : decode cX7_carried 60 = .ok (.iconst 1, 1) := by decide +kernel
theorem dX7_carried_61 : decode cX7_carried 61 = .ok (.goto 4, 3) := by decide +kernel
theorem dX7_carried_64 : decode cX7_carried 64 = .ok (.iconst 0, 1) := by decide +kernel
theorem dX7_carried_65 : decode cX7_carried 65 = .ok (.istore 7, 2) := by decide +kernel
theorem dX7_carried_67 : decode cX7_carried 67 = .ok (.iload 7, 2) := by decide +kernel
theorem dX7_carried_69 : decode cX7_carried 69 = .ok (.ifCond .eq 74, 3) := by decide +kernel
theorem dX7_carried_72 : decode cX7_carried 72 = .ok (.aload_n 0, 1) := by decide +kernel
theorem dX7_carried_73 : decode cX7_carried 73 = .ok (.getfield 25, 3) := by decide +kernel
theorem dX7_carried_76 : decode cX7_carried 76 = .ok (.iload_n 2, 1) := by decide +kernel
theorem dX7_carried_77 : decode cX7_carried 77 = .ok (.iaload, 1) := by decide +kernel
theorem dX7_carried_78 : decode cX7_carried 78 = .ok (.iconst 2, 1) := by decide +kernel
theorem dX7_carried_79 : decode cX7_carried 79 = .ok (.if_icmp .ne 64, 3) := by decide +kernel
theorem dX7_carried_82 : decode cX7_carried 82 = .ok (.iload_n 1, 1) := by decide +kernel
theorem dX7_carried_83 : decode cX7_carried 83 = .ok (.aload_n 0, 1) := by decide +kernel
theorem dX7_carried_84 : decode cX7_carried 84 = .ok (.getfield 31, 3) := by decide +kernel
theorem dX7_carried_87 : decode cX7_carried 87 = .ok (.iload_n 2, 1) := by decide +kernel
theorem dX7_carried_88 : decode cX7_carried 88 = .ok (.iaload, 1) := by decide +kernel
theorem dX7_carried_89 : decode cX7_carried 89 = .ok (.imul, 1) := by decide +kernel
theorem dX7_carried_90 : decode cX7_carried 90 = .ok (.aload_n 0, 1) := by decide +kernel
theorem dX7_carried_91 : decode cX7_carried 91 = .ok (.getfield 34, 3) := by decide +kernel
theorem dX7_carried_94 : decode cX7_carried 94 = .ok (.iload_n 2, 1) := by decide +kernel
theorem dX7_carried_95 : decode cX7_carried 95 = .ok (.iaload, 1) := by decide +kernel
theorem dX7_carried_96 : decode cX7_carried 96 = .ok (.idiv, 1) := by decide +kernel
theorem dX7_carried_97 : decode cX7_carried 97 = .ok (.istore 8, 2) := by decide +kernel
theorem dX7_carried_99 : decode cX7_carried 99 = .ok (.aload_n 0, 1) := by decide +kernel
theorem dX7_carried_100 : decode cX7_carried 100 = .ok (.iload 8, 2) := by decide +kernel
theorem dX7_carried_102 : decode cX7_carried 102 = .ok (.aload_n 0, 1) := by decide +kernel
theorem dX7_carried_103 : decode cX7_carried 103 = .ok (.getfield 28, 3) := by decide +kernel
theorem dX7_carried_106 : decode cX7_carried 106 = .ok (.iload_n 2, 1) := by decide +kernel
theorem dX7_carried_107 : decode cX7_carried 107 = .ok (.iaload, 1) := by decide +kernel
theorem dX7_carried_108 : decode cX7_carried 108 = .ok (.iload_n 3, 1) := by decide +kernel
theorem dX7_carried_109 : decode cX7_carried 109 = .ok (.iload 4, 2) := by decide +kernel
theorem dX7_carried_111 : decode cX7_carried 111 = .ok (.iload 5, 2) := by decide +kernel
theorem dX7_carried_113 : decode cX7_carried 113 = .ok (.iload 6, 2) := by decide +kernel
theorem dX7_carried_115 : decode cX7_carried 115 = .ok (.invokevirtual 158, 3) := by decide +kernel
theorem dX7_carried_118 : decode cX7_carried 118 = .ok (.aload_n 0, 1) := by decide +kernel
theorem dX7_carried_119 : decode cX7_carried 119 = .ok (.iload_n 1, 1) := by decide +kernel
theorem dX7_carried_120 : decode cX7_carried 120 = .ok (.iload 8, 2) := by decide +kernel
theorem dX7_carried_122 : decode cX7_carried 122 = .ok (.isub, 1) := by decide +kernel
theorem dX7_carried_123 : decode cX7_carried 123 = .ok (.aload_n 0, 1) := by decide +kernel
theorem dX7_carried_124 : decode cX7_carried 124 = .ok (.getfield 28, 3) := by decide +kernel
theorem dX7_carried_127 : decode cX7_carried 127 = .ok (.iload_n 2, 1) := by decide +kernel
theorem dX7_carried_128 : decode cX7_carried 128 = .ok (.iaload, 1) := by decide +kernel
theorem dX7_carried_129 : decode cX7_carried 129 = .ok (.iconst 1, 1) := by decide +kernel
theorem dX7_carried_130 : decode cX7_carried 130 = .ok (.iadd, 1) := by decide +kernel
theorem dX7_carried_131 : decode cX7_carried 131 = .ok (.iload_n 3, 1) := by decide +kernel
theorem dX7_carried_132 : decode cX7_carried 132 = .ok (.iload 4, 2) := by decide +kernel
theorem dX7_carried_134 : decode cX7_carried 134 = .ok (.iload 5, 2) := by decide +kernel
theorem dX7_carried_136 : decode cX7_carried 136 = .ok (.iload 6, 2) := by decide +kernel
theorem dX7_carried_138 : decode cX7_carried 138 = .ok (.invokevirtual 158, 3) := by decide +kernel
theorem dX7_carried_141 : decode cX7_carried 141 = .ok (.ladd, 1) := by decide +kernel
theorem dX7_carried_142 : decode cX7_carried 142 = .ok (.lreturn, 1) := by decide +kernel
theorem dX7_carried_143 : decode cX7_carried 143 = .ok (.iload 7, 2) := by decide +kernel
theorem dX7_carried_145 : decode cX7_carried 145 = .ok (.ifCond .eq 32, 3) := by decide +kernel
theorem dX7_carried_148 : decode cX7_carried 148 = .ok (.aload_n 0, 1) := by decide +kernel
theorem dX7_carried_149 : decode cX7_carried 149 = .ok (.getfield 25, 3) := by decide +kernel
theorem dX7_carried_152 : decode cX7_carried 152 = .ok (.iload_n 2, 1) := by decide +kernel
theorem dX7_carried_153 : decode cX7_carried 153 = .ok (.iaload, 1) := by decide +kernel
theorem dX7_carried_154 : decode cX7_carried 154 = .ok (.iconst 3, 1) := by decide +kernel
theorem dX7_carried_155 : decode cX7_carried 155 = .ok (.if_icmp .ne 22, 3) := by decide +kernel
theorem dX7_carried_158 : decode cX7_carried 158 = .ok (.aload_n 0, 1) := by decide +kernel
theorem dX7_carried_159 : decode cX7_carried 159 = .ok (.iload_n 1, 1) := by decide +kernel
theorem dX7_carried_160 : decode cX7_carried 160 = .ok (.aload_n 0, 1) := by decide +kernel
theorem dX7_carried_161 : decode cX7_carried 161 = .ok (.getfield 28, 3) := by decide +kernel
theorem dX7_carried_164 : decode cX7_carried 164 = .ok (.iload_n 2, 1) := by decide +kernel
theorem dX7_carried_165 : decode cX7_carried 165 = .ok (.iaload, 1) := by decide +kernel
theorem dX7_carried_166 : decode cX7_carried 166 = .ok (.iload_n 3, 1) := by decide +kernel
theorem dX7_carried_167 : decode cX7_carried 167 = .ok (.iload 4, 2) := by decide +kernel
theorem dX7_carried_169 : decode cX7_carried 169 = .ok (.iload 5, 2) := by decide +kernel
theorem dX7_carried_171 : decode cX7_carried 171 = .ok (.iload 6, 2) := by decide +kernel
theorem dX7_carried_173 : decode cX7_carried 173 = .ok (.invokevirtual 158, 3) := by decide +kernel
theorem dX7_carried_176 : decode cX7_carried 176 = .ok (.lreturn, 1) := by decide +kernel
theorem dX7_carried_177 : decode cX7_carried 177 = .ok (.iload 5, 2) := by decide +kernel
theorem dX7_carried_179 : decode cX7_carried 179 = .ok (.iconst (-1), 1) := by decide +kernel
theorem dX7_carried_180 : decode cX7_carried 180 = .ok (.if_icmp .ne 8, 3) := by decide +kernel
theorem dX7_carried_183 : decode cX7_carried 183 = .ok (.iload_n 1, 1) := by decide +kernel
theorem dX7_carried_184 : decode cX7_carried 184 = .ok (.i2l, 1) := by decide +kernel
theorem dX7_carried_185 : decode cX7_carried 185 = .ok (.goto 4, 3) := by decide +kernel
theorem dX7_carried_188 : decode cX7_carried 188 = .ok (.lconst 0, 1) := by decide +kernel
theorem dX7_carried_189 : decode cX7_carried 189 = .ok (.lreturn, 1) := by decide +kernel
theorem dX7_allCarried_0 : decode cX7_allCarried 0 = .ok (.lconst 0, 1) := by decide +kernel
theorem dX7_allCarried_1 : decode cX7_allCarried 1 = .ok (.lstore 5, 2) := by decide +kernel
theorem dX7_allCarried_3 : decode cX7_allCarried 3 = .ok (.iconst 0, 1) := by decide +kernel
theorem dX7_allCarried_4 : decode cX7_allCarried 4 = .ok (.istore 7, 2) := by decide +kernel
theorem dX7_allCarried_6 : decode cX7_allCarried 6 = .ok (.iload 7, 2) := by decide +kernel
theorem dX7_allCarried_8 : decode cX7_allCarried 8 = .ok (.aload_n 0, 1) := by decide +kernel
theorem dX7_allCarried_9 : decode cX7_allCarried 9 = .ok (.getfield 142, 3) := by decide +kernel
theorem dX7_allCarried_12 : decode cX7_allCarried 12 = .ok (.if_icmp .ge 60, 3) := by decide +kernel
theorem dX7_allCarried_15 : decode cX7_allCarried 15 = .ok (.aload_n 0, 1) := by decide +kernel
theorem dX7_allCarried_16 : decode cX7_allCarried 16 = .ok (.iload 7, 2) := by decide +kernel
theorem dX7_allCarried_18 : decode cX7_allCarried 18 = .ok (.iload_n 2, 1) := by decide +kernel
theorem dX7_allCarried_19 : decode cX7_allCarried 19 = .ok (.invokevirtual 149, 3) := by decide +kernel
theorem dX7_allCarried_22 : decode cX7_allCarried 22 = .ok (.ifCond .ne 6, 3) := by decide +kernel
theorem dX7_allCarried_25 : decode cX7_allCarried 25 = .ok (.goto 41, 3) := by decide +kernel
theorem dX7_allCarried_28 : decode cX7_allCarried 28 = .ok (.aload_n 0, 1) := by decide +kernel
theorem dX7_allCarried_29 : decode cX7_allCarried 29 = .ok (.iload 7, 2) := by decide +kernel
theorem dX7_allCarried_31 : decode cX7_allCarried 31 = .ok (.iload_n 2, 1) := by decide +kernel
theorem dX7_allCarried_32 : decode cX7_allCarried 32 = .ok (.invokevirtual 152, 3) := by decide +kernel
theorem dX7_allCarried_35 : decode cX7_allCarried 35 = .ok (.istore 8, 2) := by decide +kernel
theorem dX7_allCarried_37 : decode cX7_allCarried 37 = .ok (.iload 8, 2) := by decide +kernel
theorem dX7_allCarried_39 : decode cX7_allCarried 39 = .ok (.iconst (-1), 1) := by decide +kernel
theorem dX7_allCarried_40 : decode cX7_allCarried 40 = .ok (.if_icmp .eq 26, 3) := by decide +kernel
theorem dX7_allCarried_43 : decode cX7_allCarried 43 = .ok (.lload 5, 2) := by decide +kernel
theorem dX7_allCarried_45 : decode cX7_allCarried 45 = .ok (.aload_n 0, 1) := by decide +kernel
theorem dX7_allCarried_46 : decode cX7_allCarried 46 = .ok (.aload_n 0, 1) := by decide +kernel
theorem dX7_allCarried_47 : decode cX7_allCarried 47 = .ok (.getfield 43, 3) := by decide +kernel
theorem dX7_allCarried_50 : decode cX7_allCarried 50 = .ok (.iload 7, 2) := by decide +kernel
theorem dX7_allCarried_52 : decode cX7_allCarried 52 = .ok (.iaload, 1) := by decide +kernel
theorem dX7_allCarried_53 : decode cX7_allCarried 53 = .ok (.iload 8, 2) := by decide +kernel
theorem dX7_allCarried_55 : decode cX7_allCarried 55 = .ok (.iload_n 1, 1) := by decide +kernel
theorem dX7_allCarried_56 : decode cX7_allCarried 56 = .ok (.iload_n 2, 1) := by decide +kernel
theorem dX7_allCarried_57 : decode cX7_allCarried 57 = .ok (.iload_n 3, 1) := by decide +kernel
theorem dX7_allCarried_58 : decode cX7_allCarried 58 = .ok (.iload 4, 2) := by decide +kernel
theorem dX7_allCarried_60 : decode cX7_allCarried 60 = .ok (.invokevirtual 158, 3) := by decide +kernel
theorem dX7_allCarried_63 : decode cX7_allCarried 63 = .ok (.ladd, 1) := by decide +kernel
theorem dX7_allCarried_64 : decode cX7_allCarried 64 = .ok (.lstore 5, 2) := by decide +kernel
theorem dX7_allCarried_66 : decode cX7_allCarried 66 = .ok (.iinc 7 1, 3) := by decide +kernel
theorem dX7_allCarried_69 : decode cX7_allCarried 69 = .ok (.goto (-63), 3) := by decide +kernel
theorem dX7_allCarried_72 : decode cX7_allCarried 72 = .ok (.lload 5, 2) := by decide +kernel
theorem dX7_allCarried_74 : decode cX7_allCarried 74 = .ok (.lreturn, 1) := by decide +kernel
theorem dX7_by_0 : decode cX7_by 0 = .ok (.aload_n 0, 1) := by decide +kernel
theorem dX7_by_1 : decode cX7_by 1 = .ok (.iload_n 1, 1) := by decide +kernel
theorem dX7_by_2 : decode cX7_by 2 = .ok (.iload_n 2, 1) := by decide +kernel
theorem dX7_by_3 : decode cX7_by 3 = .ok (.iload 4, 2) := by decide +kernel
theorem dX7_by_5 : decode cX7_by 5 = .ok (.invokevirtual 155, 3) := by decide +kernel
theorem dX7_by_8 : decode cX7_by 8 = .ok (.ifCond .eq 22, 3) := by decide +kernel
theorem dX7_by_11 : decode cX7_by 11 = .ok (.iload_n 3, 1) := by decide +kernel
theorem dX7_by_12 : decode cX7_by 12 = .ok (.invokestatic 95, 3) := by decide +kernel
theorem dX7_by_15 : decode cX7_by 15 = .ok (.ifCond .eq 15, 3) := by decide +kernel
theorem dX7_by_18 : decode cX7_by 18 = .ok (.aload_n 0, 1) := by decide +kernel
theorem dX7_by_19 : decode cX7_by 19 = .ok (.iload_n 3, 1) := by decide +kernel
theorem dX7_by_20 : decode cX7_by 20 = .ok (.iload 4, 2) := by decide +kernel
theorem dX7_by_22 : decode cX7_by 22 = .ok (.iload_n 1, 1) := by decide +kernel
theorem dX7_by_23 : decode cX7_by 23 = .ok (.iload_n 2, 1) := by decide +kernel
theorem dX7_by_24 : decode cX7_by 24 = .ok (.invokevirtual 162, 3) := by decide +kernel
theorem dX7_by_27 : decode cX7_by 27 = .ok (.goto 4, 3) := by decide +kernel
theorem dX7_by_30 : decode cX7_by 30 = .ok (.lconst 0, 1) := by decide +kernel
theorem dX7_by_31 : decode cX7_by 31 = .ok (.lreturn, 1) := by decide +kernel
theorem dX7_sum_0 : decode cX7_sum 0 = .ok (.iload_n 1, 1) := by decide +kernel
theorem dX7_sum_1 : decode cX7_sum 1 = .ok (.iconst 0, 1) := by decide +kernel
theorem dX7_sum_2 : decode cX7_sum 2 = .ok (.iconst 2, 1) := by decide +kernel
theorem dX7_sum_3 : decode cX7_sum 3 = .ok (.invokestatic 73, 3) := by decide +kernel
theorem dX7_sum_6 : decode cX7_sum 6 = .ok (.ifCond .eq 17, 3) := by decide +kernel
theorem dX7_sum_9 : decode cX7_sum 9 = .ok (.iload_n 2, 1) := by decide +kernel
theorem dX7_sum_10 : decode cX7_sum 10 = .ok (.invokestatic 95, 3) := by decide +kernel
theorem dX7_sum_13 : decode cX7_sum 13 = .ok (.ifCond .eq 10, 3) := by decide +kernel
theorem dX7_sum_16 : decode cX7_sum 16 = .ok (.iload_n 3, 1) := by decide +kernel
theorem dX7_sum_17 : decode cX7_sum 17 = .ok (.invokestatic 95, 3) := by decide +kernel
theorem dX7_sum_20 : decode cX7_sum 20 = .ok (.ifCond .ne 5, 3) := by decide +kernel
theorem dX7_sum_23 : decode cX7_sum 23 = .ok (.lconst 0, 1) := by decide +kernel
theorem dX7_sum_24 : decode cX7_sum 24 = .ok (.lreturn, 1) := by decide +kernel
theorem dX7_sum_25 : decode cX7_sum 25 = .ok (.iload_n 1, 1) := by decide +kernel
theorem dX7_sum_26 : decode cX7_sum 26 = .ok (.iconst 2, 1) := by decide +kernel
theorem dX7_sum_27 : decode cX7_sum 27 = .ok (.if_icmp .ne 12, 3) := by decide +kernel
theorem dX7_sum_30 : decode cX7_sum 30 = .ok (.aload_n 0, 1) := by decide +kernel
theorem dX7_sum_31 : decode cX7_sum 31 = .ok (.iload_n 2, 1) := by decide +kernel
theorem dX7_sum_32 : decode cX7_sum 32 = .ok (.iload_n 3, 1) := by decide +kernel
theorem dX7_sum_33 : decode cX7_sum 33 = .ok (.iconst (-1), 1) := by decide +kernel
theorem dX7_sum_34 : decode cX7_sum 34 = .ok (.iconst 0, 1) := by decide +kernel
theorem dX7_sum_35 : decode cX7_sum 35 = .ok (.invokevirtual 162, 3) := by decide +kernel
theorem dX7_sum_38 : decode cX7_sum 38 = .ok (.lreturn, 1) := by decide +kernel
theorem dX7_sum_39 : decode cX7_sum 39 = .ok (.lconst 0, 1) := by decide +kernel
theorem dX7_sum_40 : decode cX7_sum 40 = .ok (.lstore 4, 2) := by decide +kernel
theorem dX7_sum_42 : decode cX7_sum 42 = .ok (.iconst 0, 1) := by decide +kernel
theorem dX7_sum_43 : decode cX7_sum 43 = .ok (.istore 6, 2) := by decide +kernel
theorem dX7_sum_45 : decode cX7_sum 45 = .ok (.iload 6, 2) := by decide +kernel
theorem dX7_sum_47 : decode cX7_sum 47 = .ok (.aload_n 0, 1) := by decide +kernel
theorem dX7_sum_48 : decode cX7_sum 48 = .ok (.getfield 142, 3) := by decide +kernel
theorem dX7_sum_51 : decode cX7_sum 51 = .ok (.if_icmp .ge 51, 3) := by decide +kernel
theorem dX7_sum_54 : decode cX7_sum 54 = .ok (.lload 4, 2) := by decide +kernel
theorem dX7_sum_56 : decode cX7_sum 56 = .ok (.aload_n 0, 1) := by decide +kernel
theorem dX7_sum_57 : decode cX7_sum 57 = .ok (.iload 6, 2) := by decide +kernel
theorem dX7_sum_59 : decode cX7_sum 59 = .ok (.iload_n 3, 1) := by decide +kernel
theorem dX7_sum_60 : decode cX7_sum 60 = .ok (.invokevirtual 149, 3) := by decide +kernel
theorem dX7_sum_63 : decode cX7_sum 63 = .ok (.ifCond .eq 29, 3) := by decide +kernel
theorem dX7_sum_66 : decode cX7_sum 66 = .ok (.iload_n 1, 1) := by decide +kernel
theorem dX7_sum_67 : decode cX7_sum 67 = .ok (.ifCond .eq 14, 3) := by decide +kernel
theorem dX7_sum_70 : decode cX7_sum 70 = .ok (.aload_n 0, 1) := by decide +kernel
theorem dX7_sum_71 : decode cX7_sum 71 = .ok (.iload 6, 2) := by decide +kernel
theorem dX7_sum_73 : decode cX7_sum 73 = .ok (.iload_n 3, 1) := by decide +kernel
theorem dX7_sum_74 : decode cX7_sum 74 = .ok (.invokevirtual 152, 3) := by decide +kernel
theorem dX7_sum_77 : decode cX7_sum 77 = .ok (.iconst (-1), 1) := by decide +kernel
theorem dX7_sum_78 : decode cX7_sum 78 = .ok (.if_icmp .ne 14, 3) := by decide +kernel
theorem dX7_sum_81 : decode cX7_sum 81 = .ok (.aload_n 0, 1) := by decide +kernel
theorem dX7_sum_82 : decode cX7_sum 82 = .ok (.getfield 43, 3) := by decide +kernel
theorem dX7_sum_85 : decode cX7_sum 85 = .ok (.iload 6, 2) := by decide +kernel
theorem dX7_sum_87 : decode cX7_sum 87 = .ok (.iaload, 1) := by decide +kernel
theorem dX7_sum_88 : decode cX7_sum 88 = .ok (.i2l, 1) := by decide +kernel
theorem dX7_sum_89 : decode cX7_sum 89 = .ok (.goto 4, 3) := by decide +kernel
theorem dX7_sum_92 : decode cX7_sum 92 = .ok (.lconst 0, 1) := by decide +kernel
theorem dX7_sum_93 : decode cX7_sum 93 = .ok (.ladd, 1) := by decide +kernel
theorem dX7_sum_94 : decode cX7_sum 94 = .ok (.lstore 4, 2) := by decide +kernel
theorem dX7_sum_96 : decode cX7_sum 96 = .ok (.iinc 6 1, 3) := by decide +kernel
theorem dX7_sum_99 : decode cX7_sum 99 = .ok (.goto (-54), 3) := by decide +kernel
theorem dX7_sum_102 : decode cX7_sum 102 = .ok (.lload 4, 2) := by decide +kernel
theorem dX7_sum_104 : decode cX7_sum 104 = .ok (.lreturn, 1) := by decide +kernel
theorem dX7_compare_0 : decode cX7_compare 0 = .ok (.iload_n 1, 1) := by decide +kernel
theorem dX7_compare_1 : decode cX7_compare 1 = .ok (.invokestatic 119, 3) := by decide +kernel
theorem dX7_compare_4 : decode cX7_compare 4 = .ok (.ifCond .eq 35, 3) := by decide +kernel
theorem dX7_compare_7 : decode cX7_compare 7 = .ok (.iload_n 2, 1) := by decide +kernel
theorem dX7_compare_8 : decode cX7_compare 8 = .ok (.invokestatic 95, 3) := by decide +kernel
theorem dX7_compare_11 : decode cX7_compare 11 = .ok (.ifCond .eq 28, 3) := by decide +kernel
theorem dX7_compare_14 : decode cX7_compare 14 = .ok (.iload_n 3, 1) := by decide +kernel
theorem dX7_compare_15 : decode cX7_compare 15 = .ok (.invokestatic 95, 3) := by decide +kernel
theorem dX7_compare_18 : decode cX7_compare 18 = .ok (.ifCond .eq 21, 3) := by decide +kernel
theorem dX7_compare_21 : decode cX7_compare 21 = .ok (.iload 4, 2) := by decide +kernel
theorem dX7_compare_23 : decode cX7_compare 23 = .ok (.invokestatic 95, 3) := by decide +kernel
theorem dX7_compare_26 : decode cX7_compare 26 = .ok (.ifCond .eq 13, 3) := by decide +kernel
theorem dX7_compare_29 : decode cX7_compare 29 = .ok (.iload 5, 2) := by decide +kernel
theorem dX7_compare_31 : decode cX7_compare 31 = .ok (.iconst 0, 1) := by decide +kernel
theorem dX7_compare_32 : decode cX7_compare 32 = .ok (.iconst 3, 1) := by decide +kernel
theorem dX7_compare_33 : decode cX7_compare 33 = .ok (.invokestatic 73, 3) := by decide +kernel
theorem dX7_compare_36 : decode cX7_compare 36 = .ok (.ifCond .ne 5, 3) := by decide +kernel
theorem dX7_compare_39 : decode cX7_compare 39 = .ok (.iconst (-1), 1) := by decide +kernel
theorem dX7_compare_40 : decode cX7_compare 40 = .ok (.ireturn, 1) := by decide +kernel
theorem dX7_compare_41 : decode cX7_compare 41 = .ok (.iconst 0, 1) := by decide +kernel
theorem dX7_compare_42 : decode cX7_compare 42 = .ok (.istore 6, 2) := by decide +kernel
theorem dX7_compare_44 : decode cX7_compare 44 = .ok (.iconst 0, 1) := by decide +kernel
theorem dX7_compare_45 : decode cX7_compare 45 = .ok (.istore 7, 2) := by decide +kernel
theorem dX7_compare_47 : decode cX7_compare 47 = .ok (.iload 7, 2) := by decide +kernel
theorem dX7_compare_49 : decode cX7_compare 49 = .ok (.aload_n 0, 1) := by decide +kernel
theorem dX7_compare_50 : decode cX7_compare 50 = .ok (.getfield 77, 3) := by decide +kernel
theorem dX7_compare_53 : decode cX7_compare 53 = .ok (.if_icmp .ge 158, 3) := by decide +kernel
theorem dX7_compare_56 : decode cX7_compare 56 = .ok (.aload_n 0, 1) := by decide +kernel
theorem dX7_compare_57 : decode cX7_compare 57 = .ok (.iload 7, 2) := by decide +kernel
theorem dX7_compare_59 : decode cX7_compare 59 = .ok (.iload_n 2, 1) := by decide +kernel
theorem dX7_compare_60 : decode cX7_compare 60 = .ok (.iload 4, 2) := by decide +kernel
theorem dX7_compare_62 : decode cX7_compare 62 = .ok (.invokevirtual 88, 3) := by decide +kernel
theorem dX7_compare_65 : decode cX7_compare 65 = .ok (.istore 8, 2) := by decide +kernel
theorem dX7_compare_67 : decode cX7_compare 67 = .ok (.aload_n 0, 1) := by decide +kernel
theorem dX7_compare_68 : decode cX7_compare 68 = .ok (.iload 7, 2) := by decide +kernel
theorem dX7_compare_70 : decode cX7_compare 70 = .ok (.iload_n 3, 1) := by decide +kernel
theorem dX7_compare_71 : decode cX7_compare 71 = .ok (.iload 4, 2) := by decide +kernel
theorem dX7_compare_73 : decode cX7_compare 73 = .ok (.invokevirtual 88, 3) := by decide +kernel
theorem dX7_compare_76 : decode cX7_compare 76 = .ok (.istore 9, 2) := by decide +kernel
theorem dX7_compare_78 : decode cX7_compare 78 = .ok (.iload 8, 2) := by decide +kernel
theorem dX7_compare_80 : decode cX7_compare 80 = .ok (.ifCond .eq 41, 3) := by decide +kernel
theorem dX7_compare_83 : decode cX7_compare 83 = .ok (.iload 9, 2) := by decide +kernel
theorem dX7_compare_85 : decode cX7_compare 85 = .ok (.ifCond .eq 36, 3) := by decide +kernel
theorem dX7_compare_88 : decode cX7_compare 88 = .ok (.iload 5, 2) := by decide +kernel
theorem dX7_compare_90 : decode cX7_compare 90 = .ok (.iconst 3, 1) := by decide +kernel
theorem dX7_compare_91 : decode cX7_compare 91 = .ok (.if_icmp .ne 30, 3) := by decide +kernel
theorem dX7_compare_94 : decode cX7_compare 94 = .ok (.aload_n 0, 1) := by decide +kernel
theorem dX7_compare_95 : decode cX7_compare 95 = .ok (.iload 7, 2) := by decide +kernel
theorem dX7_compare_97 : decode cX7_compare 97 = .ok (.iload_n 1, 1) := by decide +kernel
theorem dX7_compare_98 : decode cX7_compare 98 = .ok (.iload_n 2, 1) := by decide +kernel
theorem dX7_compare_99 : decode cX7_compare 99 = .ok (.iload 4, 2) := by decide +kernel
theorem dX7_compare_101 : decode cX7_compare 101 = .ok (.invokevirtual 131, 3) := by decide +kernel
theorem dX7_compare_104 : decode cX7_compare 104 = .ok (.aload_n 0, 1) := by decide +kernel
theorem dX7_compare_105 : decode cX7_compare 105 = .ok (.iload 7, 2) := by decide +kernel
theorem dX7_compare_107 : decode cX7_compare 107 = .ok (.iload_n 1, 1) := by decide +kernel
theorem dX7_compare_108 : decode cX7_compare 108 = .ok (.iload_n 3, 1) := by decide +kernel
theorem dX7_compare_109 : decode cX7_compare 109 = .ok (.iload 4, 2) := by decide +kernel
theorem dX7_compare_111 : decode cX7_compare 111 = .ok (.invokevirtual 131, 3) := by decide +kernel
theorem dX7_compare_114 : decode cX7_compare 114 = .ok (.if_icmp .eq 7, 3) := by decide +kernel
theorem dX7_compare_117 : decode cX7_compare 117 = .ok (.iconst 1, 1) := by decide +kernel
theorem dX7_compare_118 : decode cX7_compare 118 = .ok (.goto 4, 3) := by decide +kernel
theorem dX7_compare_121 : decode cX7_compare 121 = .ok (.iconst 0, 1) := by decide +kernel
theorem dX7_compare_122 : decode cX7_compare 122 = .ok (.istore 10, 2) := by decide +kernel
theorem dX7_compare_124 : decode cX7_compare 124 = .ok (.iload 6, 2) := by decide +kernel
theorem dX7_compare_126 : decode cX7_compare 126 = .ok (.iload 5, 2) := by decide +kernel
theorem dX7_compare_128 : decode cX7_compare 128 = .ok (.ifCond .ne 21, 3) := by decide +kernel
theorem dX7_compare_131 : decode cX7_compare 131 = .ok (.iload 8, 2) := by decide +kernel
theorem dX7_compare_133 : decode cX7_compare 133 = .ok (.ifCond .eq 12, 3) := by decide +kernel
theorem dX7_compare_136 : decode cX7_compare 136 = .ok (.iload 9, 2) := by decide +kernel
theorem dX7_compare_138 : decode cX7_compare 138 = .ok (.ifCond .eq 7, 3) := by decide +kernel
theorem dX7_compare_141 : decode cX7_compare 141 = .ok (.iconst 1, 1) := by decide +kernel
theorem dX7_compare_142 : decode cX7_compare 142 = .ok (.goto 57, 3) := by decide +kernel
theorem dX7_compare_145 : decode cX7_compare 145 = .ok (.iconst 0, 1) := by decide +kernel
theorem dX7_compare_146 : decode cX7_compare 146 = .ok (.goto 53, 3) := by decide +kernel
theorem dX7_compare_149 : decode cX7_compare 149 = .ok (.iload 5, 2) := by decide +kernel
theorem dX7_compare_151 : decode cX7_compare 151 = .ok (.iconst 1, 1) := by decide +kernel
theorem dX7_compare_152 : decode cX7_compare 152 = .ok (.if_icmp .ne 21, 3) := by decide +kernel
theorem dX7_compare_155 : decode cX7_compare 155 = .ok (.iload 9, 2) := by decide +kernel
theorem dX7_compare_157 : decode cX7_compare 157 = .ok (.ifCond .eq 12, 3) := by decide +kernel
theorem dX7_compare_160 : decode cX7_compare 160 = .ok (.iload 8, 2) := by decide +kernel
theorem dX7_compare_162 : decode cX7_compare 162 = .ok (.ifCond .ne 7, 3) := by decide +kernel
theorem dX7_compare_165 : decode cX7_compare 165 = .ok (.iconst 1, 1) := by decide +kernel
theorem dX7_compare_166 : decode cX7_compare 166 = .ok (.goto 33, 3) := by decide +kernel
theorem dX7_compare_169 : decode cX7_compare 169 = .ok (.iconst 0, 1) := by decide +kernel
theorem dX7_compare_170 : decode cX7_compare 170 = .ok (.goto 29, 3) := by decide +kernel
theorem dX7_compare_173 : decode cX7_compare 173 = .ok (.iload 5, 2) := by decide +kernel
theorem dX7_compare_175 : decode cX7_compare 175 = .ok (.iconst 2, 1) := by decide +kernel
theorem dX7_compare_176 : decode cX7_compare 176 = .ok (.if_icmp .ne 21, 3) := by decide +kernel
theorem dX7_compare_179 : decode cX7_compare 179 = .ok (.iload 8, 2) := by decide +kernel
theorem dX7_compare_181 : decode cX7_compare 181 = .ok (.ifCond .eq 12, 3) := by decide +kernel
theorem dX7_compare_184 : decode cX7_compare 184 = .ok (.iload 9, 2) := by decide +kernel
theorem dX7_compare_186 : decode cX7_compare 186 = .ok (.ifCond .ne 7, 3) := by decide +kernel
theorem dX7_compare_189 : decode cX7_compare 189 = .ok (.iconst 1, 1) := by decide +kernel
theorem dX7_compare_190 : decode cX7_compare 190 = .ok (.goto 9, 3) := by decide +kernel
theorem dX7_compare_193 : decode cX7_compare 193 = .ok (.iconst 0, 1) := by decide +kernel
theorem dX7_compare_194 : decode cX7_compare 194 = .ok (.goto 5, 3) := by decide +kernel
theorem dX7_compare_197 : decode cX7_compare 197 = .ok (.iload 10, 2) := by decide +kernel
theorem dX7_compare_199 : decode cX7_compare 199 = .ok (.invokestatic 135, 3) := by decide +kernel
theorem dX7_compare_202 : decode cX7_compare 202 = .ok (.iadd, 1) := by decide +kernel
theorem dX7_compare_203 : decode cX7_compare 203 = .ok (.istore 6, 2) := by decide +kernel
theorem dX7_compare_205 : decode cX7_compare 205 = .ok (.iinc 7 1, 3) := by decide +kernel
theorem dX7_compare_208 : decode cX7_compare 208 = .ok (.goto (-161), 3) := by decide +kernel
theorem dX7_compare_211 : decode cX7_compare 211 = .ok (.iload 6, 2) := by decide +kernel
theorem dX7_compare_213 : decode cX7_compare 213 = .ok (.ireturn, 1) := by decide +kernel
theorem dX7_count_0 : decode cX7_count 0 = .ok (.iload_n 1, 1) := by decide +kernel
theorem dX7_count_1 : decode cX7_count 1 = .ok (.tableswitch 105 0 5 #[39, 44, 49, 54, 59, 64], 39) := by decide +kernel
theorem dX7_count_40 : decode cX7_count 40 = .ok (.aload_n 0, 1) := by decide +kernel
theorem dX7_count_41 : decode cX7_count 41 = .ok (.getfield 81, 3) := by decide +kernel
theorem dX7_count_44 : decode cX7_count 44 = .ok (.ireturn, 1) := by decide +kernel
theorem dX7_count_45 : decode cX7_count 45 = .ok (.aload_n 0, 1) := by decide +kernel
theorem dX7_count_46 : decode cX7_count 46 = .ok (.getfield 77, 3) := by decide +kernel
theorem dX7_count_49 : decode cX7_count 49 = .ok (.ireturn, 1) := by decide +kernel
theorem dX7_count_50 : decode cX7_count 50 = .ok (.aload_n 0, 1) := by decide +kernel
theorem dX7_count_51 : decode cX7_count 51 = .ok (.getfield 142, 3) := by decide +kernel
theorem dX7_count_54 : decode cX7_count 54 = .ok (.ireturn, 1) := by decide +kernel
theorem dX7_count_55 : decode cX7_count 55 = .ok (.aload_n 0, 1) := by decide +kernel
theorem dX7_count_56 : decode cX7_count 56 = .ok (.getfield 122, 3) := by decide +kernel
theorem dX7_count_59 : decode cX7_count 59 = .ok (.ireturn, 1) := by decide +kernel
theorem dX7_count_60 : decode cX7_count 60 = .ok (.aload_n 0, 1) := by decide +kernel
theorem dX7_count_61 : decode cX7_count 61 = .ok (.getfield 128, 3) := by decide +kernel
theorem dX7_count_64 : decode cX7_count 64 = .ok (.ireturn, 1) := by decide +kernel
theorem dX7_count_65 : decode cX7_count 65 = .ok (.iconst 0, 1) := by decide +kernel
theorem dX7_count_66 : decode cX7_count 66 = .ok (.istore_n 2, 1) := by decide +kernel
theorem dX7_count_67 : decode cX7_count 67 = .ok (.iconst 0, 1) := by decide +kernel
theorem dX7_count_68 : decode cX7_count 68 = .ok (.istore_n 3, 1) := by decide +kernel
theorem dX7_count_69 : decode cX7_count 69 = .ok (.iload_n 3, 1) := by decide +kernel
theorem dX7_count_70 : decode cX7_count 70 = .ok (.bipush 40, 2) := by decide +kernel
theorem dX7_count_72 : decode cX7_count 72 = .ok (.if_icmp .ge 32, 3) := by decide +kernel
theorem dX7_count_75 : decode cX7_count 75 = .ok (.iload_n 2, 1) := by decide +kernel
theorem dX7_count_76 : decode cX7_count 76 = .ok (.aload_n 0, 1) := by decide +kernel
theorem dX7_count_77 : decode cX7_count 77 = .ok (.getfield 70, 3) := by decide +kernel
theorem dX7_count_80 : decode cX7_count 80 = .ok (.iload_n 3, 1) := by decide +kernel
theorem dX7_count_81 : decode cX7_count 81 = .ok (.iaload, 1) := by decide +kernel
theorem dX7_count_82 : decode cX7_count 82 = .ok (.sipush 2001, 3) := by decide +kernel
theorem dX7_count_85 : decode cX7_count 85 = .ok (.if_icmp .eq 7, 3) := by decide +kernel
theorem dX7_count_88 : decode cX7_count 88 = .ok (.iconst 1, 1) := by decide +kernel
theorem dX7_count_89 : decode cX7_count 89 = .ok (.goto 4, 3) := by decide +kernel
theorem dX7_count_92 : decode cX7_count 92 = .ok (.iconst 0, 1) := by decide +kernel
theorem dX7_count_93 : decode cX7_count 93 = .ok (.invokestatic 135, 3) := by decide +kernel
theorem dX7_count_96 : decode cX7_count 96 = .ok (.iadd, 1) := by decide +kernel
theorem dX7_count_97 : decode cX7_count 97 = .ok (.istore_n 2, 1) := by decide +kernel
theorem dX7_count_98 : decode cX7_count 98 = .ok (.iinc 3 1, 3) := by decide +kernel
theorem dX7_count_101 : decode cX7_count 101 = .ok (.goto (-32), 3) := by decide +kernel
theorem dX7_count_104 : decode cX7_count 104 = .ok (.iload_n 2, 1) := by decide +kernel
theorem dX7_count_105 : decode cX7_count 105 = .ok (.ireturn, 1) := by decide +kernel
theorem dX7_count_106 : decode cX7_count 106 = .ok (.iconst (-1), 1) := by decide +kernel
theorem dX7_count_107 : decode cX7_count 107 = .ok (.ireturn, 1) := by decide +kernel
theorem dL_law_0 : decode cL_law 0 = .ok (.new 7, 3) := by decide +kernel
theorem dL_law_3 : decode cL_law 3 = .ok (.dup, 1) := by decide +kernel
theorem dL_law_4 : decode cL_law 4 = .ok (.invokespecial 9, 3) := by decide +kernel
theorem dL_law_7 : decode cL_law 7 = .ok (.astore_n 1, 1) := by decide +kernel
theorem dL_law_8 : decode cL_law 8 = .ok (.new 10, 3) := by decide +kernel
theorem dL_law_11 : decode cL_law 11 = .ok (.dup, 1) := by decide +kernel
theorem dL_law_12 : decode cL_law 12 = .ok (.invokespecial 12, 3) := by decide +kernel
theorem dL_law_15 : decode cL_law 15 = .ok (.astore_n 2, 1) := by decide +kernel
theorem dL_law_16 : decode cL_law 16 = .ok (.iconst 0, 1) := by decide +kernel
theorem dL_law_17 : decode cL_law 17 = .ok (.istore_n 3, 1) := by decide +kernel
theorem dL_law_18 : decode cL_law 18 = .ok (.iload_n 3, 1) := by decide +kernel
theorem dL_law_19 : decode cL_law 19 = .ok (.aload_n 0, 1) := by decide +kernel
theorem dL_law_20 : decode cL_law 20 = .ok (.arraylength, 1) := by decide +kernel
theorem dL_law_21 : decode cL_law 21 = .ok (.bipush 7, 2) := by decide +kernel
theorem dL_law_23 : decode cL_law 23 = .ok (.isub, 1) := by decide +kernel
theorem dL_law_24 : decode cL_law 24 = .ok (.if_icmp .gt 851, 3) := by decide +kernel
theorem dL_law_27 : decode cL_law 27 = .ok (.aload_n 0, 1) := by decide +kernel
theorem dL_law_28 : decode cL_law 28 = .ok (.iload_n 3, 1) := by decide +kernel
theorem dL_law_29 : decode cL_law 29 = .ok (.iaload, 1) := by decide +kernel
theorem dL_law_30 : decode cL_law 30 = .ok (.bipush 31, 2) := by decide +kernel
theorem dL_law_32 : decode cL_law 32 = .ok (.iand, 1) := by decide +kernel
theorem dL_law_33 : decode cL_law 33 = .ok (.tableswitch 836 0 17 #[87, 110, 143, 176, 251, 304, 357, 400, 413, 436, 489, 532, 565, 608, 652, 706, 750, 813], 87) := by decide +kernel
theorem dL_law_120 : decode cL_law 120 = .ok (.aload_n 1, 1) := by decide +kernel
theorem dL_law_121 : decode cL_law 121 = .ok (.aload_n 0, 1) := by decide +kernel
theorem dL_law_122 : decode cL_law 122 = .ok (.iload_n 3, 1) := by decide +kernel
theorem dL_law_123 : decode cL_law 123 = .ok (.iconst 1, 1) := by decide +kernel
theorem dL_law_124 : decode cL_law 124 = .ok (.iadd, 1) := by decide +kernel
theorem dL_law_125 : decode cL_law 125 = .ok (.iaload, 1) := by decide +kernel
theorem dL_law_126 : decode cL_law 126 = .ok (.invokevirtual 13, 3) := by decide +kernel
theorem dL_law_129 : decode cL_law 129 = .ok (.aload_n 2, 1) := by decide +kernel
theorem dL_law_130 : decode cL_law 130 = .ok (.aload_n 0, 1) := by decide +kernel
theorem dL_law_131 : decode cL_law 131 = .ok (.iload_n 3, 1) := by decide +kernel
theorem dL_law_132 : decode cL_law 132 = .ok (.iconst 1, 1) := by decide +kernel
theorem dL_law_133 : decode cL_law 133 = .ok (.iadd, 1) := by decide +kernel
theorem dL_law_134 : decode cL_law 134 = .ok (.iaload, 1) := by decide +kernel
theorem dL_law_135 : decode cL_law 135 = .ok (.invokevirtual 17, 3) := by decide +kernel
theorem dL_law_138 : decode cL_law 138 = .ok (.if_icmp .eq 731, 3) := by decide +kernel
theorem dL_law_141 : decode cL_law 141 = .ok (.iconst 0, 1) := by decide +kernel
theorem dL_law_142 : decode cL_law 142 = .ok (.ireturn, 1) := by decide +kernel
theorem dL_law_143 : decode cL_law 143 = .ok (.aload_n 1, 1) := by decide +kernel
theorem dL_law_144 : decode cL_law 144 = .ok (.aload_n 0, 1) := by decide +kernel
theorem dL_law_145 : decode cL_law 145 = .ok (.iload_n 3, 1) := by decide +kernel
theorem dL_law_146 : decode cL_law 146 = .ok (.iconst 1, 1) := by decide +kernel
theorem dL_law_147 : decode cL_law 147 = .ok (.iadd, 1) := by decide +kernel
theorem dL_law_148 : decode cL_law 148 = .ok (.iaload, 1) := by decide +kernel
theorem dL_law_149 : decode cL_law 149 = .ok (.aload_n 0, 1) := by decide +kernel
theorem dL_law_150 : decode cL_law 150 = .ok (.iload_n 3, 1) := by decide +kernel
theorem dL_law_151 : decode cL_law 151 = .ok (.iconst 2, 1) := by decide +kernel
theorem dL_law_152 : decode cL_law 152 = .ok (.iadd, 1) := by decide +kernel
theorem dL_law_153 : decode cL_law 153 = .ok (.iaload, 1) := by decide +kernel
theorem dL_law_154 : decode cL_law 154 = .ok (.invokevirtual 18, 3) := by decide +kernel
theorem dL_law_157 : decode cL_law 157 = .ok (.aload_n 2, 1) := by decide +kernel
theorem dL_law_158 : decode cL_law 158 = .ok (.aload_n 0, 1) := by decide +kernel
theorem dL_law_159 : decode cL_law 159 = .ok (.iload_n 3, 1) := by decide +kernel
theorem dL_law_160 : decode cL_law 160 = .ok (.iconst 1, 1) := by decide +kernel
theorem dL_law_161 : decode cL_law 161 = .ok (.iadd, 1) := by decide +kernel
theorem dL_law_162 : decode cL_law 162 = .ok (.iaload, 1) := by decide +kernel
theorem dL_law_163 : decode cL_law 163 = .ok (.aload_n 0, 1) := by decide +kernel
theorem dL_law_164 : decode cL_law 164 = .ok (.iload_n 3, 1) := by decide +kernel
theorem dL_law_165 : decode cL_law 165 = .ok (.iconst 2, 1) := by decide +kernel
theorem dL_law_166 : decode cL_law 166 = .ok (.iadd, 1) := by decide +kernel
theorem dL_law_167 : decode cL_law 167 = .ok (.iaload, 1) := by decide +kernel
theorem dL_law_168 : decode cL_law 168 = .ok (.invokevirtual 22, 3) := by decide +kernel
theorem dL_law_171 : decode cL_law 171 = .ok (.if_icmp .eq 698, 3) := by decide +kernel
theorem dL_law_174 : decode cL_law 174 = .ok (.iconst 0, 1) := by decide +kernel
theorem dL_law_175 : decode cL_law 175 = .ok (.ireturn, 1) := by decide +kernel
theorem dL_law_176 : decode cL_law 176 = .ok (.aload_n 1, 1) := by decide +kernel
theorem dL_law_177 : decode cL_law 177 = .ok (.aload_n 0, 1) := by decide +kernel
theorem dL_law_178 : decode cL_law 178 = .ok (.iload_n 3, 1) := by decide +kernel
theorem dL_law_179 : decode cL_law 179 = .ok (.iconst 1, 1) := by decide +kernel
theorem dL_law_180 : decode cL_law 180 = .ok (.iadd, 1) := by decide +kernel
theorem dL_law_181 : decode cL_law 181 = .ok (.iaload, 1) := by decide +kernel
theorem dL_law_182 : decode cL_law 182 = .ok (.aload_n 0, 1) := by decide +kernel
theorem dL_law_183 : decode cL_law 183 = .ok (.iload_n 3, 1) := by decide +kernel
theorem dL_law_184 : decode cL_law 184 = .ok (.iconst 2, 1) := by decide +kernel
theorem dL_law_185 : decode cL_law 185 = .ok (.iadd, 1) := by decide +kernel
theorem dL_law_186 : decode cL_law 186 = .ok (.iaload, 1) := by decide +kernel
theorem dL_law_187 : decode cL_law 187 = .ok (.invokevirtual 23, 3) := by decide +kernel
theorem dL_law_190 : decode cL_law 190 = .ok (.aload_n 2, 1) := by decide +kernel
theorem dL_law_191 : decode cL_law 191 = .ok (.aload_n 0, 1) := by decide +kernel
theorem dL_law_192 : decode cL_law 192 = .ok (.iload_n 3, 1) := by decide +kernel
theorem dL_law_193 : decode cL_law 193 = .ok (.iconst 1, 1) := by decide +kernel
theorem dL_law_194 : decode cL_law 194 = .ok (.iadd, 1) := by decide +kernel
theorem dL_law_195 : decode cL_law 195 = .ok (.iaload, 1) := by decide +kernel
theorem dL_law_196 : decode cL_law 196 = .ok (.aload_n 0, 1) := by decide +kernel
theorem dL_law_197 : decode cL_law 197 = .ok (.iload_n 3, 1) := by decide +kernel
theorem dL_law_198 : decode cL_law 198 = .ok (.iconst 2, 1) := by decide +kernel
theorem dL_law_199 : decode cL_law 199 = .ok (.iadd, 1) := by decide +kernel
theorem dL_law_200 : decode cL_law 200 = .ok (.iaload, 1) := by decide +kernel
theorem dL_law_201 : decode cL_law 201 = .ok (.invokevirtual 27, 3) := by decide +kernel
theorem dL_law_204 : decode cL_law 204 = .ok (.if_icmp .eq 665, 3) := by decide +kernel
theorem dL_law_207 : decode cL_law 207 = .ok (.iconst 0, 1) := by decide +kernel
theorem dL_law_208 : decode cL_law 208 = .ok (.ireturn, 1) := by decide +kernel
theorem dL_law_209 : decode cL_law 209 = .ok (.aload_n 1, 1) := by decide +kernel
theorem dL_law_210 : decode cL_law 210 = .ok (.aload_n 0, 1) := by decide +kernel
theorem dL_law_211 : decode cL_law 211 = .ok (.iload_n 3, 1) := by decide +kernel
theorem dL_law_212 : decode cL_law 212 = .ok (.iconst 1, 1) := by decide +kernel
theorem dL_law_213 : decode cL_law 213 = .ok (.iadd, 1) := by decide +kernel
theorem dL_law_214 : decode cL_law 214 = .ok (.iaload, 1) := by decide +kernel
theorem dL_law_215 : decode cL_law 215 = .ok (.aload_n 0, 1) := by decide +kernel
theorem dL_law_216 : decode cL_law 216 = .ok (.iload_n 3, 1) := by decide +kernel
theorem dL_law_217 : decode cL_law 217 = .ok (.iconst 2, 1) := by decide +kernel
theorem dL_law_218 : decode cL_law 218 = .ok (.iadd, 1) := by decide +kernel
theorem dL_law_219 : decode cL_law 219 = .ok (.iaload, 1) := by decide +kernel
theorem dL_law_220 : decode cL_law 220 = .ok (.aload_n 0, 1) := by decide +kernel
theorem dL_law_221 : decode cL_law 221 = .ok (.iload_n 3, 1) := by decide +kernel
theorem dL_law_222 : decode cL_law 222 = .ok (.iconst 3, 1) := by decide +kernel
theorem dL_law_223 : decode cL_law 223 = .ok (.iadd, 1) := by decide +kernel
theorem dL_law_224 : decode cL_law 224 = .ok (.iaload, 1) := by decide +kernel
theorem dL_law_225 : decode cL_law 225 = .ok (.aload_n 0, 1) := by decide +kernel
theorem dL_law_226 : decode cL_law 226 = .ok (.iload_n 3, 1) := by decide +kernel
theorem dL_law_227 : decode cL_law 227 = .ok (.iconst 4, 1) := by decide +kernel
theorem dL_law_228 : decode cL_law 228 = .ok (.iadd, 1) := by decide +kernel
theorem dL_law_229 : decode cL_law 229 = .ok (.iaload, 1) := by decide +kernel
theorem dL_law_230 : decode cL_law 230 = .ok (.aload_n 0, 1) := by decide +kernel
theorem dL_law_231 : decode cL_law 231 = .ok (.iload_n 3, 1) := by decide +kernel
theorem dL_law_232 : decode cL_law 232 = .ok (.iconst 5, 1) := by decide +kernel
theorem dL_law_233 : decode cL_law 233 = .ok (.iadd, 1) := by decide +kernel
theorem dL_law_234 : decode cL_law 234 = .ok (.iaload, 1) := by decide +kernel
theorem dL_law_235 : decode cL_law 235 = .ok (.aload_n 0, 1) := by decide +kernel
theorem dL_law_236 : decode cL_law 236 = .ok (.iload_n 3, 1) := by decide +kernel
theorem dL_law_237 : decode cL_law 237 = .ok (.bipush 6, 2) := by decide +kernel
theorem dL_law_239 : decode cL_law 239 = .ok (.iadd, 1) := by decide +kernel
theorem dL_law_240 : decode cL_law 240 = .ok (.iaload, 1) := by decide +kernel
theorem dL_law_241 : decode cL_law 241 = .ok (.invokevirtual 28, 3) := by decide +kernel
theorem dL_law_244 : decode cL_law 244 = .ok (.aload_n 2, 1) := by decide +kernel
theorem dL_law_245 : decode cL_law 245 = .ok (.aload_n 0, 1) := by decide +kernel
theorem dL_law_246 : decode cL_law 246 = .ok (.iload_n 3, 1) := by decide +kernel
theorem dL_law_247 : decode cL_law 247 = .ok (.iconst 1, 1) := by decide +kernel
theorem dL_law_248 : decode cL_law 248 = .ok (.iadd, 1) := by decide +kernel
theorem dL_law_249 : decode cL_law 249 = .ok (.iaload, 1) := by decide +kernel
theorem dL_law_250 : decode cL_law 250 = .ok (.aload_n 0, 1) := by decide +kernel
theorem dL_law_251 : decode cL_law 251 = .ok (.iload_n 3, 1) := by decide +kernel
theorem dL_law_252 : decode cL_law 252 = .ok (.iconst 2, 1) := by decide +kernel
theorem dL_law_253 : decode cL_law 253 = .ok (.iadd, 1) := by decide +kernel
theorem dL_law_254 : decode cL_law 254 = .ok (.iaload, 1) := by decide +kernel
theorem dL_law_255 : decode cL_law 255 = .ok (.aload_n 0, 1) := by decide +kernel
theorem dL_law_256 : decode cL_law 256 = .ok (.iload_n 3, 1) := by decide +kernel
