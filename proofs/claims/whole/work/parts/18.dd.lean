theorem dX9_in_0 : decode (zB 97) 0 = .ok (.lload_n 0, 1) := by decide +kernel
theorem dX9_in_1 : decode (zB 97) 1 = .ok (.lload_n 2, 1) := by decide +kernel
theorem dX9_in_2 : decode (zB 97) 2 = .ok (.lcmp, 1) := by decide +kernel
theorem dX9_in_3 : decode (zB 97) 3 = .ok (.ifCond .lt 14, 3) := by decide +kernel
theorem dX9_in_6 : decode (zB 97) 6 = .ok (.lload_n 0, 1) := by decide +kernel
theorem dX9_in_7 : decode (zB 97) 7 = .ok (.lload 4, 2) := by decide +kernel
theorem dX9_in_9 : decode (zB 97) 9 = .ok (.lcmp, 1) := by decide +kernel
theorem dX9_in_10 : decode (zB 97) 10 = .ok (.ifCond .gt 7, 3) := by decide +kernel
theorem dX9_in_13 : decode (zB 97) 13 = .ok (.iconst 1, 1) := by decide +kernel
theorem dX9_in_14 : decode (zB 97) 14 = .ok (.goto 4, 3) := by decide +kernel
theorem dX9_in_17 : decode (zB 97) 17 = .ok (.iconst 0, 1) := by decide +kernel
theorem dX9_in_18 : decode (zB 97) 18 = .ok (.ireturn, 1) := by decide +kernel
theorem dX9_lost_0 : decode (zB 98) 0 = .ok (.ldc2_w 80, 3) := by decide +kernel
theorem dX9_lost_3 : decode (zB 98) 3 = .ok (.lreturn, 1) := by decide +kernel
theorem dX9_off_0 : decode (zB 99) 0 = .ok (.iload_n 0, 1) := by decide +kernel
theorem dX9_off_1 : decode (zB 99) 1 = .ok (.iload_n 1, 1) := by decide +kernel
theorem dX9_off_2 : decode (zB 99) 2 = .ok (.if_icmp .ge 9, 3) := by decide +kernel
theorem dX9_off_5 : decode (zB 99) 5 = .ok (.iload_n 1, 1) := by decide +kernel
theorem dX9_off_6 : decode (zB 99) 6 = .ok (.iload_n 0, 1) := by decide +kernel
theorem dX9_off_7 : decode (zB 99) 7 = .ok (.isub, 1) := by decide +kernel
theorem dX9_off_8 : decode (zB 99) 8 = .ok (.goto 6, 3) := by decide +kernel
theorem dX9_off_11 : decode (zB 99) 11 = .ok (.iload_n 0, 1) := by decide +kernel
theorem dX9_off_12 : decode (zB 99) 12 = .ok (.iload_n 1, 1) := by decide +kernel
theorem dX9_off_13 : decode (zB 99) 13 = .ok (.isub, 1) := by decide +kernel
theorem dX9_off_14 : decode (zB 99) 14 = .ok (.ireturn, 1) := by decide +kernel
theorem dX9_told_0 : decode (zB 100) 0 = .ok (.lload_n 0, 1) := by decide +kernel
theorem dX9_told_1 : decode (zB 100) 1 = .ok (.lstore 5, 2) := by decide +kernel
theorem dX9_told_3 : decode (zB 100) 3 = .ok (.lload_n 2, 1) := by decide +kernel
theorem dX9_told_4 : decode (zB 100) 4 = .ok (.lstore 7, 2) := by decide +kernel
theorem dX9_told_6 : decode (zB 100) 6 = .ok (.lload 7, 2) := by decide +kernel
theorem dX9_told_8 : decode (zB 100) 8 = .ok (.lconst 0, 1) := by decide +kernel
theorem dX9_told_9 : decode (zB 100) 9 = .ok (.lcmp, 1) := by decide +kernel
theorem dX9_told_10 : decode (zB 100) 10 = .ok (.ifCond .eq 21, 3) := by decide +kernel
theorem dX9_told_13 : decode (zB 100) 13 = .ok (.lload 5, 2) := by decide +kernel
theorem dX9_told_15 : decode (zB 100) 15 = .ok (.lload 7, 2) := by decide +kernel
theorem dX9_told_17 : decode (zB 100) 17 = .ok (.lrem, 1) := by decide +kernel
theorem dX9_told_18 : decode (zB 100) 18 = .ok (.lstore 9, 2) := by decide +kernel
theorem dX9_told_20 : decode (zB 100) 20 = .ok (.lload 7, 2) := by decide +kernel
theorem dX9_told_22 : decode (zB 100) 22 = .ok (.lstore 5, 2) := by decide +kernel
theorem dX9_told_24 : decode (zB 100) 24 = .ok (.lload 9, 2) := by decide +kernel
theorem dX9_told_26 : decode (zB 100) 26 = .ok (.lstore 7, 2) := by decide +kernel
theorem dX9_told_28 : decode (zB 100) 28 = .ok (.goto (-22), 3) := by decide +kernel
theorem dX9_told_31 : decode (zB 100) 31 = .ok (.iload 4, 2) := by decide +kernel
theorem dX9_told_33 : decode (zB 100) 33 = .ok (.ifCond .ne 7, 3) := by decide +kernel
theorem dX9_told_36 : decode (zB 100) 36 = .ok (.lload_n 0, 1) := by decide +kernel
theorem dX9_told_37 : decode (zB 100) 37 = .ok (.goto 4, 3) := by decide +kernel
theorem dX9_told_40 : decode (zB 100) 40 = .ok (.lload_n 2, 1) := by decide +kernel
theorem dX9_told_41 : decode (zB 100) 41 = .ok (.lload 5, 2) := by decide +kernel
theorem dX9_told_43 : decode (zB 100) 43 = .ok (.ldiv, 1) := by decide +kernel
theorem dX9_told_44 : decode (zB 100) 44 = .ok (.lreturn, 1) := by decide +kernel
theorem dX9_refused_0 : decode (zB 101) 0 = .ok (.aload_n 0, 1) := by decide +kernel
theorem dX9_refused_1 : decode (zB 101) 1 = .ok (.iconst 0, 1) := by decide +kernel
theorem dX9_refused_2 : decode (zB 101) 2 = .ok (.putfield 82, 3) := by decide +kernel
theorem dX9_refused_5 : decode (zB 101) 5 = .ok (.iload_n 1, 1) := by decide +kernel
theorem dX9_refused_6 : decode (zB 101) 6 = .ok (.ireturn, 1) := by decide +kernel
theorem dX9_failed_0 : decode (zB 102) 0 = .ok (.aload_n 0, 1) := by decide +kernel
theorem dX9_failed_1 : decode (zB 102) 1 = .ok (.iload_n 1, 1) := by decide +kernel
theorem dX9_failed_2 : decode (zB 102) 2 = .ok (.putfield 82, 3) := by decide +kernel
theorem dX9_failed_5 : decode (zB 102) 5 = .ok (.bipush (-10), 2) := by decide +kernel
theorem dX9_failed_7 : decode (zB 102) 7 = .ok (.iload_n 1, 1) := by decide +kernel
theorem dX9_failed_8 : decode (zB 102) 8 = .ok (.isub, 1) := by decide +kernel
theorem dX9_failed_9 : decode (zB 102) 9 = .ok (.ireturn, 1) := by decide +kernel
theorem dX9_failedLong_0 : decode (zB 103) 0 = .ok (.aload_n 0, 1) := by decide +kernel
theorem dX9_failedLong_1 : decode (zB 103) 1 = .ok (.iload_n 1, 1) := by decide +kernel
theorem dX9_failedLong_2 : decode (zB 103) 2 = .ok (.putfield 82, 3) := by decide +kernel
theorem dX9_failedLong_5 : decode (zB 103) 5 = .ok (.invokestatic 86, 3) := by decide +kernel
theorem dX9_failedLong_8 : decode (zB 103) 8 = .ok (.lreturn, 1) := by decide +kernel
theorem dX9_noHouse_0 : decode (zB 104) 0 = .ok (.iload_n 1, 1) := by decide +kernel
theorem dX9_noHouse_1 : decode (zB 104) 1 = .ok (.i2l, 1) := by decide +kernel
theorem dX9_noHouse_2 : decode (zB 104) 2 = .ok (.lconst 0, 1) := by decide +kernel
theorem dX9_noHouse_3 : decode (zB 104) 3 = .ok (.aload_n 0, 1) := by decide +kernel
theorem dX9_noHouse_4 : decode (zB 104) 4 = .ok (.getfield 90, 3) := by decide +kernel
theorem dX9_noHouse_7 : decode (zB 104) 7 = .ok (.i2l, 1) := by decide +kernel
theorem dX9_noHouse_8 : decode (zB 104) 8 = .ok (.lconst 1, 1) := by decide +kernel
theorem dX9_noHouse_9 : decode (zB 104) 9 = .ok (.lsub, 1) := by decide +kernel
theorem dX9_noHouse_10 : decode (zB 104) 10 = .ok (.invokestatic 93, 3) := by decide +kernel
theorem dX9_noHouse_13 : decode (zB 104) 13 = .ok (.ifCond .ne 7, 3) := by decide +kernel
theorem dX9_noHouse_16 : decode (zB 104) 16 = .ok (.iconst 1, 1) := by decide +kernel
theorem dX9_noHouse_17 : decode (zB 104) 17 = .ok (.goto 4, 3) := by decide +kernel
theorem dX9_noHouse_20 : decode (zB 104) 20 = .ok (.iconst 0, 1) := by decide +kernel
theorem dX9_noHouse_21 : decode (zB 104) 21 = .ok (.ireturn, 1) := by decide +kernel
theorem dX9_codeAt_0 : decode (zB 105) 0 = .ok (.aload_n 0, 1) := by decide +kernel
theorem dX9_codeAt_1 : decode (zB 105) 1 = .ok (.getfield 97, 3) := by decide +kernel
theorem dX9_codeAt_4 : decode (zB 105) 4 = .ok (.iload_n 2, 1) := by decide +kernel
theorem dX9_codeAt_5 : decode (zB 105) 5 = .ok (.if_icmp .ge 17, 3) := by decide +kernel
theorem dX9_codeAt_8 : decode (zB 105) 8 = .ok (.aload_n 0, 1) := by decide +kernel
theorem dX9_codeAt_9 : decode (zB 105) 9 = .ok (.getfield 74, 3) := by decide +kernel
theorem dX9_codeAt_12 : decode (zB 105) 12 = .ok (.iload_n 1, 1) := by decide +kernel
theorem dX9_codeAt_13 : decode (zB 105) 13 = .ok (.aload_n 0, 1) := by decide +kernel
theorem dX9_codeAt_14 : decode (zB 105) 14 = .ok (.getfield 97, 3) := by decide +kernel
theorem dX9_codeAt_17 : decode (zB 105) 17 = .ok (.iadd, 1) := by decide +kernel
theorem dX9_codeAt_18 : decode (zB 105) 18 = .ok (.iaload, 1) := by decide +kernel
theorem dX9_codeAt_19 : decode (zB 105) 19 = .ok (.goto 5, 3) := by decide +kernel
theorem dX9_codeAt_22 : decode (zB 105) 22 = .ok (.bipush (-9), 2) := by decide +kernel
theorem dX9_codeAt_24 : decode (zB 105) 24 = .ok (.ireturn, 1) := by decide +kernel
theorem dX9_figure_0 : decode (zB 106) 0 = .ok (.aload_n 0, 1) := by decide +kernel
theorem dX9_figure_1 : decode (zB 106) 1 = .ok (.iload_n 1, 1) := by decide +kernel
theorem dX9_figure_2 : decode (zB 106) 2 = .ok (.iload_n 2, 1) := by decide +kernel
theorem dX9_figure_3 : decode (zB 106) 3 = .ok (.invokevirtual 100, 3) := by decide +kernel
theorem dX9_figure_6 : decode (zB 106) 6 = .ok (.bipush 48, 2) := by decide +kernel
theorem dX9_figure_8 : decode (zB 106) 8 = .ok (.isub, 1) := by decide +kernel
theorem dX9_figure_9 : decode (zB 106) 9 = .ok (.istore 4, 2) := by decide +kernel
theorem dX9_figure_11 : decode (zB 106) 11 = .ok (.iload 4, 2) := by decide +kernel
theorem dX9_figure_13 : decode (zB 106) 13 = .ok (.i2l, 1) := by decide +kernel
theorem dX9_figure_14 : decode (zB 106) 14 = .ok (.iload_n 3, 1) := by decide +kernel
theorem dX9_figure_15 : decode (zB 106) 15 = .ok (.i2l, 1) := by decide +kernel
theorem dX9_figure_16 : decode (zB 106) 16 = .ok (.ldc2_w 104, 3) := by decide +kernel
theorem dX9_figure_19 : decode (zB 106) 19 = .ok (.invokestatic 93, 3) := by decide +kernel
theorem dX9_figure_22 : decode (zB 106) 22 = .ok (.istore 5, 2) := by decide +kernel
theorem dX9_figure_24 : decode (zB 106) 24 = .ok (.aload_n 0, 1) := by decide +kernel
theorem dX9_figure_25 : decode (zB 106) 25 = .ok (.dup, 1) := by decide +kernel
theorem dX9_figure_26 : decode (zB 106) 26 = .ok (.getfield 97, 3) := by decide +kernel
theorem dX9_figure_29 : decode (zB 106) 29 = .ok (.iload 5, 2) := by decide +kernel
theorem dX9_figure_31 : decode (zB 106) 31 = .ok (.ifCond .eq 7, 3) := by decide +kernel
theorem dX9_figure_34 : decode (zB 106) 34 = .ok (.iconst 1, 1) := by decide +kernel
theorem dX9_figure_35 : decode (zB 106) 35 = .ok (.goto 4, 3) := by decide +kernel
theorem dX9_figure_38 : decode (zB 106) 38 = .ok (.iconst 0, 1) := by decide +kernel
theorem dX9_figure_39 : decode (zB 106) 39 = .ok (.iadd, 1) := by decide +kernel
theorem dX9_figure_40 : decode (zB 106) 40 = .ok (.putfield 97, 3) := by decide +kernel
theorem dX9_figure_43 : decode (zB 106) 43 = .ok (.iload 5, 2) := by decide +kernel
theorem dX9_figure_45 : decode (zB 106) 45 = .ok (.ifCond .eq 8, 3) := by decide +kernel
theorem dX9_figure_48 : decode (zB 106) 48 = .ok (.iload 4, 2) := by decide +kernel
theorem dX9_figure_50 : decode (zB 106) 50 = .ok (.goto 5, 3) := by decide +kernel
theorem dX9_figure_53 : decode (zB 106) 53 = .ok (.bipush (-9), 2) := by decide +kernel
theorem dX9_figure_55 : decode (zB 106) 55 = .ok (.ireturn, 1) := by decide +kernel
theorem dX9_readsHouse_0 : decode (zB 107) 0 = .ok (.aload_n 0, 1) := by decide +kernel
theorem dX9_readsHouse_1 : decode (zB 107) 1 = .ok (.getfield 106, 3) := by decide +kernel
theorem dX9_readsHouse_4 : decode (zB 107) 4 = .ok (.bipush 7, 2) := by decide +kernel
theorem dX9_readsHouse_6 : decode (zB 107) 6 = .ok (.if_icmp .eq 14, 3) := by decide +kernel
theorem dX9_readsHouse_9 : decode (zB 107) 9 = .ok (.aload_n 0, 1) := by decide +kernel
theorem dX9_readsHouse_10 : decode (zB 107) 10 = .ok (.iload_n 1, 1) := by decide +kernel
theorem dX9_readsHouse_11 : decode (zB 107) 11 = .ok (.iload_n 2, 1) := by decide +kernel
theorem dX9_readsHouse_12 : decode (zB 107) 12 = .ok (.invokevirtual 100, 3) := by decide +kernel
theorem dX9_readsHouse_15 : decode (zB 107) 15 = .ok (.bipush 59, 2) := by decide +kernel
theorem dX9_readsHouse_17 : decode (zB 107) 17 = .ok (.if_icmp .eq 5, 3) := by decide +kernel
theorem dX9_readsHouse_20 : decode (zB 107) 20 = .ok (.iconst 0, 1) := by decide +kernel
theorem dX9_readsHouse_21 : decode (zB 107) 21 = .ok (.ireturn, 1) := by decide +kernel
theorem dX9_readsHouse_22 : decode (zB 107) 22 = .ok (.aload_n 0, 1) := by decide +kernel
theorem dX9_readsHouse_23 : decode (zB 107) 23 = .ok (.dup, 1) := by decide +kernel
theorem dX9_readsHouse_24 : decode (zB 107) 24 = .ok (.getfield 97, 3) := by decide +kernel
theorem dX9_readsHouse_27 : decode (zB 107) 27 = .ok (.iconst 1, 1) := by decide +kernel
theorem dX9_readsHouse_28 : decode (zB 107) 28 = .ok (.iadd, 1) := by decide +kernel
theorem dX9_readsHouse_29 : decode (zB 107) 29 = .ok (.putfield 97, 3) := by decide +kernel
theorem dX9_readsHouse_32 : decode (zB 107) 32 = .ok (.aload_n 0, 1) := by decide +kernel
theorem dX9_readsHouse_33 : decode (zB 107) 33 = .ok (.iload_n 1, 1) := by decide +kernel
theorem dX9_readsHouse_34 : decode (zB 107) 34 = .ok (.iload_n 2, 1) := by decide +kernel
theorem dX9_readsHouse_35 : decode (zB 107) 35 = .ok (.invokevirtual 100, 3) := by decide +kernel
theorem dX9_readsHouse_38 : decode (zB 107) 38 = .ok (.istore_n 3, 1) := by decide +kernel
theorem dX9_readsHouse_39 : decode (zB 107) 39 = .ok (.iload_n 3, 1) := by decide +kernel
theorem dX9_readsHouse_40 : decode (zB 107) 40 = .ok (.bipush 104, 2) := by decide +kernel
theorem dX9_readsHouse_42 : decode (zB 107) 42 = .ok (.if_icmp .eq 17, 3) := by decide +kernel
theorem dX9_readsHouse_45 : decode (zB 107) 45 = .ok (.iload_n 3, 1) := by decide +kernel
theorem dX9_readsHouse_46 : decode (zB 107) 46 = .ok (.bipush 105, 2) := by decide +kernel
theorem dX9_readsHouse_48 : decode (zB 107) 48 = .ok (.if_icmp .eq 11, 3) := by decide +kernel
theorem dX9_readsHouse_51 : decode (zB 107) 51 = .ok (.iload_n 3, 1) := by decide +kernel
theorem dX9_readsHouse_52 : decode (zB 107) 52 = .ok (.bipush 112, 2) := by decide +kernel
theorem dX9_readsHouse_54 : decode (zB 107) 54 = .ok (.if_icmp .eq 5, 3) := by decide +kernel
theorem dX9_readsHouse_57 : decode (zB 107) 57 = .ok (.iconst 0, 1) := by decide +kernel
theorem dX9_readsHouse_58 : decode (zB 107) 58 = .ok (.ireturn, 1) := by decide +kernel
theorem dX9_readsHouse_59 : decode (zB 107) 59 = .ok (.aload_n 0, 1) := by decide +kernel
theorem dX9_readsHouse_60 : decode (zB 107) 60 = .ok (.dup, 1) := by decide +kernel
theorem dX9_readsHouse_61 : decode (zB 107) 61 = .ok (.getfield 97, 3) := by decide +kernel
theorem dX9_readsHouse_64 : decode (zB 107) 64 = .ok (.iconst 1, 1) := by decide +kernel
theorem dX9_readsHouse_65 : decode (zB 107) 65 = .ok (.iadd, 1) := by decide +kernel
theorem dX9_readsHouse_66 : decode (zB 107) 66 = .ok (.putfield 97, 3) := by decide +kernel
theorem dX9_readsHouse_69 : decode (zB 107) 69 = .ok (.iconst 0, 1) := by decide +kernel
theorem dX9_readsHouse_70 : decode (zB 107) 70 = .ok (.istore 4, 2) := by decide +kernel
theorem dX9_readsHouse_72 : decode (zB 107) 72 = .ok (.iload 4, 2) := by decide +kernel
theorem dX9_readsHouse_74 : decode (zB 107) 74 = .ok (.iconst 4, 1) := by decide +kernel
theorem dX9_readsHouse_75 : decode (zB 107) 75 = .ok (.if_icmp .ge 51, 3) := by decide +kernel
theorem dX9_readsHouse_78 : decode (zB 107) 78 = .ok (.aload_n 0, 1) := by decide +kernel
theorem dX9_readsHouse_79 : decode (zB 107) 79 = .ok (.iload_n 1, 1) := by decide +kernel
theorem dX9_readsHouse_80 : decode (zB 107) 80 = .ok (.iload_n 2, 1) := by decide +kernel
theorem dX9_readsHouse_81 : decode (zB 107) 81 = .ok (.iload 4, 2) := by decide +kernel
theorem dX9_readsHouse_83 : decode (zB 107) 83 = .ok (.iconst 2, 1) := by decide +kernel
theorem dX9_readsHouse_84 : decode (zB 107) 84 = .ok (.if_icmp .ne 7, 3) := by decide +kernel
theorem dX9_readsHouse_87 : decode (zB 107) 87 = .ok (.iconst 0, 1) := by decide +kernel
theorem dX9_readsHouse_88 : decode (zB 107) 88 = .ok (.goto 4, 3) := by decide +kernel
theorem dX9_readsHouse_91 : decode (zB 107) 91 = .ok (.iconst 1, 1) := by decide +kernel
theorem dX9_readsHouse_92 : decode (zB 107) 92 = .ok (.invokevirtual 109, 3) := by decide +kernel
theorem dX9_readsHouse_95 : decode (zB 107) 95 = .ok (.istore 5, 2) := by decide +kernel
theorem dX9_readsHouse_97 : decode (zB 107) 97 = .ok (.iload 5, 2) := by decide +kernel
theorem dX9_readsHouse_99 : decode (zB 107) 99 = .ok (.ifCond .ge 5, 3) := by decide +kernel
theorem dX9_readsHouse_102 : decode (zB 107) 102 = .ok (.iconst 0, 1) := by decide +kernel
theorem dX9_readsHouse_103 : decode (zB 107) 103 = .ok (.ireturn, 1) := by decide +kernel
theorem dX9_readsHouse_104 : decode (zB 107) 104 = .ok (.aload_n 0, 1) := by decide +kernel
theorem dX9_readsHouse_105 : decode (zB 107) 105 = .ok (.getfield 28, 3) := by decide +kernel
theorem dX9_readsHouse_108 : decode (zB 107) 108 = .ok (.iconst 4, 1) := by decide +kernel
theorem dX9_readsHouse_109 : decode (zB 107) 109 = .ok (.aload_n 0, 1) := by decide +kernel
theorem dX9_readsHouse_110 : decode (zB 107) 110 = .ok (.getfield 106, 3) := by decide +kernel
theorem dX9_readsHouse_113 : decode (zB 107) 113 = .ok (.imul, 1) := by decide +kernel
theorem dX9_readsHouse_114 : decode (zB 107) 114 = .ok (.iload 4, 2) := by decide +kernel
theorem dX9_readsHouse_116 : decode (zB 107) 116 = .ok (.iadd, 1) := by decide +kernel
theorem dX9_readsHouse_117 : decode (zB 107) 117 = .ok (.iload 5, 2) := by decide +kernel
theorem dX9_readsHouse_119 : decode (zB 107) 119 = .ok (.iastore, 1) := by decide +kernel
theorem dX9_readsHouse_120 : decode (zB 107) 120 = .ok (.iinc 4 1, 3) := by decide +kernel
theorem dX9_readsHouse_123 : decode (zB 107) 123 = .ok (.goto (-51), 3) := by decide +kernel
theorem dX9_readsHouse_126 : decode (zB 107) 126 = .ok (.aload_n 0, 1) := by decide +kernel
theorem dX9_readsHouse_127 : decode (zB 107) 127 = .ok (.getfield 25, 3) := by decide +kernel
theorem dX9_readsHouse_130 : decode (zB 107) 130 = .ok (.aload_n 0, 1) := by decide +kernel
theorem dX9_readsHouse_131 : decode (zB 107) 131 = .ok (.getfield 106, 3) := by decide +kernel
theorem dX9_readsHouse_134 : decode (zB 107) 134 = .ok (.iload_n 3, 1) := by decide +kernel
theorem dX9_readsHouse_135 : decode (zB 107) 135 = .ok (.bipush 104, 2) := by decide +kernel
theorem dX9_readsHouse_137 : decode (zB 107) 137 = .ok (.if_icmp .ne 7, 3) := by decide +kernel
theorem dX9_readsHouse_140 : decode (zB 107) 140 = .ok (.iconst 0, 1) := by decide +kernel
theorem dX9_readsHouse_141 : decode (zB 107) 141 = .ok (.goto 14, 3) := by decide +kernel
theorem dX9_readsHouse_144 : decode (zB 107) 144 = .ok (.iload_n 3, 1) := by decide +kernel
theorem dX9_readsHouse_145 : decode (zB 107) 145 = .ok (.bipush 105, 2) := by decide +kernel
theorem dX9_readsHouse_147 : decode (zB 107) 147 = .ok (.if_icmp .ne 7, 3) := by decide +kernel
theorem dX9_readsHouse_150 : decode (zB 107) 150 = .ok (.iconst 1, 1) := by decide +kernel
theorem dX9_readsHouse_151 : decode (zB 107) 151 = .ok (.goto 4, 3) := by decide +kernel
theorem dX9_readsHouse_154 : decode (zB 107) 154 = .ok (.iconst 2, 1) := by decide +kernel
theorem dX9_readsHouse_155 : decode (zB 107) 155 = .ok (.iastore, 1) := by decide +kernel
theorem dX9_readsHouse_156 : decode (zB 107) 156 = .ok (.aload_n 0, 1) := by decide +kernel
theorem dX9_readsHouse_157 : decode (zB 107) 157 = .ok (.dup, 1) := by decide +kernel
theorem dX9_readsHouse_158 : decode (zB 107) 158 = .ok (.getfield 106, 3) := by decide +kernel
theorem dX9_readsHouse_161 : decode (zB 107) 161 = .ok (.iconst 1, 1) := by decide +kernel
theorem dX9_readsHouse_162 : decode (zB 107) 162 = .ok (.iadd, 1) := by decide +kernel
theorem dX9_readsHouse_163 : decode (zB 107) 163 = .ok (.putfield 106, 3) := by decide +kernel
theorem dX9_readsHouse_166 : decode (zB 107) 166 = .ok (.iconst 1, 1) := by decide +kernel
theorem dX9_readsHouse_167 : decode (zB 107) 167 = .ok (.ireturn, 1) := by decide +kernel
theorem dX9_readsTown_0 : decode (zB 108) 0 = .ok (.aload_n 0, 1) := by decide +kernel
theorem dX9_readsTown_1 : decode (zB 108) 1 = .ok (.iconst 0, 1) := by decide +kernel
theorem dX9_readsTown_2 : decode (zB 108) 2 = .ok (.putfield 97, 3) := by decide +kernel
theorem dX9_readsTown_5 : decode (zB 108) 5 = .ok (.aload_n 0, 1) := by decide +kernel
theorem dX9_readsTown_6 : decode (zB 108) 6 = .ok (.iconst 0, 1) := by decide +kernel
theorem dX9_readsTown_7 : decode (zB 108) 7 = .ok (.putfield 106, 3) := by decide +kernel
theorem dX9_readsTown_10 : decode (zB 108) 10 = .ok (.aload_n 0, 1) := by decide +kernel
theorem dX9_readsTown_11 : decode (zB 108) 11 = .ok (.iload_n 1, 1) := by decide +kernel
theorem dX9_readsTown_12 : decode (zB 108) 12 = .ok (.iload_n 2, 1) := by decide +kernel
theorem dX9_readsTown_13 : decode (zB 108) 13 = .ok (.invokevirtual 100, 3) := by decide +kernel
theorem dX9_readsTown_16 : decode (zB 108) 16 = .ok (.bipush 116, 2) := by decide +kernel
theorem dX9_readsTown_18 : decode (zB 108) 18 = .ok (.if_icmp .ne 7, 3) := by decide +kernel
theorem dX9_readsTown_21 : decode (zB 108) 21 = .ok (.iconst 1, 1) := by decide +kernel
theorem dX9_readsTown_22 : decode (zB 108) 22 = .ok (.goto 4, 3) := by decide +kernel
theorem dX9_readsTown_25 : decode (zB 108) 25 = .ok (.iconst 0, 1) := by decide +kernel
theorem dX9_readsTown_26 : decode (zB 108) 26 = .ok (.istore_n 3, 1) := by decide +kernel
theorem dX9_readsTown_27 : decode (zB 108) 27 = .ok (.aload_n 0, 1) := by decide +kernel
theorem dX9_readsTown_28 : decode (zB 108) 28 = .ok (.dup, 1) := by decide +kernel
theorem dX9_readsTown_29 : decode (zB 108) 29 = .ok (.getfield 97, 3) := by decide +kernel
theorem dX9_readsTown_32 : decode (zB 108) 32 = .ok (.iload_n 3, 1) := by decide +kernel
theorem dX9_readsTown_33 : decode (zB 108) 33 = .ok (.ifCond .eq 7, 3) := by decide +kernel
theorem dX9_readsTown_36 : decode (zB 108) 36 = .ok (.iconst 1, 1) := by decide +kernel
theorem dX9_readsTown_37 : decode (zB 108) 37 = .ok (.goto 4, 3) := by decide +kernel
theorem dX9_readsTown_40 : decode (zB 108) 40 = .ok (.iconst 0, 1) := by decide +kernel
theorem dX9_readsTown_41 : decode (zB 108) 41 = .ok (.iadd, 1) := by decide +kernel
theorem dX9_readsTown_42 : decode (zB 108) 42 = .ok (.putfield 97, 3) := by decide +kernel
theorem dX9_readsTown_45 : decode (zB 108) 45 = .ok (.aload_n 0, 1) := by decide +kernel
theorem dX9_readsTown_46 : decode (zB 108) 46 = .ok (.iload_n 3, 1) := by decide +kernel
theorem dX9_readsTown_47 : decode (zB 108) 47 = .ok (.ifCond .eq 13, 3) := by decide +kernel
theorem dX9_readsTown_50 : decode (zB 108) 50 = .ok (.aload_n 0, 1) := by decide +kernel
theorem dX9_readsTown_51 : decode (zB 108) 51 = .ok (.iload_n 1, 1) := by decide +kernel
theorem dX9_readsTown_52 : decode (zB 108) 52 = .ok (.iload_n 2, 1) := by decide +kernel
theorem dX9_readsTown_53 : decode (zB 108) 53 = .ok (.iconst 0, 1) := by decide +kernel
theorem dX9_readsTown_54 : decode (zB 108) 54 = .ok (.invokevirtual 109, 3) := by decide +kernel
theorem dX9_readsTown_57 : decode (zB 108) 57 = .ok (.goto 5, 3) := by decide +kernel
theorem dX9_readsTown_60 : decode (zB 108) 60 = .ok (.bipush (-9), 2) := by decide +kernel
theorem dX9_readsTown_62 : decode (zB 108) 62 = .ok (.putfield 113, 3) := by decide +kernel
theorem dX9_readsTown_65 : decode (zB 108) 65 = .ok (.aload_n 0, 1) := by decide +kernel
theorem dX9_readsTown_66 : decode (zB 108) 66 = .ok (.getfield 113, 3) := by decide +kernel
theorem dX9_readsTown_69 : decode (zB 108) 69 = .ok (.ifCond .lt 7, 3) := by decide +kernel
theorem dX9_readsTown_72 : decode (zB 108) 72 = .ok (.iconst 1, 1) := by decide +kernel
theorem dX9_readsTown_73 : decode (zB 108) 73 = .ok (.goto 4, 3) := by decide +kernel
theorem dX9_readsTown_76 : decode (zB 108) 76 = .ok (.iconst 0, 1) := by decide +kernel
theorem dX9_readsTown_77 : decode (zB 108) 77 = .ok (.istore_n 3, 1) := by decide +kernel
theorem dX9_readsTown_78 : decode (zB 108) 78 = .ok (.iload_n 3, 1) := by decide +kernel
theorem dX9_readsTown_79 : decode (zB 108) 79 = .ok (.ifCond .eq 29, 3) := by decide +kernel
theorem dX9_readsTown_82 : decode (zB 108) 82 = .ok (.aload_n 0, 1) := by decide +kernel
theorem dX9_readsTown_83 : decode (zB 108) 83 = .ok (.getfield 106, 3) := by decide +kernel
theorem dX9_readsTown_86 : decode (zB 108) 86 = .ok (.iconst 2, 1) := by decide +kernel
theorem dX9_readsTown_87 : decode (zB 108) 87 = .ok (.if_icmp .lt 11, 3) := by decide +kernel
theorem dX9_readsTown_90 : decode (zB 108) 90 = .ok (.aload_n 0, 1) := by decide +kernel
theorem dX9_readsTown_91 : decode (zB 108) 91 = .ok (.getfield 97, 3) := by decide +kernel
theorem dX9_readsTown_94 : decode (zB 108) 94 = .ok (.iload_n 2, 1) := by decide +kernel
theorem dX9_readsTown_95 : decode (zB 108) 95 = .ok (.if_icmp .ge 13, 3) := by decide +kernel
theorem dX9_readsTown_98 : decode (zB 108) 98 = .ok (.aload_n 0, 1) := by decide +kernel
theorem dX9_readsTown_99 : decode (zB 108) 99 = .ok (.iload_n 1, 1) := by decide +kernel
theorem dX9_readsTown_100 : decode (zB 108) 100 = .ok (.iload_n 2, 1) := by decide +kernel
theorem dX9_readsTown_101 : decode (zB 108) 101 = .ok (.invokevirtual 116, 3) := by decide +kernel
theorem dX9_readsTown_104 : decode (zB 108) 104 = .ok (.istore_n 3, 1) := by decide +kernel
theorem dX9_readsTown_105 : decode (zB 108) 105 = .ok (.goto (-27), 3) := by decide +kernel
theorem dX9_readsTown_108 : decode (zB 108) 108 = .ok (.iload_n 3, 1) := by decide +kernel
theorem dX9_readsTown_109 : decode (zB 108) 109 = .ok (.ireturn, 1) := by decide +kernel
theorem dX9_town_0 : decode (zB 109) 0 = .ok (.iload_n 1, 1) := by decide +kernel
theorem dX9_town_1 : decode (zB 109) 1 = .ok (.invokestatic 120, 3) := by decide +kernel
theorem dX9_town_4 : decode (zB 109) 4 = .ok (.ifCond .eq 9, 3) := by decide +kernel
theorem dX9_town_7 : decode (zB 109) 7 = .ok (.aload_n 0, 1) := by decide +kernel
theorem dX9_town_8 : decode (zB 109) 8 = .ok (.iconst (-1), 1) := by decide +kernel
theorem dX9_town_9 : decode (zB 109) 9 = .ok (.invokevirtual 124, 3) := by decide +kernel
theorem dX9_town_12 : decode (zB 109) 12 = .ok (.ireturn, 1) := by decide +kernel
theorem dX9_town_13 : decode (zB 109) 13 = .ok (.iload_n 2, 1) := by decide +kernel
theorem dX9_town_14 : decode (zB 109) 14 = .ok (.i2l, 1) := by decide +kernel
theorem dX9_town_15 : decode (zB 109) 15 = .ok (.lconst 0, 1) := by decide +kernel
theorem dX9_town_16 : decode (zB 109) 16 = .ok (.ldc2_w 128, 3) := by decide +kernel
theorem dX9_town_19 : decode (zB 109) 19 = .ok (.invokestatic 93, 3) := by decide +kernel
theorem dX9_town_22 : decode (zB 109) 22 = .ok (.ifCond .ne 10, 3) := by decide +kernel
theorem dX9_town_25 : decode (zB 109) 25 = .ok (.aload_n 0, 1) := by decide +kernel
theorem dX9_town_26 : decode (zB 109) 26 = .ok (.bipush (-2), 2) := by decide +kernel
theorem dX9_town_28 : decode (zB 109) 28 = .ok (.invokevirtual 124, 3) := by decide +kernel
theorem dX9_town_31 : decode (zB 109) 31 = .ok (.ireturn, 1) := by decide +kernel
theorem dX9_town_32 : decode (zB 109) 32 = .ok (.aload_n 0, 1) := by decide +kernel
theorem dX9_town_33 : decode (zB 109) 33 = .ok (.getfield 68, 3) := by decide +kernel
theorem dX9_town_36 : decode (zB 109) 36 = .ok (.iload_n 1, 1) := by decide +kernel
theorem dX9_town_37 : decode (zB 109) 37 = .ok (.iaload, 1) := by decide +kernel
theorem dX9_town_38 : decode (zB 109) 38 = .ok (.ifCond .lt 19, 3) := by decide +kernel
theorem dX9_town_41 : decode (zB 109) 41 = .ok (.aload_n 0, 1) := by decide +kernel
theorem dX9_town_42 : decode (zB 109) 42 = .ok (.getfield 71, 3) := by decide +kernel
theorem dX9_town_45 : decode (zB 109) 45 = .ok (.iload_n 1, 1) := by decide +kernel
theorem dX9_town_46 : decode (zB 109) 46 = .ok (.iaload, 1) := by decide +kernel
theorem dX9_town_47 : decode (zB 109) 47 = .ok (.iload_n 2, 1) := by decide +kernel
theorem dX9_town_48 : decode (zB 109) 48 = .ok (.if_icmp .eq 9, 3) := by decide +kernel
theorem dX9_town_51 : decode (zB 109) 51 = .ok (.aload_n 0, 1) := by decide +kernel
theorem dX9_town_52 : decode (zB 109) 52 = .ok (.iconst 2, 1) := by decide +kernel
theorem dX9_town_53 : decode (zB 109) 53 = .ok (.invokevirtual 130, 3) := by decide +kernel
theorem dX9_town_56 : decode (zB 109) 56 = .ok (.ireturn, 1) := by decide +kernel
theorem dX9_town_57 : decode (zB 109) 57 = .ok (.aload_n 0, 1) := by decide +kernel
theorem dX9_town_58 : decode (zB 109) 58 = .ok (.getfield 68, 3) := by decide +kernel
theorem dX9_town_61 : decode (zB 109) 61 = .ok (.iload_n 1, 1) := by decide +kernel
theorem dX9_town_62 : decode (zB 109) 62 = .ok (.iaload, 1) := by decide +kernel
theorem dX9_town_63 : decode (zB 109) 63 = .ok (.ifCond .ge 9, 3) := by decide +kernel
theorem dX9_town_66 : decode (zB 109) 66 = .ok (.aload_n 0, 1) := by decide +kernel
theorem dX9_town_67 : decode (zB 109) 67 = .ok (.iconst 1, 1) := by decide +kernel
theorem dX9_town_68 : decode (zB 109) 68 = .ok (.invokevirtual 130, 3) := by decide +kernel
theorem dX9_town_71 : decode (zB 109) 71 = .ok (.ireturn, 1) := by decide +kernel
theorem dX9_town_72 : decode (zB 109) 72 = .ok (.iload 4, 2) := by decide +kernel
theorem dX9_town_74 : decode (zB 109) 74 = .ok (.ifCond .ge 9, 3) := by decide +kernel
theorem dX9_town_77 : decode (zB 109) 77 = .ok (.aload_n 0, 1) := by decide +kernel
theorem dX9_town_78 : decode (zB 109) 78 = .ok (.iconst 4, 1) := by decide +kernel
theorem dX9_town_79 : decode (zB 109) 79 = .ok (.invokevirtual 130, 3) := by decide +kernel
theorem dX9_town_82 : decode (zB 109) 82 = .ok (.ireturn, 1) := by decide +kernel
theorem dX9_town_83 : decode (zB 109) 83 = .ok (.iload_n 3, 1) := by decide +kernel
theorem dX9_town_84 : decode (zB 109) 84 = .ok (.iload 4, 2) := by decide +kernel
theorem dX9_town_86 : decode (zB 109) 86 = .ok (.i2l, 1) := by decide +kernel
theorem dX9_town_87 : decode (zB 109) 87 = .ok (.aload_n 0, 1) := by decide +kernel
theorem dX9_town_88 : decode (zB 109) 88 = .ok (.getfield 68, 3) := by decide +kernel
theorem dX9_town_91 : decode (zB 109) 91 = .ok (.iload_n 1, 1) := by decide +kernel
theorem dX9_town_92 : decode (zB 109) 92 = .ok (.iaload, 1) := by decide +kernel
theorem dX9_town_93 : decode (zB 109) 93 = .ok (.invokestatic 133, 3) := by decide +kernel
theorem dX9_town_96 : decode (zB 109) 96 = .ok (.ifCond .eq 9, 3) := by decide +kernel
theorem dX9_town_99 : decode (zB 109) 99 = .ok (.aload_n 0, 1) := by decide +kernel
theorem dX9_town_100 : decode (zB 109) 100 = .ok (.iconst 3, 1) := by decide +kernel
theorem dX9_town_101 : decode (zB 109) 101 = .ok (.invokevirtual 130, 3) := by decide +kernel
theorem dX9_town_104 : decode (zB 109) 104 = .ok (.ireturn, 1) := by decide +kernel
theorem dX9_town_105 : decode (zB 109) 105 = .ok (.aload_n 0, 1) := by decide +kernel
theorem dX9_town_106 : decode (zB 109) 106 = .ok (.bipush 60, 2) := by decide +kernel
theorem dX9_town_108 : decode (zB 109) 108 = .ok (.iload_n 1, 1) := by decide +kernel
theorem dX9_town_109 : decode (zB 109) 109 = .ok (.imul, 1) := by decide +kernel
theorem dX9_town_110 : decode (zB 109) 110 = .ok (.iload_n 3, 1) := by decide +kernel
theorem dX9_town_111 : decode (zB 109) 111 = .ok (.iadd, 1) := by decide +kernel
theorem dX9_town_112 : decode (zB 109) 112 = .ok (.iload 4, 2) := by decide +kernel
theorem dX9_town_114 : decode (zB 109) 114 = .ok (.invokevirtual 137, 3) := by decide +kernel
theorem dX9_town_117 : decode (zB 109) 117 = .ok (.ifCond .ne 15, 3) := by decide +kernel
theorem dX9_town_120 : decode (zB 109) 120 = .ok (.aload_n 0, 1) := by decide +kernel
theorem dX9_town_121 : decode (zB 109) 121 = .ok (.bipush (-100), 2) := by decide +kernel
theorem dX9_town_123 : decode (zB 109) 123 = .ok (.aload_n 0, 1) := by decide +kernel
theorem dX9_town_124 : decode (zB 109) 124 = .ok (.getfield 97, 3) := by decide +kernel
theorem dX9_town_127 : decode (zB 109) 127 = .ok (.isub, 1) := by decide +kernel
theorem dX9_town_128 : decode (zB 109) 128 = .ok (.invokevirtual 124, 3) := by decide +kernel
theorem dX9_town_131 : decode (zB 109) 131 = .ok (.ireturn, 1) := by decide +kernel
theorem dX9_town_132 : decode (zB 109) 132 = .ok (.aload_n 0, 1) := by decide +kernel
theorem dX9_town_133 : decode (zB 109) 133 = .ok (.aload_n 0, 1) := by decide +kernel
theorem dX9_town_134 : decode (zB 109) 134 = .ok (.getfield 106, 3) := by decide +kernel
theorem dX9_town_137 : decode (zB 109) 137 = .ok (.putfield 90, 3) := by decide +kernel
theorem dX9_town_140 : decode (zB 109) 140 = .ok (.aload_n 0, 1) := by decide +kernel
theorem dX9_town_141 : decode (zB 109) 141 = .ok (.aload_n 0, 1) := by decide +kernel
theorem dX9_town_142 : decode (zB 109) 142 = .ok (.getfield 113, 3) := by decide +kernel
theorem dX9_town_145 : decode (zB 109) 145 = .ok (.putfield 140, 3) := by decide +kernel
theorem dX9_town_148 : decode (zB 109) 148 = .ok (.iconst 0, 1) := by decide +kernel
theorem dX9_town_149 : decode (zB 109) 149 = .ok (.istore 5, 2) := by decide +kernel
theorem dX9_town_151 : decode (zB 109) 151 = .ok (.iload 5, 2) := by decide +kernel
theorem dX9_town_153 : decode (zB 109) 153 = .ok (.aload_n 0, 1) := by decide +kernel
theorem dX9_town_154 : decode (zB 109) 154 = .ok (.getfield 90, 3) := by decide +kernel
theorem dX9_town_157 : decode (zB 109) 157 = .ok (.if_icmp .ge 93, 3) := by decide +kernel
theorem dX9_town_160 : decode (zB 109) 160 = .ok (.aload_n 0, 1) := by decide +kernel
theorem dX9_town_161 : decode (zB 109) 161 = .ok (.getfield 7, 3) := by decide +kernel
theorem dX9_town_164 : decode (zB 109) 164 = .ok (.iload 5, 2) := by decide +kernel
theorem dX9_town_166 : decode (zB 109) 166 = .ok (.aload_n 0, 1) := by decide +kernel
theorem dX9_town_167 : decode (zB 109) 167 = .ok (.getfield 25, 3) := by decide +kernel
theorem dX9_town_170 : decode (zB 109) 170 = .ok (.iload 5, 2) := by decide +kernel
theorem dX9_town_172 : decode (zB 109) 172 = .ok (.iaload, 1) := by decide +kernel
theorem dX9_town_173 : decode (zB 109) 173 = .ok (.iastore, 1) := by decide +kernel
theorem dX9_town_174 : decode (zB 109) 174 = .ok (.aload_n 0, 1) := by decide +kernel
theorem dX9_town_175 : decode (zB 109) 175 = .ok (.getfield 13, 3) := by decide +kernel
theorem dX9_town_178 : decode (zB 109) 178 = .ok (.iload 5, 2) := by decide +kernel
theorem dX9_town_180 : decode (zB 109) 180 = .ok (.aload_n 0, 1) := by decide +kernel
theorem dX9_town_181 : decode (zB 109) 181 = .ok (.getfield 28, 3) := by decide +kernel
theorem dX9_town_184 : decode (zB 109) 184 = .ok (.iconst 4, 1) := by decide +kernel
theorem dX9_town_185 : decode (zB 109) 185 = .ok (.iload 5, 2) := by decide +kernel
theorem dX9_town_187 : decode (zB 109) 187 = .ok (.imul, 1) := by decide +kernel
theorem dX9_town_188 : decode (zB 109) 188 = .ok (.iaload, 1) := by decide +kernel
theorem dX9_town_189 : decode (zB 109) 189 = .ok (.iastore, 1) := by decide +kernel
theorem dX9_town_190 : decode (zB 109) 190 = .ok (.aload_n 0, 1) := by decide +kernel
theorem dX9_town_191 : decode (zB 109) 191 = .ok (.getfield 16, 3) := by decide +kernel
theorem dX9_town_194 : decode (zB 109) 194 = .ok (.iload 5, 2) := by decide +kernel
theorem dX9_town_196 : decode (zB 109) 196 = .ok (.aload_n 0, 1) := by decide +kernel
theorem dX9_town_197 : decode (zB 109) 197 = .ok (.getfield 28, 3) := by decide +kernel
theorem dX9_town_200 : decode (zB 109) 200 = .ok (.iconst 4, 1) := by decide +kernel
theorem dX9_town_201 : decode (zB 109) 201 = .ok (.iload 5, 2) := by decide +kernel
theorem dX9_town_203 : decode (zB 109) 203 = .ok (.imul, 1) := by decide +kernel
theorem dX9_town_204 : decode (zB 109) 204 = .ok (.iconst 1, 1) := by decide +kernel
theorem dX9_town_205 : decode (zB 109) 205 = .ok (.iadd, 1) := by decide +kernel
theorem dX9_town_206 : decode (zB 109) 206 = .ok (.iaload, 1) := by decide +kernel
theorem dX9_town_207 : decode (zB 109) 207 = .ok (.iastore, 1) := by decide +kernel
theorem dX9_town_208 : decode (zB 109) 208 = .ok (.aload_n 0, 1) := by decide +kernel
theorem dX9_town_209 : decode (zB 109) 209 = .ok (.getfield 19, 3) := by decide +kernel
theorem dX9_town_212 : decode (zB 109) 212 = .ok (.iload 5, 2) := by decide +kernel
theorem dX9_town_214 : decode (zB 109) 214 = .ok (.aload_n 0, 1) := by decide +kernel
theorem dX9_town_215 : decode (zB 109) 215 = .ok (.getfield 28, 3) := by decide +kernel
theorem dX9_town_218 : decode (zB 109) 218 = .ok (.iconst 4, 1) := by decide +kernel
theorem dX9_town_219 : decode (zB 109) 219 = .ok (.iload 5, 2) := by decide +kernel
theorem dX9_town_221 : decode (zB 109) 221 = .ok (.imul, 1) := by decide +kernel
theorem dX9_town_222 : decode (zB 109) 222 = .ok (.iconst 2, 1) := by decide +kernel
theorem dX9_town_223 : decode (zB 109) 223 = .ok (.iadd, 1) := by decide +kernel
theorem dX9_town_224 : decode (zB 109) 224 = .ok (.iaload, 1) := by decide +kernel
theorem dX9_town_225 : decode (zB 109) 225 = .ok (.iastore, 1) := by decide +kernel
theorem dX9_town_226 : decode (zB 109) 226 = .ok (.aload_n 0, 1) := by decide +kernel
theorem dX9_town_227 : decode (zB 109) 227 = .ok (.getfield 22, 3) := by decide +kernel
theorem dX9_town_230 : decode (zB 109) 230 = .ok (.iload 5, 2) := by decide +kernel
theorem dX9_town_232 : decode (zB 109) 232 = .ok (.aload_n 0, 1) := by decide +kernel
theorem dX9_town_233 : decode (zB 109) 233 = .ok (.getfield 28, 3) := by decide +kernel
theorem dX9_town_236 : decode (zB 109) 236 = .ok (.iconst 4, 1) := by decide +kernel
theorem dX9_town_237 : decode (zB 109) 237 = .ok (.iload 5, 2) := by decide +kernel
theorem dX9_town_239 : decode (zB 109) 239 = .ok (.imul, 1) := by decide +kernel
theorem dX9_town_240 : decode (zB 109) 240 = .ok (.iconst 3, 1) := by decide +kernel
theorem dX9_town_241 : decode (zB 109) 241 = .ok (.iadd, 1) := by decide +kernel
theorem dX9_town_242 : decode (zB 109) 242 = .ok (.iaload, 1) := by decide +kernel
theorem dX9_town_243 : decode (zB 109) 243 = .ok (.iastore, 1) := by decide +kernel
theorem dX9_town_244 : decode (zB 109) 244 = .ok (.iinc 5 1, 3) := by decide +kernel
theorem dX9_town_247 : decode (zB 109) 247 = .ok (.goto (-96), 3) := by decide +kernel
theorem dX9_town_250 : decode (zB 109) 250 = .ok (.aload_n 0, 1) := by decide +kernel
theorem dX9_town_251 : decode (zB 109) 251 = .ok (.iconst 0, 1) := by decide +kernel
theorem dX9_town_252 : decode (zB 109) 252 = .ok (.putfield 143, 3) := by decide +kernel
theorem dX9_town_255 : decode (zB 109) 255 = .ok (.aload_n 0, 1) := by decide +kernel
theorem dX9_town_256 : decode (zB 109) 256 = .ok (.iconst 0, 1) := by decide +kernel
theorem dX9_town_257 : decode (zB 109) 257 = .ok (.putfield 146, 3) := by decide +kernel
theorem dX9_town_260 : decode (zB 109) 260 = .ok (.aload_n 0, 1) := by decide +kernel
theorem dX9_town_261 : decode (zB 109) 261 = .ok (.aload_n 0, 1) := by decide +kernel
theorem dX9_town_262 : decode (zB 109) 262 = .ok (.getfield 90, 3) := by decide +kernel
theorem dX9_town_265 : decode (zB 109) 265 = .ok (.invokevirtual 124, 3) := by decide +kernel
theorem dX9_town_268 : decode (zB 109) 268 = .ok (.ireturn, 1) := by decide +kernel
theorem dX9_ofHouse_0 : decode (zB 110) 0 = .ok (.aload_n 0, 1) := by decide +kernel
theorem dX9_ofHouse_1 : decode (zB 110) 1 = .ok (.iload_n 1, 1) := by decide +kernel
theorem dX9_ofHouse_2 : decode (zB 110) 2 = .ok (.invokevirtual 149, 3) := by decide +kernel
theorem dX9_ofHouse_5 : decode (zB 110) 5 = .ok (.ifCond .eq 5, 3) := by decide +kernel
theorem dX9_ofHouse_8 : decode (zB 110) 8 = .ok (.iconst (-1), 1) := by decide +kernel
theorem dX9_ofHouse_9 : decode (zB 110) 9 = .ok (.ireturn, 1) := by decide +kernel
theorem dX9_ofHouse_10 : decode (zB 110) 10 = .ok (.iload_n 2, 1) := by decide +kernel
theorem dX9_ofHouse_11 : decode (zB 110) 11 = .ok (.tableswitch 68 0 4 #[33, 40, 47, 54, 61], 33) := by decide +kernel
theorem dX9_ofHouse_44 : decode (zB 110) 44 = .ok (.aload_n 0, 1) := by decide +kernel
theorem dX9_ofHouse_45 : decode (zB 110) 45 = .ok (.getfield 7, 3) := by decide +kernel
theorem dX9_ofHouse_48 : decode (zB 110) 48 = .ok (.iload_n 1, 1) := by decide +kernel
theorem dX9_ofHouse_49 : decode (zB 110) 49 = .ok (.iaload, 1) := by decide +kernel
theorem dX9_ofHouse_50 : decode (zB 110) 50 = .ok (.ireturn, 1) := by decide +kernel
theorem dX9_ofHouse_51 : decode (zB 110) 51 = .ok (.aload_n 0, 1) := by decide +kernel
theorem dX9_ofHouse_52 : decode (zB 110) 52 = .ok (.getfield 13, 3) := by decide +kernel
theorem dX9_ofHouse_55 : decode (zB 110) 55 = .ok (.iload_n 1, 1) := by decide +kernel
theorem dX9_ofHouse_56 : decode (zB 110) 56 = .ok (.iaload, 1) := by decide +kernel
theorem dX9_ofHouse_57 : decode (zB 110) 57 = .ok (.ireturn, 1) := by decide +kernel
theorem dX9_ofHouse_58 : decode (zB 110) 58 = .ok (.aload_n 0, 1) := by decide +kernel
theorem dX9_ofHouse_59 : decode (zB 110) 59 = .ok (.getfield 16, 3) := by decide +kernel
theorem dX9_ofHouse_62 : decode (zB 110) 62 = .ok (.iload_n 1, 1) := by decide +kernel
theorem dX9_ofHouse_63 : decode (zB 110) 63 = .ok (.iaload, 1) := by decide +kernel
theorem dX9_ofHouse_64 : decode (zB 110) 64 = .ok (.ireturn, 1) := by decide +kernel
theorem dX9_ofHouse_65 : decode (zB 110) 65 = .ok (.aload_n 0, 1) := by decide +kernel
theorem dX9_ofHouse_66 : decode (zB 110) 66 = .ok (.getfield 19, 3) := by decide +kernel
theorem dX9_ofHouse_69 : decode (zB 110) 69 = .ok (.iload_n 1, 1) := by decide +kernel
theorem dX9_ofHouse_70 : decode (zB 110) 70 = .ok (.iaload, 1) := by decide +kernel
theorem dX9_ofHouse_71 : decode (zB 110) 71 = .ok (.ireturn, 1) := by decide +kernel
theorem dX9_ofHouse_72 : decode (zB 110) 72 = .ok (.aload_n 0, 1) := by decide +kernel
theorem dX9_ofHouse_73 : decode (zB 110) 73 = .ok (.getfield 22, 3) := by decide +kernel
theorem dX9_ofHouse_76 : decode (zB 110) 76 = .ok (.iload_n 1, 1) := by decide +kernel
theorem dX9_ofHouse_77 : decode (zB 110) 77 = .ok (.iaload, 1) := by decide +kernel
theorem dX9_ofHouse_78 : decode (zB 110) 78 = .ok (.ireturn, 1) := by decide +kernel
theorem dX9_ofHouse_79 : decode (zB 110) 79 = .ok (.bipush (-2), 2) := by decide +kernel
theorem dX9_ofHouse_81 : decode (zB 110) 81 = .ok (.ireturn, 1) := by decide +kernel
theorem dX9_noGuest_0 : decode (zB 111) 0 = .ok (.iload_n 1, 1) := by decide +kernel
theorem dX9_noGuest_1 : decode (zB 111) 1 = .ok (.i2l, 1) := by decide +kernel
theorem dX9_noGuest_2 : decode (zB 111) 2 = .ok (.lconst 0, 1) := by decide +kernel
theorem dX9_noGuest_3 : decode (zB 111) 3 = .ok (.aload_n 0, 1) := by decide +kernel
theorem dX9_noGuest_4 : decode (zB 111) 4 = .ok (.getfield 143, 3) := by decide +kernel
theorem dX9_noGuest_7 : decode (zB 111) 7 = .ok (.i2l, 1) := by decide +kernel
theorem dX9_noGuest_8 : decode (zB 111) 8 = .ok (.lconst 1, 1) := by decide +kernel
theorem dX9_noGuest_9 : decode (zB 111) 9 = .ok (.lsub, 1) := by decide +kernel
theorem dX9_noGuest_10 : decode (zB 111) 10 = .ok (.invokestatic 93, 3) := by decide +kernel
theorem dX9_noGuest_13 : decode (zB 111) 13 = .ok (.ifCond .ne 7, 3) := by decide +kernel
theorem dX9_noGuest_16 : decode (zB 111) 16 = .ok (.iconst 1, 1) := by decide +kernel
theorem dX9_noGuest_17 : decode (zB 111) 17 = .ok (.goto 4, 3) := by decide +kernel
theorem dX9_noGuest_20 : decode (zB 111) 20 = .ok (.iconst 0, 1) := by decide +kernel
theorem dX9_noGuest_21 : decode (zB 111) 21 = .ok (.ireturn, 1) := by decide +kernel
theorem dX9_guest_0 : decode (zB 112) 0 = .ok (.iload_n 1, 1) := by decide +kernel
theorem dX9_guest_1 : decode (zB 112) 1 = .ok (.i2l, 1) := by decide +kernel
theorem dX9_guest_2 : decode (zB 112) 2 = .ok (.lconst 1, 1) := by decide +kernel
theorem dX9_guest_3 : decode (zB 112) 3 = .ok (.ldc2_w 152, 3) := by decide +kernel
theorem dX9_guest_6 : decode (zB 112) 6 = .ok (.invokestatic 93, 3) := by decide +kernel
theorem dX9_guest_9 : decode (zB 112) 9 = .ok (.ifCond .eq 28, 3) := by decide +kernel
theorem dX9_guest_12 : decode (zB 112) 12 = .ok (.iload_n 2, 1) := by decide +kernel
theorem dX9_guest_13 : decode (zB 112) 13 = .ok (.i2l, 1) := by decide +kernel
theorem dX9_guest_14 : decode (zB 112) 14 = .ok (.lconst 0, 1) := by decide +kernel
theorem dX9_guest_15 : decode (zB 112) 15 = .ok (.ldc2_w 154, 3) := by decide +kernel
theorem dX9_guest_18 : decode (zB 112) 18 = .ok (.invokestatic 93, 3) := by decide +kernel
theorem dX9_guest_21 : decode (zB 112) 21 = .ok (.ifCond .eq 16, 3) := by decide +kernel
theorem dX9_guest_24 : decode (zB 112) 24 = .ok (.iload_n 3, 1) := by decide +kernel
theorem dX9_guest_25 : decode (zB 112) 25 = .ok (.i2l, 1) := by decide +kernel
theorem dX9_guest_26 : decode (zB 112) 26 = .ok (.iload_n 2, 1) := by decide +kernel
theorem dX9_guest_27 : decode (zB 112) 27 = .ok (.i2l, 1) := by decide +kernel
theorem dX9_guest_28 : decode (zB 112) 28 = .ok (.ldc2_w 154, 3) := by decide +kernel
theorem dX9_guest_31 : decode (zB 112) 31 = .ok (.invokestatic 93, 3) := by decide +kernel
theorem dX9_guest_34 : decode (zB 112) 34 = .ok (.ifCond .ne 6, 3) := by decide +kernel
theorem dX9_guest_37 : decode (zB 112) 37 = .ok (.bipush (-2), 2) := by decide +kernel
theorem dX9_guest_39 : decode (zB 112) 39 = .ok (.ireturn, 1) := by decide +kernel
theorem dX9_guest_40 : decode (zB 112) 40 = .ok (.aload_n 0, 1) := by decide +kernel
theorem dX9_guest_41 : decode (zB 112) 41 = .ok (.getfield 90, 3) := by decide +kernel
theorem dX9_guest_44 : decode (zB 112) 44 = .ok (.ifCond .ne 6, 3) := by decide +kernel
theorem dX9_guest_47 : decode (zB 112) 47 = .ok (.bipush (-3), 2) := by decide +kernel
theorem dX9_guest_49 : decode (zB 112) 49 = .ok (.ireturn, 1) := by decide +kernel
theorem dX9_guest_50 : decode (zB 112) 50 = .ok (.aload_n 0, 1) := by decide +kernel
theorem dX9_guest_51 : decode (zB 112) 51 = .ok (.getfield 143, 3) := by decide +kernel
theorem dX9_guest_54 : decode (zB 112) 54 = .ok (.bipush 8, 2) := by decide +kernel
theorem dX9_guest_56 : decode (zB 112) 56 = .ok (.if_icmp .ne 6, 3) := by decide +kernel
theorem dX9_guest_59 : decode (zB 112) 59 = .ok (.bipush (-4), 2) := by decide +kernel
theorem dX9_guest_61 : decode (zB 112) 61 = .ok (.ireturn, 1) := by decide +kernel
theorem dX9_guest_62 : decode (zB 112) 62 = .ok (.aload_n 0, 1) := by decide +kernel
theorem dX9_guest_63 : decode (zB 112) 63 = .ok (.getfield 31, 3) := by decide +kernel
theorem dX9_guest_66 : decode (zB 112) 66 = .ok (.aload_n 0, 1) := by decide +kernel
theorem dX9_guest_67 : decode (zB 112) 67 = .ok (.getfield 143, 3) := by decide +kernel
theorem dX9_guest_70 : decode (zB 112) 70 = .ok (.iload_n 1, 1) := by decide +kernel
theorem dX9_guest_71 : decode (zB 112) 71 = .ok (.iastore, 1) := by decide +kernel
theorem dX9_guest_72 : decode (zB 112) 72 = .ok (.aload_n 0, 1) := by decide +kernel
theorem dX9_guest_73 : decode (zB 112) 73 = .ok (.getfield 34, 3) := by decide +kernel
theorem dX9_guest_76 : decode (zB 112) 76 = .ok (.aload_n 0, 1) := by decide +kernel
theorem dX9_guest_77 : decode (zB 112) 77 = .ok (.getfield 143, 3) := by decide +kernel
theorem dX9_guest_80 : decode (zB 112) 80 = .ok (.iload_n 2, 1) := by decide +kernel
theorem dX9_guest_81 : decode (zB 112) 81 = .ok (.iastore, 1) := by decide +kernel
theorem dX9_guest_82 : decode (zB 112) 82 = .ok (.aload_n 0, 1) := by decide +kernel
theorem dX9_guest_83 : decode (zB 112) 83 = .ok (.getfield 37, 3) := by decide +kernel
theorem dX9_guest_86 : decode (zB 112) 86 = .ok (.aload_n 0, 1) := by decide +kernel
theorem dX9_guest_87 : decode (zB 112) 87 = .ok (.getfield 143, 3) := by decide +kernel
theorem dX9_guest_90 : decode (zB 112) 90 = .ok (.iload_n 3, 1) := by decide +kernel
theorem dX9_guest_91 : decode (zB 112) 91 = .ok (.iastore, 1) := by decide +kernel
theorem dX9_guest_92 : decode (zB 112) 92 = .ok (.aload_n 0, 1) := by decide +kernel
theorem dX9_guest_93 : decode (zB 112) 93 = .ok (.getfield 40, 3) := by decide +kernel
theorem dX9_guest_96 : decode (zB 112) 96 = .ok (.aload_n 0, 1) := by decide +kernel
theorem dX9_guest_97 : decode (zB 112) 97 = .ok (.getfield 143, 3) := by decide +kernel
theorem dX9_guest_100 : decode (zB 112) 100 = .ok (.bipush (-9), 2) := by decide +kernel
theorem dX9_guest_102 : decode (zB 112) 102 = .ok (.iastore, 1) := by decide +kernel
theorem dX9_guest_103 : decode (zB 112) 103 = .ok (.aload_n 0, 1) := by decide +kernel
theorem dX9_guest_104 : decode (zB 112) 104 = .ok (.dup, 1) := by decide +kernel
theorem dX9_guest_105 : decode (zB 112) 105 = .ok (.getfield 143, 3) := by decide +kernel
theorem dX9_guest_108 : decode (zB 112) 108 = .ok (.iconst 1, 1) := by decide +kernel
theorem dX9_guest_109 : decode (zB 112) 109 = .ok (.iadd, 1) := by decide +kernel
theorem dX9_guest_110 : decode (zB 112) 110 = .ok (.putfield 143, 3) := by decide +kernel
theorem dX9_guest_113 : decode (zB 112) 113 = .ok (.aload_n 0, 1) := by decide +kernel
theorem dX9_guest_114 : decode (zB 112) 114 = .ok (.getfield 143, 3) := by decide +kernel
theorem dX9_guest_117 : decode (zB 112) 117 = .ok (.iconst 1, 1) := by decide +kernel
theorem dX9_guest_118 : decode (zB 112) 118 = .ok (.isub, 1) := by decide +kernel
theorem dX9_guest_119 : decode (zB 112) 119 = .ok (.ireturn, 1) := by decide +kernel
theorem dX9_ofGuest_0 : decode (zB 113) 0 = .ok (.aload_n 0, 1) := by decide +kernel
theorem dX9_ofGuest_1 : decode (zB 113) 1 = .ok (.iload_n 1, 1) := by decide +kernel
theorem dX9_ofGuest_2 : decode (zB 113) 2 = .ok (.invokevirtual 156, 3) := by decide +kernel
theorem dX9_ofGuest_5 : decode (zB 113) 5 = .ok (.ifCond .eq 5, 3) := by decide +kernel
theorem dX9_ofGuest_8 : decode (zB 113) 8 = .ok (.iconst (-1), 1) := by decide +kernel
theorem dX9_ofGuest_9 : decode (zB 113) 9 = .ok (.ireturn, 1) := by decide +kernel
theorem dX9_ofGuest_10 : decode (zB 113) 10 = .ok (.iload_n 2, 1) := by decide +kernel
theorem dX9_ofGuest_11 : decode (zB 113) 11 = .ok (.tableswitch 57 0 3 #[29, 36, 43, 50], 29) := by decide +kernel
theorem dX9_ofGuest_40 : decode (zB 113) 40 = .ok (.aload_n 0, 1) := by decide +kernel
theorem dX9_ofGuest_41 : decode (zB 113) 41 = .ok (.getfield 31, 3) := by decide +kernel
theorem dX9_ofGuest_44 : decode (zB 113) 44 = .ok (.iload_n 1, 1) := by decide +kernel
theorem dX9_ofGuest_45 : decode (zB 113) 45 = .ok (.iaload, 1) := by decide +kernel
theorem dX9_ofGuest_46 : decode (zB 113) 46 = .ok (.ireturn, 1) := by decide +kernel
theorem dX9_ofGuest_47 : decode (zB 113) 47 = .ok (.aload_n 0, 1) := by decide +kernel
theorem dX9_ofGuest_48 : decode (zB 113) 48 = .ok (.getfield 34, 3) := by decide +kernel
theorem dX9_ofGuest_51 : decode (zB 113) 51 = .ok (.iload_n 1, 1) := by decide +kernel
theorem dX9_ofGuest_52 : decode (zB 113) 52 = .ok (.iaload, 1) := by decide +kernel
theorem dX9_ofGuest_53 : decode (zB 113) 53 = .ok (.ireturn, 1) := by decide +kernel
theorem dX9_ofGuest_54 : decode (zB 113) 54 = .ok (.aload_n 0, 1) := by decide +kernel
theorem dX9_ofGuest_55 : decode (zB 113) 55 = .ok (.getfield 37, 3) := by decide +kernel
theorem dX9_ofGuest_58 : decode (zB 113) 58 = .ok (.iload_n 1, 1) := by decide +kernel
theorem dX9_ofGuest_59 : decode (zB 113) 59 = .ok (.iaload, 1) := by decide +kernel
theorem dX9_ofGuest_60 : decode (zB 113) 60 = .ok (.ireturn, 1) := by decide +kernel
theorem dX9_ofGuest_61 : decode (zB 113) 61 = .ok (.aload_n 0, 1) := by decide +kernel
theorem dX9_ofGuest_62 : decode (zB 113) 62 = .ok (.getfield 40, 3) := by decide +kernel
theorem dX9_ofGuest_65 : decode (zB 113) 65 = .ok (.iload_n 1, 1) := by decide +kernel
theorem dX9_ofGuest_66 : decode (zB 113) 66 = .ok (.iaload, 1) := by decide +kernel
theorem dX9_ofGuest_67 : decode (zB 113) 67 = .ok (.ireturn, 1) := by decide +kernel
theorem dX9_ofGuest_68 : decode (zB 113) 68 = .ok (.bipush (-2), 2) := by decide +kernel
theorem dX9_ofGuest_70 : decode (zB 113) 70 = .ok (.ireturn, 1) := by decide +kernel
theorem dX9_isThere_0 : decode (zB 114) 0 = .ok (.iload_n 2, 1) := by decide +kernel
theorem dX9_isThere_1 : decode (zB 114) 1 = .ok (.aload_n 0, 1) := by decide +kernel
theorem dX9_isThere_2 : decode (zB 114) 2 = .ok (.getfield 34, 3) := by decide +kernel
theorem dX9_isThere_5 : decode (zB 114) 5 = .ok (.iload_n 1, 1) := by decide +kernel
theorem dX9_isThere_6 : decode (zB 114) 6 = .ok (.iaload, 1) := by decide +kernel
theorem dX9_isThere_7 : decode (zB 114) 7 = .ok (.if_icmp .lt 17, 3) := by decide +kernel
theorem dX9_isThere_10 : decode (zB 114) 10 = .ok (.iload_n 2, 1) := by decide +kernel
theorem dX9_isThere_11 : decode (zB 114) 11 = .ok (.aload_n 0, 1) := by decide +kernel
theorem dX9_isThere_12 : decode (zB 114) 12 = .ok (.getfield 37, 3) := by decide +kernel
theorem dX9_isThere_15 : decode (zB 114) 15 = .ok (.iload_n 1, 1) := by decide +kernel
theorem dX9_isThere_16 : decode (zB 114) 16 = .ok (.iaload, 1) := by decide +kernel
theorem dX9_isThere_17 : decode (zB 114) 17 = .ok (.if_icmp .gt 7, 3) := by decide +kernel
theorem dX9_isThere_20 : decode (zB 114) 20 = .ok (.iconst 1, 1) := by decide +kernel
theorem dX9_isThere_21 : decode (zB 114) 21 = .ok (.goto 4, 3) := by decide +kernel
theorem dX9_isThere_24 : decode (zB 114) 24 = .ok (.iconst 0, 1) := by decide +kernel
theorem dX9_isThere_25 : decode (zB 114) 25 = .ok (.ireturn, 1) := by decide +kernel
theorem dX9_sleepers_0 : decode (zB 115) 0 = .ok (.iconst 0, 1) := by decide +kernel
theorem dX9_sleepers_1 : decode (zB 115) 1 = .ok (.istore 4, 2) := by decide +kernel
theorem dX9_sleepers_3 : decode (zB 115) 3 = .ok (.iconst 0, 1) := by decide +kernel
theorem dX9_sleepers_4 : decode (zB 115) 4 = .ok (.istore 5, 2) := by decide +kernel
theorem dX9_sleepers_6 : decode (zB 115) 6 = .ok (.iload 5, 2) := by decide +kernel
theorem dX9_sleepers_8 : decode (zB 115) 8 = .ok (.aload_n 0, 1) := by decide +kernel
theorem dX9_sleepers_9 : decode (zB 115) 9 = .ok (.getfield 143, 3) := by decide +kernel
theorem dX9_sleepers_12 : decode (zB 115) 12 = .ok (.if_icmp .ge 46, 3) := by decide +kernel
theorem dX9_sleepers_15 : decode (zB 115) 15 = .ok (.iload 4, 2) := by decide +kernel
theorem dX9_sleepers_17 : decode (zB 115) 17 = .ok (.iload 5, 2) := by decide +kernel
theorem dX9_sleepers_19 : decode (zB 115) 19 = .ok (.iload_n 3, 1) := by decide +kernel
theorem dX9_sleepers_20 : decode (zB 115) 20 = .ok (.if_icmp .eq 28, 3) := by decide +kernel
theorem dX9_sleepers_23 : decode (zB 115) 23 = .ok (.aload_n 0, 1) := by decide +kernel
theorem dX9_sleepers_24 : decode (zB 115) 24 = .ok (.getfield 40, 3) := by decide +kernel
theorem dX9_sleepers_27 : decode (zB 115) 27 = .ok (.iload 5, 2) := by decide +kernel
theorem dX9_sleepers_29 : decode (zB 115) 29 = .ok (.iaload, 1) := by decide +kernel
theorem dX9_sleepers_30 : decode (zB 115) 30 = .ok (.iload_n 1, 1) := by decide +kernel
theorem dX9_sleepers_31 : decode (zB 115) 31 = .ok (.if_icmp .ne 17, 3) := by decide +kernel
theorem dX9_sleepers_34 : decode (zB 115) 34 = .ok (.aload_n 0, 1) := by decide +kernel
theorem dX9_sleepers_35 : decode (zB 115) 35 = .ok (.iload 5, 2) := by decide +kernel
theorem dX9_sleepers_37 : decode (zB 115) 37 = .ok (.iload_n 2, 1) := by decide +kernel
theorem dX9_sleepers_38 : decode (zB 115) 38 = .ok (.invokevirtual 159, 3) := by decide +kernel
theorem dX9_sleepers_41 : decode (zB 115) 41 = .ok (.ifCond .eq 7, 3) := by decide +kernel
theorem dX9_sleepers_44 : decode (zB 115) 44 = .ok (.iconst 1, 1) := by decide +kernel
theorem dX9_sleepers_45 : decode (zB 115) 45 = .ok (.goto 4, 3) := by decide +kernel
theorem dX9_sleepers_48 : decode (zB 115) 48 = .ok (.iconst 0, 1) := by decide +kernel
theorem dX9_sleepers_49 : decode (zB 115) 49 = .ok (.iadd, 1) := by decide +kernel
theorem dX9_sleepers_50 : decode (zB 115) 50 = .ok (.istore 4, 2) := by decide +kernel
theorem dX9_sleepers_52 : decode (zB 115) 52 = .ok (.iinc 5 1, 3) := by decide +kernel
theorem dX9_sleepers_55 : decode (zB 115) 55 = .ok (.goto (-49), 3) := by decide +kernel
theorem dX9_sleepers_58 : decode (zB 115) 58 = .ok (.iload 4, 2) := by decide +kernel
theorem dX9_sleepers_60 : decode (zB 115) 60 = .ok (.ireturn, 1) := by decide +kernel
theorem dX9_hasBed_0 : decode (zB 116) 0 = .ok (.iconst 1, 1) := by decide +kernel
theorem dX9_hasBed_1 : decode (zB 116) 1 = .ok (.istore_n 3, 1) := by decide +kernel
theorem dX9_hasBed_2 : decode (zB 116) 2 = .ok (.aload_n 0, 1) := by decide +kernel
theorem dX9_hasBed_3 : decode (zB 116) 3 = .ok (.getfield 34, 3) := by decide +kernel
theorem dX9_hasBed_6 : decode (zB 116) 6 = .ok (.iload_n 1, 1) := by decide +kernel
theorem dX9_hasBed_7 : decode (zB 116) 7 = .ok (.iaload, 1) := by decide +kernel
theorem dX9_hasBed_8 : decode (zB 116) 8 = .ok (.istore 4, 2) := by decide +kernel
theorem dX9_hasBed_10 : decode (zB 116) 10 = .ok (.iload 4, 2) := by decide +kernel
theorem dX9_hasBed_12 : decode (zB 116) 12 = .ok (.aload_n 0, 1) := by decide +kernel
theorem dX9_hasBed_13 : decode (zB 116) 13 = .ok (.getfield 37, 3) := by decide +kernel
theorem dX9_hasBed_16 : decode (zB 116) 16 = .ok (.iload_n 1, 1) := by decide +kernel
theorem dX9_hasBed_17 : decode (zB 116) 17 = .ok (.iaload, 1) := by decide +kernel
theorem dX9_hasBed_18 : decode (zB 116) 18 = .ok (.if_icmp .gt 36, 3) := by decide +kernel
theorem dX9_hasBed_21 : decode (zB 116) 21 = .ok (.iload_n 3, 1) := by decide +kernel
theorem dX9_hasBed_22 : decode (zB 116) 22 = .ok (.ifCond .eq 24, 3) := by decide +kernel
theorem dX9_hasBed_25 : decode (zB 116) 25 = .ok (.aload_n 0, 1) := by decide +kernel
theorem dX9_hasBed_26 : decode (zB 116) 26 = .ok (.iload_n 2, 1) := by decide +kernel
theorem dX9_hasBed_27 : decode (zB 116) 27 = .ok (.iload 4, 2) := by decide +kernel
theorem dX9_hasBed_29 : decode (zB 116) 29 = .ok (.iload_n 1, 1) := by decide +kernel
theorem dX9_hasBed_30 : decode (zB 116) 30 = .ok (.invokevirtual 162, 3) := by decide +kernel
theorem dX9_hasBed_33 : decode (zB 116) 33 = .ok (.aload_n 0, 1) := by decide +kernel
theorem dX9_hasBed_34 : decode (zB 116) 34 = .ok (.getfield 13, 3) := by decide +kernel
theorem dX9_hasBed_37 : decode (zB 116) 37 = .ok (.iload_n 2, 1) := by decide +kernel
theorem dX9_hasBed_38 : decode (zB 116) 38 = .ok (.iaload, 1) := by decide +kernel
theorem dX9_hasBed_39 : decode (zB 116) 39 = .ok (.if_icmp .ge 7, 3) := by decide +kernel
theorem dX9_hasBed_42 : decode (zB 116) 42 = .ok (.iconst 1, 1) := by decide +kernel
theorem dX9_hasBed_43 : decode (zB 116) 43 = .ok (.goto 4, 3) := by decide +kernel
theorem dX9_hasBed_46 : decode (zB 116) 46 = .ok (.iconst 0, 1) := by decide +kernel
theorem dX9_hasBed_47 : decode (zB 116) 47 = .ok (.istore_n 3, 1) := by decide +kernel
theorem dX9_hasBed_48 : decode (zB 116) 48 = .ok (.iinc 4 1, 3) := by decide +kernel
theorem dX9_hasBed_51 : decode (zB 116) 51 = .ok (.goto (-41), 3) := by decide +kernel
theorem dX9_hasBed_54 : decode (zB 116) 54 = .ok (.iload_n 3, 1) := by decide +kernel
theorem dX9_hasBed_55 : decode (zB 116) 55 = .ok (.ireturn, 1) := by decide +kernel
theorem dX9_lodge_0 : decode (zB 117) 0 = .ok (.aload_n 0, 1) := by decide +kernel
theorem dX9_lodge_1 : decode (zB 117) 1 = .ok (.iload_n 1, 1) := by decide +kernel
theorem dX9_lodge_2 : decode (zB 117) 2 = .ok (.invokevirtual 156, 3) := by decide +kernel
theorem dX9_lodge_5 : decode (zB 117) 5 = .ok (.ifCond .ne 17, 3) := by decide +kernel
theorem dX9_lodge_8 : decode (zB 117) 8 = .ok (.iload_n 2, 1) := by decide +kernel
theorem dX9_lodge_9 : decode (zB 117) 9 = .ok (.bipush (-9), 2) := by decide +kernel
theorem dX9_lodge_11 : decode (zB 117) 11 = .ok (.if_icmp .eq 13, 3) := by decide +kernel
theorem dX9_lodge_14 : decode (zB 117) 14 = .ok (.aload_n 0, 1) := by decide +kernel
theorem dX9_lodge_15 : decode (zB 117) 15 = .ok (.iload_n 2, 1) := by decide +kernel
theorem dX9_lodge_16 : decode (zB 117) 16 = .ok (.invokevirtual 149, 3) := by decide +kernel
theorem dX9_lodge_19 : decode (zB 117) 19 = .ok (.ifCond .eq 5, 3) := by decide +kernel
theorem dX9_lodge_22 : decode (zB 117) 22 = .ok (.iconst (-1), 1) := by decide +kernel
theorem dX9_lodge_23 : decode (zB 117) 23 = .ok (.ireturn, 1) := by decide +kernel
theorem dX9_lodge_24 : decode (zB 117) 24 = .ok (.iload_n 2, 1) := by decide +kernel
theorem dX9_lodge_25 : decode (zB 117) 25 = .ok (.bipush (-9), 2) := by decide +kernel
theorem dX9_lodge_27 : decode (zB 117) 27 = .ok (.if_icmp .eq 15, 3) := by decide +kernel
theorem dX9_lodge_30 : decode (zB 117) 30 = .ok (.aload_n 0, 1) := by decide +kernel
theorem dX9_lodge_31 : decode (zB 117) 31 = .ok (.iload_n 1, 1) := by decide +kernel
theorem dX9_lodge_32 : decode (zB 117) 32 = .ok (.iload_n 2, 1) := by decide +kernel
theorem dX9_lodge_33 : decode (zB 117) 33 = .ok (.invokevirtual 165, 3) := by decide +kernel
theorem dX9_lodge_36 : decode (zB 117) 36 = .ok (.ifCond .ne 6, 3) := by decide +kernel
theorem dX9_lodge_39 : decode (zB 117) 39 = .ok (.bipush (-3), 2) := by decide +kernel
theorem dX9_lodge_41 : decode (zB 117) 41 = .ok (.ireturn, 1) := by decide +kernel
theorem dX9_lodge_42 : decode (zB 117) 42 = .ok (.aload_n 0, 1) := by decide +kernel
theorem dX9_lodge_43 : decode (zB 117) 43 = .ok (.getfield 40, 3) := by decide +kernel
theorem dX9_lodge_46 : decode (zB 117) 46 = .ok (.iload_n 1, 1) := by decide +kernel
theorem dX9_lodge_47 : decode (zB 117) 47 = .ok (.iaload, 1) := by decide +kernel
theorem dX9_lodge_48 : decode (zB 117) 48 = .ok (.istore_n 3, 1) := by decide +kernel
theorem dX9_lodge_49 : decode (zB 117) 49 = .ok (.aload_n 0, 1) := by decide +kernel
theorem dX9_lodge_50 : decode (zB 117) 50 = .ok (.getfield 40, 3) := by decide +kernel
theorem dX9_lodge_53 : decode (zB 117) 53 = .ok (.iload_n 1, 1) := by decide +kernel
theorem dX9_lodge_54 : decode (zB 117) 54 = .ok (.iload_n 2, 1) := by decide +kernel
theorem dX9_lodge_55 : decode (zB 117) 55 = .ok (.iastore, 1) := by decide +kernel
theorem dX9_lodge_56 : decode (zB 117) 56 = .ok (.iload_n 3, 1) := by decide +kernel
theorem dX9_lodge_57 : decode (zB 117) 57 = .ok (.ireturn, 1) := by decide +kernel
theorem dX9_begin_0 : decode (zB 118) 0 = .ok (.iconst 0, 1) := by decide +kernel
theorem dX9_begin_1 : decode (zB 118) 1 = .ok (.istore_n 1, 1) := by decide +kernel
theorem dX9_begin_2 : decode (zB 118) 2 = .ok (.iload_n 1, 1) := by decide +kernel
theorem dX9_begin_3 : decode (zB 118) 3 = .ok (.bipush 7, 2) := by decide +kernel
theorem dX9_begin_5 : decode (zB 118) 5 = .ok (.if_icmp .ge 16, 3) := by decide +kernel
theorem dX9_begin_8 : decode (zB 118) 8 = .ok (.aload_n 0, 1) := by decide +kernel
theorem dX9_begin_9 : decode (zB 118) 9 = .ok (.getfield 43, 3) := by decide +kernel
theorem dX9_begin_12 : decode (zB 118) 12 = .ok (.iload_n 1, 1) := by decide +kernel
theorem dX9_begin_13 : decode (zB 118) 13 = .ok (.iconst 0, 1) := by decide +kernel
theorem dX9_begin_14 : decode (zB 118) 14 = .ok (.iastore, 1) := by decide +kernel
theorem dX9_begin_15 : decode (zB 118) 15 = .ok (.iinc 1 1, 3) := by decide +kernel
theorem dX9_begin_18 : decode (zB 118) 18 = .ok (.goto (-16), 3) := by decide +kernel
theorem dX9_begin_21 : decode (zB 118) 21 = .ok (.return_, 1) := by decide +kernel
theorem dX9_beginPlain_0 : decode (zB 119) 0 = .ok (.aload_n 0, 1) := by decide +kernel
theorem dX9_beginPlain_1 : decode (zB 119) 1 = .ok (.invokevirtual 168, 3) := by decide +kernel
theorem dX9_beginPlain_4 : decode (zB 119) 4 = .ok (.aload_n 0, 1) := by decide +kernel
theorem dX9_beginPlain_5 : decode (zB 119) 5 = .ok (.bipush (-9), 2) := by decide +kernel
theorem dX9_beginPlain_7 : decode (zB 119) 7 = .ok (.putfield 171, 3) := by decide +kernel
theorem dX9_beginPlain_10 : decode (zB 119) 10 = .ok (.aload_n 0, 1) := by decide +kernel
theorem dX9_beginPlain_11 : decode (zB 119) 11 = .ok (.iconst 0, 1) := by decide +kernel
theorem dX9_beginPlain_12 : decode (zB 119) 12 = .ok (.putfield 174, 3) := by decide +kernel
theorem dX9_beginPlain_15 : decode (zB 119) 15 = .ok (.aload_n 0, 1) := by decide +kernel
theorem dX9_beginPlain_16 : decode (zB 119) 16 = .ok (.iconst 0, 1) := by decide +kernel
theorem dX9_beginPlain_17 : decode (zB 119) 17 = .ok (.putfield 177, 3) := by decide +kernel
theorem dX9_beginPlain_20 : decode (zB 119) 20 = .ok (.aload_n 0, 1) := by decide +kernel
theorem dX9_beginPlain_21 : decode (zB 119) 21 = .ok (.iconst 0, 1) := by decide +kernel
theorem dX9_beginPlain_22 : decode (zB 119) 22 = .ok (.putfield 180, 3) := by decide +kernel
theorem dX9_beginPlain_25 : decode (zB 119) 25 = .ok (.return_, 1) := by decide +kernel
theorem dX9_isPiled_0 : decode (zB 120) 0 = .ok (.aload_n 0, 1) := by decide +kernel
theorem dX9_isPiled_1 : decode (zB 120) 1 = .ok (.getfield 7, 3) := by decide +kernel
theorem dX9_isPiled_4 : decode (zB 120) 4 = .ok (.iload_n 1, 1) := by decide +kernel
theorem dX9_isPiled_5 : decode (zB 120) 5 = .ok (.iaload, 1) := by decide +kernel
theorem dX9_isPiled_6 : decode (zB 120) 6 = .ok (.iconst 2, 1) := by decide +kernel
theorem dX9_isPiled_7 : decode (zB 120) 7 = .ok (.if_icmp .eq 15, 3) := by decide +kernel
theorem dX9_isPiled_10 : decode (zB 120) 10 = .ok (.aload_n 0, 1) := by decide +kernel
theorem dX9_isPiled_11 : decode (zB 120) 11 = .ok (.getfield 180, 3) := by decide +kernel
theorem dX9_isPiled_14 : decode (zB 120) 14 = .ok (.iload_n 1, 1) := by decide +kernel
theorem dX9_isPiled_15 : decode (zB 120) 15 = .ok (.ishr, 1) := by decide +kernel
theorem dX9_isPiled_16 : decode (zB 120) 16 = .ok (.iconst 1, 1) := by decide +kernel
theorem dX9_isPiled_17 : decode (zB 120) 17 = .ok (.iand, 1) := by decide +kernel
theorem dX9_isPiled_18 : decode (zB 120) 18 = .ok (.iconst 1, 1) := by decide +kernel
theorem dX9_isPiled_19 : decode (zB 120) 19 = .ok (.if_icmp .ne 7, 3) := by decide +kernel
theorem dX9_isPiled_22 : decode (zB 120) 22 = .ok (.iconst 1, 1) := by decide +kernel
theorem dX9_isPiled_23 : decode (zB 120) 23 = .ok (.goto 4, 3) := by decide +kernel
theorem dX9_isPiled_26 : decode (zB 120) 26 = .ok (.iconst 0, 1) := by decide +kernel
theorem dX9_isPiled_27 : decode (zB 120) 27 = .ok (.ireturn, 1) := by decide +kernel
theorem dX9_press_0 : decode (zB 121) 0 = .ok (.iconst 0, 1) := by decide +kernel
theorem dX9_press_1 : decode (zB 121) 1 = .ok (.istore_n 3, 1) := by decide +kernel
theorem dX9_press_2 : decode (zB 121) 2 = .ok (.iconst 0, 1) := by decide +kernel
theorem dX9_press_3 : decode (zB 121) 3 = .ok (.istore 4, 2) := by decide +kernel
theorem dX9_press_5 : decode (zB 121) 5 = .ok (.iconst 0, 1) := by decide +kernel
theorem dX9_press_6 : decode (zB 121) 6 = .ok (.istore 5, 2) := by decide +kernel
theorem dX9_press_8 : decode (zB 121) 8 = .ok (.iload 5, 2) := by decide +kernel
theorem dX9_press_10 : decode (zB 121) 10 = .ok (.aload_n 0, 1) := by decide +kernel
theorem dX9_press_11 : decode (zB 121) 11 = .ok (.getfield 143, 3) := by decide +kernel
theorem dX9_press_14 : decode (zB 121) 14 = .ok (.if_icmp .ge 43, 3) := by decide +kernel
theorem dX9_press_17 : decode (zB 121) 17 = .ok (.aload_n 0, 1) := by decide +kernel
theorem dX9_press_18 : decode (zB 121) 18 = .ok (.getfield 40, 3) := by decide +kernel
theorem dX9_press_21 : decode (zB 121) 21 = .ok (.iload 5, 2) := by decide +kernel
theorem dX9_press_23 : decode (zB 121) 23 = .ok (.iaload, 1) := by decide +kernel
theorem dX9_press_24 : decode (zB 121) 24 = .ok (.iload_n 1, 1) := by decide +kernel
theorem dX9_press_25 : decode (zB 121) 25 = .ok (.if_icmp .ne 26, 3) := by decide +kernel
theorem dX9_press_28 : decode (zB 121) 28 = .ok (.aload_n 0, 1) := by decide +kernel
theorem dX9_press_29 : decode (zB 121) 29 = .ok (.iload 5, 2) := by decide +kernel
theorem dX9_press_31 : decode (zB 121) 31 = .ok (.iload_n 2, 1) := by decide +kernel
theorem dX9_press_32 : decode (zB 121) 32 = .ok (.invokevirtual 159, 3) := by decide +kernel
theorem dX9_press_35 : decode (zB 121) 35 = .ok (.ifCond .eq 16, 3) := by decide +kernel
theorem dX9_press_38 : decode (zB 121) 38 = .ok (.iload_n 3, 1) := by decide +kernel
theorem dX9_press_39 : decode (zB 121) 39 = .ok (.aload_n 0, 1) := by decide +kernel
theorem dX9_press_40 : decode (zB 121) 40 = .ok (.getfield 31, 3) := by decide +kernel
theorem dX9_press_43 : decode (zB 121) 43 = .ok (.iload 5, 2) := by decide +kernel
theorem dX9_press_45 : decode (zB 121) 45 = .ok (.iaload, 1) := by decide +kernel
theorem dX9_press_46 : decode (zB 121) 46 = .ok (.iadd, 1) := by decide +kernel
theorem dX9_press_47 : decode (zB 121) 47 = .ok (.istore_n 3, 1) := by decide +kernel
theorem dX9_press_48 : decode (zB 121) 48 = .ok (.iconst 1, 1) := by decide +kernel
theorem dX9_press_49 : decode (zB 121) 49 = .ok (.istore 4, 2) := by decide +kernel
theorem dX9_press_51 : decode (zB 121) 51 = .ok (.iinc 5 1, 3) := by decide +kernel
theorem dX9_press_54 : decode (zB 121) 54 = .ok (.goto (-46), 3) := by decide +kernel
theorem dX9_press_57 : decode (zB 121) 57 = .ok (.aload_n 0, 1) := by decide +kernel
theorem dX9_press_58 : decode (zB 121) 58 = .ok (.getfield 171, 3) := by decide +kernel
theorem dX9_press_61 : decode (zB 121) 61 = .ok (.iload_n 1, 1) := by decide +kernel
theorem dX9_press_62 : decode (zB 121) 62 = .ok (.if_icmp .ne 21, 3) := by decide +kernel
theorem dX9_press_65 : decode (zB 121) 65 = .ok (.iload_n 2, 1) := by decide +kernel
theorem dX9_press_66 : decode (zB 121) 66 = .ok (.aload_n 0, 1) := by decide +kernel
theorem dX9_press_67 : decode (zB 121) 67 = .ok (.getfield 177, 3) := by decide +kernel
theorem dX9_press_70 : decode (zB 121) 70 = .ok (.if_icmp .lt 13, 3) := by decide +kernel
theorem dX9_press_73 : decode (zB 121) 73 = .ok (.iload_n 3, 1) := by decide +kernel
theorem dX9_press_74 : decode (zB 121) 74 = .ok (.aload_n 0, 1) := by decide +kernel
theorem dX9_press_75 : decode (zB 121) 75 = .ok (.getfield 174, 3) := by decide +kernel
theorem dX9_press_78 : decode (zB 121) 78 = .ok (.iadd, 1) := by decide +kernel
theorem dX9_press_79 : decode (zB 121) 79 = .ok (.istore_n 3, 1) := by decide +kernel
theorem dX9_press_80 : decode (zB 121) 80 = .ok (.iconst 1, 1) := by decide +kernel
theorem dX9_press_81 : decode (zB 121) 81 = .ok (.istore 4, 2) := by decide +kernel
theorem dX9_press_83 : decode (zB 121) 83 = .ok (.aload_n 0, 1) := by decide +kernel
theorem dX9_press_84 : decode (zB 121) 84 = .ok (.getfield 46, 3) := by decide +kernel
theorem dX9_press_87 : decode (zB 121) 87 = .ok (.iload_n 1, 1) := by decide +kernel
theorem dX9_press_88 : decode (zB 121) 88 = .ok (.aload_n 0, 1) := by decide +kernel
theorem dX9_press_89 : decode (zB 121) 89 = .ok (.iload_n 1, 1) := by decide +kernel
theorem dX9_press_90 : decode (zB 121) 90 = .ok (.invokevirtual 183, 3) := by decide +kernel
theorem dX9_press_93 : decode (zB 121) 93 = .ok (.ifCond .eq 16, 3) := by decide +kernel
theorem dX9_press_96 : decode (zB 121) 96 = .ok (.iload_n 3, 1) := by decide +kernel
theorem dX9_press_97 : decode (zB 121) 97 = .ok (.aload_n 0, 1) := by decide +kernel
theorem dX9_press_98 : decode (zB 121) 98 = .ok (.getfield 16, 3) := by decide +kernel
theorem dX9_press_101 : decode (zB 121) 101 = .ok (.iload_n 1, 1) := by decide +kernel
theorem dX9_press_102 : decode (zB 121) 102 = .ok (.iaload, 1) := by decide +kernel
theorem dX9_press_103 : decode (zB 121) 103 = .ok (.imul, 1) := by decide +kernel
theorem dX9_press_104 : decode (zB 121) 104 = .ok (.iconst 2, 1) := by decide +kernel
theorem dX9_press_105 : decode (zB 121) 105 = .ok (.idiv, 1) := by decide +kernel
theorem dX9_press_106 : decode (zB 121) 106 = .ok (.goto 11, 3) := by decide +kernel
theorem dX9_press_109 : decode (zB 121) 109 = .ok (.iload_n 3, 1) := by decide +kernel
theorem dX9_press_110 : decode (zB 121) 110 = .ok (.aload_n 0, 1) := by decide +kernel
theorem dX9_press_111 : decode (zB 121) 111 = .ok (.getfield 16, 3) := by decide +kernel
theorem dX9_press_114 : decode (zB 121) 114 = .ok (.iload_n 1, 1) := by decide +kernel
theorem dX9_press_115 : decode (zB 121) 115 = .ok (.iaload, 1) := by decide +kernel
theorem dX9_press_116 : decode (zB 121) 116 = .ok (.imul, 1) := by decide +kernel
theorem dX9_press_117 : decode (zB 121) 117 = .ok (.iastore, 1) := by decide +kernel
theorem dX9_press_118 : decode (zB 121) 118 = .ok (.aload_n 0, 1) := by decide +kernel
theorem dX9_press_119 : decode (zB 121) 119 = .ok (.getfield 49, 3) := by decide +kernel
theorem dX9_press_122 : decode (zB 121) 122 = .ok (.iload_n 1, 1) := by decide +kernel
theorem dX9_press_123 : decode (zB 121) 123 = .ok (.iload 4, 2) := by decide +kernel
theorem dX9_press_125 : decode (zB 121) 125 = .ok (.bastore, 1) := by decide +kernel
theorem dX9_press_126 : decode (zB 121) 126 = .ok (.return_, 1) := by decide +kernel
theorem dX9_goNight_0 : decode (zB 122) 0 = .ok (.iconst 0, 1) := by decide +kernel
theorem dX9_goNight_1 : decode (zB 122) 1 = .ok (.istore_n 2, 1) := by decide +kernel
theorem dX9_goNight_2 : decode (zB 122) 2 = .ok (.iload_n 2, 1) := by decide +kernel
theorem dX9_goNight_3 : decode (zB 122) 3 = .ok (.aload_n 0, 1) := by decide +kernel
theorem dX9_goNight_4 : decode (zB 122) 4 = .ok (.getfield 90, 3) := by decide +kernel
theorem dX9_goNight_7 : decode (zB 122) 7 = .ok (.if_icmp .ge 15, 3) := by decide +kernel
theorem dX9_goNight_10 : decode (zB 122) 10 = .ok (.aload_n 0, 1) := by decide +kernel
theorem dX9_goNight_11 : decode (zB 122) 11 = .ok (.iload_n 2, 1) := by decide +kernel
theorem dX9_goNight_12 : decode (zB 122) 12 = .ok (.iload_n 1, 1) := by decide +kernel
theorem dX9_goNight_13 : decode (zB 122) 13 = .ok (.invokevirtual 186, 3) := by decide +kernel
theorem dX9_goNight_16 : decode (zB 122) 16 = .ok (.iinc 2 1, 3) := by decide +kernel
theorem dX9_goNight_19 : decode (zB 122) 19 = .ok (.goto (-17), 3) := by decide +kernel
theorem dX9_goNight_22 : decode (zB 122) 22 = .ok (.iconst 0, 1) := by decide +kernel
theorem dX9_goNight_23 : decode (zB 122) 23 = .ok (.istore_n 2, 1) := by decide +kernel
theorem dX9_goNight_24 : decode (zB 122) 24 = .ok (.iload_n 2, 1) := by decide +kernel
theorem dX9_goNight_25 : decode (zB 122) 25 = .ok (.aload_n 0, 1) := by decide +kernel
theorem dX9_goNight_26 : decode (zB 122) 26 = .ok (.getfield 90, 3) := by decide +kernel
theorem dX9_goNight_29 : decode (zB 122) 29 = .ok (.if_icmp .ge 139, 3) := by decide +kernel
theorem dX9_goNight_32 : decode (zB 122) 32 = .ok (.aload_n 0, 1) := by decide +kernel
theorem dX9_goNight_33 : decode (zB 122) 33 = .ok (.getfield 43, 3) := by decide +kernel
theorem dX9_goNight_36 : decode (zB 122) 36 = .ok (.iload_n 2, 1) := by decide +kernel
theorem dX9_goNight_37 : decode (zB 122) 37 = .ok (.iaload, 1) := by decide +kernel
theorem dX9_goNight_38 : decode (zB 122) 38 = .ok (.aload_n 0, 1) := by decide +kernel
theorem dX9_goNight_39 : decode (zB 122) 39 = .ok (.getfield 46, 3) := by decide +kernel
theorem dX9_goNight_42 : decode (zB 122) 42 = .ok (.iload_n 2, 1) := by decide +kernel
theorem dX9_goNight_43 : decode (zB 122) 43 = .ok (.iaload, 1) := by decide +kernel
theorem dX9_goNight_44 : decode (zB 122) 44 = .ok (.iadd, 1) := by decide +kernel
theorem dX9_goNight_45 : decode (zB 122) 45 = .ok (.istore_n 3, 1) := by decide +kernel
theorem dX9_goNight_46 : decode (zB 122) 46 = .ok (.iload_n 3, 1) := by decide +kernel
theorem dX9_goNight_47 : decode (zB 122) 47 = .ok (.iload_n 2, 1) := by decide +kernel
theorem dX9_goNight_48 : decode (zB 122) 48 = .ok (.ifCond .le 16, 3) := by decide +kernel
theorem dX9_goNight_51 : decode (zB 122) 51 = .ok (.aload_n 0, 1) := by decide +kernel
theorem dX9_goNight_52 : decode (zB 122) 52 = .ok (.getfield 46, 3) := by decide +kernel
theorem dX9_goNight_55 : decode (zB 122) 55 = .ok (.iload_n 2, 1) := by decide +kernel
theorem dX9_goNight_56 : decode (zB 122) 56 = .ok (.iconst 1, 1) := by decide +kernel
theorem dX9_goNight_57 : decode (zB 122) 57 = .ok (.isub, 1) := by decide +kernel
theorem dX9_goNight_58 : decode (zB 122) 58 = .ok (.iaload, 1) := by decide +kernel
theorem dX9_goNight_59 : decode (zB 122) 59 = .ok (.iconst 4, 1) := by decide +kernel
theorem dX9_goNight_60 : decode (zB 122) 60 = .ok (.idiv, 1) := by decide +kernel
theorem dX9_goNight_61 : decode (zB 122) 61 = .ok (.goto 4, 3) := by decide +kernel
theorem dX9_goNight_64 : decode (zB 122) 64 = .ok (.iconst 0, 1) := by decide +kernel
theorem dX9_goNight_65 : decode (zB 122) 65 = .ok (.iadd, 1) := by decide +kernel
theorem dX9_goNight_66 : decode (zB 122) 66 = .ok (.istore_n 3, 1) := by decide +kernel
theorem dX9_goNight_67 : decode (zB 122) 67 = .ok (.iload_n 3, 1) := by decide +kernel
theorem dX9_goNight_68 : decode (zB 122) 68 = .ok (.iload_n 2, 1) := by decide +kernel
theorem dX9_goNight_69 : decode (zB 122) 69 = .ok (.iconst 1, 1) := by decide +kernel
theorem dX9_goNight_70 : decode (zB 122) 70 = .ok (.iadd, 1) := by decide +kernel
theorem dX9_goNight_71 : decode (zB 122) 71 = .ok (.aload_n 0, 1) := by decide +kernel
theorem dX9_goNight_72 : decode (zB 122) 72 = .ok (.getfield 90, 3) := by decide +kernel
theorem dX9_goNight_75 : decode (zB 122) 75 = .ok (.if_icmp .ge 16, 3) := by decide +kernel
theorem dX9_goNight_78 : decode (zB 122) 78 = .ok (.aload_n 0, 1) := by decide +kernel
theorem dX9_goNight_79 : decode (zB 122) 79 = .ok (.getfield 46, 3) := by decide +kernel
theorem dX9_goNight_82 : decode (zB 122) 82 = .ok (.iload_n 2, 1) := by decide +kernel
theorem dX9_goNight_83 : decode (zB 122) 83 = .ok (.iconst 1, 1) := by decide +kernel
theorem dX9_goNight_84 : decode (zB 122) 84 = .ok (.iadd, 1) := by decide +kernel
theorem dX9_goNight_85 : decode (zB 122) 85 = .ok (.iaload, 1) := by decide +kernel
theorem dX9_goNight_86 : decode (zB 122) 86 = .ok (.iconst 4, 1) := by decide +kernel
theorem dX9_goNight_87 : decode (zB 122) 87 = .ok (.idiv, 1) := by decide +kernel
theorem dX9_goNight_88 : decode (zB 122) 88 = .ok (.goto 4, 3) := by decide +kernel
theorem dX9_goNight_91 : decode (zB 122) 91 = .ok (.iconst 0, 1) := by decide +kernel
theorem dX9_goNight_92 : decode (zB 122) 92 = .ok (.iadd, 1) := by decide +kernel
theorem dX9_goNight_93 : decode (zB 122) 93 = .ok (.istore_n 3, 1) := by decide +kernel
theorem dX9_goNight_94 : decode (zB 122) 94 = .ok (.iload_n 3, 1) := by decide +kernel
theorem dX9_goNight_95 : decode (zB 122) 95 = .ok (.aload_n 0, 1) := by decide +kernel
theorem dX9_goNight_96 : decode (zB 122) 96 = .ok (.getfield 49, 3) := by decide +kernel
theorem dX9_goNight_99 : decode (zB 122) 99 = .ok (.iload_n 2, 1) := by decide +kernel
theorem dX9_goNight_100 : decode (zB 122) 100 = .ok (.baload, 1) := by decide +kernel
theorem dX9_goNight_101 : decode (zB 122) 101 = .ok (.ifCond .ne 15, 3) := by decide +kernel
theorem dX9_goNight_104 : decode (zB 122) 104 = .ok (.bipush 10, 2) := by decide +kernel
theorem dX9_goNight_106 : decode (zB 122) 106 = .ok (.aload_n 0, 1) := by decide +kernel
theorem dX9_goNight_107 : decode (zB 122) 107 = .ok (.getfield 19, 3) := by decide +kernel
theorem dX9_goNight_110 : decode (zB 122) 110 = .ok (.iload_n 2, 1) := by decide +kernel
theorem dX9_goNight_111 : decode (zB 122) 111 = .ok (.iaload, 1) := by decide +kernel
theorem dX9_goNight_112 : decode (zB 122) 112 = .ok (.imul, 1) := by decide +kernel
theorem dX9_goNight_113 : decode (zB 122) 113 = .ok (.goto 32, 3) := by decide +kernel
theorem dX9_goNight_116 : decode (zB 122) 116 = .ok (.aload_n 0, 1) := by decide +kernel
theorem dX9_goNight_117 : decode (zB 122) 117 = .ok (.getfield 7, 3) := by decide +kernel
theorem dX9_goNight_120 : decode (zB 122) 120 = .ok (.iload_n 2, 1) := by decide +kernel
theorem dX9_goNight_121 : decode (zB 122) 121 = .ok (.iaload, 1) := by decide +kernel
theorem dX9_goNight_122 : decode (zB 122) 122 = .ok (.ifCond .gt 11, 3) := by decide +kernel
theorem dX9_goNight_125 : decode (zB 122) 125 = .ok (.aload_n 0, 1) := by decide +kernel
theorem dX9_goNight_126 : decode (zB 122) 126 = .ok (.iload_n 2, 1) := by decide +kernel
theorem dX9_goNight_127 : decode (zB 122) 127 = .ok (.invokevirtual 183, 3) := by decide +kernel
theorem dX9_goNight_130 : decode (zB 122) 130 = .ok (.ifCond .eq 14, 3) := by decide +kernel
theorem dX9_goNight_133 : decode (zB 122) 133 = .ok (.iconst 5, 1) := by decide +kernel
theorem dX9_goNight_134 : decode (zB 122) 134 = .ok (.aload_n 0, 1) := by decide +kernel
theorem dX9_goNight_135 : decode (zB 122) 135 = .ok (.getfield 19, 3) := by decide +kernel
theorem dX9_goNight_138 : decode (zB 122) 138 = .ok (.iload_n 2, 1) := by decide +kernel
theorem dX9_goNight_139 : decode (zB 122) 139 = .ok (.iaload, 1) := by decide +kernel
theorem dX9_goNight_140 : decode (zB 122) 140 = .ok (.imul, 1) := by decide +kernel
theorem dX9_goNight_141 : decode (zB 122) 141 = .ok (.goto 4, 3) := by decide +kernel
theorem dX9_goNight_144 : decode (zB 122) 144 = .ok (.iconst 0, 1) := by decide +kernel
theorem dX9_goNight_145 : decode (zB 122) 145 = .ok (.isub, 1) := by decide +kernel
theorem dX9_goNight_146 : decode (zB 122) 146 = .ok (.istore_n 3, 1) := by decide +kernel
theorem dX9_goNight_147 : decode (zB 122) 147 = .ok (.aload_n 0, 1) := by decide +kernel
theorem dX9_goNight_148 : decode (zB 122) 148 = .ok (.getfield 43, 3) := by decide +kernel
theorem dX9_goNight_151 : decode (zB 122) 151 = .ok (.iload_n 2, 1) := by decide +kernel
theorem dX9_goNight_152 : decode (zB 122) 152 = .ok (.iload_n 3, 1) := by decide +kernel
theorem dX9_goNight_153 : decode (zB 122) 153 = .ok (.ifCond .ge 7, 3) := by decide +kernel
theorem dX9_goNight_156 : decode (zB 122) 156 = .ok (.iconst 0, 1) := by decide +kernel
theorem dX9_goNight_157 : decode (zB 122) 157 = .ok (.goto 4, 3) := by decide +kernel
theorem dX9_goNight_160 : decode (zB 122) 160 = .ok (.iload_n 3, 1) := by decide +kernel
theorem dX9_goNight_161 : decode (zB 122) 161 = .ok (.iastore, 1) := by decide +kernel
theorem dX9_goNight_162 : decode (zB 122) 162 = .ok (.iinc 2 1, 3) := by decide +kernel
theorem dX9_goNight_165 : decode (zB 122) 165 = .ok (.goto (-141), 3) := by decide +kernel
theorem dX9_goNight_168 : decode (zB 122) 168 = .ok (.return_, 1) := by decide +kernel
theorem dX9_goTo_0 : decode (zB 123) 0 = .ok (.aload_n 0, 1) := by decide +kernel
theorem dX9_goTo_1 : decode (zB 123) 1 = .ok (.invokevirtual 190, 3) := by decide +kernel
theorem dX9_goTo_4 : decode (zB 123) 4 = .ok (.iconst 0, 1) := by decide +kernel
theorem dX9_goTo_5 : decode (zB 123) 5 = .ok (.istore_n 2, 1) := by decide +kernel
theorem dX9_goTo_6 : decode (zB 123) 6 = .ok (.iload_n 2, 1) := by decide +kernel
theorem dX9_goTo_7 : decode (zB 123) 7 = .ok (.iload_n 1, 1) := by decide +kernel
theorem dX9_goTo_8 : decode (zB 123) 8 = .ok (.if_icmp .ge 14, 3) := by decide +kernel
theorem dX9_goTo_11 : decode (zB 123) 11 = .ok (.aload_n 0, 1) := by decide +kernel
theorem dX9_goTo_12 : decode (zB 123) 12 = .ok (.iload_n 2, 1) := by decide +kernel
theorem dX9_goTo_13 : decode (zB 123) 13 = .ok (.invokevirtual 193, 3) := by decide +kernel
theorem dX9_goTo_16 : decode (zB 123) 16 = .ok (.iinc 2 1, 3) := by decide +kernel
theorem dX9_goTo_19 : decode (zB 123) 19 = .ok (.goto (-13), 3) := by decide +kernel
theorem dX9_goTo_22 : decode (zB 123) 22 = .ok (.return_, 1) := by decide +kernel
theorem dX9_isStep_0 : decode (zB 124) 0 = .ok (.aload_n 0, 1) := by decide +kernel
theorem dX9_isStep_1 : decode (zB 124) 1 = .ok (.getfield 43, 3) := by decide +kernel
theorem dX9_isStep_4 : decode (zB 124) 4 = .ok (.iload_n 1, 1) := by decide +kernel
theorem dX9_isStep_5 : decode (zB 124) 5 = .ok (.iaload, 1) := by decide +kernel
theorem dX9_isStep_6 : decode (zB 124) 6 = .ok (.aload_n 0, 1) := by decide +kernel
theorem dX9_isStep_7 : decode (zB 124) 7 = .ok (.getfield 43, 3) := by decide +kernel
theorem dX9_isStep_10 : decode (zB 124) 10 = .ok (.iload_n 1, 1) := by decide +kernel
theorem dX9_isStep_11 : decode (zB 124) 11 = .ok (.iconst 1, 1) := by decide +kernel
theorem dX9_isStep_12 : decode (zB 124) 12 = .ok (.iadd, 1) := by decide +kernel
theorem dX9_isStep_13 : decode (zB 124) 13 = .ok (.iaload, 1) := by decide +kernel
theorem dX9_isStep_14 : decode (zB 124) 14 = .ok (.invokestatic 197, 3) := by decide +kernel
theorem dX9_isStep_17 : decode (zB 124) 17 = .ok (.bipush 10, 2) := by decide +kernel
theorem dX9_isStep_19 : decode (zB 124) 19 = .ok (.aload_n 0, 1) := by decide +kernel
theorem dX9_isStep_20 : decode (zB 124) 20 = .ok (.getfield 140, 3) := by decide +kernel
theorem dX9_isStep_23 : decode (zB 124) 23 = .ok (.imul, 1) := by decide +kernel
theorem dX9_isStep_24 : decode (zB 124) 24 = .ok (.if_icmp .gt 7, 3) := by decide +kernel
theorem dX9_isStep_27 : decode (zB 124) 27 = .ok (.iconst 1, 1) := by decide +kernel
theorem dX9_isStep_28 : decode (zB 124) 28 = .ok (.goto 4, 3) := by decide +kernel
theorem dX9_isStep_31 : decode (zB 124) 31 = .ok (.iconst 0, 1) := by decide +kernel
theorem dX9_isStep_32 : decode (zB 124) 32 = .ok (.ireturn, 1) := by decide +kernel
theorem dX9_planksNow_0 : decode (zB 125) 0 = .ok (.iconst 0, 1) := by decide +kernel
theorem dX9_planksNow_1 : decode (zB 125) 1 = .ok (.istore_n 1, 1) := by decide +kernel
theorem dX9_planksNow_2 : decode (zB 125) 2 = .ok (.iconst 0, 1) := by decide +kernel
theorem dX9_planksNow_3 : decode (zB 125) 3 = .ok (.istore_n 2, 1) := by decide +kernel
theorem dX9_planksNow_4 : decode (zB 125) 4 = .ok (.iload_n 2, 1) := by decide +kernel
theorem dX9_planksNow_5 : decode (zB 125) 5 = .ok (.iconst 1, 1) := by decide +kernel
theorem dX9_planksNow_6 : decode (zB 125) 6 = .ok (.iadd, 1) := by decide +kernel
theorem dX9_planksNow_7 : decode (zB 125) 7 = .ok (.aload_n 0, 1) := by decide +kernel
theorem dX9_planksNow_8 : decode (zB 125) 8 = .ok (.getfield 90, 3) := by decide +kernel
theorem dX9_planksNow_11 : decode (zB 125) 11 = .ok (.if_icmp .ge 25, 3) := by decide +kernel
theorem dX9_planksNow_14 : decode (zB 125) 14 = .ok (.iload_n 1, 1) := by decide +kernel
theorem dX9_planksNow_15 : decode (zB 125) 15 = .ok (.aload_n 0, 1) := by decide +kernel
theorem dX9_planksNow_16 : decode (zB 125) 16 = .ok (.iload_n 2, 1) := by decide +kernel
theorem dX9_planksNow_17 : decode (zB 125) 17 = .ok (.invokevirtual 200, 3) := by decide +kernel
theorem dX9_planksNow_20 : decode (zB 125) 20 = .ok (.ifCond .eq 7, 3) := by decide +kernel
theorem dX9_planksNow_23 : decode (zB 125) 23 = .ok (.iconst 0, 1) := by decide +kernel
theorem dX9_planksNow_24 : decode (zB 125) 24 = .ok (.goto 4, 3) := by decide +kernel
theorem dX9_planksNow_27 : decode (zB 125) 27 = .ok (.iconst 1, 1) := by decide +kernel
theorem dX9_planksNow_28 : decode (zB 125) 28 = .ok (.iadd, 1) := by decide +kernel
theorem dX9_planksNow_29 : decode (zB 125) 29 = .ok (.istore_n 1, 1) := by decide +kernel
theorem dX9_planksNow_30 : decode (zB 125) 30 = .ok (.iinc 2 1, 3) := by decide +kernel
theorem dX9_planksNow_33 : decode (zB 125) 33 = .ok (.goto (-29), 3) := by decide +kernel
theorem dX9_planksNow_36 : decode (zB 125) 36 = .ok (.iload_n 1, 1) := by decide +kernel
theorem dX9_planksNow_37 : decode (zB 125) 37 = .ok (.ireturn, 1) := by decide +kernel
theorem dX9_allPlanks_0 : decode (zB 126) 0 = .ok (.iconst 0, 1) := by decide +kernel
theorem dX9_allPlanks_1 : decode (zB 126) 1 = .ok (.istore_n 1, 1) := by decide +kernel
theorem dX9_allPlanks_2 : decode (zB 126) 2 = .ok (.iconst 0, 1) := by decide +kernel
theorem dX9_allPlanks_3 : decode (zB 126) 3 = .ok (.istore_n 2, 1) := by decide +kernel
theorem dX9_allPlanks_4 : decode (zB 126) 4 = .ok (.iload_n 2, 1) := by decide +kernel
theorem dX9_allPlanks_5 : decode (zB 126) 5 = .ok (.bipush 50, 2) := by decide +kernel
theorem dX9_allPlanks_7 : decode (zB 126) 7 = .ok (.if_icmp .ge 21, 3) := by decide +kernel
theorem dX9_allPlanks_10 : decode (zB 126) 10 = .ok (.aload_n 0, 1) := by decide +kernel
theorem dX9_allPlanks_11 : decode (zB 126) 11 = .ok (.iload_n 2, 1) := by decide +kernel
theorem dX9_allPlanks_12 : decode (zB 126) 12 = .ok (.invokevirtual 193, 3) := by decide +kernel
theorem dX9_allPlanks_15 : decode (zB 126) 15 = .ok (.iload_n 1, 1) := by decide +kernel
theorem dX9_allPlanks_16 : decode (zB 126) 16 = .ok (.aload_n 0, 1) := by decide +kernel
theorem dX9_allPlanks_17 : decode (zB 126) 17 = .ok (.invokevirtual 203, 3) := by decide +kernel
theorem dX9_allPlanks_20 : decode (zB 126) 20 = .ok (.iadd, 1) := by decide +kernel
theorem dX9_allPlanks_21 : decode (zB 126) 21 = .ok (.istore_n 1, 1) := by decide +kernel
theorem dX9_allPlanks_22 : decode (zB 126) 22 = .ok (.iinc 2 1, 3) := by decide +kernel
theorem dX9_allPlanks_25 : decode (zB 126) 25 = .ok (.goto (-21), 3) := by decide +kernel
theorem dX9_allPlanks_28 : decode (zB 126) 28 = .ok (.iload_n 1, 1) := by decide +kernel
theorem dX9_allPlanks_29 : decode (zB 126) 29 = .ok (.ireturn, 1) := by decide +kernel
theorem dX9_isUnder_0 : decode (zB 127) 0 = .ok (.aload_n 0, 1) := by decide +kernel
theorem dX9_isUnder_1 : decode (zB 127) 1 = .ok (.getfield 43, 3) := by decide +kernel
theorem dX9_isUnder_4 : decode (zB 127) 4 = .ok (.iload_n 1, 1) := by decide +kernel
theorem dX9_isUnder_5 : decode (zB 127) 5 = .ok (.iaload, 1) := by decide +kernel
theorem dX9_isUnder_6 : decode (zB 127) 6 = .ok (.bipush 50, 2) := by decide +kernel
theorem dX9_isUnder_8 : decode (zB 127) 8 = .ok (.aload_n 0, 1) := by decide +kernel
theorem dX9_isUnder_9 : decode (zB 127) 9 = .ok (.getfield 22, 3) := by decide +kernel
theorem dX9_isUnder_12 : decode (zB 127) 12 = .ok (.iload_n 1, 1) := by decide +kernel
theorem dX9_isUnder_13 : decode (zB 127) 13 = .ok (.iaload, 1) := by decide +kernel
theorem dX9_isUnder_14 : decode (zB 127) 14 = .ok (.imul, 1) := by decide +kernel
theorem dX9_isUnder_15 : decode (zB 127) 15 = .ok (.if_icmp .lt 7, 3) := by decide +kernel
theorem dX9_isUnder_18 : decode (zB 127) 18 = .ok (.iconst 1, 1) := by decide +kernel
theorem dX9_isUnder_19 : decode (zB 127) 19 = .ok (.goto 4, 3) := by decide +kernel
theorem dX9_isUnder_22 : decode (zB 127) 22 = .ok (.iconst 0, 1) := by decide +kernel
theorem dX9_isUnder_23 : decode (zB 127) 23 = .ok (.ireturn, 1) := by decide +kernel
theorem dX9_isDawn_0 : decode (zB 128) 0 = .ok (.iload_n 0, 1) := by decide +kernel
theorem dX9_isDawn_1 : decode (zB 128) 1 = .ok (.i2l, 1) := by decide +kernel
theorem dX9_isDawn_2 : decode (zB 128) 2 = .ok (.lconst 0, 1) := by decide +kernel
theorem dX9_isDawn_3 : decode (zB 128) 3 = .ok (.ldc2_w 207, 3) := by decide +kernel
theorem dX9_isDawn_6 : decode (zB 128) 6 = .ok (.invokestatic 93, 3) := by decide +kernel
theorem dX9_isDawn_9 : decode (zB 128) 9 = .ok (.ireturn, 1) := by decide +kernel
theorem dX9_depth_0 : decode (zB 129) 0 = .ok (.aload_n 0, 1) := by decide +kernel
theorem dX9_depth_1 : decode (zB 129) 1 = .ok (.iload_n 1, 1) := by decide +kernel
theorem dX9_depth_2 : decode (zB 129) 2 = .ok (.invokevirtual 149, 3) := by decide +kernel
theorem dX9_depth_5 : decode (zB 129) 5 = .ok (.ifCond .eq 5, 3) := by decide +kernel
theorem dX9_depth_8 : decode (zB 129) 8 = .ok (.iconst (-1), 1) := by decide +kernel
theorem dX9_depth_9 : decode (zB 129) 9 = .ok (.ireturn, 1) := by decide +kernel
theorem dX9_depth_10 : decode (zB 129) 10 = .ok (.iload_n 2, 1) := by decide +kernel
theorem dX9_depth_11 : decode (zB 129) 11 = .ok (.invokestatic 209, 3) := by decide +kernel
theorem dX9_depth_14 : decode (zB 129) 14 = .ok (.ifCond .ne 6, 3) := by decide +kernel
theorem dX9_depth_17 : decode (zB 129) 17 = .ok (.bipush (-2), 2) := by decide +kernel
theorem dX9_depth_19 : decode (zB 129) 19 = .ok (.ireturn, 1) := by decide +kernel
theorem dX9_depth_20 : decode (zB 129) 20 = .ok (.aload_n 0, 1) := by decide +kernel
theorem dX9_depth_21 : decode (zB 129) 21 = .ok (.iload_n 2, 1) := by decide +kernel
theorem dX9_depth_22 : decode (zB 129) 22 = .ok (.invokevirtual 212, 3) := by decide +kernel
theorem dX9_depth_25 : decode (zB 129) 25 = .ok (.aload_n 0, 1) := by decide +kernel
theorem dX9_depth_26 : decode (zB 129) 26 = .ok (.getfield 43, 3) := by decide +kernel
theorem dX9_depth_29 : decode (zB 129) 29 = .ok (.iload_n 1, 1) := by decide +kernel
theorem dX9_depth_30 : decode (zB 129) 30 = .ok (.iaload, 1) := by decide +kernel
theorem dX9_depth_31 : decode (zB 129) 31 = .ok (.ireturn, 1) := by decide +kernel
theorem dX9_reach_0 : decode (zB 130) 0 = .ok (.aload_n 0, 1) := by decide +kernel
theorem dX9_reach_1 : decode (zB 130) 1 = .ok (.iload_n 1, 1) := by decide +kernel
theorem dX9_reach_2 : decode (zB 130) 2 = .ok (.invokevirtual 149, 3) := by decide +kernel
theorem dX9_reach_5 : decode (zB 130) 5 = .ok (.ifCond .eq 5, 3) := by decide +kernel
theorem dX9_reach_8 : decode (zB 130) 8 = .ok (.iconst (-1), 1) := by decide +kernel
theorem dX9_reach_9 : decode (zB 130) 9 = .ok (.ireturn, 1) := by decide +kernel
theorem dX9_reach_10 : decode (zB 130) 10 = .ok (.iload_n 2, 1) := by decide +kernel
theorem dX9_reach_11 : decode (zB 130) 11 = .ok (.invokestatic 209, 3) := by decide +kernel
theorem dX9_reach_14 : decode (zB 130) 14 = .ok (.ifCond .ne 6, 3) := by decide +kernel
theorem dX9_reach_17 : decode (zB 130) 17 = .ok (.bipush (-2), 2) := by decide +kernel
theorem dX9_reach_19 : decode (zB 130) 19 = .ok (.ireturn, 1) := by decide +kernel
theorem dX9_reach_20 : decode (zB 130) 20 = .ok (.aload_n 0, 1) := by decide +kernel
theorem dX9_reach_21 : decode (zB 130) 21 = .ok (.iload_n 2, 1) := by decide +kernel
theorem dX9_reach_22 : decode (zB 130) 22 = .ok (.invokevirtual 212, 3) := by decide +kernel
theorem dX9_reach_25 : decode (zB 130) 25 = .ok (.iconst 1, 1) := by decide +kernel
theorem dX9_reach_26 : decode (zB 130) 26 = .ok (.iload_n 1, 1) := by decide +kernel
theorem dX9_reach_27 : decode (zB 130) 27 = .ok (.ishl, 1) := by decide +kernel
theorem dX9_reach_28 : decode (zB 130) 28 = .ok (.istore_n 3, 1) := by decide +kernel
theorem dX9_reach_29 : decode (zB 130) 29 = .ok (.iload_n 1, 1) := by decide +kernel
theorem dX9_reach_30 : decode (zB 130) 30 = .ok (.istore 4, 2) := by decide +kernel
theorem dX9_reach_32 : decode (zB 130) 32 = .ok (.iload 4, 2) := by decide +kernel
theorem dX9_reach_34 : decode (zB 130) 34 = .ok (.iconst 1, 1) := by decide +kernel
theorem dX9_reach_35 : decode (zB 130) 35 = .ok (.iadd, 1) := by decide +kernel
theorem dX9_reach_36 : decode (zB 130) 36 = .ok (.aload_n 0, 1) := by decide +kernel
theorem dX9_reach_37 : decode (zB 130) 37 = .ok (.getfield 90, 3) := by decide +kernel
theorem dX9_reach_40 : decode (zB 130) 40 = .ok (.if_icmp .ge 27, 3) := by decide +kernel
theorem dX9_reach_43 : decode (zB 130) 43 = .ok (.aload_n 0, 1) := by decide +kernel
theorem dX9_reach_44 : decode (zB 130) 44 = .ok (.iload 4, 2) := by decide +kernel
theorem dX9_reach_46 : decode (zB 130) 46 = .ok (.invokevirtual 200, 3) := by decide +kernel
theorem dX9_reach_49 : decode (zB 130) 49 = .ok (.ifCond .eq 18, 3) := by decide +kernel
theorem dX9_reach_52 : decode (zB 130) 52 = .ok (.iload_n 3, 1) := by decide +kernel
theorem dX9_reach_53 : decode (zB 130) 53 = .ok (.iconst 1, 1) := by decide +kernel
theorem dX9_reach_54 : decode (zB 130) 54 = .ok (.iload 4, 2) := by decide +kernel
theorem dX9_reach_56 : decode (zB 130) 56 = .ok (.iconst 1, 1) := by decide +kernel
theorem dX9_reach_57 : decode (zB 130) 57 = .ok (.iadd, 1) := by decide +kernel
theorem dX9_reach_58 : decode (zB 130) 58 = .ok (.ishl, 1) := by decide +kernel
theorem dX9_reach_59 : decode (zB 130) 59 = .ok (.ior, 1) := by decide +kernel
theorem dX9_reach_60 : decode (zB 130) 60 = .ok (.istore_n 3, 1) := by decide +kernel
theorem dX9_reach_61 : decode (zB 130) 61 = .ok (.iinc 4 1, 3) := by decide +kernel
theorem dX9_reach_64 : decode (zB 130) 64 = .ok (.goto (-32), 3) := by decide +kernel
theorem dX9_reach_67 : decode (zB 130) 67 = .ok (.iload_n 1, 1) := by decide +kernel
theorem dX9_reach_68 : decode (zB 130) 68 = .ok (.istore 4, 2) := by decide +kernel
theorem dX9_reach_70 : decode (zB 130) 70 = .ok (.iload 4, 2) := by decide +kernel
theorem dX9_reach_72 : decode (zB 130) 72 = .ok (.ifCond .le 29, 3) := by decide +kernel
theorem dX9_reach_75 : decode (zB 130) 75 = .ok (.aload_n 0, 1) := by decide +kernel
theorem dX9_reach_76 : decode (zB 130) 76 = .ok (.iload 4, 2) := by decide +kernel
theorem dX9_reach_78 : decode (zB 130) 78 = .ok (.iconst 1, 1) := by decide +kernel
theorem dX9_reach_79 : decode (zB 130) 79 = .ok (.isub, 1) := by decide +kernel
theorem dX9_reach_80 : decode (zB 130) 80 = .ok (.invokevirtual 200, 3) := by decide +kernel
theorem dX9_reach_83 : decode (zB 130) 83 = .ok (.ifCond .eq 18, 3) := by decide +kernel
theorem dX9_reach_86 : decode (zB 130) 86 = .ok (.iload_n 3, 1) := by decide +kernel
theorem dX9_reach_87 : decode (zB 130) 87 = .ok (.iconst 1, 1) := by decide +kernel
theorem dX9_reach_88 : decode (zB 130) 88 = .ok (.iload 4, 2) := by decide +kernel
theorem dX9_reach_90 : decode (zB 130) 90 = .ok (.iconst 1, 1) := by decide +kernel
theorem dX9_reach_91 : decode (zB 130) 91 = .ok (.isub, 1) := by decide +kernel
theorem dX9_reach_92 : decode (zB 130) 92 = .ok (.ishl, 1) := by decide +kernel
theorem dX9_reach_93 : decode (zB 130) 93 = .ok (.ior, 1) := by decide +kernel
theorem dX9_reach_94 : decode (zB 130) 94 = .ok (.istore_n 3, 1) := by decide +kernel
theorem dX9_reach_95 : decode (zB 130) 95 = .ok (.iinc 4 (-1), 3) := by decide +kernel
theorem dX9_reach_98 : decode (zB 130) 98 = .ok (.goto (-28), 3) := by decide +kernel
theorem dX9_reach_101 : decode (zB 130) 101 = .ok (.iload_n 3, 1) := by decide +kernel
theorem dX9_reach_102 : decode (zB 130) 102 = .ok (.ireturn, 1) := by decide +kernel
theorem dX9_planks_0 : decode (zB 131) 0 = .ok (.iload_n 1, 1) := by decide +kernel
theorem dX9_planks_1 : decode (zB 131) 1 = .ok (.i2l, 1) := by decide +kernel
theorem dX9_planks_2 : decode (zB 131) 2 = .ok (.ldc2_w 215, 3) := by decide +kernel
theorem dX9_planks_5 : decode (zB 131) 5 = .ok (.ldc2_w 207, 3) := by decide +kernel
theorem dX9_planks_8 : decode (zB 131) 8 = .ok (.invokestatic 93, 3) := by decide +kernel
theorem dX9_planks_11 : decode (zB 131) 11 = .ok (.ifCond .ne 6, 3) := by decide +kernel
theorem dX9_planks_14 : decode (zB 131) 14 = .ok (.bipush (-2), 2) := by decide +kernel
theorem dX9_planks_16 : decode (zB 131) 16 = .ok (.ireturn, 1) := by decide +kernel
theorem dX9_planks_17 : decode (zB 131) 17 = .ok (.aload_n 0, 1) := by decide +kernel
theorem dX9_planks_18 : decode (zB 131) 18 = .ok (.getfield 90, 3) := by decide +kernel
theorem dX9_planks_21 : decode (zB 131) 21 = .ok (.ifCond .ne 6, 3) := by decide +kernel
theorem dX9_planks_24 : decode (zB 131) 24 = .ok (.bipush (-3), 2) := by decide +kernel
theorem dX9_planks_26 : decode (zB 131) 26 = .ok (.ireturn, 1) := by decide +kernel
theorem dX9_planks_27 : decode (zB 131) 27 = .ok (.iload_n 1, 1) := by decide +kernel
theorem dX9_planks_28 : decode (zB 131) 28 = .ok (.ifCond .ge 12, 3) := by decide +kernel
theorem dX9_planks_31 : decode (zB 131) 31 = .ok (.aload_n 0, 1) := by decide +kernel
theorem dX9_planks_32 : decode (zB 131) 32 = .ok (.invokevirtual 190, 3) := by decide +kernel
theorem dX9_planks_35 : decode (zB 131) 35 = .ok (.aload_n 0, 1) := by decide +kernel
theorem dX9_planks_36 : decode (zB 131) 36 = .ok (.invokevirtual 217, 3) := by decide +kernel
theorem dX9_planks_39 : decode (zB 131) 39 = .ok (.ireturn, 1) := by decide +kernel
theorem dX9_planks_40 : decode (zB 131) 40 = .ok (.aload_n 0, 1) := by decide +kernel
theorem dX9_planks_41 : decode (zB 131) 41 = .ok (.iload_n 1, 1) := by decide +kernel
theorem dX9_planks_42 : decode (zB 131) 42 = .ok (.invokevirtual 212, 3) := by decide +kernel
theorem dX9_planks_45 : decode (zB 131) 45 = .ok (.aload_n 0, 1) := by decide +kernel
theorem dX9_planks_46 : decode (zB 131) 46 = .ok (.invokevirtual 203, 3) := by decide +kernel
theorem dX9_planks_49 : decode (zB 131) 49 = .ok (.ireturn, 1) := by decide +kernel
theorem dX9_under_0 : decode (zB 132) 0 = .ok (.iload_n 1, 1) := by decide +kernel
theorem dX9_under_1 : decode (zB 132) 1 = .ok (.i2l, 1) := by decide +kernel
theorem dX9_under_2 : decode (zB 132) 2 = .ok (.lconst 0, 1) := by decide +kernel
theorem dX9_under_3 : decode (zB 132) 3 = .ok (.lconst 1, 1) := by decide +kernel
theorem dX9_under_4 : decode (zB 132) 4 = .ok (.invokestatic 93, 3) := by decide +kernel
theorem dX9_under_7 : decode (zB 132) 7 = .ok (.ifCond .ne 6, 3) := by decide +kernel
theorem dX9_under_10 : decode (zB 132) 10 = .ok (.bipush (-2), 2) := by decide +kernel
theorem dX9_under_12 : decode (zB 132) 12 = .ok (.ireturn, 1) := by decide +kernel
theorem dX9_under_13 : decode (zB 132) 13 = .ok (.aload_n 0, 1) := by decide +kernel
theorem dX9_under_14 : decode (zB 132) 14 = .ok (.getfield 90, 3) := by decide +kernel
theorem dX9_under_17 : decode (zB 132) 17 = .ok (.ifCond .ne 6, 3) := by decide +kernel
theorem dX9_under_20 : decode (zB 132) 20 = .ok (.bipush (-3), 2) := by decide +kernel
theorem dX9_under_22 : decode (zB 132) 22 = .ok (.ireturn, 1) := by decide +kernel
theorem dX9_under_23 : decode (zB 132) 23 = .ok (.aload_n 0, 1) := by decide +kernel
theorem dX9_under_24 : decode (zB 132) 24 = .ok (.invokevirtual 190, 3) := by decide +kernel
theorem dX9_under_27 : decode (zB 132) 27 = .ok (.iconst 0, 1) := by decide +kernel
theorem dX9_under_28 : decode (zB 132) 28 = .ok (.istore_n 2, 1) := by decide +kernel
theorem dX9_under_29 : decode (zB 132) 29 = .ok (.iload_n 2, 1) := by decide +kernel
theorem dX9_under_30 : decode (zB 132) 30 = .ok (.bipush 50, 2) := by decide +kernel
theorem dX9_under_32 : decode (zB 132) 32 = .ok (.if_icmp .gt 48, 3) := by decide +kernel
theorem dX9_under_35 : decode (zB 132) 35 = .ok (.iconst 0, 1) := by decide +kernel
theorem dX9_under_36 : decode (zB 132) 36 = .ok (.istore_n 3, 1) := by decide +kernel
theorem dX9_under_37 : decode (zB 132) 37 = .ok (.iload_n 3, 1) := by decide +kernel
theorem dX9_under_38 : decode (zB 132) 38 = .ok (.aload_n 0, 1) := by decide +kernel
theorem dX9_under_39 : decode (zB 132) 39 = .ok (.getfield 90, 3) := by decide +kernel
theorem dX9_under_42 : decode (zB 132) 42 = .ok (.if_icmp .ge 27, 3) := by decide +kernel
theorem dX9_under_45 : decode (zB 132) 45 = .ok (.aload_n 0, 1) := by decide +kernel
theorem dX9_under_46 : decode (zB 132) 46 = .ok (.iload_n 3, 1) := by decide +kernel
theorem dX9_under_47 : decode (zB 132) 47 = .ok (.invokevirtual 220, 3) := by decide +kernel
theorem dX9_under_50 : decode (zB 132) 50 = .ok (.ifCond .eq 13, 3) := by decide +kernel
theorem dX9_under_53 : decode (zB 132) 53 = .ok (.iload_n 1, 1) := by decide +kernel
theorem dX9_under_54 : decode (zB 132) 54 = .ok (.ifCond .ne 7, 3) := by decide +kernel
theorem dX9_under_57 : decode (zB 132) 57 = .ok (.iload_n 2, 1) := by decide +kernel
theorem dX9_under_58 : decode (zB 132) 58 = .ok (.goto 4, 3) := by decide +kernel
theorem dX9_under_61 : decode (zB 132) 61 = .ok (.iload_n 3, 1) := by decide +kernel
theorem dX9_under_62 : decode (zB 132) 62 = .ok (.ireturn, 1) := by decide +kernel
theorem dX9_under_63 : decode (zB 132) 63 = .ok (.iinc 3 1, 3) := by decide +kernel
theorem dX9_under_66 : decode (zB 132) 66 = .ok (.goto (-29), 3) := by decide +kernel
theorem dX9_under_69 : decode (zB 132) 69 = .ok (.aload_n 0, 1) := by decide +kernel
theorem dX9_under_70 : decode (zB 132) 70 = .ok (.iload_n 2, 1) := by decide +kernel
theorem dX9_under_71 : decode (zB 132) 71 = .ok (.invokevirtual 193, 3) := by decide +kernel
theorem dX9_under_74 : decode (zB 132) 74 = .ok (.iinc 2 1, 3) := by decide +kernel
theorem dX9_under_77 : decode (zB 132) 77 = .ok (.goto (-48), 3) := by decide +kernel
theorem dX9_under_80 : decode (zB 132) 80 = .ok (.bipush (-9), 2) := by decide +kernel
theorem dX9_under_82 : decode (zB 132) 82 = .ok (.ireturn, 1) := by decide +kernel
theorem dX9_open_0 : decode (zB 133) 0 = .ok (.aload_n 0, 1) := by decide +kernel
theorem dX9_open_1 : decode (zB 133) 1 = .ok (.iload_n 1, 1) := by decide +kernel
theorem dX9_open_2 : decode (zB 133) 2 = .ok (.invokevirtual 149, 3) := by decide +kernel
theorem dX9_open_5 : decode (zB 133) 5 = .ok (.ifCond .ne 23, 3) := by decide +kernel
theorem dX9_open_8 : decode (zB 133) 8 = .ok (.iload_n 1, 1) := by decide +kernel
theorem dX9_open_9 : decode (zB 133) 9 = .ok (.iconst 1, 1) := by decide +kernel
theorem dX9_open_10 : decode (zB 133) 10 = .ok (.iadd, 1) := by decide +kernel
theorem dX9_open_11 : decode (zB 133) 11 = .ok (.aload_n 0, 1) := by decide +kernel
theorem dX9_open_12 : decode (zB 133) 12 = .ok (.getfield 90, 3) := by decide +kernel
theorem dX9_open_15 : decode (zB 133) 15 = .ok (.if_icmp .eq 13, 3) := by decide +kernel
theorem dX9_open_18 : decode (zB 133) 18 = .ok (.iload_n 2, 1) := by decide +kernel
theorem dX9_open_19 : decode (zB 133) 19 = .ok (.i2l, 1) := by decide +kernel
theorem dX9_open_20 : decode (zB 133) 20 = .ok (.lconst 0, 1) := by decide +kernel
theorem dX9_open_21 : decode (zB 133) 21 = .ok (.lconst 1, 1) := by decide +kernel
theorem dX9_open_22 : decode (zB 133) 22 = .ok (.invokestatic 93, 3) := by decide +kernel
theorem dX9_open_25 : decode (zB 133) 25 = .ok (.ifCond .ne 7, 3) := by decide +kernel
theorem dX9_open_28 : decode (zB 133) 28 = .ok (.invokestatic 86, 3) := by decide +kernel
theorem dX9_open_31 : decode (zB 133) 31 = .ok (.lreturn, 1) := by decide +kernel
theorem dX9_open_32 : decode (zB 133) 32 = .ok (.aload_n 0, 1) := by decide +kernel
theorem dX9_open_33 : decode (zB 133) 33 = .ok (.invokevirtual 190, 3) := by decide +kernel
theorem dX9_open_36 : decode (zB 133) 36 = .ok (.iconst 0, 1) := by decide +kernel
theorem dX9_open_37 : decode (zB 133) 37 = .ok (.istore_n 3, 1) := by decide +kernel
theorem dX9_open_38 : decode (zB 133) 38 = .ok (.iconst 0, 1) := by decide +kernel
theorem dX9_open_39 : decode (zB 133) 39 = .ok (.istore 4, 2) := by decide +kernel
theorem dX9_open_41 : decode (zB 133) 41 = .ok (.iload 4, 2) := by decide +kernel
theorem dX9_open_43 : decode (zB 133) 43 = .ok (.bipush 50, 2) := by decide +kernel
theorem dX9_open_45 : decode (zB 133) 45 = .ok (.if_icmp .ge 31, 3) := by decide +kernel
theorem dX9_open_48 : decode (zB 133) 48 = .ok (.aload_n 0, 1) := by decide +kernel
theorem dX9_open_49 : decode (zB 133) 49 = .ok (.iload 4, 2) := by decide +kernel
theorem dX9_open_51 : decode (zB 133) 51 = .ok (.invokevirtual 193, 3) := by decide +kernel
theorem dX9_open_54 : decode (zB 133) 54 = .ok (.iload_n 3, 1) := by decide +kernel
theorem dX9_open_55 : decode (zB 133) 55 = .ok (.aload_n 0, 1) := by decide +kernel
theorem dX9_open_56 : decode (zB 133) 56 = .ok (.iload_n 1, 1) := by decide +kernel
theorem dX9_open_57 : decode (zB 133) 57 = .ok (.invokevirtual 200, 3) := by decide +kernel
theorem dX9_open_60 : decode (zB 133) 60 = .ok (.ifCond .eq 7, 3) := by decide +kernel
theorem dX9_open_63 : decode (zB 133) 63 = .ok (.iconst 1, 1) := by decide +kernel
theorem dX9_open_64 : decode (zB 133) 64 = .ok (.goto 4, 3) := by decide +kernel
theorem dX9_open_67 : decode (zB 133) 67 = .ok (.iconst 0, 1) := by decide +kernel
theorem dX9_open_68 : decode (zB 133) 68 = .ok (.iadd, 1) := by decide +kernel
theorem dX9_open_69 : decode (zB 133) 69 = .ok (.istore_n 3, 1) := by decide +kernel
theorem dX9_open_70 : decode (zB 133) 70 = .ok (.iinc 4 1, 3) := by decide +kernel
theorem dX9_open_73 : decode (zB 133) 73 = .ok (.goto (-32), 3) := by decide +kernel
theorem dX9_open_76 : decode (zB 133) 76 = .ok (.iload_n 3, 1) := by decide +kernel
theorem dX9_open_77 : decode (zB 133) 77 = .ok (.i2l, 1) := by decide +kernel
theorem dX9_open_78 : decode (zB 133) 78 = .ok (.ldc2_w 207, 3) := by decide +kernel
theorem dX9_open_81 : decode (zB 133) 81 = .ok (.iload_n 2, 1) := by decide +kernel
theorem dX9_open_82 : decode (zB 133) 82 = .ok (.invokestatic 223, 3) := by decide +kernel
theorem dX9_open_85 : decode (zB 133) 85 = .ok (.lreturn, 1) := by decide +kernel
theorem dX9_keepHouses_0 : decode (zB 134) 0 = .ok (.iconst 0, 1) := by decide +kernel
theorem dX9_keepHouses_1 : decode (zB 134) 1 = .ok (.istore_n 1, 1) := by decide +kernel
theorem dX9_keepHouses_2 : decode (zB 134) 2 = .ok (.iload_n 1, 1) := by decide +kernel
theorem dX9_keepHouses_3 : decode (zB 134) 3 = .ok (.aload_n 0, 1) := by decide +kernel
theorem dX9_keepHouses_4 : decode (zB 134) 4 = .ok (.getfield 143, 3) := by decide +kernel
theorem dX9_keepHouses_7 : decode (zB 134) 7 = .ok (.if_icmp .ge 21, 3) := by decide +kernel
theorem dX9_keepHouses_10 : decode (zB 134) 10 = .ok (.aload_n 0, 1) := by decide +kernel
theorem dX9_keepHouses_11 : decode (zB 134) 11 = .ok (.getfield 53, 3) := by decide +kernel
theorem dX9_keepHouses_14 : decode (zB 134) 14 = .ok (.iload_n 1, 1) := by decide +kernel
theorem dX9_keepHouses_15 : decode (zB 134) 15 = .ok (.aload_n 0, 1) := by decide +kernel
theorem dX9_keepHouses_16 : decode (zB 134) 16 = .ok (.getfield 40, 3) := by decide +kernel
theorem dX9_keepHouses_19 : decode (zB 134) 19 = .ok (.iload_n 1, 1) := by decide +kernel
theorem dX9_keepHouses_20 : decode (zB 134) 20 = .ok (.iaload, 1) := by decide +kernel
theorem dX9_keepHouses_21 : decode (zB 134) 21 = .ok (.iastore, 1) := by decide +kernel
theorem dX9_keepHouses_22 : decode (zB 134) 22 = .ok (.iinc 1 1, 3) := by decide +kernel
theorem dX9_keepHouses_25 : decode (zB 134) 25 = .ok (.goto (-23), 3) := by decide +kernel
theorem dX9_keepHouses_28 : decode (zB 134) 28 = .ok (.return_, 1) := by decide +kernel
theorem dX9_takeHouses_0 : decode (zB 135) 0 = .ok (.iconst 0, 1) := by decide +kernel
theorem dX9_takeHouses_1 : decode (zB 135) 1 = .ok (.istore_n 1, 1) := by decide +kernel
theorem dX9_takeHouses_2 : decode (zB 135) 2 = .ok (.iload_n 1, 1) := by decide +kernel
theorem dX9_takeHouses_3 : decode (zB 135) 3 = .ok (.aload_n 0, 1) := by decide +kernel
theorem dX9_takeHouses_4 : decode (zB 135) 4 = .ok (.getfield 143, 3) := by decide +kernel
theorem dX9_takeHouses_7 : decode (zB 135) 7 = .ok (.if_icmp .ge 21, 3) := by decide +kernel
theorem dX9_takeHouses_10 : decode (zB 135) 10 = .ok (.aload_n 0, 1) := by decide +kernel
theorem dX9_takeHouses_11 : decode (zB 135) 11 = .ok (.getfield 40, 3) := by decide +kernel
theorem dX9_takeHouses_14 : decode (zB 135) 14 = .ok (.iload_n 1, 1) := by decide +kernel
theorem dX9_takeHouses_15 : decode (zB 135) 15 = .ok (.aload_n 0, 1) := by decide +kernel
theorem dX9_takeHouses_16 : decode (zB 135) 16 = .ok (.getfield 53, 3) := by decide +kernel
theorem dX9_takeHouses_19 : decode (zB 135) 19 = .ok (.iload_n 1, 1) := by decide +kernel
theorem dX9_takeHouses_20 : decode (zB 135) 20 = .ok (.iaload, 1) := by decide +kernel
theorem dX9_takeHouses_21 : decode (zB 135) 21 = .ok (.iastore, 1) := by decide +kernel
theorem dX9_takeHouses_22 : decode (zB 135) 22 = .ok (.iinc 1 1, 3) := by decide +kernel
theorem dX9_takeHouses_25 : decode (zB 135) 25 = .ok (.goto (-23), 3) := by decide +kernel
theorem dX9_takeHouses_28 : decode (zB 135) 28 = .ok (.return_, 1) := by decide +kernel
theorem dX9_haveBeds_0 : decode (zB 136) 0 = .ok (.iconst 1, 1) := by decide +kernel
theorem dX9_haveBeds_1 : decode (zB 136) 1 = .ok (.istore_n 1, 1) := by decide +kernel
theorem dX9_haveBeds_2 : decode (zB 136) 2 = .ok (.iconst 0, 1) := by decide +kernel
theorem dX9_haveBeds_3 : decode (zB 136) 3 = .ok (.istore_n 2, 1) := by decide +kernel
theorem dX9_haveBeds_4 : decode (zB 136) 4 = .ok (.iload_n 2, 1) := by decide +kernel
theorem dX9_haveBeds_5 : decode (zB 136) 5 = .ok (.aload_n 0, 1) := by decide +kernel
theorem dX9_haveBeds_6 : decode (zB 136) 6 = .ok (.getfield 90, 3) := by decide +kernel
theorem dX9_haveBeds_9 : decode (zB 136) 9 = .ok (.if_icmp .ge 50, 3) := by decide +kernel
theorem dX9_haveBeds_12 : decode (zB 136) 12 = .ok (.iconst 0, 1) := by decide +kernel
theorem dX9_haveBeds_13 : decode (zB 136) 13 = .ok (.istore_n 3, 1) := by decide +kernel
theorem dX9_haveBeds_14 : decode (zB 136) 14 = .ok (.iload_n 3, 1) := by decide +kernel
theorem dX9_haveBeds_15 : decode (zB 136) 15 = .ok (.bipush 50, 2) := by decide +kernel
theorem dX9_haveBeds_17 : decode (zB 136) 17 = .ok (.if_icmp .ge 36, 3) := by decide +kernel
theorem dX9_haveBeds_20 : decode (zB 136) 20 = .ok (.iload_n 1, 1) := by decide +kernel
theorem dX9_haveBeds_21 : decode (zB 136) 21 = .ok (.ifCond .eq 24, 3) := by decide +kernel
theorem dX9_haveBeds_24 : decode (zB 136) 24 = .ok (.aload_n 0, 1) := by decide +kernel
theorem dX9_haveBeds_25 : decode (zB 136) 25 = .ok (.iload_n 2, 1) := by decide +kernel
theorem dX9_haveBeds_26 : decode (zB 136) 26 = .ok (.iload_n 3, 1) := by decide +kernel
theorem dX9_haveBeds_27 : decode (zB 136) 27 = .ok (.bipush (-9), 2) := by decide +kernel
theorem dX9_haveBeds_29 : decode (zB 136) 29 = .ok (.invokevirtual 162, 3) := by decide +kernel
theorem dX9_haveBeds_32 : decode (zB 136) 32 = .ok (.aload_n 0, 1) := by decide +kernel
theorem dX9_haveBeds_33 : decode (zB 136) 33 = .ok (.getfield 13, 3) := by decide +kernel
theorem dX9_haveBeds_36 : decode (zB 136) 36 = .ok (.iload_n 2, 1) := by decide +kernel
theorem dX9_haveBeds_37 : decode (zB 136) 37 = .ok (.iaload, 1) := by decide +kernel
theorem dX9_haveBeds_38 : decode (zB 136) 38 = .ok (.if_icmp .gt 7, 3) := by decide +kernel
theorem dX9_haveBeds_41 : decode (zB 136) 41 = .ok (.iconst 1, 1) := by decide +kernel
theorem dX9_haveBeds_42 : decode (zB 136) 42 = .ok (.goto 4, 3) := by decide +kernel
theorem dX9_haveBeds_45 : decode (zB 136) 45 = .ok (.iconst 0, 1) := by decide +kernel
theorem dX9_haveBeds_46 : decode (zB 136) 46 = .ok (.istore_n 1, 1) := by decide +kernel
theorem dX9_haveBeds_47 : decode (zB 136) 47 = .ok (.iinc 3 1, 3) := by decide +kernel
theorem dX9_haveBeds_50 : decode (zB 136) 50 = .ok (.goto (-36), 3) := by decide +kernel
theorem dX9_haveBeds_53 : decode (zB 136) 53 = .ok (.iinc 2 1, 3) := by decide +kernel
theorem dX9_haveBeds_56 : decode (zB 136) 56 = .ok (.goto (-52), 3) := by decide +kernel
theorem dX9_haveBeds_59 : decode (zB 136) 59 = .ok (.iload_n 1, 1) := by decide +kernel
theorem dX9_haveBeds_60 : decode (zB 136) 60 = .ok (.ireturn, 1) := by decide +kernel
theorem dX9_lodgings_0 : decode (zB 137) 0 = .ok (.iload_n 1, 1) := by decide +kernel
theorem dX9_lodgings_1 : decode (zB 137) 1 = .ok (.i2l, 1) := by decide +kernel
theorem dX9_lodgings_2 : decode (zB 137) 2 = .ok (.lconst 1, 1) := by decide +kernel
theorem dX9_lodgings_3 : decode (zB 137) 3 = .ok (.ldc2_w 227, 3) := by decide +kernel
theorem dX9_lodgings_6 : decode (zB 137) 6 = .ok (.invokestatic 93, 3) := by decide +kernel
theorem dX9_lodgings_9 : decode (zB 137) 9 = .ok (.ifCond .eq 11, 3) := by decide +kernel
theorem dX9_lodgings_12 : decode (zB 137) 12 = .ok (.iload_n 1, 1) := by decide +kernel
theorem dX9_lodgings_13 : decode (zB 137) 13 = .ok (.aload_n 0, 1) := by decide +kernel
theorem dX9_lodgings_14 : decode (zB 137) 14 = .ok (.getfield 143, 3) := by decide +kernel
theorem dX9_lodgings_17 : decode (zB 137) 17 = .ok (.if_icmp .le 6, 3) := by decide +kernel
theorem dX9_lodgings_20 : decode (zB 137) 20 = .ok (.bipush (-2), 2) := by decide +kernel
theorem dX9_lodgings_22 : decode (zB 137) 22 = .ok (.ireturn, 1) := by decide +kernel
theorem dX9_lodgings_23 : decode (zB 137) 23 = .ok (.iload_n 2, 1) := by decide +kernel
theorem dX9_lodgings_24 : decode (zB 137) 24 = .ok (.i2l, 1) := by decide +kernel
theorem dX9_lodgings_25 : decode (zB 137) 25 = .ok (.ldc2_w 215, 3) := by decide +kernel
theorem dX9_lodgings_28 : decode (zB 137) 28 = .ok (.iload_n 1, 1) := by decide +kernel
theorem dX9_lodgings_29 : decode (zB 137) 29 = .ok (.i2l, 1) := by decide +kernel
theorem dX9_lodgings_30 : decode (zB 137) 30 = .ok (.lconst 1, 1) := by decide +kernel
theorem dX9_lodgings_31 : decode (zB 137) 31 = .ok (.lsub, 1) := by decide +kernel
theorem dX9_lodgings_32 : decode (zB 137) 32 = .ok (.invokestatic 93, 3) := by decide +kernel
theorem dX9_lodgings_35 : decode (zB 137) 35 = .ok (.ifCond .ne 5, 3) := by decide +kernel
theorem dX9_lodgings_38 : decode (zB 137) 38 = .ok (.iconst (-1), 1) := by decide +kernel
theorem dX9_lodgings_39 : decode (zB 137) 39 = .ok (.ireturn, 1) := by decide +kernel
theorem dX9_lodgings_40 : decode (zB 137) 40 = .ok (.aload_n 0, 1) := by decide +kernel
theorem dX9_lodgings_41 : decode (zB 137) 41 = .ok (.invokevirtual 229, 3) := by decide +kernel
theorem dX9_lodgings_44 : decode (zB 137) 44 = .ok (.iconst 1, 1) := by decide +kernel
theorem dX9_lodgings_45 : decode (zB 137) 45 = .ok (.istore_n 3, 1) := by decide +kernel
theorem dX9_lodgings_46 : decode (zB 137) 46 = .ok (.iconst 0, 1) := by decide +kernel
theorem dX9_lodgings_47 : decode (zB 137) 47 = .ok (.istore 4, 2) := by decide +kernel
theorem dX9_lodgings_49 : decode (zB 137) 49 = .ok (.iload 4, 2) := by decide +kernel
theorem dX9_lodgings_51 : decode (zB 137) 51 = .ok (.iload_n 1, 1) := by decide +kernel
theorem dX9_lodgings_52 : decode (zB 137) 52 = .ok (.if_icmp .ge 16, 3) := by decide +kernel
theorem dX9_lodgings_55 : decode (zB 137) 55 = .ok (.iload_n 3, 1) := by decide +kernel
theorem dX9_lodgings_56 : decode (zB 137) 56 = .ok (.aload_n 0, 1) := by decide +kernel
theorem dX9_lodgings_57 : decode (zB 137) 57 = .ok (.getfield 90, 3) := by decide +kernel
theorem dX9_lodgings_60 : decode (zB 137) 60 = .ok (.imul, 1) := by decide +kernel
theorem dX9_lodgings_61 : decode (zB 137) 61 = .ok (.istore_n 3, 1) := by decide +kernel
theorem dX9_lodgings_62 : decode (zB 137) 62 = .ok (.iinc 4 1, 3) := by decide +kernel
theorem dX9_lodgings_65 : decode (zB 137) 65 = .ok (.goto (-16), 3) := by decide +kernel
theorem dX9_lodgings_68 : decode (zB 137) 68 = .ok (.bipush (-9), 2) := by decide +kernel
theorem dX9_lodgings_70 : decode (zB 137) 70 = .ok (.istore 4, 2) := by decide +kernel
theorem dX9_lodgings_72 : decode (zB 137) 72 = .ok (.iconst 0, 1) := by decide +kernel
theorem dX9_lodgings_73 : decode (zB 137) 73 = .ok (.istore 5, 2) := by decide +kernel
theorem dX9_lodgings_75 : decode (zB 137) 75 = .ok (.iload 5, 2) := by decide +kernel
theorem dX9_lodgings_77 : decode (zB 137) 77 = .ok (.iload_n 3, 1) := by decide +kernel
theorem dX9_lodgings_78 : decode (zB 137) 78 = .ok (.if_icmp .ge 114, 3) := by decide +kernel
theorem dX9_lodgings_81 : decode (zB 137) 81 = .ok (.iload 5, 2) := by decide +kernel
theorem dX9_lodgings_83 : decode (zB 137) 83 = .ok (.istore 6, 2) := by decide +kernel
theorem dX9_lodgings_85 : decode (zB 137) 85 = .ok (.iload_n 1, 1) := by decide +kernel
theorem dX9_lodgings_86 : decode (zB 137) 86 = .ok (.iconst 1, 1) := by decide +kernel
theorem dX9_lodgings_87 : decode (zB 137) 87 = .ok (.isub, 1) := by decide +kernel
theorem dX9_lodgings_88 : decode (zB 137) 88 = .ok (.istore 7, 2) := by decide +kernel
theorem dX9_lodgings_90 : decode (zB 137) 90 = .ok (.iload 7, 2) := by decide +kernel
theorem dX9_lodgings_92 : decode (zB 137) 92 = .ok (.ifCond .lt 32, 3) := by decide +kernel
theorem dX9_lodgings_95 : decode (zB 137) 95 = .ok (.aload_n 0, 1) := by decide +kernel
theorem dX9_lodgings_96 : decode (zB 137) 96 = .ok (.getfield 40, 3) := by decide +kernel
theorem dX9_lodgings_99 : decode (zB 137) 99 = .ok (.iload 7, 2) := by decide +kernel
theorem dX9_lodgings_101 : decode (zB 137) 101 = .ok (.iload 6, 2) := by decide +kernel
theorem dX9_lodgings_103 : decode (zB 137) 103 = .ok (.aload_n 0, 1) := by decide +kernel
theorem dX9_lodgings_104 : decode (zB 137) 104 = .ok (.getfield 90, 3) := by decide +kernel
theorem dX9_lodgings_107 : decode (zB 137) 107 = .ok (.irem, 1) := by decide +kernel
theorem dX9_lodgings_108 : decode (zB 137) 108 = .ok (.iastore, 1) := by decide +kernel
theorem dX9_lodgings_109 : decode (zB 137) 109 = .ok (.iload 6, 2) := by decide +kernel
theorem dX9_lodgings_111 : decode (zB 137) 111 = .ok (.aload_n 0, 1) := by decide +kernel
theorem dX9_lodgings_112 : decode (zB 137) 112 = .ok (.getfield 90, 3) := by decide +kernel
theorem dX9_lodgings_115 : decode (zB 137) 115 = .ok (.idiv, 1) := by decide +kernel
theorem dX9_lodgings_116 : decode (zB 137) 116 = .ok (.istore 6, 2) := by decide +kernel
theorem dX9_lodgings_118 : decode (zB 137) 118 = .ok (.iinc 7 (-1), 3) := by decide +kernel
theorem dX9_lodgings_121 : decode (zB 137) 121 = .ok (.goto (-31), 3) := by decide +kernel
theorem dX9_lodgings_124 : decode (zB 137) 124 = .ok (.aload_n 0, 1) := by decide +kernel
theorem dX9_lodgings_125 : decode (zB 137) 125 = .ok (.invokevirtual 232, 3) := by decide +kernel
theorem dX9_lodgings_128 : decode (zB 137) 128 = .ok (.ifCond .eq 58, 3) := by decide +kernel
theorem dX9_lodgings_131 : decode (zB 137) 131 = .ok (.aload_n 0, 1) := by decide +kernel
theorem dX9_lodgings_132 : decode (zB 137) 132 = .ok (.invokevirtual 190, 3) := by decide +kernel
theorem dX9_lodgings_135 : decode (zB 137) 135 = .ok (.aload_n 0, 1) := by decide +kernel
theorem dX9_lodgings_136 : decode (zB 137) 136 = .ok (.invokevirtual 217, 3) := by decide +kernel
theorem dX9_lodgings_139 : decode (zB 137) 139 = .ok (.istore 7, 2) := by decide +kernel
theorem dX9_lodgings_141 : decode (zB 137) 141 = .ok (.iload 4, 2) := by decide +kernel
theorem dX9_lodgings_143 : decode (zB 137) 143 = .ok (.ifCond .lt 10, 3) := by decide +kernel
theorem dX9_lodgings_146 : decode (zB 137) 146 = .ok (.iload 7, 2) := by decide +kernel
theorem dX9_lodgings_148 : decode (zB 137) 148 = .ok (.iload 4, 2) := by decide +kernel
theorem dX9_lodgings_150 : decode (zB 137) 150 = .ok (.if_icmp .ge 36, 3) := by decide +kernel
theorem dX9_lodgings_153 : decode (zB 137) 153 = .ok (.iload 7, 2) := by decide +kernel
theorem dX9_lodgings_155 : decode (zB 137) 155 = .ok (.istore 4, 2) := by decide +kernel
theorem dX9_lodgings_157 : decode (zB 137) 157 = .ok (.iconst 0, 1) := by decide +kernel
theorem dX9_lodgings_158 : decode (zB 137) 158 = .ok (.istore 8, 2) := by decide +kernel
theorem dX9_lodgings_160 : decode (zB 137) 160 = .ok (.iload 8, 2) := by decide +kernel
theorem dX9_lodgings_162 : decode (zB 137) 162 = .ok (.iload_n 1, 1) := by decide +kernel
theorem dX9_lodgings_163 : decode (zB 137) 163 = .ok (.if_icmp .ge 23, 3) := by decide +kernel
theorem dX9_lodgings_166 : decode (zB 137) 166 = .ok (.aload_n 0, 1) := by decide +kernel
theorem dX9_lodgings_167 : decode (zB 137) 167 = .ok (.getfield 56, 3) := by decide +kernel
theorem dX9_lodgings_170 : decode (zB 137) 170 = .ok (.iload 8, 2) := by decide +kernel
theorem dX9_lodgings_172 : decode (zB 137) 172 = .ok (.aload_n 0, 1) := by decide +kernel
theorem dX9_lodgings_173 : decode (zB 137) 173 = .ok (.getfield 40, 3) := by decide +kernel
theorem dX9_lodgings_176 : decode (zB 137) 176 = .ok (.iload 8, 2) := by decide +kernel
theorem dX9_lodgings_178 : decode (zB 137) 178 = .ok (.iaload, 1) := by decide +kernel
theorem dX9_lodgings_179 : decode (zB 137) 179 = .ok (.iastore, 1) := by decide +kernel
theorem dX9_lodgings_180 : decode (zB 137) 180 = .ok (.iinc 8 1, 3) := by decide +kernel
theorem dX9_lodgings_183 : decode (zB 137) 183 = .ok (.goto (-23), 3) := by decide +kernel
theorem dX9_lodgings_186 : decode (zB 137) 186 = .ok (.iinc 5 1, 3) := by decide +kernel
theorem dX9_lodgings_189 : decode (zB 137) 189 = .ok (.goto (-114), 3) := by decide +kernel
theorem dX9_lodgings_192 : decode (zB 137) 192 = .ok (.aload_n 0, 1) := by decide +kernel
theorem dX9_lodgings_193 : decode (zB 137) 193 = .ok (.invokevirtual 236, 3) := by decide +kernel
theorem dX9_lodgings_196 : decode (zB 137) 196 = .ok (.iload 4, 2) := by decide +kernel
theorem dX9_lodgings_198 : decode (zB 137) 198 = .ok (.ifCond .lt 7, 3) := by decide +kernel
theorem dX9_lodgings_201 : decode (zB 137) 201 = .ok (.iload_n 2, 1) := by decide +kernel
theorem dX9_lodgings_202 : decode (zB 137) 202 = .ok (.ifCond .ge 8, 3) := by decide +kernel
theorem dX9_lodgings_205 : decode (zB 137) 205 = .ok (.iload 4, 2) := by decide +kernel
theorem dX9_lodgings_207 : decode (zB 137) 207 = .ok (.goto 9, 3) := by decide +kernel
theorem dX9_lodgings_210 : decode (zB 137) 210 = .ok (.aload_n 0, 1) := by decide +kernel
theorem dX9_lodgings_211 : decode (zB 137) 211 = .ok (.getfield 56, 3) := by decide +kernel
theorem dX9_lodgings_214 : decode (zB 137) 214 = .ok (.iload_n 2, 1) := by decide +kernel
theorem dX9_lodgings_215 : decode (zB 137) 215 = .ok (.iaload, 1) := by decide +kernel
theorem dX9_lodgings_216 : decode (zB 137) 216 = .ok (.ireturn, 1) := by decide +kernel
theorem dX9_feast_0 : decode (zB 138) 0 = .ok (.aload_n 0, 1) := by decide +kernel
theorem dX9_feast_1 : decode (zB 138) 1 = .ok (.iload_n 1, 1) := by decide +kernel
theorem dX9_feast_2 : decode (zB 138) 2 = .ok (.invokevirtual 149, 3) := by decide +kernel
theorem dX9_feast_5 : decode (zB 138) 5 = .ok (.ifCond .eq 5, 3) := by decide +kernel
theorem dX9_feast_8 : decode (zB 138) 8 = .ok (.iconst (-1), 1) := by decide +kernel
theorem dX9_feast_9 : decode (zB 138) 9 = .ok (.ireturn, 1) := by decide +kernel
theorem dX9_feast_10 : decode (zB 138) 10 = .ok (.iload_n 2, 1) := by decide +kernel
theorem dX9_feast_11 : decode (zB 138) 11 = .ok (.i2l, 1) := by decide +kernel
theorem dX9_feast_12 : decode (zB 138) 12 = .ok (.lconst 1, 1) := by decide +kernel
theorem dX9_feast_13 : decode (zB 138) 13 = .ok (.ldc2_w 239, 3) := by decide +kernel
theorem dX9_feast_16 : decode (zB 138) 16 = .ok (.invokestatic 93, 3) := by decide +kernel
theorem dX9_feast_19 : decode (zB 138) 19 = .ok (.ifCond .eq 15, 3) := by decide +kernel
theorem dX9_feast_22 : decode (zB 138) 22 = .ok (.iload_n 3, 1) := by decide +kernel
theorem dX9_feast_23 : decode (zB 138) 23 = .ok (.i2l, 1) := by decide +kernel
theorem dX9_feast_24 : decode (zB 138) 24 = .ok (.lconst 0, 1) := by decide +kernel
theorem dX9_feast_25 : decode (zB 138) 25 = .ok (.ldc2_w 154, 3) := by decide +kernel
theorem dX9_feast_28 : decode (zB 138) 28 = .ok (.invokestatic 93, 3) := by decide +kernel
theorem dX9_feast_31 : decode (zB 138) 31 = .ok (.ifCond .ne 6, 3) := by decide +kernel
theorem dX9_feast_34 : decode (zB 138) 34 = .ok (.bipush (-2), 2) := by decide +kernel
theorem dX9_feast_36 : decode (zB 138) 36 = .ok (.ireturn, 1) := by decide +kernel
theorem dX9_feast_37 : decode (zB 138) 37 = .ok (.aload_n 0, 1) := by decide +kernel
theorem dX9_feast_38 : decode (zB 138) 38 = .ok (.invokevirtual 190, 3) := by decide +kernel
theorem dX9_feast_41 : decode (zB 138) 41 = .ok (.aload_n 0, 1) := by decide +kernel
theorem dX9_feast_42 : decode (zB 138) 42 = .ok (.iload_n 1, 1) := by decide +kernel
theorem dX9_feast_43 : decode (zB 138) 43 = .ok (.putfield 171, 3) := by decide +kernel
theorem dX9_feast_46 : decode (zB 138) 46 = .ok (.aload_n 0, 1) := by decide +kernel
theorem dX9_feast_47 : decode (zB 138) 47 = .ok (.iload_n 2, 1) := by decide +kernel
theorem dX9_feast_48 : decode (zB 138) 48 = .ok (.putfield 174, 3) := by decide +kernel
theorem dX9_feast_51 : decode (zB 138) 51 = .ok (.aload_n 0, 1) := by decide +kernel
theorem dX9_feast_52 : decode (zB 138) 52 = .ok (.iload_n 3, 1) := by decide +kernel
theorem dX9_feast_53 : decode (zB 138) 53 = .ok (.putfield 177, 3) := by decide +kernel
theorem dX9_feast_56 : decode (zB 138) 56 = .ok (.iconst 0, 1) := by decide +kernel
theorem dX9_feast_57 : decode (zB 138) 57 = .ok (.istore 4, 2) := by decide +kernel
theorem dX9_feast_59 : decode (zB 138) 59 = .ok (.iload 4, 2) := by decide +kernel
theorem dX9_feast_61 : decode (zB 138) 61 = .ok (.bipush 50, 2) := by decide +kernel
theorem dX9_feast_63 : decode (zB 138) 63 = .ok (.if_icmp .ge 34, 3) := by decide +kernel
theorem dX9_feast_66 : decode (zB 138) 66 = .ok (.aload_n 0, 1) := by decide +kernel
theorem dX9_feast_67 : decode (zB 138) 67 = .ok (.iload 4, 2) := by decide +kernel
theorem dX9_feast_69 : decode (zB 138) 69 = .ok (.invokevirtual 193, 3) := by decide +kernel
theorem dX9_feast_72 : decode (zB 138) 72 = .ok (.iload 4, 2) := by decide +kernel
theorem dX9_feast_74 : decode (zB 138) 74 = .ok (.iload_n 3, 1) := by decide +kernel
theorem dX9_feast_75 : decode (zB 138) 75 = .ok (.if_icmp .lt 16, 3) := by decide +kernel
theorem dX9_feast_78 : decode (zB 138) 78 = .ok (.aload_n 0, 1) := by decide +kernel
theorem dX9_feast_79 : decode (zB 138) 79 = .ok (.iload_n 1, 1) := by decide +kernel
theorem dX9_feast_80 : decode (zB 138) 80 = .ok (.invokevirtual 220, 3) := by decide +kernel
theorem dX9_feast_83 : decode (zB 138) 83 = .ok (.ifCond .eq 8, 3) := by decide +kernel
theorem dX9_feast_86 : decode (zB 138) 86 = .ok (.iload 4, 2) := by decide +kernel
theorem dX9_feast_88 : decode (zB 138) 88 = .ok (.iload_n 3, 1) := by decide +kernel
theorem dX9_feast_89 : decode (zB 138) 89 = .ok (.isub, 1) := by decide +kernel
theorem dX9_feast_90 : decode (zB 138) 90 = .ok (.ireturn, 1) := by decide +kernel
theorem dX9_feast_91 : decode (zB 138) 91 = .ok (.iinc 4 1, 3) := by decide +kernel
theorem dX9_feast_94 : decode (zB 138) 94 = .ok (.goto (-35), 3) := by decide +kernel
theorem dX9_feast_97 : decode (zB 138) 97 = .ok (.bipush 50, 2) := by decide +kernel
theorem dX9_feast_99 : decode (zB 138) 99 = .ok (.iload_n 3, 1) := by decide +kernel
theorem dX9_feast_100 : decode (zB 138) 100 = .ok (.isub, 1) := by decide +kernel
theorem dX9_feast_101 : decode (zB 138) 101 = .ok (.ireturn, 1) := by decide +kernel
theorem dX9_way_0 : decode (zB 139) 0 = .ok (.aload_n 0, 1) := by decide +kernel
theorem dX9_way_1 : decode (zB 139) 1 = .ok (.iload_n 1, 1) := by decide +kernel
theorem dX9_way_2 : decode (zB 139) 2 = .ok (.invokevirtual 149, 3) := by decide +kernel
theorem dX9_way_5 : decode (zB 139) 5 = .ok (.ifCond .ne 11, 3) := by decide +kernel
theorem dX9_way_8 : decode (zB 139) 8 = .ok (.aload_n 0, 1) := by decide +kernel
theorem dX9_way_9 : decode (zB 139) 9 = .ok (.iload_n 2, 1) := by decide +kernel
theorem dX9_way_10 : decode (zB 139) 10 = .ok (.invokevirtual 149, 3) := by decide +kernel
theorem dX9_way_13 : decode (zB 139) 13 = .ok (.ifCond .eq 5, 3) := by decide +kernel
theorem dX9_way_16 : decode (zB 139) 16 = .ok (.iconst (-1), 1) := by decide +kernel
theorem dX9_way_17 : decode (zB 139) 17 = .ok (.ireturn, 1) := by decide +kernel
theorem dX9_way_18 : decode (zB 139) 18 = .ok (.iload_n 3, 1) := by decide +kernel
theorem dX9_way_19 : decode (zB 139) 19 = .ok (.invokestatic 209, 3) := by decide +kernel
theorem dX9_way_22 : decode (zB 139) 22 = .ok (.ifCond .ne 6, 3) := by decide +kernel
theorem dX9_way_25 : decode (zB 139) 25 = .ok (.bipush (-2), 2) := by decide +kernel
theorem dX9_way_27 : decode (zB 139) 27 = .ok (.ireturn, 1) := by decide +kernel
theorem dX9_way_28 : decode (zB 139) 28 = .ok (.iload_n 1, 1) := by decide +kernel
theorem dX9_way_29 : decode (zB 139) 29 = .ok (.iload_n 2, 1) := by decide +kernel
theorem dX9_way_30 : decode (zB 139) 30 = .ok (.if_icmp .ne 5, 3) := by decide +kernel
theorem dX9_way_33 : decode (zB 139) 33 = .ok (.iload_n 3, 1) := by decide +kernel
theorem dX9_way_34 : decode (zB 139) 34 = .ok (.ireturn, 1) := by decide +kernel
theorem dX9_way_35 : decode (zB 139) 35 = .ok (.aload_n 0, 1) := by decide +kernel
theorem dX9_way_36 : decode (zB 139) 36 = .ok (.iload_n 3, 1) := by decide +kernel
theorem dX9_way_37 : decode (zB 139) 37 = .ok (.invokevirtual 212, 3) := by decide +kernel
theorem dX9_way_40 : decode (zB 139) 40 = .ok (.iconst 1, 1) := by decide +kernel
theorem dX9_way_41 : decode (zB 139) 41 = .ok (.iload_n 1, 1) := by decide +kernel
theorem dX9_way_42 : decode (zB 139) 42 = .ok (.ishl, 1) := by decide +kernel
theorem dX9_way_43 : decode (zB 139) 43 = .ok (.istore 4, 2) := by decide +kernel
theorem dX9_way_45 : decode (zB 139) 45 = .ok (.iload_n 3, 1) := by decide +kernel
theorem dX9_way_46 : decode (zB 139) 46 = .ok (.istore 5, 2) := by decide +kernel
theorem dX9_way_48 : decode (zB 139) 48 = .ok (.iload 5, 2) := by decide +kernel
theorem dX9_way_50 : decode (zB 139) 50 = .ok (.bipush 50, 2) := by decide +kernel
theorem dX9_way_52 : decode (zB 139) 52 = .ok (.if_icmp .gt 126, 3) := by decide +kernel
theorem dX9_way_55 : decode (zB 139) 55 = .ok (.iload 4, 2) := by decide +kernel
theorem dX9_way_57 : decode (zB 139) 57 = .ok (.istore 6, 2) := by decide +kernel
theorem dX9_way_59 : decode (zB 139) 59 = .ok (.iconst 0, 1) := by decide +kernel
theorem dX9_way_60 : decode (zB 139) 60 = .ok (.istore 7, 2) := by decide +kernel
theorem dX9_way_62 : decode (zB 139) 62 = .ok (.iload 7, 2) := by decide +kernel
theorem dX9_way_64 : decode (zB 139) 64 = .ok (.iconst 1, 1) := by decide +kernel
theorem dX9_way_65 : decode (zB 139) 65 = .ok (.iadd, 1) := by decide +kernel
theorem dX9_way_66 : decode (zB 139) 66 = .ok (.aload_n 0, 1) := by decide +kernel
theorem dX9_way_67 : decode (zB 139) 67 = .ok (.getfield 90, 3) := by decide +kernel
theorem dX9_way_70 : decode (zB 139) 70 = .ok (.if_icmp .ge 79, 3) := by decide +kernel
theorem dX9_way_73 : decode (zB 139) 73 = .ok (.iload 6, 2) := by decide +kernel
theorem dX9_way_75 : decode (zB 139) 75 = .ok (.aload_n 0, 1) := by decide +kernel
theorem dX9_way_76 : decode (zB 139) 76 = .ok (.iload 7, 2) := by decide +kernel
theorem dX9_way_78 : decode (zB 139) 78 = .ok (.invokevirtual 200, 3) := by decide +kernel
theorem dX9_way_81 : decode (zB 139) 81 = .ok (.ifCond .eq 23, 3) := by decide +kernel
theorem dX9_way_84 : decode (zB 139) 84 = .ok (.iload 4, 2) := by decide +kernel
theorem dX9_way_86 : decode (zB 139) 86 = .ok (.iload 7, 2) := by decide +kernel
theorem dX9_way_88 : decode (zB 139) 88 = .ok (.ishr, 1) := by decide +kernel
theorem dX9_way_89 : decode (zB 139) 89 = .ok (.iconst 1, 1) := by decide +kernel
theorem dX9_way_90 : decode (zB 139) 90 = .ok (.iand, 1) := by decide +kernel
theorem dX9_way_91 : decode (zB 139) 91 = .ok (.iconst 1, 1) := by decide +kernel
theorem dX9_way_92 : decode (zB 139) 92 = .ok (.if_icmp .ne 12, 3) := by decide +kernel
theorem dX9_way_95 : decode (zB 139) 95 = .ok (.iconst 1, 1) := by decide +kernel
theorem dX9_way_96 : decode (zB 139) 96 = .ok (.iload 7, 2) := by decide +kernel
theorem dX9_way_98 : decode (zB 139) 98 = .ok (.iconst 1, 1) := by decide +kernel
theorem dX9_way_99 : decode (zB 139) 99 = .ok (.iadd, 1) := by decide +kernel
theorem dX9_way_100 : decode (zB 139) 100 = .ok (.ishl, 1) := by decide +kernel
theorem dX9_way_101 : decode (zB 139) 101 = .ok (.goto 4, 3) := by decide +kernel
theorem dX9_way_104 : decode (zB 139) 104 = .ok (.iconst 0, 1) := by decide +kernel
theorem dX9_way_105 : decode (zB 139) 105 = .ok (.ior, 1) := by decide +kernel
theorem dX9_way_106 : decode (zB 139) 106 = .ok (.istore 6, 2) := by decide +kernel
theorem dX9_way_108 : decode (zB 139) 108 = .ok (.iload 6, 2) := by decide +kernel
theorem dX9_way_110 : decode (zB 139) 110 = .ok (.aload_n 0, 1) := by decide +kernel
theorem dX9_way_111 : decode (zB 139) 111 = .ok (.iload 7, 2) := by decide +kernel
theorem dX9_way_113 : decode (zB 139) 113 = .ok (.invokevirtual 200, 3) := by decide +kernel
theorem dX9_way_116 : decode (zB 139) 116 = .ok (.ifCond .eq 23, 3) := by decide +kernel
theorem dX9_way_119 : decode (zB 139) 119 = .ok (.iload 4, 2) := by decide +kernel
theorem dX9_way_121 : decode (zB 139) 121 = .ok (.iload 7, 2) := by decide +kernel
theorem dX9_way_123 : decode (zB 139) 123 = .ok (.iconst 1, 1) := by decide +kernel
theorem dX9_way_124 : decode (zB 139) 124 = .ok (.iadd, 1) := by decide +kernel
theorem dX9_way_125 : decode (zB 139) 125 = .ok (.ishr, 1) := by decide +kernel
theorem dX9_way_126 : decode (zB 139) 126 = .ok (.iconst 1, 1) := by decide +kernel
theorem dX9_way_127 : decode (zB 139) 127 = .ok (.iand, 1) := by decide +kernel
theorem dX9_way_128 : decode (zB 139) 128 = .ok (.iconst 1, 1) := by decide +kernel
theorem dX9_way_129 : decode (zB 139) 129 = .ok (.if_icmp .ne 10, 3) := by decide +kernel
theorem dX9_way_132 : decode (zB 139) 132 = .ok (.iconst 1, 1) := by decide +kernel
theorem dX9_way_133 : decode (zB 139) 133 = .ok (.iload 7, 2) := by decide +kernel
theorem dX9_way_135 : decode (zB 139) 135 = .ok (.ishl, 1) := by decide +kernel
theorem dX9_way_136 : decode (zB 139) 136 = .ok (.goto 4, 3) := by decide +kernel
theorem dX9_way_139 : decode (zB 139) 139 = .ok (.iconst 0, 1) := by decide +kernel
theorem dX9_way_140 : decode (zB 139) 140 = .ok (.ior, 1) := by decide +kernel
theorem dX9_way_141 : decode (zB 139) 141 = .ok (.istore 6, 2) := by decide +kernel
theorem dX9_way_143 : decode (zB 139) 143 = .ok (.iinc 7 1, 3) := by decide +kernel
theorem dX9_way_146 : decode (zB 139) 146 = .ok (.goto (-84), 3) := by decide +kernel
theorem dX9_way_149 : decode (zB 139) 149 = .ok (.iload 6, 2) := by decide +kernel
theorem dX9_way_151 : decode (zB 139) 151 = .ok (.istore 4, 2) := by decide +kernel
theorem dX9_way_153 : decode (zB 139) 153 = .ok (.iload 4, 2) := by decide +kernel
theorem dX9_way_155 : decode (zB 139) 155 = .ok (.iload_n 2, 1) := by decide +kernel
theorem dX9_way_156 : decode (zB 139) 156 = .ok (.ishr, 1) := by decide +kernel
theorem dX9_way_157 : decode (zB 139) 157 = .ok (.iconst 1, 1) := by decide +kernel
theorem dX9_way_158 : decode (zB 139) 158 = .ok (.iand, 1) := by decide +kernel
theorem dX9_way_159 : decode (zB 139) 159 = .ok (.iconst 1, 1) := by decide +kernel
theorem dX9_way_160 : decode (zB 139) 160 = .ok (.if_icmp .ne 6, 3) := by decide +kernel
theorem dX9_way_163 : decode (zB 139) 163 = .ok (.iload 5, 2) := by decide +kernel
theorem dX9_way_165 : decode (zB 139) 165 = .ok (.ireturn, 1) := by decide +kernel
theorem dX9_way_166 : decode (zB 139) 166 = .ok (.aload_n 0, 1) := by decide +kernel
theorem dX9_way_167 : decode (zB 139) 167 = .ok (.iload 5, 2) := by decide +kernel
theorem dX9_way_169 : decode (zB 139) 169 = .ok (.invokevirtual 193, 3) := by decide +kernel
theorem dX9_way_172 : decode (zB 139) 172 = .ok (.iinc 5 1, 3) := by decide +kernel
theorem dX9_way_175 : decode (zB 139) 175 = .ok (.goto (-127), 3) := by decide +kernel
theorem dX9_way_178 : decode (zB 139) 178 = .ok (.bipush (-9), 2) := by decide +kernel
theorem dX9_way_180 : decode (zB 139) 180 = .ok (.ireturn, 1) := by decide +kernel
theorem dX9_reading_0 : decode (zB 140) 0 = .ok (.aload_n 0, 1) := by decide +kernel
theorem dX9_reading_1 : decode (zB 140) 1 = .ok (.iload_n 1, 1) := by decide +kernel
theorem dX9_reading_2 : decode (zB 140) 2 = .ok (.invokevirtual 149, 3) := by decide +kernel
theorem dX9_reading_5 : decode (zB 140) 5 = .ok (.ifCond .eq 5, 3) := by decide +kernel
theorem dX9_reading_8 : decode (zB 140) 8 = .ok (.iconst (-1), 1) := by decide +kernel
theorem dX9_reading_9 : decode (zB 140) 9 = .ok (.ireturn, 1) := by decide +kernel
theorem dX9_reading_10 : decode (zB 140) 10 = .ok (.iload_n 2, 1) := by decide +kernel
theorem dX9_reading_11 : decode (zB 140) 11 = .ok (.invokestatic 209, 3) := by decide +kernel
theorem dX9_reading_14 : decode (zB 140) 14 = .ok (.ifCond .eq 15, 3) := by decide +kernel
theorem dX9_reading_17 : decode (zB 140) 17 = .ok (.iload_n 3, 1) := by decide +kernel
theorem dX9_reading_18 : decode (zB 140) 18 = .ok (.i2l, 1) := by decide +kernel
theorem dX9_reading_19 : decode (zB 140) 19 = .ok (.lconst 0, 1) := by decide +kernel
theorem dX9_reading_20 : decode (zB 140) 20 = .ok (.ldc2_w 241, 3) := by decide +kernel
theorem dX9_reading_23 : decode (zB 140) 23 = .ok (.invokestatic 93, 3) := by decide +kernel
theorem dX9_reading_26 : decode (zB 140) 26 = .ok (.ifCond .ne 6, 3) := by decide +kernel
theorem dX9_reading_29 : decode (zB 140) 29 = .ok (.bipush (-2), 2) := by decide +kernel
theorem dX9_reading_31 : decode (zB 140) 31 = .ok (.ireturn, 1) := by decide +kernel
theorem dX9_reading_32 : decode (zB 140) 32 = .ok (.aload_n 0, 1) := by decide +kernel
theorem dX9_reading_33 : decode (zB 140) 33 = .ok (.getfield 146, 3) := by decide +kernel
theorem dX9_reading_36 : decode (zB 140) 36 = .ok (.bipush 10, 2) := by decide +kernel
theorem dX9_reading_38 : decode (zB 140) 38 = .ok (.if_icmp .ne 6, 3) := by decide +kernel
theorem dX9_reading_41 : decode (zB 140) 41 = .ok (.bipush (-4), 2) := by decide +kernel
theorem dX9_reading_43 : decode (zB 140) 43 = .ok (.ireturn, 1) := by decide +kernel
theorem dX9_reading_44 : decode (zB 140) 44 = .ok (.aload_n 0, 1) := by decide +kernel
theorem dX9_reading_45 : decode (zB 140) 45 = .ok (.getfield 59, 3) := by decide +kernel
theorem dX9_reading_48 : decode (zB 140) 48 = .ok (.aload_n 0, 1) := by decide +kernel
theorem dX9_reading_49 : decode (zB 140) 49 = .ok (.getfield 146, 3) := by decide +kernel
theorem dX9_reading_52 : decode (zB 140) 52 = .ok (.iload_n 1, 1) := by decide +kernel
theorem dX9_reading_53 : decode (zB 140) 53 = .ok (.iastore, 1) := by decide +kernel
theorem dX9_reading_54 : decode (zB 140) 54 = .ok (.aload_n 0, 1) := by decide +kernel
theorem dX9_reading_55 : decode (zB 140) 55 = .ok (.getfield 62, 3) := by decide +kernel
theorem dX9_reading_58 : decode (zB 140) 58 = .ok (.aload_n 0, 1) := by decide +kernel
theorem dX9_reading_59 : decode (zB 140) 59 = .ok (.getfield 146, 3) := by decide +kernel
theorem dX9_reading_62 : decode (zB 140) 62 = .ok (.iload_n 2, 1) := by decide +kernel
theorem dX9_reading_63 : decode (zB 140) 63 = .ok (.iastore, 1) := by decide +kernel
theorem dX9_reading_64 : decode (zB 140) 64 = .ok (.aload_n 0, 1) := by decide +kernel
theorem dX9_reading_65 : decode (zB 140) 65 = .ok (.getfield 65, 3) := by decide +kernel
theorem dX9_reading_68 : decode (zB 140) 68 = .ok (.aload_n 0, 1) := by decide +kernel
theorem dX9_reading_69 : decode (zB 140) 69 = .ok (.getfield 146, 3) := by decide +kernel
theorem dX9_reading_72 : decode (zB 140) 72 = .ok (.iload_n 3, 1) := by decide +kernel
theorem dX9_reading_73 : decode (zB 140) 73 = .ok (.iastore, 1) := by decide +kernel
theorem dX9_reading_74 : decode (zB 140) 74 = .ok (.aload_n 0, 1) := by decide +kernel
theorem dX9_reading_75 : decode (zB 140) 75 = .ok (.dup, 1) := by decide +kernel
theorem dX9_reading_76 : decode (zB 140) 76 = .ok (.getfield 146, 3) := by decide +kernel
theorem dX9_reading_79 : decode (zB 140) 79 = .ok (.iconst 1, 1) := by decide +kernel
theorem dX9_reading_80 : decode (zB 140) 80 = .ok (.iadd, 1) := by decide +kernel
theorem dX9_reading_81 : decode (zB 140) 81 = .ok (.putfield 146, 3) := by decide +kernel
theorem dX9_reading_84 : decode (zB 140) 84 = .ok (.aload_n 0, 1) := by decide +kernel
theorem dX9_reading_85 : decode (zB 140) 85 = .ok (.getfield 146, 3) := by decide +kernel
theorem dX9_reading_88 : decode (zB 140) 88 = .ok (.iconst 1, 1) := by decide +kernel
theorem dX9_reading_89 : decode (zB 140) 89 = .ok (.isub, 1) := by decide +kernel
theorem dX9_reading_90 : decode (zB 140) 90 = .ok (.ireturn, 1) := by decide +kernel
theorem dX9_back_0 : decode (zB 141) 0 = .ok (.iload_n 1, 1) := by decide +kernel
theorem dX9_back_1 : decode (zB 141) 1 = .ok (.i2l, 1) := by decide +kernel
theorem dX9_back_2 : decode (zB 141) 2 = .ok (.lconst 0, 1) := by decide +kernel
theorem dX9_back_3 : decode (zB 141) 3 = .ok (.aload_n 0, 1) := by decide +kernel
theorem dX9_back_4 : decode (zB 141) 4 = .ok (.getfield 146, 3) := by decide +kernel
theorem dX9_back_7 : decode (zB 141) 7 = .ok (.i2l, 1) := by decide +kernel
theorem dX9_back_8 : decode (zB 141) 8 = .ok (.invokestatic 93, 3) := by decide +kernel
theorem dX9_back_11 : decode (zB 141) 11 = .ok (.ifCond .ne 6, 3) := by decide +kernel
theorem dX9_back_14 : decode (zB 141) 14 = .ok (.bipush (-2), 2) := by decide +kernel
theorem dX9_back_16 : decode (zB 141) 16 = .ok (.ireturn, 1) := by decide +kernel
theorem dX9_back_17 : decode (zB 141) 17 = .ok (.aload_n 0, 1) := by decide +kernel
theorem dX9_back_18 : decode (zB 141) 18 = .ok (.dup, 1) := by decide +kernel
theorem dX9_back_19 : decode (zB 141) 19 = .ok (.getfield 146, 3) := by decide +kernel
theorem dX9_back_22 : decode (zB 141) 22 = .ok (.iload_n 1, 1) := by decide +kernel
theorem dX9_back_23 : decode (zB 141) 23 = .ok (.isub, 1) := by decide +kernel
theorem dX9_back_24 : decode (zB 141) 24 = .ok (.putfield 146, 3) := by decide +kernel
theorem dX9_back_27 : decode (zB 141) 27 = .ok (.aload_n 0, 1) := by decide +kernel
theorem dX9_back_28 : decode (zB 141) 28 = .ok (.getfield 146, 3) := by decide +kernel
theorem dX9_back_31 : decode (zB 141) 31 = .ok (.ireturn, 1) := by decide +kernel
theorem dX9_areSo_0 : decode (zB 142) 0 = .ok (.iconst 1, 1) := by decide +kernel
theorem dX9_areSo_1 : decode (zB 142) 1 = .ok (.istore_n 1, 1) := by decide +kernel
theorem dX9_areSo_2 : decode (zB 142) 2 = .ok (.iconst 0, 1) := by decide +kernel
theorem dX9_areSo_3 : decode (zB 142) 3 = .ok (.istore_n 2, 1) := by decide +kernel
theorem dX9_areSo_4 : decode (zB 142) 4 = .ok (.iload_n 2, 1) := by decide +kernel
theorem dX9_areSo_5 : decode (zB 142) 5 = .ok (.bipush 50, 2) := by decide +kernel
theorem dX9_areSo_7 : decode (zB 142) 7 = .ok (.if_icmp .gt 70, 3) := by decide +kernel
theorem dX9_areSo_10 : decode (zB 142) 10 = .ok (.iconst 0, 1) := by decide +kernel
theorem dX9_areSo_11 : decode (zB 142) 11 = .ok (.istore_n 3, 1) := by decide +kernel
theorem dX9_areSo_12 : decode (zB 142) 12 = .ok (.iload_n 3, 1) := by decide +kernel
theorem dX9_areSo_13 : decode (zB 142) 13 = .ok (.aload_n 0, 1) := by decide +kernel
theorem dX9_areSo_14 : decode (zB 142) 14 = .ok (.getfield 146, 3) := by decide +kernel
theorem dX9_areSo_17 : decode (zB 142) 17 = .ok (.if_icmp .ge 49, 3) := by decide +kernel
theorem dX9_areSo_20 : decode (zB 142) 20 = .ok (.iload_n 1, 1) := by decide +kernel
theorem dX9_areSo_21 : decode (zB 142) 21 = .ok (.ifCond .eq 37, 3) := by decide +kernel
theorem dX9_areSo_24 : decode (zB 142) 24 = .ok (.aload_n 0, 1) := by decide +kernel
theorem dX9_areSo_25 : decode (zB 142) 25 = .ok (.getfield 62, 3) := by decide +kernel
theorem dX9_areSo_28 : decode (zB 142) 28 = .ok (.iload_n 3, 1) := by decide +kernel
theorem dX9_areSo_29 : decode (zB 142) 29 = .ok (.iaload, 1) := by decide +kernel
theorem dX9_areSo_30 : decode (zB 142) 30 = .ok (.iload_n 2, 1) := by decide +kernel
theorem dX9_areSo_31 : decode (zB 142) 31 = .ok (.if_icmp .ne 23, 3) := by decide +kernel
theorem dX9_areSo_34 : decode (zB 142) 34 = .ok (.aload_n 0, 1) := by decide +kernel
theorem dX9_areSo_35 : decode (zB 142) 35 = .ok (.getfield 43, 3) := by decide +kernel
theorem dX9_areSo_38 : decode (zB 142) 38 = .ok (.aload_n 0, 1) := by decide +kernel
theorem dX9_areSo_39 : decode (zB 142) 39 = .ok (.getfield 59, 3) := by decide +kernel
theorem dX9_areSo_42 : decode (zB 142) 42 = .ok (.iload_n 3, 1) := by decide +kernel
theorem dX9_areSo_43 : decode (zB 142) 43 = .ok (.iaload, 1) := by decide +kernel
theorem dX9_areSo_44 : decode (zB 142) 44 = .ok (.iaload, 1) := by decide +kernel
theorem dX9_areSo_45 : decode (zB 142) 45 = .ok (.aload_n 0, 1) := by decide +kernel
theorem dX9_areSo_46 : decode (zB 142) 46 = .ok (.getfield 65, 3) := by decide +kernel
theorem dX9_areSo_49 : decode (zB 142) 49 = .ok (.iload_n 3, 1) := by decide +kernel
theorem dX9_areSo_50 : decode (zB 142) 50 = .ok (.iaload, 1) := by decide +kernel
theorem dX9_areSo_51 : decode (zB 142) 51 = .ok (.if_icmp .ne 7, 3) := by decide +kernel
theorem dX9_areSo_54 : decode (zB 142) 54 = .ok (.iconst 1, 1) := by decide +kernel
theorem dX9_areSo_55 : decode (zB 142) 55 = .ok (.goto 4, 3) := by decide +kernel
theorem dX9_areSo_58 : decode (zB 142) 58 = .ok (.iconst 0, 1) := by decide +kernel
theorem dX9_areSo_59 : decode (zB 142) 59 = .ok (.istore_n 1, 1) := by decide +kernel
theorem dX9_areSo_60 : decode (zB 142) 60 = .ok (.iinc 3 1, 3) := by decide +kernel
theorem dX9_areSo_63 : decode (zB 142) 63 = .ok (.goto (-51), 3) := by decide +kernel
theorem dX9_areSo_66 : decode (zB 142) 66 = .ok (.aload_n 0, 1) := by decide +kernel
theorem dX9_areSo_67 : decode (zB 142) 67 = .ok (.iload_n 2, 1) := by decide +kernel
theorem dX9_areSo_68 : decode (zB 142) 68 = .ok (.invokevirtual 193, 3) := by decide +kernel
theorem dX9_areSo_71 : decode (zB 142) 71 = .ok (.iinc 2 1, 3) := by decide +kernel
theorem dX9_areSo_74 : decode (zB 142) 74 = .ok (.goto (-70), 3) := by decide +kernel
theorem dX9_areSo_77 : decode (zB 142) 77 = .ok (.iload_n 1, 1) := by decide +kernel
theorem dX9_areSo_78 : decode (zB 142) 78 = .ok (.ireturn, 1) := by decide +kernel
theorem dX9_right_0 : decode (zB 143) 0 = .ok (.aload_n 0, 1) := by decide +kernel
theorem dX9_right_1 : decode (zB 143) 1 = .ok (.invokevirtual 190, 3) := by decide +kernel
theorem dX9_right_4 : decode (zB 143) 4 = .ok (.aload_n 0, 1) := by decide +kernel
theorem dX9_right_5 : decode (zB 143) 5 = .ok (.invokevirtual 243, 3) := by decide +kernel
theorem dX9_right_8 : decode (zB 143) 8 = .ok (.ifCond .eq 7, 3) := by decide +kernel
theorem dX9_right_11 : decode (zB 143) 11 = .ok (.iconst 1, 1) := by decide +kernel
theorem dX9_right_12 : decode (zB 143) 12 = .ok (.goto 4, 3) := by decide +kernel
theorem dX9_right_15 : decode (zB 143) 15 = .ok (.iconst 0, 1) := by decide +kernel
theorem dX9_right_16 : decode (zB 143) 16 = .ok (.ireturn, 1) := by decide +kernel
theorem dX9_unseen_0 : decode (zB 144) 0 = .ok (.iload_n 1, 1) := by decide +kernel
theorem dX9_unseen_1 : decode (zB 144) 1 = .ok (.i2l, 1) := by decide +kernel
theorem dX9_unseen_2 : decode (zB 144) 2 = .ok (.lconst 0, 1) := by decide +kernel
theorem dX9_unseen_3 : decode (zB 144) 3 = .ok (.lconst 1, 1) := by decide +kernel
theorem dX9_unseen_4 : decode (zB 144) 4 = .ok (.invokestatic 93, 3) := by decide +kernel
theorem dX9_unseen_7 : decode (zB 144) 7 = .ok (.ifCond .ne 6, 3) := by decide +kernel
theorem dX9_unseen_10 : decode (zB 144) 10 = .ok (.bipush (-2), 2) := by decide +kernel
theorem dX9_unseen_12 : decode (zB 144) 12 = .ok (.ireturn, 1) := by decide +kernel
theorem dX9_unseen_13 : decode (zB 144) 13 = .ok (.aload_n 0, 1) := by decide +kernel
theorem dX9_unseen_14 : decode (zB 144) 14 = .ok (.getfield 90, 3) := by decide +kernel
theorem dX9_unseen_17 : decode (zB 144) 17 = .ok (.ifCond .ne 6, 3) := by decide +kernel
theorem dX9_unseen_20 : decode (zB 144) 20 = .ok (.bipush (-3), 2) := by decide +kernel
theorem dX9_unseen_22 : decode (zB 144) 22 = .ok (.ireturn, 1) := by decide +kernel
theorem dX9_unseen_23 : decode (zB 144) 23 = .ok (.iconst 0, 1) := by decide +kernel
theorem dX9_unseen_24 : decode (zB 144) 24 = .ok (.istore_n 2, 1) := by decide +kernel
theorem dX9_unseen_25 : decode (zB 144) 25 = .ok (.bipush (-9), 2) := by decide +kernel
theorem dX9_unseen_27 : decode (zB 144) 27 = .ok (.istore_n 3, 1) := by decide +kernel
theorem dX9_unseen_28 : decode (zB 144) 28 = .ok (.iconst 0, 1) := by decide +kernel
theorem dX9_unseen_29 : decode (zB 144) 29 = .ok (.istore 4, 2) := by decide +kernel
theorem dX9_unseen_31 : decode (zB 144) 31 = .ok (.iload 4, 2) := by decide +kernel
theorem dX9_unseen_33 : decode (zB 144) 33 = .ok (.aload_n 0, 1) := by decide +kernel
theorem dX9_unseen_34 : decode (zB 144) 34 = .ok (.getfield 90, 3) := by decide +kernel
theorem dX9_unseen_37 : decode (zB 144) 37 = .ok (.if_icmp .ge 68, 3) := by decide +kernel
theorem dX9_unseen_40 : decode (zB 144) 40 = .ok (.iconst 1, 1) := by decide +kernel
theorem dX9_unseen_41 : decode (zB 144) 41 = .ok (.istore 5, 2) := by decide +kernel
theorem dX9_unseen_43 : decode (zB 144) 43 = .ok (.iload 5, 2) := by decide +kernel
theorem dX9_unseen_45 : decode (zB 144) 45 = .ok (.bipush 30, 2) := by decide +kernel
theorem dX9_unseen_47 : decode (zB 144) 47 = .ok (.if_icmp .gt 52, 3) := by decide +kernel
theorem dX9_unseen_50 : decode (zB 144) 50 = .ok (.aload_n 0, 1) := by decide +kernel
theorem dX9_unseen_51 : decode (zB 144) 51 = .ok (.invokevirtual 190, 3) := by decide +kernel
theorem dX9_unseen_54 : decode (zB 144) 54 = .ok (.aload_n 0, 1) := by decide +kernel
theorem dX9_unseen_55 : decode (zB 144) 55 = .ok (.iload 4, 2) := by decide +kernel
theorem dX9_unseen_57 : decode (zB 144) 57 = .ok (.putfield 171, 3) := by decide +kernel
theorem dX9_unseen_60 : decode (zB 144) 60 = .ok (.aload_n 0, 1) := by decide +kernel
theorem dX9_unseen_61 : decode (zB 144) 61 = .ok (.iload 5, 2) := by decide +kernel
theorem dX9_unseen_63 : decode (zB 144) 63 = .ok (.putfield 174, 3) := by decide +kernel
theorem dX9_unseen_66 : decode (zB 144) 66 = .ok (.aload_n 0, 1) := by decide +kernel
theorem dX9_unseen_67 : decode (zB 144) 67 = .ok (.invokevirtual 243, 3) := by decide +kernel
theorem dX9_unseen_70 : decode (zB 144) 70 = .ok (.ifCond .eq 23, 3) := by decide +kernel
theorem dX9_unseen_73 : decode (zB 144) 73 = .ok (.iinc 2 1, 3) := by decide +kernel
theorem dX9_unseen_76 : decode (zB 144) 76 = .ok (.iload_n 3, 1) := by decide +kernel
theorem dX9_unseen_77 : decode (zB 144) 77 = .ok (.ifCond .ge 14, 3) := by decide +kernel
theorem dX9_unseen_80 : decode (zB 144) 80 = .ok (.bipush 100, 2) := by decide +kernel
theorem dX9_unseen_82 : decode (zB 144) 82 = .ok (.iload 4, 2) := by decide +kernel
theorem dX9_unseen_84 : decode (zB 144) 84 = .ok (.imul, 1) := by decide +kernel
theorem dX9_unseen_85 : decode (zB 144) 85 = .ok (.iload 5, 2) := by decide +kernel
theorem dX9_unseen_87 : decode (zB 144) 87 = .ok (.iadd, 1) := by decide +kernel
theorem dX9_unseen_88 : decode (zB 144) 88 = .ok (.goto 4, 3) := by decide +kernel
theorem dX9_unseen_91 : decode (zB 144) 91 = .ok (.iload_n 3, 1) := by decide +kernel
theorem dX9_unseen_92 : decode (zB 144) 92 = .ok (.istore_n 3, 1) := by decide +kernel
theorem dX9_unseen_93 : decode (zB 144) 93 = .ok (.iinc 5 1, 3) := by decide +kernel
theorem dX9_unseen_96 : decode (zB 144) 96 = .ok (.goto (-53), 3) := by decide +kernel
theorem dX9_unseen_99 : decode (zB 144) 99 = .ok (.iinc 4 1, 3) := by decide +kernel
theorem dX9_unseen_102 : decode (zB 144) 102 = .ok (.goto (-71), 3) := by decide +kernel
theorem dX9_unseen_105 : decode (zB 144) 105 = .ok (.iload_n 1, 1) := by decide +kernel
theorem dX9_unseen_106 : decode (zB 144) 106 = .ok (.ifCond .ne 7, 3) := by decide +kernel
theorem dX9_unseen_109 : decode (zB 144) 109 = .ok (.iload_n 2, 1) := by decide +kernel
theorem dX9_unseen_110 : decode (zB 144) 110 = .ok (.goto 4, 3) := by decide +kernel
theorem dX9_unseen_113 : decode (zB 144) 113 = .ok (.iload_n 3, 1) := by decide +kernel
theorem dX9_unseen_114 : decode (zB 144) 114 = .ok (.ireturn, 1) := by decide +kernel
theorem dX9_bits_0 : decode (zB 145) 0 = .ok (.iconst 0, 1) := by decide +kernel
theorem dX9_bits_1 : decode (zB 145) 1 = .ok (.istore_n 1, 1) := by decide +kernel
theorem dX9_bits_2 : decode (zB 145) 2 = .ok (.iload_n 0, 1) := by decide +kernel
theorem dX9_bits_3 : decode (zB 145) 3 = .ok (.istore_n 2, 1) := by decide +kernel
theorem dX9_bits_4 : decode (zB 145) 4 = .ok (.iload_n 2, 1) := by decide +kernel
theorem dX9_bits_5 : decode (zB 145) 5 = .ok (.ifCond .le 16, 3) := by decide +kernel
theorem dX9_bits_8 : decode (zB 145) 8 = .ok (.iload_n 1, 1) := by decide +kernel
theorem dX9_bits_9 : decode (zB 145) 9 = .ok (.iload_n 2, 1) := by decide +kernel
theorem dX9_bits_10 : decode (zB 145) 10 = .ok (.iconst 1, 1) := by decide +kernel
theorem dX9_bits_11 : decode (zB 145) 11 = .ok (.iand, 1) := by decide +kernel
theorem dX9_bits_12 : decode (zB 145) 12 = .ok (.iadd, 1) := by decide +kernel
theorem dX9_bits_13 : decode (zB 145) 13 = .ok (.istore_n 1, 1) := by decide +kernel
theorem dX9_bits_14 : decode (zB 145) 14 = .ok (.iload_n 2, 1) := by decide +kernel
theorem dX9_bits_15 : decode (zB 145) 15 = .ok (.iconst 1, 1) := by decide +kernel
theorem dX9_bits_16 : decode (zB 145) 16 = .ok (.ishr, 1) := by decide +kernel
theorem dX9_bits_17 : decode (zB 145) 17 = .ok (.istore_n 2, 1) := by decide +kernel
theorem dX9_bits_18 : decode (zB 145) 18 = .ok (.goto (-14), 3) := by decide +kernel
theorem dX9_bits_21 : decode (zB 145) 21 = .ok (.iload_n 1, 1) := by decide +kernel
theorem dX9_bits_22 : decode (zB 145) 22 = .ok (.ireturn, 1) := by decide +kernel
theorem dX9_piles_0 : decode (zB 146) 0 = .ok (.iload_n 1, 1) := by decide +kernel
theorem dX9_piles_1 : decode (zB 146) 1 = .ok (.i2l, 1) := by decide +kernel
theorem dX9_piles_2 : decode (zB 146) 2 = .ok (.lconst 0, 1) := by decide +kernel
theorem dX9_piles_3 : decode (zB 146) 3 = .ok (.lconst 1, 1) := by decide +kernel
theorem dX9_piles_4 : decode (zB 146) 4 = .ok (.invokestatic 93, 3) := by decide +kernel
theorem dX9_piles_7 : decode (zB 146) 7 = .ok (.ifCond .ne 6, 3) := by decide +kernel
theorem dX9_piles_10 : decode (zB 146) 10 = .ok (.bipush (-2), 2) := by decide +kernel
theorem dX9_piles_12 : decode (zB 146) 12 = .ok (.ireturn, 1) := by decide +kernel
theorem dX9_piles_13 : decode (zB 146) 13 = .ok (.aload_n 0, 1) := by decide +kernel
theorem dX9_piles_14 : decode (zB 146) 14 = .ok (.getfield 90, 3) := by decide +kernel
theorem dX9_piles_17 : decode (zB 146) 17 = .ok (.ifCond .ne 6, 3) := by decide +kernel
theorem dX9_piles_20 : decode (zB 146) 20 = .ok (.bipush (-3), 2) := by decide +kernel
theorem dX9_piles_22 : decode (zB 146) 22 = .ok (.ireturn, 1) := by decide +kernel
theorem dX9_piles_23 : decode (zB 146) 23 = .ok (.iconst 0, 1) := by decide +kernel
theorem dX9_piles_24 : decode (zB 146) 24 = .ok (.istore_n 2, 1) := by decide +kernel
theorem dX9_piles_25 : decode (zB 146) 25 = .ok (.bipush (-9), 2) := by decide +kernel
theorem dX9_piles_27 : decode (zB 146) 27 = .ok (.istore_n 3, 1) := by decide +kernel
theorem dX9_piles_28 : decode (zB 146) 28 = .ok (.iconst 1, 1) := by decide +kernel
theorem dX9_piles_29 : decode (zB 146) 29 = .ok (.istore 4, 2) := by decide +kernel
theorem dX9_piles_31 : decode (zB 146) 31 = .ok (.iload 4, 2) := by decide +kernel
theorem dX9_piles_33 : decode (zB 146) 33 = .ok (.iconst 1, 1) := by decide +kernel
theorem dX9_piles_34 : decode (zB 146) 34 = .ok (.aload_n 0, 1) := by decide +kernel
theorem dX9_piles_35 : decode (zB 146) 35 = .ok (.getfield 90, 3) := by decide +kernel
theorem dX9_piles_38 : decode (zB 146) 38 = .ok (.ishl, 1) := by decide +kernel
theorem dX9_piles_39 : decode (zB 146) 39 = .ok (.if_icmp .ge 50, 3) := by decide +kernel
theorem dX9_piles_42 : decode (zB 146) 42 = .ok (.iload 4, 2) := by decide +kernel
theorem dX9_piles_44 : decode (zB 146) 44 = .ok (.invokestatic 246, 3) := by decide +kernel
theorem dX9_piles_47 : decode (zB 146) 47 = .ok (.iconst 3, 1) := by decide +kernel
theorem dX9_piles_48 : decode (zB 146) 48 = .ok (.if_icmp .ge 35, 3) := by decide +kernel
theorem dX9_piles_51 : decode (zB 146) 51 = .ok (.aload_n 0, 1) := by decide +kernel
theorem dX9_piles_52 : decode (zB 146) 52 = .ok (.invokevirtual 190, 3) := by decide +kernel
theorem dX9_piles_55 : decode (zB 146) 55 = .ok (.aload_n 0, 1) := by decide +kernel
theorem dX9_piles_56 : decode (zB 146) 56 = .ok (.iload 4, 2) := by decide +kernel
theorem dX9_piles_58 : decode (zB 146) 58 = .ok (.putfield 180, 3) := by decide +kernel
theorem dX9_piles_61 : decode (zB 146) 61 = .ok (.aload_n 0, 1) := by decide +kernel
theorem dX9_piles_62 : decode (zB 146) 62 = .ok (.invokevirtual 217, 3) := by decide +kernel
theorem dX9_piles_65 : decode (zB 146) 65 = .ok (.istore 5, 2) := by decide +kernel
theorem dX9_piles_67 : decode (zB 146) 67 = .ok (.iload_n 3, 1) := by decide +kernel
theorem dX9_piles_68 : decode (zB 146) 68 = .ok (.ifCond .lt 9, 3) := by decide +kernel
theorem dX9_piles_71 : decode (zB 146) 71 = .ok (.iload 5, 2) := by decide +kernel
theorem dX9_piles_73 : decode (zB 146) 73 = .ok (.iload_n 3, 1) := by decide +kernel
theorem dX9_piles_74 : decode (zB 146) 74 = .ok (.if_icmp .ge 9, 3) := by decide +kernel
theorem dX9_piles_77 : decode (zB 146) 77 = .ok (.iload 5, 2) := by decide +kernel
theorem dX9_piles_79 : decode (zB 146) 79 = .ok (.istore_n 3, 1) := by decide +kernel
theorem dX9_piles_80 : decode (zB 146) 80 = .ok (.iload 4, 2) := by decide +kernel
theorem dX9_piles_82 : decode (zB 146) 82 = .ok (.istore_n 2, 1) := by decide +kernel
theorem dX9_piles_83 : decode (zB 146) 83 = .ok (.iinc 4 1, 3) := by decide +kernel
theorem dX9_piles_86 : decode (zB 146) 86 = .ok (.goto (-55), 3) := by decide +kernel
theorem dX9_piles_89 : decode (zB 146) 89 = .ok (.iload_n 1, 1) := by decide +kernel
theorem dX9_piles_90 : decode (zB 146) 90 = .ok (.ifCond .ne 7, 3) := by decide +kernel
theorem dX9_piles_93 : decode (zB 146) 93 = .ok (.iload_n 3, 1) := by decide +kernel
theorem dX9_piles_94 : decode (zB 146) 94 = .ok (.goto 4, 3) := by decide +kernel
theorem dX9_piles_97 : decode (zB 146) 97 = .ok (.iload_n 2, 1) := by decide +kernel
theorem dX9_piles_98 : decode (zB 146) 98 = .ok (.ireturn, 1) := by decide +kernel
theorem dX9_sleepsDeep_0 : decode (zB 147) 0 = .ok (.aload_n 0, 1) := by decide +kernel
theorem dX9_sleepsDeep_1 : decode (zB 147) 1 = .ok (.invokevirtual 190, 3) := by decide +kernel
theorem dX9_sleepsDeep_4 : decode (zB 147) 4 = .ok (.iconst 0, 1) := by decide +kernel
theorem dX9_sleepsDeep_5 : decode (zB 147) 5 = .ok (.istore_n 2, 1) := by decide +kernel
theorem dX9_sleepsDeep_6 : decode (zB 147) 6 = .ok (.iconst 0, 1) := by decide +kernel
theorem dX9_sleepsDeep_7 : decode (zB 147) 7 = .ok (.istore_n 3, 1) := by decide +kernel
theorem dX9_sleepsDeep_8 : decode (zB 147) 8 = .ok (.iload_n 3, 1) := by decide +kernel
theorem dX9_sleepsDeep_9 : decode (zB 147) 9 = .ok (.aload_n 0, 1) := by decide +kernel
theorem dX9_sleepsDeep_10 : decode (zB 147) 10 = .ok (.getfield 37, 3) := by decide +kernel
theorem dX9_sleepsDeep_13 : decode (zB 147) 13 = .ok (.iload_n 1, 1) := by decide +kernel
theorem dX9_sleepsDeep_14 : decode (zB 147) 14 = .ok (.iaload, 1) := by decide +kernel
theorem dX9_sleepsDeep_15 : decode (zB 147) 15 = .ok (.if_icmp .gt 42, 3) := by decide +kernel
theorem dX9_sleepsDeep_18 : decode (zB 147) 18 = .ok (.aload_n 0, 1) := by decide +kernel
theorem dX9_sleepsDeep_19 : decode (zB 147) 19 = .ok (.iload_n 3, 1) := by decide +kernel
theorem dX9_sleepsDeep_20 : decode (zB 147) 20 = .ok (.invokevirtual 193, 3) := by decide +kernel
theorem dX9_sleepsDeep_23 : decode (zB 147) 23 = .ok (.iload_n 2, 1) := by decide +kernel
theorem dX9_sleepsDeep_24 : decode (zB 147) 24 = .ok (.iload_n 3, 1) := by decide +kernel
theorem dX9_sleepsDeep_25 : decode (zB 147) 25 = .ok (.aload_n 0, 1) := by decide +kernel
theorem dX9_sleepsDeep_26 : decode (zB 147) 26 = .ok (.getfield 34, 3) := by decide +kernel
theorem dX9_sleepsDeep_29 : decode (zB 147) 29 = .ok (.iload_n 1, 1) := by decide +kernel
theorem dX9_sleepsDeep_30 : decode (zB 147) 30 = .ok (.iaload, 1) := by decide +kernel
theorem dX9_sleepsDeep_31 : decode (zB 147) 31 = .ok (.if_icmp .lt 17, 3) := by decide +kernel
theorem dX9_sleepsDeep_34 : decode (zB 147) 34 = .ok (.aload_n 0, 1) := by decide +kernel
theorem dX9_sleepsDeep_35 : decode (zB 147) 35 = .ok (.getfield 43, 3) := by decide +kernel
theorem dX9_sleepsDeep_38 : decode (zB 147) 38 = .ok (.aload_n 0, 1) := by decide +kernel
theorem dX9_sleepsDeep_39 : decode (zB 147) 39 = .ok (.getfield 40, 3) := by decide +kernel
theorem dX9_sleepsDeep_42 : decode (zB 147) 42 = .ok (.iload_n 1, 1) := by decide +kernel
theorem dX9_sleepsDeep_43 : decode (zB 147) 43 = .ok (.iaload, 1) := by decide +kernel
theorem dX9_sleepsDeep_44 : decode (zB 147) 44 = .ok (.iaload, 1) := by decide +kernel
theorem dX9_sleepsDeep_45 : decode (zB 147) 45 = .ok (.goto 4, 3) := by decide +kernel
theorem dX9_sleepsDeep_48 : decode (zB 147) 48 = .ok (.iconst 0, 1) := by decide +kernel
theorem dX9_sleepsDeep_49 : decode (zB 147) 49 = .ok (.iadd, 1) := by decide +kernel
theorem dX9_sleepsDeep_50 : decode (zB 147) 50 = .ok (.istore_n 2, 1) := by decide +kernel
theorem dX9_sleepsDeep_51 : decode (zB 147) 51 = .ok (.iinc 3 1, 3) := by decide +kernel
theorem dX9_sleepsDeep_54 : decode (zB 147) 54 = .ok (.goto (-46), 3) := by decide +kernel
theorem dX9_sleepsDeep_57 : decode (zB 147) 57 = .ok (.iload_n 2, 1) := by decide +kernel
theorem dX9_sleepsDeep_58 : decode (zB 147) 58 = .ok (.ireturn, 1) := by decide +kernel
theorem dX9_moves_0 : decode (zB 148) 0 = .ok (.aload_n 0, 1) := by decide +kernel
theorem dX9_moves_1 : decode (zB 148) 1 = .ok (.getfield 40, 3) := by decide +kernel
theorem dX9_moves_4 : decode (zB 148) 4 = .ok (.iload_n 1, 1) := by decide +kernel
theorem dX9_moves_5 : decode (zB 148) 5 = .ok (.iaload, 1) := by decide +kernel
theorem dX9_moves_6 : decode (zB 148) 6 = .ok (.istore_n 2, 1) := by decide +kernel
theorem dX9_moves_7 : decode (zB 148) 7 = .ok (.iload_n 2, 1) := by decide +kernel
theorem dX9_moves_8 : decode (zB 148) 8 = .ok (.istore_n 3, 1) := by decide +kernel
theorem dX9_moves_9 : decode (zB 148) 9 = .ok (.aload_n 0, 1) := by decide +kernel
theorem dX9_moves_10 : decode (zB 148) 10 = .ok (.iload_n 1, 1) := by decide +kernel
theorem dX9_moves_11 : decode (zB 148) 11 = .ok (.invokevirtual 249, 3) := by decide +kernel
theorem dX9_moves_14 : decode (zB 148) 14 = .ok (.istore 4, 2) := by decide +kernel
theorem dX9_moves_16 : decode (zB 148) 16 = .ok (.iconst 0, 1) := by decide +kernel
theorem dX9_moves_17 : decode (zB 148) 17 = .ok (.istore 5, 2) := by decide +kernel
theorem dX9_moves_19 : decode (zB 148) 19 = .ok (.iload 5, 2) := by decide +kernel
theorem dX9_moves_21 : decode (zB 148) 21 = .ok (.aload_n 0, 1) := by decide +kernel
theorem dX9_moves_22 : decode (zB 148) 22 = .ok (.getfield 90, 3) := by decide +kernel
theorem dX9_moves_25 : decode (zB 148) 25 = .ok (.if_icmp .ge 54, 3) := by decide +kernel
theorem dX9_moves_28 : decode (zB 148) 28 = .ok (.iload 5, 2) := by decide +kernel
theorem dX9_moves_30 : decode (zB 148) 30 = .ok (.iload_n 2, 1) := by decide +kernel
theorem dX9_moves_31 : decode (zB 148) 31 = .ok (.if_icmp .eq 42, 3) := by decide +kernel
theorem dX9_moves_34 : decode (zB 148) 34 = .ok (.aload_n 0, 1) := by decide +kernel
theorem dX9_moves_35 : decode (zB 148) 35 = .ok (.iload_n 1, 1) := by decide +kernel
theorem dX9_moves_36 : decode (zB 148) 36 = .ok (.iload 5, 2) := by decide +kernel
theorem dX9_moves_38 : decode (zB 148) 38 = .ok (.invokevirtual 165, 3) := by decide +kernel
theorem dX9_moves_41 : decode (zB 148) 41 = .ok (.ifCond .eq 32, 3) := by decide +kernel
theorem dX9_moves_44 : decode (zB 148) 44 = .ok (.aload_n 0, 1) := by decide +kernel
theorem dX9_moves_45 : decode (zB 148) 45 = .ok (.getfield 40, 3) := by decide +kernel
theorem dX9_moves_48 : decode (zB 148) 48 = .ok (.iload_n 1, 1) := by decide +kernel
theorem dX9_moves_49 : decode (zB 148) 49 = .ok (.iload 5, 2) := by decide +kernel
theorem dX9_moves_51 : decode (zB 148) 51 = .ok (.iastore, 1) := by decide +kernel
theorem dX9_moves_52 : decode (zB 148) 52 = .ok (.aload_n 0, 1) := by decide +kernel
theorem dX9_moves_53 : decode (zB 148) 53 = .ok (.iload_n 1, 1) := by decide +kernel
theorem dX9_moves_54 : decode (zB 148) 54 = .ok (.invokevirtual 249, 3) := by decide +kernel
theorem dX9_moves_57 : decode (zB 148) 57 = .ok (.istore 6, 2) := by decide +kernel
theorem dX9_moves_59 : decode (zB 148) 59 = .ok (.iload 6, 2) := by decide +kernel
theorem dX9_moves_61 : decode (zB 148) 61 = .ok (.iload 4, 2) := by decide +kernel
theorem dX9_moves_63 : decode (zB 148) 63 = .ok (.if_icmp .ge 10, 3) := by decide +kernel
theorem dX9_moves_66 : decode (zB 148) 66 = .ok (.iload 5, 2) := by decide +kernel
theorem dX9_moves_68 : decode (zB 148) 68 = .ok (.istore_n 3, 1) := by decide +kernel
theorem dX9_moves_69 : decode (zB 148) 69 = .ok (.iload 6, 2) := by decide +kernel
theorem dX9_moves_71 : decode (zB 148) 71 = .ok (.istore 4, 2) := by decide +kernel
theorem dX9_moves_73 : decode (zB 148) 73 = .ok (.iinc 5 1, 3) := by decide +kernel
theorem dX9_moves_76 : decode (zB 148) 76 = .ok (.goto (-57), 3) := by decide +kernel
theorem dX9_moves_79 : decode (zB 148) 79 = .ok (.aload_n 0, 1) := by decide +kernel
theorem dX9_moves_80 : decode (zB 148) 80 = .ok (.getfield 40, 3) := by decide +kernel
theorem dX9_moves_83 : decode (zB 148) 83 = .ok (.iload_n 1, 1) := by decide +kernel
theorem dX9_moves_84 : decode (zB 148) 84 = .ok (.iload_n 3, 1) := by decide +kernel
theorem dX9_moves_85 : decode (zB 148) 85 = .ok (.iastore, 1) := by decide +kernel
theorem dX9_moves_86 : decode (zB 148) 86 = .ok (.iload_n 3, 1) := by decide +kernel
theorem dX9_moves_87 : decode (zB 148) 87 = .ok (.iload_n 2, 1) := by decide +kernel
theorem dX9_moves_88 : decode (zB 148) 88 = .ok (.if_icmp .eq 7, 3) := by decide +kernel
theorem dX9_moves_91 : decode (zB 148) 91 = .ok (.iconst 1, 1) := by decide +kernel
theorem dX9_moves_92 : decode (zB 148) 92 = .ok (.goto 4, 3) := by decide +kernel
theorem dX9_moves_95 : decode (zB 148) 95 = .ok (.iconst 0, 1) := by decide +kernel
theorem dX9_moves_96 : decode (zB 148) 96 = .ok (.ireturn, 1) := by decide +kernel
theorem dX9_goRound_0 : decode (zB 149) 0 = .ok (.iconst 0, 1) := by decide +kernel
theorem dX9_goRound_1 : decode (zB 149) 1 = .ok (.istore_n 1, 1) := by decide +kernel
theorem dX9_goRound_2 : decode (zB 149) 2 = .ok (.iconst 0, 1) := by decide +kernel
theorem dX9_goRound_3 : decode (zB 149) 3 = .ok (.istore_n 2, 1) := by decide +kernel
theorem dX9_goRound_4 : decode (zB 149) 4 = .ok (.iload_n 2, 1) := by decide +kernel
theorem dX9_goRound_5 : decode (zB 149) 5 = .ok (.aload_n 0, 1) := by decide +kernel
theorem dX9_goRound_6 : decode (zB 149) 6 = .ok (.getfield 143, 3) := by decide +kernel
theorem dX9_goRound_9 : decode (zB 149) 9 = .ok (.if_icmp .ge 30, 3) := by decide +kernel
theorem dX9_goRound_12 : decode (zB 149) 12 = .ok (.aload_n 0, 1) := by decide +kernel
theorem dX9_goRound_13 : decode (zB 149) 13 = .ok (.getfield 40, 3) := by decide +kernel
theorem dX9_goRound_16 : decode (zB 149) 16 = .ok (.iload_n 2, 1) := by decide +kernel
theorem dX9_goRound_17 : decode (zB 149) 17 = .ok (.iaload, 1) := by decide +kernel
theorem dX9_goRound_18 : decode (zB 149) 18 = .ok (.bipush (-9), 2) := by decide +kernel
theorem dX9_goRound_20 : decode (zB 149) 20 = .ok (.if_icmp .eq 13, 3) := by decide +kernel
theorem dX9_goRound_23 : decode (zB 149) 23 = .ok (.aload_n 0, 1) := by decide +kernel
theorem dX9_goRound_24 : decode (zB 149) 24 = .ok (.iload_n 2, 1) := by decide +kernel
theorem dX9_goRound_25 : decode (zB 149) 25 = .ok (.invokevirtual 252, 3) := by decide +kernel
theorem dX9_goRound_28 : decode (zB 149) 28 = .ok (.ifCond .eq 5, 3) := by decide +kernel
theorem dX9_goRound_31 : decode (zB 149) 31 = .ok (.iconst 1, 1) := by decide +kernel
theorem dX9_goRound_32 : decode (zB 149) 32 = .ok (.istore_n 1, 1) := by decide +kernel
theorem dX9_goRound_33 : decode (zB 149) 33 = .ok (.iinc 2 1, 3) := by decide +kernel
theorem dX9_goRound_36 : decode (zB 149) 36 = .ok (.goto (-32), 3) := by decide +kernel
theorem dX9_goRound_39 : decode (zB 149) 39 = .ok (.iload_n 1, 1) := by decide +kernel
theorem dX9_goRound_40 : decode (zB 149) 40 = .ok (.ireturn, 1) := by decide +kernel
theorem dX9_settles_0 : decode (zB 150) 0 = .ok (.aload_n 0, 1) := by decide +kernel
theorem dX9_settles_1 : decode (zB 150) 1 = .ok (.getfield 90, 3) := by decide +kernel
theorem dX9_settles_4 : decode (zB 150) 4 = .ok (.ifCond .ne 6, 3) := by decide +kernel
theorem dX9_settles_7 : decode (zB 150) 7 = .ok (.bipush (-3), 2) := by decide +kernel
theorem dX9_settles_9 : decode (zB 150) 9 = .ok (.ireturn, 1) := by decide +kernel
theorem dX9_settles_10 : decode (zB 150) 10 = .ok (.aload_n 0, 1) := by decide +kernel
theorem dX9_settles_11 : decode (zB 150) 11 = .ok (.invokevirtual 229, 3) := by decide +kernel
theorem dX9_settles_14 : decode (zB 150) 14 = .ok (.bipush (-9), 2) := by decide +kernel
theorem dX9_settles_16 : decode (zB 150) 16 = .ok (.istore_n 1, 1) := by decide +kernel
theorem dX9_settles_17 : decode (zB 150) 17 = .ok (.iconst 1, 1) := by decide +kernel
theorem dX9_settles_18 : decode (zB 150) 18 = .ok (.istore_n 2, 1) := by decide +kernel
theorem dX9_settles_19 : decode (zB 150) 19 = .ok (.iload_n 2, 1) := by decide +kernel
theorem dX9_settles_20 : decode (zB 150) 20 = .ok (.bipush 50, 2) := by decide +kernel
theorem dX9_settles_22 : decode (zB 150) 22 = .ok (.if_icmp .gt 29, 3) := by decide +kernel
theorem dX9_settles_25 : decode (zB 150) 25 = .ok (.iload_n 1, 1) := by decide +kernel
theorem dX9_settles_26 : decode (zB 150) 26 = .ok (.ifCond .ge 25, 3) := by decide +kernel
theorem dX9_settles_29 : decode (zB 150) 29 = .ok (.aload_n 0, 1) := by decide +kernel
theorem dX9_settles_30 : decode (zB 150) 30 = .ok (.invokevirtual 255, 3) := by decide +kernel
theorem dX9_settles_33 : decode (zB 150) 33 = .ok (.ifCond .eq 8, 3) := by decide +kernel
theorem dX9_settles_36 : decode (zB 150) 36 = .ok (.bipush (-9), 2) := by decide +kernel
theorem dX9_settles_38 : decode (zB 150) 38 = .ok (.goto 6, 3) := by decide +kernel
theorem dX9_settles_41 : decode (zB 150) 41 = .ok (.iload_n 2, 1) := by decide +kernel
theorem dX9_settles_42 : decode (zB 150) 42 = .ok (.iconst 1, 1) := by decide +kernel
theorem dX9_settles_43 : decode (zB 150) 43 = .ok (.isub, 1) := by decide +kernel
theorem dX9_settles_44 : decode (zB 150) 44 = .ok (.istore_n 1, 1) := by decide +kernel
theorem dX9_settles_45 : decode (zB 150) 45 = .ok (.iinc 2 1, 3) := by decide +kernel
theorem dX9_settles_48 : decode (zB 150) 48 = .ok (.goto (-29), 3) := by decide +kernel
theorem dX9_settles_51 : decode (zB 150) 51 = .ok (.aload_n 0, 1) := by decide +kernel
theorem dX9_settles_52 : decode (zB 150) 52 = .ok (.invokevirtual 236, 3) := by decide +kernel
theorem dX9_settles_55 : decode (zB 150) 55 = .ok (.iload_n 1, 1) := by decide +kernel
theorem dX9_settles_56 : decode (zB 150) 56 = .ok (.ireturn, 1) := by decide +kernel
theorem dX9_after_0 : decode (zB 151) 0 = .ok (.aload_n 0, 1) := by decide +kernel
theorem dX9_after_1 : decode (zB 151) 1 = .ok (.iload_n 1, 1) := by decide +kernel
theorem dX9_after_2 : decode (zB 151) 2 = .ok (.invokevirtual 156, 3) := by decide +kernel
theorem dX9_after_5 : decode (zB 151) 5 = .ok (.ifCond .eq 5, 3) := by decide +kernel
theorem dX9_after_8 : decode (zB 151) 8 = .ok (.iconst (-1), 1) := by decide +kernel
theorem dX9_after_9 : decode (zB 151) 9 = .ok (.ireturn, 1) := by decide +kernel
theorem dX9_after_10 : decode (zB 151) 10 = .ok (.iload_n 2, 1) := by decide +kernel
theorem dX9_after_11 : decode (zB 151) 11 = .ok (.i2l, 1) := by decide +kernel
theorem dX9_after_12 : decode (zB 151) 12 = .ok (.lconst 0, 1) := by decide +kernel
theorem dX9_after_13 : decode (zB 151) 13 = .ok (.ldc2_w 207, 3) := by decide +kernel
theorem dX9_after_16 : decode (zB 151) 16 = .ok (.invokestatic 93, 3) := by decide +kernel
theorem dX9_after_19 : decode (zB 151) 19 = .ok (.ifCond .ne 6, 3) := by decide +kernel
theorem dX9_after_22 : decode (zB 151) 22 = .ok (.bipush (-2), 2) := by decide +kernel
theorem dX9_after_24 : decode (zB 151) 24 = .ok (.ireturn, 1) := by decide +kernel
theorem dX9_after_25 : decode (zB 151) 25 = .ok (.aload_n 0, 1) := by decide +kernel
theorem dX9_after_26 : decode (zB 151) 26 = .ok (.invokevirtual 229, 3) := by decide +kernel
theorem dX9_after_29 : decode (zB 151) 29 = .ok (.iconst 0, 1) := by decide +kernel
theorem dX9_after_30 : decode (zB 151) 30 = .ok (.istore_n 3, 1) := by decide +kernel
theorem dX9_after_31 : decode (zB 151) 31 = .ok (.iload_n 3, 1) := by decide +kernel
theorem dX9_after_32 : decode (zB 151) 32 = .ok (.iload_n 2, 1) := by decide +kernel
theorem dX9_after_33 : decode (zB 151) 33 = .ok (.if_icmp .ge 14, 3) := by decide +kernel
theorem dX9_after_36 : decode (zB 151) 36 = .ok (.aload_n 0, 1) := by decide +kernel
theorem dX9_after_37 : decode (zB 151) 37 = .ok (.invokevirtual 255, 3) := by decide +kernel
theorem dX9_after_40 : decode (zB 151) 40 = .ok (.pop, 1) := by decide +kernel
theorem dX9_after_41 : decode (zB 151) 41 = .ok (.iinc 3 1, 3) := by decide +kernel
theorem dX9_after_44 : decode (zB 151) 44 = .ok (.goto (-13), 3) := by decide +kernel
theorem dX9_after_47 : decode (zB 151) 47 = .ok (.aload_n 0, 1) := by decide +kernel
theorem dX9_after_48 : decode (zB 151) 48 = .ok (.getfield 40, 3) := by decide +kernel
theorem dX9_after_51 : decode (zB 151) 51 = .ok (.iload_n 1, 1) := by decide +kernel
theorem dX9_after_52 : decode (zB 151) 52 = .ok (.iaload, 1) := by decide +kernel
theorem dX9_after_53 : decode (zB 151) 53 = .ok (.istore_n 3, 1) := by decide +kernel
theorem dX9_after_54 : decode (zB 151) 54 = .ok (.aload_n 0, 1) := by decide +kernel
theorem dX9_after_55 : decode (zB 151) 55 = .ok (.invokevirtual 236, 3) := by decide +kernel
theorem dX9_after_58 : decode (zB 151) 58 = .ok (.iload_n 3, 1) := by decide +kernel
theorem dX9_after_59 : decode (zB 151) 59 = .ok (.ireturn, 1) := by decide +kernel
theorem dX9_noSheet_0 : decode (zB 152) 0 = .ok (.iload_n 0, 1) := by decide +kernel
theorem dX9_noSheet_1 : decode (zB 152) 1 = .ok (.i2l, 1) := by decide +kernel
theorem dX9_noSheet_2 : decode (zB 152) 2 = .ok (.lconst 0, 1) := by decide +kernel
theorem dX9_noSheet_3 : decode (zB 152) 3 = .ok (.ldc2_w 258, 3) := by decide +kernel
theorem dX9_noSheet_6 : decode (zB 152) 6 = .ok (.invokestatic 93, 3) := by decide +kernel
theorem dX9_noSheet_9 : decode (zB 152) 9 = .ok (.ifCond .ne 7, 3) := by decide +kernel
theorem dX9_noSheet_12 : decode (zB 152) 12 = .ok (.iconst 1, 1) := by decide +kernel
theorem dX9_noSheet_13 : decode (zB 152) 13 = .ok (.goto 4, 3) := by decide +kernel
theorem dX9_noSheet_16 : decode (zB 152) 16 = .ok (.iconst 0, 1) := by decide +kernel
theorem dX9_noSheet_17 : decode (zB 152) 17 = .ok (.ireturn, 1) := by decide +kernel
theorem dX9_sheet_0 : decode (zB 153) 0 = .ok (.iload_n 1, 1) := by decide +kernel
theorem dX9_sheet_1 : decode (zB 153) 1 = .ok (.invokestatic 120, 3) := by decide +kernel
theorem dX9_sheet_4 : decode (zB 153) 4 = .ok (.ifCond .eq 9, 3) := by decide +kernel
theorem dX9_sheet_7 : decode (zB 153) 7 = .ok (.aload_n 0, 1) := by decide +kernel
theorem dX9_sheet_8 : decode (zB 153) 8 = .ok (.iconst (-1), 1) := by decide +kernel
theorem dX9_sheet_9 : decode (zB 153) 9 = .ok (.invokevirtual 124, 3) := by decide +kernel
theorem dX9_sheet_12 : decode (zB 153) 12 = .ok (.ireturn, 1) := by decide +kernel
theorem dX9_sheet_13 : decode (zB 153) 13 = .ok (.iload_n 2, 1) := by decide +kernel
theorem dX9_sheet_14 : decode (zB 153) 14 = .ok (.i2l, 1) := by decide +kernel
theorem dX9_sheet_15 : decode (zB 153) 15 = .ok (.lconst 0, 1) := by decide +kernel
theorem dX9_sheet_16 : decode (zB 153) 16 = .ok (.ldc2_w 128, 3) := by decide +kernel
theorem dX9_sheet_19 : decode (zB 153) 19 = .ok (.invokestatic 93, 3) := by decide +kernel
theorem dX9_sheet_22 : decode (zB 153) 22 = .ok (.ifCond .eq 9, 3) := by decide +kernel
theorem dX9_sheet_25 : decode (zB 153) 25 = .ok (.iload_n 3, 1) := by decide +kernel
theorem dX9_sheet_26 : decode (zB 153) 26 = .ok (.bipush 60, 2) := by decide +kernel
theorem dX9_sheet_28 : decode (zB 153) 28 = .ok (.if_icmp .le 10, 3) := by decide +kernel
theorem dX9_sheet_31 : decode (zB 153) 31 = .ok (.aload_n 0, 1) := by decide +kernel
theorem dX9_sheet_32 : decode (zB 153) 32 = .ok (.bipush (-2), 2) := by decide +kernel
theorem dX9_sheet_34 : decode (zB 153) 34 = .ok (.invokevirtual 124, 3) := by decide +kernel
theorem dX9_sheet_37 : decode (zB 153) 37 = .ok (.ireturn, 1) := by decide +kernel
theorem dX9_sheet_38 : decode (zB 153) 38 = .ok (.iload_n 3, 1) := by decide +kernel
theorem dX9_sheet_39 : decode (zB 153) 39 = .ok (.ifCond .ge 9, 3) := by decide +kernel
theorem dX9_sheet_42 : decode (zB 153) 42 = .ok (.aload_n 0, 1) := by decide +kernel
theorem dX9_sheet_43 : decode (zB 153) 43 = .ok (.iconst 4, 1) := by decide +kernel
theorem dX9_sheet_44 : decode (zB 153) 44 = .ok (.invokevirtual 130, 3) := by decide +kernel
theorem dX9_sheet_47 : decode (zB 153) 47 = .ok (.ireturn, 1) := by decide +kernel
theorem dX9_sheet_48 : decode (zB 153) 48 = .ok (.aload_n 0, 1) := by decide +kernel
theorem dX9_sheet_49 : decode (zB 153) 49 = .ok (.getfield 68, 3) := by decide +kernel
theorem dX9_sheet_52 : decode (zB 153) 52 = .ok (.iload_n 1, 1) := by decide +kernel
theorem dX9_sheet_53 : decode (zB 153) 53 = .ok (.iload_n 3, 1) := by decide +kernel
theorem dX9_sheet_54 : decode (zB 153) 54 = .ok (.iastore, 1) := by decide +kernel
theorem dX9_sheet_55 : decode (zB 153) 55 = .ok (.aload_n 0, 1) := by decide +kernel
theorem dX9_sheet_56 : decode (zB 153) 56 = .ok (.getfield 71, 3) := by decide +kernel
theorem dX9_sheet_59 : decode (zB 153) 59 = .ok (.iload_n 1, 1) := by decide +kernel
theorem dX9_sheet_60 : decode (zB 153) 60 = .ok (.iload_n 2, 1) := by decide +kernel
theorem dX9_sheet_61 : decode (zB 153) 61 = .ok (.iastore, 1) := by decide +kernel
theorem dX9_sheet_62 : decode (zB 153) 62 = .ok (.iconst 0, 1) := by decide +kernel
theorem dX9_sheet_63 : decode (zB 153) 63 = .ok (.istore 4, 2) := by decide +kernel
theorem dX9_sheet_65 : decode (zB 153) 65 = .ok (.iload 4, 2) := by decide +kernel
theorem dX9_sheet_67 : decode (zB 153) 67 = .ok (.iload_n 3, 1) := by decide +kernel
theorem dX9_sheet_68 : decode (zB 153) 68 = .ok (.if_icmp .ge 22, 3) := by decide +kernel
theorem dX9_sheet_71 : decode (zB 153) 71 = .ok (.aload_n 0, 1) := by decide +kernel
theorem dX9_sheet_72 : decode (zB 153) 72 = .ok (.getfield 74, 3) := by decide +kernel
theorem dX9_sheet_75 : decode (zB 153) 75 = .ok (.bipush 60, 2) := by decide +kernel
theorem dX9_sheet_77 : decode (zB 153) 77 = .ok (.iload_n 1, 1) := by decide +kernel
theorem dX9_sheet_78 : decode (zB 153) 78 = .ok (.imul, 1) := by decide +kernel
theorem dX9_sheet_79 : decode (zB 153) 79 = .ok (.iload 4, 2) := by decide +kernel
theorem dX9_sheet_81 : decode (zB 153) 81 = .ok (.iadd, 1) := by decide +kernel
theorem dX9_sheet_82 : decode (zB 153) 82 = .ok (.iconst 0, 1) := by decide +kernel
theorem dX9_sheet_83 : decode (zB 153) 83 = .ok (.iastore, 1) := by decide +kernel
theorem dX9_sheet_84 : decode (zB 153) 84 = .ok (.iinc 4 1, 3) := by decide +kernel
theorem dX9_sheet_87 : decode (zB 153) 87 = .ok (.goto (-22), 3) := by decide +kernel
theorem dX9_sheet_90 : decode (zB 153) 90 = .ok (.aload_n 0, 1) := by decide +kernel
theorem dX9_sheet_91 : decode (zB 153) 91 = .ok (.iconst 1, 1) := by decide +kernel
theorem dX9_sheet_92 : decode (zB 153) 92 = .ok (.invokevirtual 124, 3) := by decide +kernel
theorem dX9_sheet_95 : decode (zB 153) 95 = .ok (.ireturn, 1) := by decide +kernel
theorem dX9_lose_0 : decode (zB 154) 0 = .ok (.iload_n 1, 1) := by decide +kernel
theorem dX9_lose_1 : decode (zB 154) 1 = .ok (.invokestatic 120, 3) := by decide +kernel
theorem dX9_lose_4 : decode (zB 154) 4 = .ok (.ifCond .eq 5, 3) := by decide +kernel
theorem dX9_lose_7 : decode (zB 154) 7 = .ok (.iconst (-1), 1) := by decide +kernel
theorem dX9_lose_8 : decode (zB 154) 8 = .ok (.ireturn, 1) := by decide +kernel
theorem dX9_lose_9 : decode (zB 154) 9 = .ok (.aload_n 0, 1) := by decide +kernel
theorem dX9_lose_10 : decode (zB 154) 10 = .ok (.getfield 68, 3) := by decide +kernel
theorem dX9_lose_13 : decode (zB 154) 13 = .ok (.iload_n 1, 1) := by decide +kernel
theorem dX9_lose_14 : decode (zB 154) 14 = .ok (.iaload, 1) := by decide +kernel
theorem dX9_lose_15 : decode (zB 154) 15 = .ok (.ifCond .ge 7, 3) := by decide +kernel
theorem dX9_lose_18 : decode (zB 154) 18 = .ok (.iconst 0, 1) := by decide +kernel
theorem dX9_lose_19 : decode (zB 154) 19 = .ok (.goto 4, 3) := by decide +kernel
theorem dX9_lose_22 : decode (zB 154) 22 = .ok (.iconst 1, 1) := by decide +kernel
theorem dX9_lose_23 : decode (zB 154) 23 = .ok (.istore_n 2, 1) := by decide +kernel
theorem dX9_lose_24 : decode (zB 154) 24 = .ok (.aload_n 0, 1) := by decide +kernel
theorem dX9_lose_25 : decode (zB 154) 25 = .ok (.getfield 68, 3) := by decide +kernel
theorem dX9_lose_28 : decode (zB 154) 28 = .ok (.iload_n 1, 1) := by decide +kernel
theorem dX9_lose_29 : decode (zB 154) 29 = .ok (.iconst (-1), 1) := by decide +kernel
theorem dX9_lose_30 : decode (zB 154) 30 = .ok (.iastore, 1) := by decide +kernel
theorem dX9_lose_31 : decode (zB 154) 31 = .ok (.iload_n 2, 1) := by decide +kernel
theorem dX9_lose_32 : decode (zB 154) 32 = .ok (.ireturn, 1) := by decide +kernel
theorem dX9_noCell_0 : decode (zB 155) 0 = .ok (.aload_n 0, 1) := by decide +kernel
theorem dX9_noCell_1 : decode (zB 155) 1 = .ok (.getfield 68, 3) := by decide +kernel
theorem dX9_noCell_4 : decode (zB 155) 4 = .ok (.iload_n 1, 1) := by decide +kernel
theorem dX9_noCell_5 : decode (zB 155) 5 = .ok (.iaload, 1) := by decide +kernel
theorem dX9_noCell_6 : decode (zB 155) 6 = .ok (.ifCond .ge 7, 3) := by decide +kernel
theorem dX9_noCell_9 : decode (zB 155) 9 = .ok (.iconst 1, 1) := by decide +kernel
theorem dX9_noCell_10 : decode (zB 155) 10 = .ok (.goto 26, 3) := by decide +kernel
theorem dX9_noCell_13 : decode (zB 155) 13 = .ok (.iload_n 2, 1) := by decide +kernel
theorem dX9_noCell_14 : decode (zB 155) 14 = .ok (.i2l, 1) := by decide +kernel
theorem dX9_noCell_15 : decode (zB 155) 15 = .ok (.lconst 0, 1) := by decide +kernel
theorem dX9_noCell_16 : decode (zB 155) 16 = .ok (.aload_n 0, 1) := by decide +kernel
theorem dX9_noCell_17 : decode (zB 155) 17 = .ok (.getfield 68, 3) := by decide +kernel
theorem dX9_noCell_20 : decode (zB 155) 20 = .ok (.iload_n 1, 1) := by decide +kernel
theorem dX9_noCell_21 : decode (zB 155) 21 = .ok (.iaload, 1) := by decide +kernel
theorem dX9_noCell_22 : decode (zB 155) 22 = .ok (.i2l, 1) := by decide +kernel
theorem dX9_noCell_23 : decode (zB 155) 23 = .ok (.lconst 1, 1) := by decide +kernel
theorem dX9_noCell_24 : decode (zB 155) 24 = .ok (.lsub, 1) := by decide +kernel
theorem dX9_noCell_25 : decode (zB 155) 25 = .ok (.invokestatic 93, 3) := by decide +kernel
theorem dX9_noCell_28 : decode (zB 155) 28 = .ok (.ifCond .eq 7, 3) := by decide +kernel
theorem dX9_noCell_31 : decode (zB 155) 31 = .ok (.iconst 0, 1) := by decide +kernel
theorem dX9_noCell_32 : decode (zB 155) 32 = .ok (.goto 4, 3) := by decide +kernel
theorem dX9_noCell_35 : decode (zB 155) 35 = .ok (.iconst 3, 1) := by decide +kernel
theorem dX9_noCell_36 : decode (zB 155) 36 = .ok (.ireturn, 1) := by decide +kernel
theorem dX9_put_0 : decode (zB 156) 0 = .ok (.iload_n 1, 1) := by decide +kernel
theorem dX9_put_1 : decode (zB 156) 1 = .ok (.invokestatic 120, 3) := by decide +kernel
theorem dX9_put_4 : decode (zB 156) 4 = .ok (.ifCond .eq 9, 3) := by decide +kernel
theorem dX9_put_7 : decode (zB 156) 7 = .ok (.aload_n 0, 1) := by decide +kernel
theorem dX9_put_8 : decode (zB 156) 8 = .ok (.iconst (-1), 1) := by decide +kernel
theorem dX9_put_9 : decode (zB 156) 9 = .ok (.invokevirtual 124, 3) := by decide +kernel
theorem dX9_put_12 : decode (zB 156) 12 = .ok (.ireturn, 1) := by decide +kernel
theorem dX9_put_13 : decode (zB 156) 13 = .ok (.aload_n 0, 1) := by decide +kernel
theorem dX9_put_14 : decode (zB 156) 14 = .ok (.iload_n 1, 1) := by decide +kernel
theorem dX9_put_15 : decode (zB 156) 15 = .ok (.iload_n 2, 1) := by decide +kernel
theorem dX9_put_16 : decode (zB 156) 16 = .ok (.invokevirtual 260, 3) := by decide +kernel
theorem dX9_put_19 : decode (zB 156) 19 = .ok (.ifCond .le 14, 3) := by decide +kernel
theorem dX9_put_22 : decode (zB 156) 22 = .ok (.aload_n 0, 1) := by decide +kernel
theorem dX9_put_23 : decode (zB 156) 23 = .ok (.aload_n 0, 1) := by decide +kernel
theorem dX9_put_24 : decode (zB 156) 24 = .ok (.iload_n 1, 1) := by decide +kernel
theorem dX9_put_25 : decode (zB 156) 25 = .ok (.iload_n 2, 1) := by decide +kernel
theorem dX9_put_26 : decode (zB 156) 26 = .ok (.invokevirtual 260, 3) := by decide +kernel
theorem dX9_put_29 : decode (zB 156) 29 = .ok (.invokevirtual 130, 3) := by decide +kernel
theorem dX9_put_32 : decode (zB 156) 32 = .ok (.ireturn, 1) := by decide +kernel
theorem dX9_put_33 : decode (zB 156) 33 = .ok (.aload_n 0, 1) := by decide +kernel
theorem dX9_put_34 : decode (zB 156) 34 = .ok (.getfield 74, 3) := by decide +kernel
theorem dX9_put_37 : decode (zB 156) 37 = .ok (.bipush 60, 2) := by decide +kernel
theorem dX9_put_39 : decode (zB 156) 39 = .ok (.iload_n 1, 1) := by decide +kernel
theorem dX9_put_40 : decode (zB 156) 40 = .ok (.imul, 1) := by decide +kernel
theorem dX9_put_41 : decode (zB 156) 41 = .ok (.iload_n 2, 1) := by decide +kernel
theorem dX9_put_42 : decode (zB 156) 42 = .ok (.iadd, 1) := by decide +kernel
theorem dX9_put_43 : decode (zB 156) 43 = .ok (.aload_n 0, 1) := by decide +kernel
theorem dX9_put_44 : decode (zB 156) 44 = .ok (.getfield 71, 3) := by decide +kernel
theorem dX9_put_47 : decode (zB 156) 47 = .ok (.iload_n 1, 1) := by decide +kernel
theorem dX9_put_48 : decode (zB 156) 48 = .ok (.iaload, 1) := by decide +kernel
theorem dX9_put_49 : decode (zB 156) 49 = .ok (.ifCond .ne 8, 3) := by decide +kernel
theorem dX9_put_52 : decode (zB 156) 52 = .ok (.iload_n 3, 1) := by decide +kernel
theorem dX9_put_53 : decode (zB 156) 53 = .ok (.i2b, 1) := by decide +kernel
theorem dX9_put_54 : decode (zB 156) 54 = .ok (.goto 19, 3) := by decide +kernel
theorem dX9_put_57 : decode (zB 156) 57 = .ok (.aload_n 0, 1) := by decide +kernel
theorem dX9_put_58 : decode (zB 156) 58 = .ok (.getfield 71, 3) := by decide +kernel
theorem dX9_put_61 : decode (zB 156) 61 = .ok (.iload_n 1, 1) := by decide +kernel
theorem dX9_put_62 : decode (zB 156) 62 = .ok (.iaload, 1) := by decide +kernel
theorem dX9_put_63 : decode (zB 156) 63 = .ok (.iconst 1, 1) := by decide +kernel
theorem dX9_put_64 : decode (zB 156) 64 = .ok (.if_icmp .ne 8, 3) := by decide +kernel
theorem dX9_put_67 : decode (zB 156) 67 = .ok (.iload_n 3, 1) := by decide +kernel
theorem dX9_put_68 : decode (zB 156) 68 = .ok (.i2s, 1) := by decide +kernel
theorem dX9_put_69 : decode (zB 156) 69 = .ok (.goto 4, 3) := by decide +kernel
theorem dX9_put_72 : decode (zB 156) 72 = .ok (.iload_n 3, 1) := by decide +kernel
theorem dX9_put_73 : decode (zB 156) 73 = .ok (.iastore, 1) := by decide +kernel
theorem dX9_put_74 : decode (zB 156) 74 = .ok (.aload_n 0, 1) := by decide +kernel
theorem dX9_put_75 : decode (zB 156) 75 = .ok (.iconst 1, 1) := by decide +kernel
theorem dX9_put_76 : decode (zB 156) 76 = .ok (.invokevirtual 124, 3) := by decide +kernel
theorem dX9_put_79 : decode (zB 156) 79 = .ok (.ireturn, 1) := by decide +kernel
theorem dX9_cell_0 : decode (zB 157) 0 = .ok (.aload_n 0, 1) := by decide +kernel
theorem dX9_cell_1 : decode (zB 157) 1 = .ok (.iconst 0, 1) := by decide +kernel
theorem dX9_cell_2 : decode (zB 157) 2 = .ok (.putfield 82, 3) := by decide +kernel
theorem dX9_cell_5 : decode (zB 157) 5 = .ok (.iload_n 1, 1) := by decide +kernel
theorem dX9_cell_6 : decode (zB 157) 6 = .ok (.invokestatic 120, 3) := by decide +kernel
theorem dX9_cell_9 : decode (zB 157) 9 = .ok (.ifCond .ne 15, 3) := by decide +kernel
theorem dX9_cell_12 : decode (zB 157) 12 = .ok (.iload_n 3, 1) := by decide +kernel
theorem dX9_cell_13 : decode (zB 157) 13 = .ok (.i2l, 1) := by decide +kernel
theorem dX9_cell_14 : decode (zB 157) 14 = .ok (.lconst 0, 1) := by decide +kernel
theorem dX9_cell_15 : decode (zB 157) 15 = .ok (.ldc2_w 128, 3) := by decide +kernel
theorem dX9_cell_18 : decode (zB 157) 18 = .ok (.invokestatic 93, 3) := by decide +kernel
theorem dX9_cell_21 : decode (zB 157) 21 = .ok (.ifCond .ne 7, 3) := by decide +kernel
theorem dX9_cell_24 : decode (zB 157) 24 = .ok (.invokestatic 86, 3) := by decide +kernel
theorem dX9_cell_27 : decode (zB 157) 27 = .ok (.lreturn, 1) := by decide +kernel
theorem dX9_cell_28 : decode (zB 157) 28 = .ok (.aload_n 0, 1) := by decide +kernel
theorem dX9_cell_29 : decode (zB 157) 29 = .ok (.getfield 68, 3) := by decide +kernel
theorem dX9_cell_32 : decode (zB 157) 32 = .ok (.iload_n 1, 1) := by decide +kernel
theorem dX9_cell_33 : decode (zB 157) 33 = .ok (.iaload, 1) := by decide +kernel
theorem dX9_cell_34 : decode (zB 157) 34 = .ok (.ifCond .lt 19, 3) := by decide +kernel
theorem dX9_cell_37 : decode (zB 157) 37 = .ok (.aload_n 0, 1) := by decide +kernel
theorem dX9_cell_38 : decode (zB 157) 38 = .ok (.getfield 71, 3) := by decide +kernel
theorem dX9_cell_41 : decode (zB 157) 41 = .ok (.iload_n 1, 1) := by decide +kernel
theorem dX9_cell_42 : decode (zB 157) 42 = .ok (.iaload, 1) := by decide +kernel
theorem dX9_cell_43 : decode (zB 157) 43 = .ok (.iload_n 3, 1) := by decide +kernel
theorem dX9_cell_44 : decode (zB 157) 44 = .ok (.if_icmp .eq 9, 3) := by decide +kernel
theorem dX9_cell_47 : decode (zB 157) 47 = .ok (.aload_n 0, 1) := by decide +kernel
theorem dX9_cell_48 : decode (zB 157) 48 = .ok (.iconst 2, 1) := by decide +kernel
theorem dX9_cell_49 : decode (zB 157) 49 = .ok (.invokevirtual 263, 3) := by decide +kernel
theorem dX9_cell_52 : decode (zB 157) 52 = .ok (.lreturn, 1) := by decide +kernel
theorem dX9_cell_53 : decode (zB 157) 53 = .ok (.aload_n 0, 1) := by decide +kernel
theorem dX9_cell_54 : decode (zB 157) 54 = .ok (.iload_n 1, 1) := by decide +kernel
theorem dX9_cell_55 : decode (zB 157) 55 = .ok (.iload_n 2, 1) := by decide +kernel
theorem dX9_cell_56 : decode (zB 157) 56 = .ok (.invokevirtual 260, 3) := by decide +kernel
theorem dX9_cell_59 : decode (zB 157) 59 = .ok (.ifCond .le 16, 3) := by decide +kernel
theorem dX9_cell_62 : decode (zB 157) 62 = .ok (.aload_n 0, 1) := by decide +kernel
theorem dX9_cell_63 : decode (zB 157) 63 = .ok (.aload_n 0, 1) := by decide +kernel
theorem dX9_cell_64 : decode (zB 157) 64 = .ok (.iload_n 1, 1) := by decide +kernel
theorem dX9_cell_65 : decode (zB 157) 65 = .ok (.iload_n 2, 1) := by decide +kernel
theorem dX9_cell_66 : decode (zB 157) 66 = .ok (.invokevirtual 260, 3) := by decide +kernel
theorem dX9_cell_69 : decode (zB 157) 69 = .ok (.invokevirtual 263, 3) := by decide +kernel
theorem dX9_cell_72 : decode (zB 157) 72 = .ok (.goto 15, 3) := by decide +kernel
theorem dX9_cell_75 : decode (zB 157) 75 = .ok (.aload_n 0, 1) := by decide +kernel
theorem dX9_cell_76 : decode (zB 157) 76 = .ok (.getfield 74, 3) := by decide +kernel
theorem dX9_cell_79 : decode (zB 157) 79 = .ok (.bipush 60, 2) := by decide +kernel
theorem dX9_cell_81 : decode (zB 157) 81 = .ok (.iload_n 1, 1) := by decide +kernel
theorem dX9_cell_82 : decode (zB 157) 82 = .ok (.imul, 1) := by decide +kernel
theorem dX9_cell_83 : decode (zB 157) 83 = .ok (.iload_n 2, 1) := by decide +kernel
theorem dX9_cell_84 : decode (zB 157) 84 = .ok (.iadd, 1) := by decide +kernel
theorem dX9_cell_85 : decode (zB 157) 85 = .ok (.iaload, 1) := by decide +kernel
theorem dX9_cell_86 : decode (zB 157) 86 = .ok (.i2l, 1) := by decide +kernel
theorem dX9_cell_87 : decode (zB 157) 87 = .ok (.lreturn, 1) := by decide +kernel
theorem dX9_isBeyond_0 : decode (zB 158) 0 = .ok (.iload_n 0, 1) := by decide +kernel
theorem dX9_isBeyond_1 : decode (zB 158) 1 = .ok (.ifCond .lt 19, 3) := by decide +kernel
theorem dX9_isBeyond_4 : decode (zB 158) 4 = .ok (.lload_n 1, 1) := by decide +kernel
theorem dX9_isBeyond_5 : decode (zB 158) 5 = .ok (.lconst 0, 1) := by decide +kernel
theorem dX9_isBeyond_6 : decode (zB 158) 6 = .ok (.lcmp, 1) := by decide +kernel
theorem dX9_isBeyond_7 : decode (zB 158) 7 = .ok (.ifCond .lt 13, 3) := by decide +kernel
theorem dX9_isBeyond_10 : decode (zB 158) 10 = .ok (.iload_n 0, 1) := by decide +kernel
theorem dX9_isBeyond_11 : decode (zB 158) 11 = .ok (.i2l, 1) := by decide +kernel
theorem dX9_isBeyond_12 : decode (zB 158) 12 = .ok (.lload_n 1, 1) := by decide +kernel
theorem dX9_isBeyond_13 : decode (zB 158) 13 = .ok (.ladd, 1) := by decide +kernel
theorem dX9_isBeyond_14 : decode (zB 158) 14 = .ok (.iload_n 3, 1) := by decide +kernel
theorem dX9_isBeyond_15 : decode (zB 158) 15 = .ok (.i2l, 1) := by decide +kernel
theorem dX9_isBeyond_16 : decode (zB 158) 16 = .ok (.lcmp, 1) := by decide +kernel
theorem dX9_isBeyond_17 : decode (zB 158) 17 = .ok (.ifCond .le 7, 3) := by decide +kernel
theorem dX9_isBeyond_20 : decode (zB 158) 20 = .ok (.iconst 1, 1) := by decide +kernel
theorem dX9_isBeyond_21 : decode (zB 158) 21 = .ok (.goto 4, 3) := by decide +kernel
theorem dX9_isBeyond_24 : decode (zB 158) 24 = .ok (.iconst 0, 1) := by decide +kernel
theorem dX9_isBeyond_25 : decode (zB 158) 25 = .ok (.ireturn, 1) := by decide +kernel
theorem dX9_copy_0 : decode (zB 159) 0 = .ok (.iload_n 1, 1) := by decide +kernel
theorem dX9_copy_1 : decode (zB 159) 1 = .ok (.invokestatic 120, 3) := by decide +kernel
theorem dX9_copy_4 : decode (zB 159) 4 = .ok (.ifCond .ne 10, 3) := by decide +kernel
theorem dX9_copy_7 : decode (zB 159) 7 = .ok (.iload_n 3, 1) := by decide +kernel
theorem dX9_copy_8 : decode (zB 159) 8 = .ok (.invokestatic 120, 3) := by decide +kernel
theorem dX9_copy_11 : decode (zB 159) 11 = .ok (.ifCond .eq 9, 3) := by decide +kernel
theorem dX9_copy_14 : decode (zB 159) 14 = .ok (.aload_n 0, 1) := by decide +kernel
theorem dX9_copy_15 : decode (zB 159) 15 = .ok (.iconst (-1), 1) := by decide +kernel
theorem dX9_copy_16 : decode (zB 159) 16 = .ok (.invokevirtual 124, 3) := by decide +kernel
theorem dX9_copy_19 : decode (zB 159) 19 = .ok (.ireturn, 1) := by decide +kernel
theorem dX9_copy_20 : decode (zB 159) 20 = .ok (.aload_n 0, 1) := by decide +kernel
theorem dX9_copy_21 : decode (zB 159) 21 = .ok (.getfield 68, 3) := by decide +kernel
theorem dX9_copy_24 : decode (zB 159) 24 = .ok (.iload_n 1, 1) := by decide +kernel
theorem dX9_copy_25 : decode (zB 159) 25 = .ok (.iaload, 1) := by decide +kernel
theorem dX9_copy_26 : decode (zB 159) 26 = .ok (.ifCond .lt 12, 3) := by decide +kernel
theorem dX9_copy_29 : decode (zB 159) 29 = .ok (.aload_n 0, 1) := by decide +kernel
theorem dX9_copy_30 : decode (zB 159) 30 = .ok (.getfield 68, 3) := by decide +kernel
theorem dX9_copy_33 : decode (zB 159) 33 = .ok (.iload_n 3, 1) := by decide +kernel
theorem dX9_copy_34 : decode (zB 159) 34 = .ok (.iaload, 1) := by decide +kernel
theorem dX9_copy_35 : decode (zB 159) 35 = .ok (.ifCond .ge 9, 3) := by decide +kernel
theorem dX9_copy_38 : decode (zB 159) 38 = .ok (.aload_n 0, 1) := by decide +kernel
theorem dX9_copy_39 : decode (zB 159) 39 = .ok (.iconst 1, 1) := by decide +kernel
theorem dX9_copy_40 : decode (zB 159) 40 = .ok (.invokevirtual 130, 3) := by decide +kernel
theorem dX9_copy_43 : decode (zB 159) 43 = .ok (.ireturn, 1) := by decide +kernel
theorem dX9_copy_44 : decode (zB 159) 44 = .ok (.aload_n 0, 1) := by decide +kernel
theorem dX9_copy_45 : decode (zB 159) 45 = .ok (.getfield 71, 3) := by decide +kernel
theorem dX9_copy_48 : decode (zB 159) 48 = .ok (.iload_n 1, 1) := by decide +kernel
theorem dX9_copy_49 : decode (zB 159) 49 = .ok (.iaload, 1) := by decide +kernel
theorem dX9_copy_50 : decode (zB 159) 50 = .ok (.aload_n 0, 1) := by decide +kernel
theorem dX9_copy_51 : decode (zB 159) 51 = .ok (.getfield 71, 3) := by decide +kernel
theorem dX9_copy_54 : decode (zB 159) 54 = .ok (.iload_n 3, 1) := by decide +kernel
theorem dX9_copy_55 : decode (zB 159) 55 = .ok (.iaload, 1) := by decide +kernel
theorem dX9_copy_56 : decode (zB 159) 56 = .ok (.if_icmp .eq 9, 3) := by decide +kernel
theorem dX9_copy_59 : decode (zB 159) 59 = .ok (.aload_n 0, 1) := by decide +kernel
theorem dX9_copy_60 : decode (zB 159) 60 = .ok (.iconst 2, 1) := by decide +kernel
theorem dX9_copy_61 : decode (zB 159) 61 = .ok (.invokevirtual 130, 3) := by decide +kernel
theorem dX9_copy_64 : decode (zB 159) 64 = .ok (.ireturn, 1) := by decide +kernel
theorem dX9_copy_65 : decode (zB 159) 65 = .ok (.iload_n 2, 1) := by decide +kernel
theorem dX9_copy_66 : decode (zB 159) 66 = .ok (.iload 5, 2) := by decide +kernel
theorem dX9_copy_68 : decode (zB 159) 68 = .ok (.i2l, 1) := by decide +kernel
theorem dX9_copy_69 : decode (zB 159) 69 = .ok (.aload_n 0, 1) := by decide +kernel
theorem dX9_copy_70 : decode (zB 159) 70 = .ok (.getfield 68, 3) := by decide +kernel
theorem dX9_copy_73 : decode (zB 159) 73 = .ok (.iload_n 1, 1) := by decide +kernel
theorem dX9_copy_74 : decode (zB 159) 74 = .ok (.iaload, 1) := by decide +kernel
theorem dX9_copy_75 : decode (zB 159) 75 = .ok (.invokestatic 133, 3) := by decide +kernel
theorem dX9_copy_78 : decode (zB 159) 78 = .ok (.ifCond .ne 20, 3) := by decide +kernel
theorem dX9_copy_81 : decode (zB 159) 81 = .ok (.iload 4, 2) := by decide +kernel
theorem dX9_copy_83 : decode (zB 159) 83 = .ok (.iload 5, 2) := by decide +kernel
theorem dX9_copy_85 : decode (zB 159) 85 = .ok (.i2l, 1) := by decide +kernel
theorem dX9_copy_86 : decode (zB 159) 86 = .ok (.aload_n 0, 1) := by decide +kernel
theorem dX9_copy_87 : decode (zB 159) 87 = .ok (.getfield 68, 3) := by decide +kernel
theorem dX9_copy_90 : decode (zB 159) 90 = .ok (.iload_n 3, 1) := by decide +kernel
theorem dX9_copy_91 : decode (zB 159) 91 = .ok (.iaload, 1) := by decide +kernel
theorem dX9_copy_92 : decode (zB 159) 92 = .ok (.invokestatic 133, 3) := by decide +kernel
theorem dX9_copy_95 : decode (zB 159) 95 = .ok (.ifCond .eq 9, 3) := by decide +kernel
theorem dX9_copy_98 : decode (zB 159) 98 = .ok (.aload_n 0, 1) := by decide +kernel
theorem dX9_copy_99 : decode (zB 159) 99 = .ok (.iconst 3, 1) := by decide +kernel
theorem dX9_copy_100 : decode (zB 159) 100 = .ok (.invokevirtual 130, 3) := by decide +kernel
theorem dX9_copy_103 : decode (zB 159) 103 = .ok (.ireturn, 1) := by decide +kernel
theorem dX9_copy_104 : decode (zB 159) 104 = .ok (.iconst 0, 1) := by decide +kernel
theorem dX9_copy_105 : decode (zB 159) 105 = .ok (.istore 6, 2) := by decide +kernel
theorem dX9_copy_107 : decode (zB 159) 107 = .ok (.iload 6, 2) := by decide +kernel
theorem dX9_copy_109 : decode (zB 159) 109 = .ok (.iload 5, 2) := by decide +kernel
theorem dX9_copy_111 : decode (zB 159) 111 = .ok (.if_icmp .ge 30, 3) := by decide +kernel
theorem dX9_copy_114 : decode (zB 159) 114 = .ok (.aload_n 0, 1) := by decide +kernel
theorem dX9_copy_115 : decode (zB 159) 115 = .ok (.getfield 77, 3) := by decide +kernel
theorem dX9_copy_118 : decode (zB 159) 118 = .ok (.iload 6, 2) := by decide +kernel
theorem dX9_copy_120 : decode (zB 159) 120 = .ok (.aload_n 0, 1) := by decide +kernel
theorem dX9_copy_121 : decode (zB 159) 121 = .ok (.getfield 74, 3) := by decide +kernel
theorem dX9_copy_124 : decode (zB 159) 124 = .ok (.bipush 60, 2) := by decide +kernel
theorem dX9_copy_126 : decode (zB 159) 126 = .ok (.iload_n 1, 1) := by decide +kernel
theorem dX9_copy_127 : decode (zB 159) 127 = .ok (.imul, 1) := by decide +kernel
theorem dX9_copy_128 : decode (zB 159) 128 = .ok (.iload_n 2, 1) := by decide +kernel
theorem dX9_copy_129 : decode (zB 159) 129 = .ok (.iadd, 1) := by decide +kernel
theorem dX9_copy_130 : decode (zB 159) 130 = .ok (.iload 6, 2) := by decide +kernel
theorem dX9_copy_132 : decode (zB 159) 132 = .ok (.iadd, 1) := by decide +kernel
theorem dX9_copy_133 : decode (zB 159) 133 = .ok (.iaload, 1) := by decide +kernel
theorem dX9_copy_134 : decode (zB 159) 134 = .ok (.iastore, 1) := by decide +kernel
theorem dX9_copy_135 : decode (zB 159) 135 = .ok (.iinc 6 1, 3) := by decide +kernel
theorem dX9_copy_138 : decode (zB 159) 138 = .ok (.goto (-31), 3) := by decide +kernel
theorem dX9_copy_141 : decode (zB 159) 141 = .ok (.iconst 0, 1) := by decide +kernel
theorem dX9_copy_142 : decode (zB 159) 142 = .ok (.istore 6, 2) := by decide +kernel
theorem dX9_copy_144 : decode (zB 159) 144 = .ok (.iload 6, 2) := by decide +kernel
theorem dX9_copy_146 : decode (zB 159) 146 = .ok (.iload 5, 2) := by decide +kernel
theorem dX9_copy_148 : decode (zB 159) 148 = .ok (.if_icmp .ge 31, 3) := by decide +kernel
theorem dX9_copy_151 : decode (zB 159) 151 = .ok (.aload_n 0, 1) := by decide +kernel
theorem dX9_copy_152 : decode (zB 159) 152 = .ok (.getfield 74, 3) := by decide +kernel
theorem dX9_copy_155 : decode (zB 159) 155 = .ok (.bipush 60, 2) := by decide +kernel
theorem dX9_copy_157 : decode (zB 159) 157 = .ok (.iload_n 3, 1) := by decide +kernel
theorem dX9_copy_158 : decode (zB 159) 158 = .ok (.imul, 1) := by decide +kernel
theorem dX9_copy_159 : decode (zB 159) 159 = .ok (.iload 4, 2) := by decide +kernel
theorem dX9_copy_161 : decode (zB 159) 161 = .ok (.iadd, 1) := by decide +kernel
theorem dX9_copy_162 : decode (zB 159) 162 = .ok (.iload 6, 2) := by decide +kernel
theorem dX9_copy_164 : decode (zB 159) 164 = .ok (.iadd, 1) := by decide +kernel
theorem dX9_copy_165 : decode (zB 159) 165 = .ok (.aload_n 0, 1) := by decide +kernel
theorem dX9_copy_166 : decode (zB 159) 166 = .ok (.getfield 77, 3) := by decide +kernel
theorem dX9_copy_169 : decode (zB 159) 169 = .ok (.iload 6, 2) := by decide +kernel
theorem dX9_copy_171 : decode (zB 159) 171 = .ok (.iaload, 1) := by decide +kernel
theorem dX9_copy_172 : decode (zB 159) 172 = .ok (.iastore, 1) := by decide +kernel
theorem dX9_copy_173 : decode (zB 159) 173 = .ok (.iinc 6 1, 3) := by decide +kernel
theorem dX9_copy_176 : decode (zB 159) 176 = .ok (.goto (-32), 3) := by decide +kernel
theorem dX9_copy_179 : decode (zB 159) 179 = .ok (.aload_n 0, 1) := by decide +kernel
theorem dX9_copy_180 : decode (zB 159) 180 = .ok (.iload 5, 2) := by decide +kernel
theorem dX9_copy_182 : decode (zB 159) 182 = .ok (.invokevirtual 124, 3) := by decide +kernel
theorem dX9_copy_185 : decode (zB 159) 185 = .ok (.ireturn, 1) := by decide +kernel
theorem dX9_traced_0 : decode (zB 160) 0 = .ok (.aload_n 0, 1) := by decide +kernel
theorem dX9_traced_1 : decode (zB 160) 1 = .ok (.bipush 31, 2) := by decide +kernel
theorem dX9_traced_3 : decode (zB 160) 3 = .ok (.aload_n 0, 1) := by decide +kernel
theorem dX9_traced_4 : decode (zB 160) 4 = .ok (.getfield 267, 3) := by decide +kernel
theorem dX9_traced_7 : decode (zB 160) 7 = .ok (.imul, 1) := by decide +kernel
theorem dX9_traced_8 : decode (zB 160) 8 = .ok (.iload_n 1, 1) := by decide +kernel
theorem dX9_traced_9 : decode (zB 160) 9 = .ok (.iadd, 1) := by decide +kernel
theorem dX9_traced_10 : decode (zB 160) 10 = .ok (.putfield 267, 3) := by decide +kernel
theorem dX9_traced_13 : decode (zB 160) 13 = .ok (.return_, 1) := by decide +kernel
theorem dX9_tell_0 : decode (zB 161) 0 = .ok (.aload_n 0, 1) := by decide +kernel
theorem dX9_tell_1 : decode (zB 161) 1 = .ok (.iload_n 1, 1) := by decide +kernel
theorem dX9_tell_2 : decode (zB 161) 2 = .ok (.invokevirtual 149, 3) := by decide +kernel
theorem dX9_tell_5 : decode (zB 161) 5 = .ok (.ifCond .eq 5, 3) := by decide +kernel
theorem dX9_tell_8 : decode (zB 161) 8 = .ok (.iconst (-1), 1) := by decide +kernel
theorem dX9_tell_9 : decode (zB 161) 9 = .ok (.ireturn, 1) := by decide +kernel
theorem dX9_tell_10 : decode (zB 161) 10 = .ok (.aload_n 0, 1) := by decide +kernel
theorem dX9_tell_11 : decode (zB 161) 11 = .ok (.getfield 7, 3) := by decide +kernel
theorem dX9_tell_14 : decode (zB 161) 14 = .ok (.iload_n 1, 1) := by decide +kernel
theorem dX9_tell_15 : decode (zB 161) 15 = .ok (.iaload, 1) := by decide +kernel
theorem dX9_tell_16 : decode (zB 161) 16 = .ok (.istore_n 2, 1) := by decide +kernel
theorem dX9_tell_17 : decode (zB 161) 17 = .ok (.iload_n 2, 1) := by decide +kernel
theorem dX9_tell_18 : decode (zB 161) 18 = .ok (.iconst 2, 1) := by decide +kernel
theorem dX9_tell_19 : decode (zB 161) 19 = .ok (.if_icmp .ne 8, 3) := by decide +kernel
theorem dX9_tell_22 : decode (zB 161) 22 = .ok (.aload_n 0, 1) := by decide +kernel
theorem dX9_tell_23 : decode (zB 161) 23 = .ok (.iconst 3, 1) := by decide +kernel
theorem dX9_tell_24 : decode (zB 161) 24 = .ok (.invokevirtual 270, 3) := by decide +kernel
theorem dX9_tell_27 : decode (zB 161) 27 = .ok (.iload_n 2, 1) := by decide +kernel
theorem dX9_tell_28 : decode (zB 161) 28 = .ok (.ifCond .le 8, 3) := by decide +kernel
theorem dX9_tell_31 : decode (zB 161) 31 = .ok (.aload_n 0, 1) := by decide +kernel
theorem dX9_tell_32 : decode (zB 161) 32 = .ok (.iconst 2, 1) := by decide +kernel
theorem dX9_tell_33 : decode (zB 161) 33 = .ok (.invokevirtual 270, 3) := by decide +kernel
theorem dX9_tell_36 : decode (zB 161) 36 = .ok (.aload_n 0, 1) := by decide +kernel
theorem dX9_tell_37 : decode (zB 161) 37 = .ok (.iconst 1, 1) := by decide +kernel
theorem dX9_tell_38 : decode (zB 161) 38 = .ok (.invokevirtual 270, 3) := by decide +kernel
theorem dX9_tell_41 : decode (zB 161) 41 = .ok (.iload_n 2, 1) := by decide +kernel
theorem dX9_tell_42 : decode (zB 161) 42 = .ok (.iconst 2, 1) := by decide +kernel
theorem dX9_tell_43 : decode (zB 161) 43 = .ok (.if_icmp .ne 8, 3) := by decide +kernel
theorem dX9_tell_46 : decode (zB 161) 46 = .ok (.aload_n 0, 1) := by decide +kernel
theorem dX9_tell_47 : decode (zB 161) 47 = .ok (.iconst 1, 1) := by decide +kernel
theorem dX9_tell_48 : decode (zB 161) 48 = .ok (.invokevirtual 270, 3) := by decide +kernel
theorem dX9_tell_51 : decode (zB 161) 51 = .ok (.aload_n 0, 1) := by decide +kernel
theorem dX9_tell_52 : decode (zB 161) 52 = .ok (.getfield 13, 3) := by decide +kernel
theorem dX9_tell_55 : decode (zB 161) 55 = .ok (.iload_n 1, 1) := by decide +kernel
theorem dX9_tell_56 : decode (zB 161) 56 = .ok (.iaload, 1) := by decide +kernel
theorem dX9_tell_57 : decode (zB 161) 57 = .ok (.istore_n 3, 1) := by decide +kernel
theorem dX9_tell_58 : decode (zB 161) 58 = .ok (.iload_n 2, 1) := by decide +kernel
theorem dX9_tell_59 : decode (zB 161) 59 = .ok (.ifCond .ne 7, 3) := by decide +kernel
theorem dX9_tell_62 : decode (zB 161) 62 = .ok (.iload_n 3, 1) := by decide +kernel
theorem dX9_tell_63 : decode (zB 161) 63 = .ok (.goto 21, 3) := by decide +kernel
theorem dX9_tell_66 : decode (zB 161) 66 = .ok (.iload_n 2, 1) := by decide +kernel
theorem dX9_tell_67 : decode (zB 161) 67 = .ok (.iconst 1, 1) := by decide +kernel
theorem dX9_tell_68 : decode (zB 161) 68 = .ok (.if_icmp .ne 10, 3) := by decide +kernel
theorem dX9_tell_71 : decode (zB 161) 71 = .ok (.iload_n 3, 1) := by decide +kernel
theorem dX9_tell_72 : decode (zB 161) 72 = .ok (.bipush 100, 2) := by decide +kernel
theorem dX9_tell_74 : decode (zB 161) 74 = .ok (.iadd, 1) := by decide +kernel
theorem dX9_tell_75 : decode (zB 161) 75 = .ok (.goto 9, 3) := by decide +kernel
theorem dX9_tell_78 : decode (zB 161) 78 = .ok (.iconst 2, 1) := by decide +kernel
theorem dX9_tell_79 : decode (zB 161) 79 = .ok (.iload_n 3, 1) := by decide +kernel
theorem dX9_tell_80 : decode (zB 161) 80 = .ok (.imul, 1) := by decide +kernel
theorem dX9_tell_81 : decode (zB 161) 81 = .ok (.bipush 100, 2) := by decide +kernel
theorem dX9_tell_83 : decode (zB 161) 83 = .ok (.iadd, 1) := by decide +kernel
theorem dX9_tell_84 : decode (zB 161) 84 = .ok (.ireturn, 1) := by decide +kernel
theorem dX9_knock_0 : decode (zB 162) 0 = .ok (.aload_n 0, 1) := by decide +kernel
theorem dX9_knock_1 : decode (zB 162) 1 = .ok (.iload_n 1, 1) := by decide +kernel
theorem dX9_knock_2 : decode (zB 162) 2 = .ok (.invokevirtual 149, 3) := by decide +kernel
theorem dX9_knock_5 : decode (zB 162) 5 = .ok (.ifCond .eq 5, 3) := by decide +kernel
theorem dX9_knock_8 : decode (zB 162) 8 = .ok (.iconst (-1), 1) := by decide +kernel
theorem dX9_knock_9 : decode (zB 162) 9 = .ok (.ireturn, 1) := by decide +kernel
theorem dX9_knock_10 : decode (zB 162) 10 = .ok (.aload_n 0, 1) := by decide +kernel
theorem dX9_knock_11 : decode (zB 162) 11 = .ok (.aload_n 0, 1) := by decide +kernel
theorem dX9_knock_12 : decode (zB 162) 12 = .ok (.getfield 7, 3) := by decide +kernel
theorem dX9_knock_15 : decode (zB 162) 15 = .ok (.iload_n 1, 1) := by decide +kernel
theorem dX9_knock_16 : decode (zB 162) 16 = .ok (.iaload, 1) := by decide +kernel
theorem dX9_knock_17 : decode (zB 162) 17 = .ok (.iconst 2, 1) := by decide +kernel
theorem dX9_knock_18 : decode (zB 162) 18 = .ok (.if_icmp .ne 7, 3) := by decide +kernel
theorem dX9_knock_21 : decode (zB 162) 21 = .ok (.iconst 5, 1) := by decide +kernel
theorem dX9_knock_22 : decode (zB 162) 22 = .ok (.goto 4, 3) := by decide +kernel
theorem dX9_knock_25 : decode (zB 162) 25 = .ok (.iconst 4, 1) := by decide +kernel
theorem dX9_knock_26 : decode (zB 162) 26 = .ok (.invokevirtual 270, 3) := by decide +kernel
theorem dX9_knock_29 : decode (zB 162) 29 = .ok (.aload_n 0, 1) := by decide +kernel
theorem dX9_knock_30 : decode (zB 162) 30 = .ok (.getfield 7, 3) := by decide +kernel
theorem dX9_knock_33 : decode (zB 162) 33 = .ok (.iload_n 1, 1) := by decide +kernel
theorem dX9_knock_34 : decode (zB 162) 34 = .ok (.iaload, 1) := by decide +kernel
theorem dX9_knock_35 : decode (zB 162) 35 = .ok (.iconst 2, 1) := by decide +kernel
theorem dX9_knock_36 : decode (zB 162) 36 = .ok (.if_icmp .ne 8, 3) := by decide +kernel
theorem dX9_knock_39 : decode (zB 162) 39 = .ok (.bipush 40, 2) := by decide +kernel
theorem dX9_knock_41 : decode (zB 162) 41 = .ok (.goto 4, 3) := by decide +kernel
theorem dX9_knock_44 : decode (zB 162) 44 = .ok (.iload_n 1, 1) := by decide +kernel
theorem dX9_knock_45 : decode (zB 162) 45 = .ok (.ireturn, 1) := by decide +kernel
theorem dX9_as_0 : decode (zB 163) 0 = .ok (.aload_n 0, 1) := by decide +kernel
theorem dX9_as_1 : decode (zB 163) 1 = .ok (.iload_n 1, 1) := by decide +kernel
theorem dX9_as_2 : decode (zB 163) 2 = .ok (.invokevirtual 149, 3) := by decide +kernel
theorem dX9_as_5 : decode (zB 163) 5 = .ok (.ifCond .eq 9, 3) := by decide +kernel
theorem dX9_as_8 : decode (zB 163) 8 = .ok (.aload_n 0, 1) := by decide +kernel
theorem dX9_as_9 : decode (zB 163) 9 = .ok (.iconst (-1), 1) := by decide +kernel
theorem dX9_as_10 : decode (zB 163) 10 = .ok (.invokevirtual 124, 3) := by decide +kernel
theorem dX9_as_13 : decode (zB 163) 13 = .ok (.ireturn, 1) := by decide +kernel
theorem dX9_as_14 : decode (zB 163) 14 = .ok (.iload_n 2, 1) := by decide +kernel
theorem dX9_as_15 : decode (zB 163) 15 = .ok (.i2l, 1) := by decide +kernel
theorem dX9_as_16 : decode (zB 163) 16 = .ok (.lconst 0, 1) := by decide +kernel
theorem dX9_as_17 : decode (zB 163) 17 = .ok (.ldc2_w 128, 3) := by decide +kernel
theorem dX9_as_20 : decode (zB 163) 20 = .ok (.invokestatic 93, 3) := by decide +kernel
theorem dX9_as_23 : decode (zB 163) 23 = .ok (.ifCond .ne 10, 3) := by decide +kernel
theorem dX9_as_26 : decode (zB 163) 26 = .ok (.aload_n 0, 1) := by decide +kernel
theorem dX9_as_27 : decode (zB 163) 27 = .ok (.bipush (-2), 2) := by decide +kernel
theorem dX9_as_29 : decode (zB 163) 29 = .ok (.invokevirtual 124, 3) := by decide +kernel
theorem dX9_as_32 : decode (zB 163) 32 = .ok (.ireturn, 1) := by decide +kernel
theorem dX9_as_33 : decode (zB 163) 33 = .ok (.aload_n 0, 1) := by decide +kernel
theorem dX9_as_34 : decode (zB 163) 34 = .ok (.getfield 7, 3) := by decide +kernel
theorem dX9_as_37 : decode (zB 163) 37 = .ok (.iload_n 1, 1) := by decide +kernel
theorem dX9_as_38 : decode (zB 163) 38 = .ok (.iaload, 1) := by decide +kernel
theorem dX9_as_39 : decode (zB 163) 39 = .ok (.iload_n 2, 1) := by decide +kernel
theorem dX9_as_40 : decode (zB 163) 40 = .ok (.if_icmp .lt 11, 3) := by decide +kernel
theorem dX9_as_43 : decode (zB 163) 43 = .ok (.aload_n 0, 1) := by decide +kernel
theorem dX9_as_44 : decode (zB 163) 44 = .ok (.iconst 1, 1) := by decide +kernel
theorem dX9_as_45 : decode (zB 163) 45 = .ok (.invokevirtual 124, 3) := by decide +kernel
theorem dX9_as_48 : decode (zB 163) 48 = .ok (.goto 8, 3) := by decide +kernel
theorem dX9_as_51 : decode (zB 163) 51 = .ok (.aload_n 0, 1) := by decide +kernel
theorem dX9_as_52 : decode (zB 163) 52 = .ok (.iconst 2, 1) := by decide +kernel
theorem dX9_as_53 : decode (zB 163) 53 = .ok (.invokevirtual 130, 3) := by decide +kernel
theorem dX9_as_56 : decode (zB 163) 56 = .ok (.ireturn, 1) := by decide +kernel
theorem dX9_trace_0 : decode (zB 164) 0 = .ok (.aload_n 0, 1) := by decide +kernel
theorem dX9_trace_1 : decode (zB 164) 1 = .ok (.getfield 267, 3) := by decide +kernel
theorem dX9_trace_4 : decode (zB 164) 4 = .ok (.ireturn, 1) := by decide +kernel
theorem dX9_fault_0 : decode (zB 165) 0 = .ok (.aload_n 0, 1) := by decide +kernel
theorem dX9_fault_1 : decode (zB 165) 1 = .ok (.getfield 82, 3) := by decide +kernel
theorem dX9_fault_4 : decode (zB 165) 4 = .ok (.ireturn, 1) := by decide +kernel
theorem dX9_many_0 : decode (zB 166) 0 = .ok (.iload_n 1, 1) := by decide +kernel
theorem dX9_many_1 : decode (zB 166) 1 = .ok (.tableswitch 51 0 3 #[31, 36, 41, 46], 31) := by decide +kernel
theorem dX9_many_32 : decode (zB 166) 32 = .ok (.aload_n 0, 1) := by decide +kernel
theorem dX9_many_33 : decode (zB 166) 33 = .ok (.getfield 90, 3) := by decide +kernel
theorem dX9_many_36 : decode (zB 166) 36 = .ok (.ireturn, 1) := by decide +kernel
theorem dX9_many_37 : decode (zB 166) 37 = .ok (.aload_n 0, 1) := by decide +kernel
theorem dX9_many_38 : decode (zB 166) 38 = .ok (.getfield 140, 3) := by decide +kernel
theorem dX9_many_41 : decode (zB 166) 41 = .ok (.ireturn, 1) := by decide +kernel
theorem dX9_many_42 : decode (zB 166) 42 = .ok (.aload_n 0, 1) := by decide +kernel
theorem dX9_many_43 : decode (zB 166) 43 = .ok (.getfield 143, 3) := by decide +kernel
theorem dX9_many_46 : decode (zB 166) 46 = .ok (.ireturn, 1) := by decide +kernel
theorem dX9_many_47 : decode (zB 166) 47 = .ok (.aload_n 0, 1) := by decide +kernel
theorem dX9_many_48 : decode (zB 166) 48 = .ok (.getfield 146, 3) := by decide +kernel
theorem dX9_many_51 : decode (zB 166) 51 = .ok (.ireturn, 1) := by decide +kernel
theorem dX9_many_52 : decode (zB 166) 52 = .ok (.bipush (-2), 2) := by decide +kernel
theorem dX9_many_54 : decode (zB 166) 54 = .ok (.ireturn, 1) := by decide +kernel
