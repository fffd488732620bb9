theorem dX3_pass_0 : decode (zB 17) 0 = .ok (.aload_n 0, 1) := by decide +kernel
theorem dX3_pass_1 : decode (zB 17) 1 = .ok (.aload_n 1, 1) := by decide +kernel
theorem dX3_pass_2 : decode (zB 17) 2 = .ok (.invokevirtual 32, 3) := by decide +kernel
theorem dX3_pass_5 : decode (zB 17) 5 = .ok (.iconst 0, 1) := by decide +kernel
theorem dX3_pass_6 : decode (zB 17) 6 = .ok (.istore_n 3, 1) := by decide +kernel
theorem dX3_pass_7 : decode (zB 17) 7 = .ok (.iload_n 3, 1) := by decide +kernel
theorem dX3_pass_8 : decode (zB 17) 8 = .ok (.iload_n 2, 1) := by decide +kernel
theorem dX3_pass_9 : decode (zB 17) 9 = .ok (.if_icmp .ge 16, 3) := by decide +kernel
theorem dX3_pass_12 : decode (zB 17) 12 = .ok (.aload_n 0, 1) := by decide +kernel
theorem dX3_pass_13 : decode (zB 17) 13 = .ok (.aload_n 1, 1) := by decide +kernel
theorem dX3_pass_14 : decode (zB 17) 14 = .ok (.iload_n 3, 1) := by decide +kernel
theorem dX3_pass_15 : decode (zB 17) 15 = .ok (.iconst 0, 1) := by decide +kernel
theorem dX3_pass_16 : decode (zB 17) 16 = .ok (.invokevirtual 36, 3) := by decide +kernel
theorem dX3_pass_19 : decode (zB 17) 19 = .ok (.iinc 3 1, 3) := by decide +kernel
theorem dX3_pass_22 : decode (zB 17) 22 = .ok (.goto (-15), 3) := by decide +kernel
theorem dX3_pass_25 : decode (zB 17) 25 = .ok (.return_, 1) := by decide +kernel
theorem dX3_planksBelow_0 : decode (zB 18) 0 = .ok (.aload_n 0, 1) := by decide +kernel
theorem dX3_planksBelow_1 : decode (zB 18) 1 = .ok (.aload_n 1, 1) := by decide +kernel
theorem dX3_planksBelow_2 : decode (zB 18) 2 = .ok (.invokevirtual 32, 3) := by decide +kernel
theorem dX3_planksBelow_5 : decode (zB 18) 5 = .ok (.iconst 0, 1) := by decide +kernel
theorem dX3_planksBelow_6 : decode (zB 18) 6 = .ok (.istore 4, 2) := by decide +kernel
theorem dX3_planksBelow_8 : decode (zB 18) 8 = .ok (.iconst 0, 1) := by decide +kernel
theorem dX3_planksBelow_9 : decode (zB 18) 9 = .ok (.istore 5, 2) := by decide +kernel
theorem dX3_planksBelow_11 : decode (zB 18) 11 = .ok (.iload 5, 2) := by decide +kernel
theorem dX3_planksBelow_13 : decode (zB 18) 13 = .ok (.bipush 50, 2) := by decide +kernel
theorem dX3_planksBelow_15 : decode (zB 18) 15 = .ok (.if_icmp .ge 36, 3) := by decide +kernel
theorem dX3_planksBelow_18 : decode (zB 18) 18 = .ok (.iload 4, 2) := by decide +kernel
theorem dX3_planksBelow_20 : decode (zB 18) 20 = .ok (.iload_n 3, 1) := by decide +kernel
theorem dX3_planksBelow_21 : decode (zB 18) 21 = .ok (.if_icmp .ge 30, 3) := by decide +kernel
theorem dX3_planksBelow_24 : decode (zB 18) 24 = .ok (.aload_n 0, 1) := by decide +kernel
theorem dX3_planksBelow_25 : decode (zB 18) 25 = .ok (.aload_n 1, 1) := by decide +kernel
theorem dX3_planksBelow_26 : decode (zB 18) 26 = .ok (.iload 5, 2) := by decide +kernel
theorem dX3_planksBelow_28 : decode (zB 18) 28 = .ok (.iload_n 2, 1) := by decide +kernel
theorem dX3_planksBelow_29 : decode (zB 18) 29 = .ok (.invokevirtual 36, 3) := by decide +kernel
theorem dX3_planksBelow_32 : decode (zB 18) 32 = .ok (.iload 4, 2) := by decide +kernel
theorem dX3_planksBelow_34 : decode (zB 18) 34 = .ok (.aload_n 0, 1) := by decide +kernel
theorem dX3_planksBelow_35 : decode (zB 18) 35 = .ok (.iload 5, 2) := by decide +kernel
theorem dX3_planksBelow_37 : decode (zB 18) 37 = .ok (.iconst 1, 1) := by decide +kernel
theorem dX3_planksBelow_38 : decode (zB 18) 38 = .ok (.iadd, 1) := by decide +kernel
theorem dX3_planksBelow_39 : decode (zB 18) 39 = .ok (.invokevirtual 40, 3) := by decide +kernel
theorem dX3_planksBelow_42 : decode (zB 18) 42 = .ok (.iadd, 1) := by decide +kernel
theorem dX3_planksBelow_43 : decode (zB 18) 43 = .ok (.istore 4, 2) := by decide +kernel
theorem dX3_planksBelow_45 : decode (zB 18) 45 = .ok (.iinc 5 1, 3) := by decide +kernel
theorem dX3_planksBelow_48 : decode (zB 18) 48 = .ok (.goto (-37), 3) := by decide +kernel
theorem dX3_planksBelow_51 : decode (zB 18) 51 = .ok (.iload 4, 2) := by decide +kernel
theorem dX3_planksBelow_53 : decode (zB 18) 53 = .ok (.ireturn, 1) := by decide +kernel
theorem dX3_begin_0 : decode (zB 19) 0 = .ok (.aload_n 0, 1) := by decide +kernel
theorem dX3_begin_1 : decode (zB 19) 1 = .ok (.lconst 1, 1) := by decide +kernel
theorem dX3_begin_2 : decode (zB 19) 2 = .ok (.putfield 44, 3) := by decide +kernel
theorem dX3_begin_5 : decode (zB 19) 5 = .ok (.iconst 0, 1) := by decide +kernel
theorem dX3_begin_6 : decode (zB 19) 6 = .ok (.istore_n 2, 1) := by decide +kernel
theorem dX3_begin_7 : decode (zB 19) 7 = .ok (.iload_n 2, 1) := by decide +kernel
theorem dX3_begin_8 : decode (zB 19) 8 = .ok (.bipush 9, 2) := by decide +kernel
theorem dX3_begin_10 : decode (zB 19) 10 = .ok (.if_icmp .ge 59, 3) := by decide +kernel
theorem dX3_begin_13 : decode (zB 19) 13 = .ok (.aload_n 1, 1) := by decide +kernel
theorem dX3_begin_14 : decode (zB 19) 14 = .ok (.iload_n 2, 1) := by decide +kernel
theorem dX3_begin_15 : decode (zB 19) 15 = .ok (.iaload, 1) := by decide +kernel
theorem dX3_begin_16 : decode (zB 19) 16 = .ok (.bipush (-9), 2) := by decide +kernel
theorem dX3_begin_18 : decode (zB 19) 18 = .ok (.if_icmp .eq 45, 3) := by decide +kernel
theorem dX3_begin_21 : decode (zB 19) 21 = .ok (.aload_n 0, 1) := by decide +kernel
theorem dX3_begin_22 : decode (zB 19) 22 = .ok (.dup, 1) := by decide +kernel
theorem dX3_begin_23 : decode (zB 19) 23 = .ok (.getfield 44, 3) := by decide +kernel
theorem dX3_begin_26 : decode (zB 19) 26 = .ok (.lconst 1, 1) := by decide +kernel
theorem dX3_begin_27 : decode (zB 19) 27 = .ok (.aload_n 0, 1) := by decide +kernel
theorem dX3_begin_28 : decode (zB 19) 28 = .ok (.getfield 28, 3) := by decide +kernel
theorem dX3_begin_31 : decode (zB 19) 31 = .ok (.getfield 48, 3) := by decide +kernel
theorem dX3_begin_34 : decode (zB 19) 34 = .ok (.iload_n 2, 1) := by decide +kernel
theorem dX3_begin_35 : decode (zB 19) 35 = .ok (.iaload, 1) := by decide +kernel
theorem dX3_begin_36 : decode (zB 19) 36 = .ok (.lshl, 1) := by decide +kernel
theorem dX3_begin_37 : decode (zB 19) 37 = .ok (.lor, 1) := by decide +kernel
theorem dX3_begin_38 : decode (zB 19) 38 = .ok (.putfield 44, 3) := by decide +kernel
theorem dX3_begin_41 : decode (zB 19) 41 = .ok (.aload_n 0, 1) := by decide +kernel
theorem dX3_begin_42 : decode (zB 19) 42 = .ok (.dup, 1) := by decide +kernel
theorem dX3_begin_43 : decode (zB 19) 43 = .ok (.getfield 44, 3) := by decide +kernel
theorem dX3_begin_46 : decode (zB 19) 46 = .ok (.lconst 1, 1) := by decide +kernel
theorem dX3_begin_47 : decode (zB 19) 47 = .ok (.aload_n 0, 1) := by decide +kernel
theorem dX3_begin_48 : decode (zB 19) 48 = .ok (.getfield 28, 3) := by decide +kernel
theorem dX3_begin_51 : decode (zB 19) 51 = .ok (.getfield 53, 3) := by decide +kernel
theorem dX3_begin_54 : decode (zB 19) 54 = .ok (.iload_n 2, 1) := by decide +kernel
theorem dX3_begin_55 : decode (zB 19) 55 = .ok (.iaload, 1) := by decide +kernel
theorem dX3_begin_56 : decode (zB 19) 56 = .ok (.iconst 1, 1) := by decide +kernel
theorem dX3_begin_57 : decode (zB 19) 57 = .ok (.iadd, 1) := by decide +kernel
theorem dX3_begin_58 : decode (zB 19) 58 = .ok (.lshl, 1) := by decide +kernel
theorem dX3_begin_59 : decode (zB 19) 59 = .ok (.lor, 1) := by decide +kernel
theorem dX3_begin_60 : decode (zB 19) 60 = .ok (.putfield 44, 3) := by decide +kernel
theorem dX3_begin_63 : decode (zB 19) 63 = .ok (.iinc 2 1, 3) := by decide +kernel
theorem dX3_begin_66 : decode (zB 19) 66 = .ok (.goto (-59), 3) := by decide +kernel
theorem dX3_begin_69 : decode (zB 19) 69 = .ok (.iconst 0, 1) := by decide +kernel
theorem dX3_begin_70 : decode (zB 19) 70 = .ok (.istore_n 2, 1) := by decide +kernel
theorem dX3_begin_71 : decode (zB 19) 71 = .ok (.iload_n 2, 1) := by decide +kernel
theorem dX3_begin_72 : decode (zB 19) 72 = .ok (.bipush 7, 2) := by decide +kernel
theorem dX3_begin_74 : decode (zB 19) 74 = .ok (.if_icmp .ge 16, 3) := by decide +kernel
theorem dX3_begin_77 : decode (zB 19) 77 = .ok (.aload_n 0, 1) := by decide +kernel
theorem dX3_begin_78 : decode (zB 19) 78 = .ok (.getfield 9, 3) := by decide +kernel
theorem dX3_begin_81 : decode (zB 19) 81 = .ok (.iload_n 2, 1) := by decide +kernel
theorem dX3_begin_82 : decode (zB 19) 82 = .ok (.iconst 0, 1) := by decide +kernel
theorem dX3_begin_83 : decode (zB 19) 83 = .ok (.iastore, 1) := by decide +kernel
theorem dX3_begin_84 : decode (zB 19) 84 = .ok (.iinc 2 1, 3) := by decide +kernel
theorem dX3_begin_87 : decode (zB 19) 87 = .ok (.goto (-16), 3) := by decide +kernel
theorem dX3_begin_90 : decode (zB 19) 90 = .ok (.return_, 1) := by decide +kernel
theorem dX3_passNight_0 : decode (zB 20) 0 = .ok (.aload_n 0, 1) := by decide +kernel
theorem dX3_passNight_1 : decode (zB 20) 1 = .ok (.getfield 44, 3) := by decide +kernel
theorem dX3_passNight_4 : decode (zB 20) 4 = .ok (.iload_n 2, 1) := by decide +kernel
theorem dX3_passNight_5 : decode (zB 20) 5 = .ok (.lshr, 1) := by decide +kernel
theorem dX3_passNight_6 : decode (zB 20) 6 = .ok (.lconst 1, 1) := by decide +kernel
theorem dX3_passNight_7 : decode (zB 20) 7 = .ok (.land, 1) := by decide +kernel
theorem dX3_passNight_8 : decode (zB 20) 8 = .ok (.lconst 1, 1) := by decide +kernel
theorem dX3_passNight_9 : decode (zB 20) 9 = .ok (.lcmp, 1) := by decide +kernel
theorem dX3_passNight_10 : decode (zB 20) 10 = .ok (.ifCond .ne 14, 3) := by decide +kernel
theorem dX3_passNight_13 : decode (zB 20) 13 = .ok (.aload_n 0, 1) := by decide +kernel
theorem dX3_passNight_14 : decode (zB 20) 14 = .ok (.aload_n 1, 1) := by decide +kernel
theorem dX3_passNight_15 : decode (zB 20) 15 = .ok (.iload_n 2, 1) := by decide +kernel
theorem dX3_passNight_16 : decode (zB 20) 16 = .ok (.invokevirtual 56, 3) := by decide +kernel
theorem dX3_passNight_19 : decode (zB 20) 19 = .ok (.aload_n 0, 1) := by decide +kernel
theorem dX3_passNight_20 : decode (zB 20) 20 = .ok (.iload_n 3, 1) := by decide +kernel
theorem dX3_passNight_21 : decode (zB 20) 21 = .ok (.invokevirtual 60, 3) := by decide +kernel
theorem dX3_passNight_24 : decode (zB 20) 24 = .ok (.iload_n 2, 1) := by decide +kernel
theorem dX3_passNight_25 : decode (zB 20) 25 = .ok (.bipush 7, 2) := by decide +kernel
theorem dX3_passNight_27 : decode (zB 20) 27 = .ok (.imul, 1) := by decide +kernel
theorem dX3_passNight_28 : decode (zB 20) 28 = .ok (.istore 4, 2) := by decide +kernel
theorem dX3_passNight_30 : decode (zB 20) 30 = .ok (.iload 4, 2) := by decide +kernel
theorem dX3_passNight_32 : decode (zB 20) 32 = .ok (.bipush 7, 2) := by decide +kernel
theorem dX3_passNight_34 : decode (zB 20) 34 = .ok (.iadd, 1) := by decide +kernel
theorem dX3_passNight_35 : decode (zB 20) 35 = .ok (.istore 5, 2) := by decide +kernel
theorem dX3_passNight_37 : decode (zB 20) 37 = .ok (.iconst 0, 1) := by decide +kernel
theorem dX3_passNight_38 : decode (zB 20) 38 = .ok (.istore 6, 2) := by decide +kernel
theorem dX3_passNight_40 : decode (zB 20) 40 = .ok (.iload 6, 2) := by decide +kernel
theorem dX3_passNight_42 : decode (zB 20) 42 = .ok (.aload_n 0, 1) := by decide +kernel
theorem dX3_passNight_43 : decode (zB 20) 43 = .ok (.getfield 24, 3) := by decide +kernel
theorem dX3_passNight_46 : decode (zB 20) 46 = .ok (.getfield 64, 3) := by decide +kernel
theorem dX3_passNight_49 : decode (zB 20) 49 = .ok (.if_icmp .ge 50, 3) := by decide +kernel
theorem dX3_passNight_52 : decode (zB 20) 52 = .ok (.aload_n 0, 1) := by decide +kernel
theorem dX3_passNight_53 : decode (zB 20) 53 = .ok (.getfield 9, 3) := by decide +kernel
theorem dX3_passNight_56 : decode (zB 20) 56 = .ok (.iload 4, 2) := by decide +kernel
theorem dX3_passNight_58 : decode (zB 20) 58 = .ok (.iload 6, 2) := by decide +kernel
theorem dX3_passNight_60 : decode (zB 20) 60 = .ok (.iadd, 1) := by decide +kernel
theorem dX3_passNight_61 : decode (zB 20) 61 = .ok (.iaload, 1) := by decide +kernel
theorem dX3_passNight_62 : decode (zB 20) 62 = .ok (.aload_n 0, 1) := by decide +kernel
theorem dX3_passNight_63 : decode (zB 20) 63 = .ok (.getfield 21, 3) := by decide +kernel
theorem dX3_passNight_66 : decode (zB 20) 66 = .ok (.iload 6, 2) := by decide +kernel
theorem dX3_passNight_68 : decode (zB 20) 68 = .ok (.iaload, 1) := by decide +kernel
theorem dX3_passNight_69 : decode (zB 20) 69 = .ok (.iadd, 1) := by decide +kernel
theorem dX3_passNight_70 : decode (zB 20) 70 = .ok (.istore 7, 2) := by decide +kernel
theorem dX3_passNight_72 : decode (zB 20) 72 = .ok (.aload_n 0, 1) := by decide +kernel
theorem dX3_passNight_73 : decode (zB 20) 73 = .ok (.getfield 9, 3) := by decide +kernel
theorem dX3_passNight_76 : decode (zB 20) 76 = .ok (.iload 5, 2) := by decide +kernel
theorem dX3_passNight_78 : decode (zB 20) 78 = .ok (.iload 6, 2) := by decide +kernel
theorem dX3_passNight_80 : decode (zB 20) 80 = .ok (.iadd, 1) := by decide +kernel
theorem dX3_passNight_81 : decode (zB 20) 81 = .ok (.iload 7, 2) := by decide +kernel
theorem dX3_passNight_83 : decode (zB 20) 83 = .ok (.ifCond .le 8, 3) := by decide +kernel
theorem dX3_passNight_86 : decode (zB 20) 86 = .ok (.iload 7, 2) := by decide +kernel
theorem dX3_passNight_88 : decode (zB 20) 88 = .ok (.goto 4, 3) := by decide +kernel
theorem dX3_passNight_91 : decode (zB 20) 91 = .ok (.iconst 0, 1) := by decide +kernel
theorem dX3_passNight_92 : decode (zB 20) 92 = .ok (.iastore, 1) := by decide +kernel
theorem dX3_passNight_93 : decode (zB 20) 93 = .ok (.iinc 6 1, 3) := by decide +kernel
theorem dX3_passNight_96 : decode (zB 20) 96 = .ok (.goto (-56), 3) := by decide +kernel
theorem dX3_passNight_99 : decode (zB 20) 99 = .ok (.return_, 1) := by decide +kernel
theorem dX3_weigh_0 : decode (zB 21) 0 = .ok (.iconst 0, 1) := by decide +kernel
theorem dX3_weigh_1 : decode (zB 21) 1 = .ok (.istore_n 3, 1) := by decide +kernel
theorem dX3_weigh_2 : decode (zB 21) 2 = .ok (.iload_n 3, 1) := by decide +kernel
theorem dX3_weigh_3 : decode (zB 21) 3 = .ok (.bipush 7, 2) := by decide +kernel
theorem dX3_weigh_5 : decode (zB 21) 5 = .ok (.if_icmp .ge 16, 3) := by decide +kernel
theorem dX3_weigh_8 : decode (zB 21) 8 = .ok (.aload_n 0, 1) := by decide +kernel
theorem dX3_weigh_9 : decode (zB 21) 9 = .ok (.getfield 15, 3) := by decide +kernel
theorem dX3_weigh_12 : decode (zB 21) 12 = .ok (.iload_n 3, 1) := by decide +kernel
theorem dX3_weigh_13 : decode (zB 21) 13 = .ok (.iconst 0, 1) := by decide +kernel
theorem dX3_weigh_14 : decode (zB 21) 14 = .ok (.iastore, 1) := by decide +kernel
theorem dX3_weigh_15 : decode (zB 21) 15 = .ok (.iinc 3 1, 3) := by decide +kernel
theorem dX3_weigh_18 : decode (zB 21) 18 = .ok (.goto (-16), 3) := by decide +kernel
theorem dX3_weigh_21 : decode (zB 21) 21 = .ok (.iconst 0, 1) := by decide +kernel
theorem dX3_weigh_22 : decode (zB 21) 22 = .ok (.istore_n 3, 1) := by decide +kernel
theorem dX3_weigh_23 : decode (zB 21) 23 = .ok (.iload_n 3, 1) := by decide +kernel
theorem dX3_weigh_24 : decode (zB 21) 24 = .ok (.bipush 9, 2) := by decide +kernel
theorem dX3_weigh_26 : decode (zB 21) 26 = .ok (.if_icmp .ge 57, 3) := by decide +kernel
theorem dX3_weigh_29 : decode (zB 21) 29 = .ok (.aload_n 1, 1) := by decide +kernel
theorem dX3_weigh_30 : decode (zB 21) 30 = .ok (.iload_n 3, 1) := by decide +kernel
theorem dX3_weigh_31 : decode (zB 21) 31 = .ok (.iaload, 1) := by decide +kernel
theorem dX3_weigh_32 : decode (zB 21) 32 = .ok (.istore 4, 2) := by decide +kernel
theorem dX3_weigh_34 : decode (zB 21) 34 = .ok (.aload_n 0, 1) := by decide +kernel
theorem dX3_weigh_35 : decode (zB 21) 35 = .ok (.getfield 24, 3) := by decide +kernel
theorem dX3_weigh_38 : decode (zB 21) 38 = .ok (.iload 4, 2) := by decide +kernel
theorem dX3_weigh_40 : decode (zB 21) 40 = .ok (.invokevirtual 70, 3) := by decide +kernel
theorem dX3_weigh_43 : decode (zB 21) 43 = .ok (.ifCond .eq 34, 3) := by decide +kernel
theorem dX3_weigh_46 : decode (zB 21) 46 = .ok (.aload_n 0, 1) := by decide +kernel
theorem dX3_weigh_47 : decode (zB 21) 47 = .ok (.getfield 28, 3) := by decide +kernel
theorem dX3_weigh_50 : decode (zB 21) 50 = .ok (.iload_n 3, 1) := by decide +kernel
theorem dX3_weigh_51 : decode (zB 21) 51 = .ok (.iload_n 2, 1) := by decide +kernel
theorem dX3_weigh_52 : decode (zB 21) 52 = .ok (.invokevirtual 74, 3) := by decide +kernel
theorem dX3_weigh_55 : decode (zB 21) 55 = .ok (.ifCond .eq 22, 3) := by decide +kernel
theorem dX3_weigh_58 : decode (zB 21) 58 = .ok (.aload_n 0, 1) := by decide +kernel
theorem dX3_weigh_59 : decode (zB 21) 59 = .ok (.getfield 15, 3) := by decide +kernel
theorem dX3_weigh_62 : decode (zB 21) 62 = .ok (.iload 4, 2) := by decide +kernel
theorem dX3_weigh_64 : decode (zB 21) 64 = .ok (.dup2, 1) := by decide +kernel
theorem dX3_weigh_65 : decode (zB 21) 65 = .ok (.iaload, 1) := by decide +kernel
theorem dX3_weigh_66 : decode (zB 21) 66 = .ok (.aload_n 0, 1) := by decide +kernel
theorem dX3_weigh_67 : decode (zB 21) 67 = .ok (.getfield 28, 3) := by decide +kernel
theorem dX3_weigh_70 : decode (zB 21) 70 = .ok (.getfield 78, 3) := by decide +kernel
theorem dX3_weigh_73 : decode (zB 21) 73 = .ok (.iload_n 3, 1) := by decide +kernel
theorem dX3_weigh_74 : decode (zB 21) 74 = .ok (.iaload, 1) := by decide +kernel
theorem dX3_weigh_75 : decode (zB 21) 75 = .ok (.iadd, 1) := by decide +kernel
theorem dX3_weigh_76 : decode (zB 21) 76 = .ok (.iastore, 1) := by decide +kernel
theorem dX3_weigh_77 : decode (zB 21) 77 = .ok (.iinc 3 1, 3) := by decide +kernel
theorem dX3_weigh_80 : decode (zB 21) 80 = .ok (.goto (-57), 3) := by decide +kernel
theorem dX3_weigh_83 : decode (zB 21) 83 = .ok (.return_, 1) := by decide +kernel
theorem dX3_press_0 : decode (zB 22) 0 = .ok (.iconst 0, 1) := by decide +kernel
theorem dX3_press_1 : decode (zB 22) 1 = .ok (.istore_n 2, 1) := by decide +kernel
theorem dX3_press_2 : decode (zB 22) 2 = .ok (.iload_n 2, 1) := by decide +kernel
theorem dX3_press_3 : decode (zB 22) 3 = .ok (.aload_n 0, 1) := by decide +kernel
theorem dX3_press_4 : decode (zB 22) 4 = .ok (.getfield 24, 3) := by decide +kernel
theorem dX3_press_7 : decode (zB 22) 7 = .ok (.getfield 64, 3) := by decide +kernel
theorem dX3_press_10 : decode (zB 22) 10 = .ok (.if_icmp .ge 94, 3) := by decide +kernel
theorem dX3_press_13 : decode (zB 22) 13 = .ok (.aload_n 0, 1) := by decide +kernel
theorem dX3_press_14 : decode (zB 22) 14 = .ok (.getfield 24, 3) := by decide +kernel
theorem dX3_press_17 : decode (zB 22) 17 = .ok (.getfield 81, 3) := by decide +kernel
theorem dX3_press_20 : decode (zB 22) 20 = .ok (.iload_n 2, 1) := by decide +kernel
theorem dX3_press_21 : decode (zB 22) 21 = .ok (.aaload, 1) := by decide +kernel
theorem dX3_press_22 : decode (zB 22) 22 = .ok (.astore_n 3, 1) := by decide +kernel
theorem dX3_press_23 : decode (zB 22) 23 = .ok (.aload_n 3, 1) := by decide +kernel
theorem dX3_press_24 : decode (zB 22) 24 = .ok (.getfield 85, 3) := by decide +kernel
theorem dX3_press_27 : decode (zB 22) 27 = .ok (.iconst 2, 1) := by decide +kernel
theorem dX3_press_28 : decode (zB 22) 28 = .ok (.if_icmp .eq 12, 3) := by decide +kernel
theorem dX3_press_31 : decode (zB 22) 31 = .ok (.iload_n 1, 1) := by decide +kernel
theorem dX3_press_32 : decode (zB 22) 32 = .ok (.iload_n 2, 1) := by decide +kernel
theorem dX3_press_33 : decode (zB 22) 33 = .ok (.ishr, 1) := by decide +kernel
theorem dX3_press_34 : decode (zB 22) 34 = .ok (.iconst 1, 1) := by decide +kernel
theorem dX3_press_35 : decode (zB 22) 35 = .ok (.iand, 1) := by decide +kernel
theorem dX3_press_36 : decode (zB 22) 36 = .ok (.iconst 1, 1) := by decide +kernel
theorem dX3_press_37 : decode (zB 22) 37 = .ok (.if_icmp .ne 7, 3) := by decide +kernel
theorem dX3_press_40 : decode (zB 22) 40 = .ok (.iconst 1, 1) := by decide +kernel
theorem dX3_press_41 : decode (zB 22) 41 = .ok (.goto 4, 3) := by decide +kernel
theorem dX3_press_44 : decode (zB 22) 44 = .ok (.iconst 0, 1) := by decide +kernel
theorem dX3_press_45 : decode (zB 22) 45 = .ok (.istore 4, 2) := by decide +kernel
theorem dX3_press_47 : decode (zB 22) 47 = .ok (.aload_n 0, 1) := by decide +kernel
theorem dX3_press_48 : decode (zB 22) 48 = .ok (.getfield 18, 3) := by decide +kernel
theorem dX3_press_51 : decode (zB 22) 51 = .ok (.iload_n 2, 1) := by decide +kernel
theorem dX3_press_52 : decode (zB 22) 52 = .ok (.aload_n 3, 1) := by decide +kernel
theorem dX3_press_53 : decode (zB 22) 53 = .ok (.aload_n 0, 1) := by decide +kernel
theorem dX3_press_54 : decode (zB 22) 54 = .ok (.getfield 15, 3) := by decide +kernel
theorem dX3_press_57 : decode (zB 22) 57 = .ok (.iload_n 2, 1) := by decide +kernel
theorem dX3_press_58 : decode (zB 22) 58 = .ok (.iaload, 1) := by decide +kernel
theorem dX3_press_59 : decode (zB 22) 59 = .ok (.iload 4, 2) := by decide +kernel
theorem dX3_press_61 : decode (zB 22) 61 = .ok (.invokevirtual 90, 3) := by decide +kernel
theorem dX3_press_64 : decode (zB 22) 64 = .ok (.iastore, 1) := by decide +kernel
theorem dX3_press_65 : decode (zB 22) 65 = .ok (.aload_n 0, 1) := by decide +kernel
theorem dX3_press_66 : decode (zB 22) 66 = .ok (.getfield 21, 3) := by decide +kernel
theorem dX3_press_69 : decode (zB 22) 69 = .ok (.iload_n 2, 1) := by decide +kernel
theorem dX3_press_70 : decode (zB 22) 70 = .ok (.aload_n 0, 1) := by decide +kernel
theorem dX3_press_71 : decode (zB 22) 71 = .ok (.getfield 18, 3) := by decide +kernel
theorem dX3_press_74 : decode (zB 22) 74 = .ok (.iload_n 2, 1) := by decide +kernel
theorem dX3_press_75 : decode (zB 22) 75 = .ok (.iaload, 1) := by decide +kernel
theorem dX3_press_76 : decode (zB 22) 76 = .ok (.aload_n 3, 1) := by decide +kernel
theorem dX3_press_77 : decode (zB 22) 77 = .ok (.aload_n 0, 1) := by decide +kernel
theorem dX3_press_78 : decode (zB 22) 78 = .ok (.getfield 15, 3) := by decide +kernel
theorem dX3_press_81 : decode (zB 22) 81 = .ok (.iload_n 2, 1) := by decide +kernel
theorem dX3_press_82 : decode (zB 22) 82 = .ok (.iaload, 1) := by decide +kernel
theorem dX3_press_83 : decode (zB 22) 83 = .ok (.ifCond .le 7, 3) := by decide +kernel
theorem dX3_press_86 : decode (zB 22) 86 = .ok (.iconst 1, 1) := by decide +kernel
theorem dX3_press_87 : decode (zB 22) 87 = .ok (.goto 4, 3) := by decide +kernel
theorem dX3_press_90 : decode (zB 22) 90 = .ok (.iconst 0, 1) := by decide +kernel
theorem dX3_press_91 : decode (zB 22) 91 = .ok (.iload 4, 2) := by decide +kernel
theorem dX3_press_93 : decode (zB 22) 93 = .ok (.invokevirtual 94, 3) := by decide +kernel
theorem dX3_press_96 : decode (zB 22) 96 = .ok (.isub, 1) := by decide +kernel
theorem dX3_press_97 : decode (zB 22) 97 = .ok (.iastore, 1) := by decide +kernel
theorem dX3_press_98 : decode (zB 22) 98 = .ok (.iinc 2 1, 3) := by decide +kernel
theorem dX3_press_101 : decode (zB 22) 101 = .ok (.goto (-99), 3) := by decide +kernel
theorem dX3_press_104 : decode (zB 22) 104 = .ok (.iconst 0, 1) := by decide +kernel
theorem dX3_press_105 : decode (zB 22) 105 = .ok (.istore_n 2, 1) := by decide +kernel
theorem dX3_press_106 : decode (zB 22) 106 = .ok (.iload_n 2, 1) := by decide +kernel
theorem dX3_press_107 : decode (zB 22) 107 = .ok (.iconst 1, 1) := by decide +kernel
theorem dX3_press_108 : decode (zB 22) 108 = .ok (.iadd, 1) := by decide +kernel
theorem dX3_press_109 : decode (zB 22) 109 = .ok (.aload_n 0, 1) := by decide +kernel
theorem dX3_press_110 : decode (zB 22) 110 = .ok (.getfield 24, 3) := by decide +kernel
theorem dX3_press_113 : decode (zB 22) 113 = .ok (.getfield 64, 3) := by decide +kernel
theorem dX3_press_116 : decode (zB 22) 116 = .ok (.if_icmp .ge 47, 3) := by decide +kernel
theorem dX3_press_119 : decode (zB 22) 119 = .ok (.aload_n 0, 1) := by decide +kernel
theorem dX3_press_120 : decode (zB 22) 120 = .ok (.getfield 21, 3) := by decide +kernel
theorem dX3_press_123 : decode (zB 22) 123 = .ok (.iload_n 2, 1) := by decide +kernel
theorem dX3_press_124 : decode (zB 22) 124 = .ok (.dup2, 1) := by decide +kernel
theorem dX3_press_125 : decode (zB 22) 125 = .ok (.iaload, 1) := by decide +kernel
theorem dX3_press_126 : decode (zB 22) 126 = .ok (.aload_n 0, 1) := by decide +kernel
theorem dX3_press_127 : decode (zB 22) 127 = .ok (.getfield 18, 3) := by decide +kernel
theorem dX3_press_130 : decode (zB 22) 130 = .ok (.iload_n 2, 1) := by decide +kernel
theorem dX3_press_131 : decode (zB 22) 131 = .ok (.iconst 1, 1) := by decide +kernel
theorem dX3_press_132 : decode (zB 22) 132 = .ok (.iadd, 1) := by decide +kernel
theorem dX3_press_133 : decode (zB 22) 133 = .ok (.iaload, 1) := by decide +kernel
theorem dX3_press_134 : decode (zB 22) 134 = .ok (.iconst 4, 1) := by decide +kernel
theorem dX3_press_135 : decode (zB 22) 135 = .ok (.idiv, 1) := by decide +kernel
theorem dX3_press_136 : decode (zB 22) 136 = .ok (.iadd, 1) := by decide +kernel
theorem dX3_press_137 : decode (zB 22) 137 = .ok (.iastore, 1) := by decide +kernel
theorem dX3_press_138 : decode (zB 22) 138 = .ok (.aload_n 0, 1) := by decide +kernel
theorem dX3_press_139 : decode (zB 22) 139 = .ok (.getfield 21, 3) := by decide +kernel
theorem dX3_press_142 : decode (zB 22) 142 = .ok (.iload_n 2, 1) := by decide +kernel
theorem dX3_press_143 : decode (zB 22) 143 = .ok (.iconst 1, 1) := by decide +kernel
theorem dX3_press_144 : decode (zB 22) 144 = .ok (.iadd, 1) := by decide +kernel
theorem dX3_press_145 : decode (zB 22) 145 = .ok (.dup2, 1) := by decide +kernel
theorem dX3_press_146 : decode (zB 22) 146 = .ok (.iaload, 1) := by decide +kernel
theorem dX3_press_147 : decode (zB 22) 147 = .ok (.aload_n 0, 1) := by decide +kernel
theorem dX3_press_148 : decode (zB 22) 148 = .ok (.getfield 18, 3) := by decide +kernel
theorem dX3_press_151 : decode (zB 22) 151 = .ok (.iload_n 2, 1) := by decide +kernel
theorem dX3_press_152 : decode (zB 22) 152 = .ok (.iaload, 1) := by decide +kernel
theorem dX3_press_153 : decode (zB 22) 153 = .ok (.iconst 4, 1) := by decide +kernel
theorem dX3_press_154 : decode (zB 22) 154 = .ok (.idiv, 1) := by decide +kernel
theorem dX3_press_155 : decode (zB 22) 155 = .ok (.iadd, 1) := by decide +kernel
theorem dX3_press_156 : decode (zB 22) 156 = .ok (.iastore, 1) := by decide +kernel
theorem dX3_press_157 : decode (zB 22) 157 = .ok (.iinc 2 1, 3) := by decide +kernel
theorem dX3_press_160 : decode (zB 22) 160 = .ok (.goto (-54), 3) := by decide +kernel
theorem dX3_press_163 : decode (zB 22) 163 = .ok (.return_, 1) := by decide +kernel
theorem dX3_depthAt_0 : decode (zB 23) 0 = .ok (.aload_n 0, 1) := by decide +kernel
theorem dX3_depthAt_1 : decode (zB 23) 1 = .ok (.getfield 9, 3) := by decide +kernel
theorem dX3_depthAt_4 : decode (zB 23) 4 = .ok (.iload_n 2, 1) := by decide +kernel
theorem dX3_depthAt_5 : decode (zB 23) 5 = .ok (.bipush 7, 2) := by decide +kernel
theorem dX3_depthAt_7 : decode (zB 23) 7 = .ok (.imul, 1) := by decide +kernel
theorem dX3_depthAt_8 : decode (zB 23) 8 = .ok (.iload_n 1, 1) := by decide +kernel
theorem dX3_depthAt_9 : decode (zB 23) 9 = .ok (.iadd, 1) := by decide +kernel
theorem dX3_depthAt_10 : decode (zB 23) 10 = .ok (.iaload, 1) := by decide +kernel
theorem dX3_depthAt_11 : decode (zB 23) 11 = .ok (.ireturn, 1) := by decide +kernel
theorem dX3_isUnderAt_0 : decode (zB 24) 0 = .ok (.aload_n 0, 1) := by decide +kernel
theorem dX3_isUnderAt_1 : decode (zB 24) 1 = .ok (.iload_n 1, 1) := by decide +kernel
theorem dX3_isUnderAt_2 : decode (zB 24) 2 = .ok (.iload_n 2, 1) := by decide +kernel
theorem dX3_isUnderAt_3 : decode (zB 24) 3 = .ok (.invokevirtual 98, 3) := by decide +kernel
theorem dX3_isUnderAt_6 : decode (zB 24) 6 = .ok (.bipush 50, 2) := by decide +kernel
theorem dX3_isUnderAt_8 : decode (zB 24) 8 = .ok (.aload_n 0, 1) := by decide +kernel
theorem dX3_isUnderAt_9 : decode (zB 24) 9 = .ok (.getfield 24, 3) := by decide +kernel
theorem dX3_isUnderAt_12 : decode (zB 24) 12 = .ok (.getfield 81, 3) := by decide +kernel
theorem dX3_isUnderAt_15 : decode (zB 24) 15 = .ok (.iload_n 1, 1) := by decide +kernel
theorem dX3_isUnderAt_16 : decode (zB 24) 16 = .ok (.aaload, 1) := by decide +kernel
theorem dX3_isUnderAt_17 : decode (zB 24) 17 = .ok (.getfield 102, 3) := by decide +kernel
theorem dX3_isUnderAt_20 : decode (zB 24) 20 = .ok (.imul, 1) := by decide +kernel
theorem dX3_isUnderAt_21 : decode (zB 24) 21 = .ok (.if_icmp .lt 7, 3) := by decide +kernel
theorem dX3_isUnderAt_24 : decode (zB 24) 24 = .ok (.iconst 1, 1) := by decide +kernel
theorem dX3_isUnderAt_25 : decode (zB 24) 25 = .ok (.goto 4, 3) := by decide +kernel
theorem dX3_isUnderAt_28 : decode (zB 24) 28 = .ok (.iconst 0, 1) := by decide +kernel
theorem dX3_isUnderAt_29 : decode (zB 24) 29 = .ok (.ireturn, 1) := by decide +kernel
theorem dX3_canStep_0 : decode (zB 25) 0 = .ok (.iload_n 2, 1) := by decide +kernel
theorem dX3_canStep_1 : decode (zB 25) 1 = .ok (.bipush 7, 2) := by decide +kernel
theorem dX3_canStep_3 : decode (zB 25) 3 = .ok (.imul, 1) := by decide +kernel
theorem dX3_canStep_4 : decode (zB 25) 4 = .ok (.iload_n 1, 1) := by decide +kernel
theorem dX3_canStep_5 : decode (zB 25) 5 = .ok (.iadd, 1) := by decide +kernel
theorem dX3_canStep_6 : decode (zB 25) 6 = .ok (.istore_n 3, 1) := by decide +kernel
theorem dX3_canStep_7 : decode (zB 25) 7 = .ok (.aload_n 0, 1) := by decide +kernel
theorem dX3_canStep_8 : decode (zB 25) 8 = .ok (.getfield 9, 3) := by decide +kernel
theorem dX3_canStep_11 : decode (zB 25) 11 = .ok (.iload_n 3, 1) := by decide +kernel
theorem dX3_canStep_12 : decode (zB 25) 12 = .ok (.iaload, 1) := by decide +kernel
theorem dX3_canStep_13 : decode (zB 25) 13 = .ok (.aload_n 0, 1) := by decide +kernel
theorem dX3_canStep_14 : decode (zB 25) 14 = .ok (.getfield 9, 3) := by decide +kernel
theorem dX3_canStep_17 : decode (zB 25) 17 = .ok (.iload_n 3, 1) := by decide +kernel
theorem dX3_canStep_18 : decode (zB 25) 18 = .ok (.iconst 1, 1) := by decide +kernel
theorem dX3_canStep_19 : decode (zB 25) 19 = .ok (.iadd, 1) := by decide +kernel
theorem dX3_canStep_20 : decode (zB 25) 20 = .ok (.iaload, 1) := by decide +kernel
theorem dX3_canStep_21 : decode (zB 25) 21 = .ok (.isub, 1) := by decide +kernel
theorem dX3_canStep_22 : decode (zB 25) 22 = .ok (.istore 4, 2) := by decide +kernel
theorem dX3_canStep_24 : decode (zB 25) 24 = .ok (.bipush 10, 2) := by decide +kernel
theorem dX3_canStep_26 : decode (zB 25) 26 = .ok (.aload_n 0, 1) := by decide +kernel
theorem dX3_canStep_27 : decode (zB 25) 27 = .ok (.getfield 24, 3) := by decide +kernel
theorem dX3_canStep_30 : decode (zB 25) 30 = .ok (.getfield 105, 3) := by decide +kernel
theorem dX3_canStep_33 : decode (zB 25) 33 = .ok (.imul, 1) := by decide +kernel
theorem dX3_canStep_34 : decode (zB 25) 34 = .ok (.istore 5, 2) := by decide +kernel
theorem dX3_canStep_36 : decode (zB 25) 36 = .ok (.iload 4, 2) := by decide +kernel
theorem dX3_canStep_38 : decode (zB 25) 38 = .ok (.iload 5, 2) := by decide +kernel
theorem dX3_canStep_40 : decode (zB 25) 40 = .ok (.if_icmp .gt 15, 3) := by decide +kernel
theorem dX3_canStep_43 : decode (zB 25) 43 = .ok (.iload 4, 2) := by decide +kernel
theorem dX3_canStep_45 : decode (zB 25) 45 = .ok (.iload 5, 2) := by decide +kernel
theorem dX3_canStep_47 : decode (zB 25) 47 = .ok (.ineg, 1) := by decide +kernel
theorem dX3_canStep_48 : decode (zB 25) 48 = .ok (.if_icmp .lt 7, 3) := by decide +kernel
theorem dX3_canStep_51 : decode (zB 25) 51 = .ok (.iconst 1, 1) := by decide +kernel
theorem dX3_canStep_52 : decode (zB 25) 52 = .ok (.goto 4, 3) := by decide +kernel
theorem dX3_canStep_55 : decode (zB 25) 55 = .ok (.iconst 0, 1) := by decide +kernel
theorem dX3_canStep_56 : decode (zB 25) 56 = .ok (.ireturn, 1) := by decide +kernel
theorem dX3_planksAt_0 : decode (zB 26) 0 = .ok (.iconst 0, 1) := by decide +kernel
theorem dX3_planksAt_1 : decode (zB 26) 1 = .ok (.istore_n 2, 1) := by decide +kernel
theorem dX3_planksAt_2 : decode (zB 26) 2 = .ok (.iconst 0, 1) := by decide +kernel
theorem dX3_planksAt_3 : decode (zB 26) 3 = .ok (.istore_n 3, 1) := by decide +kernel
theorem dX3_planksAt_4 : decode (zB 26) 4 = .ok (.iload_n 3, 1) := by decide +kernel
theorem dX3_planksAt_5 : decode (zB 26) 5 = .ok (.iconst 1, 1) := by decide +kernel
theorem dX3_planksAt_6 : decode (zB 26) 6 = .ok (.iadd, 1) := by decide +kernel
theorem dX3_planksAt_7 : decode (zB 26) 7 = .ok (.aload_n 0, 1) := by decide +kernel
theorem dX3_planksAt_8 : decode (zB 26) 8 = .ok (.getfield 24, 3) := by decide +kernel
theorem dX3_planksAt_11 : decode (zB 26) 11 = .ok (.getfield 64, 3) := by decide +kernel
theorem dX3_planksAt_14 : decode (zB 26) 14 = .ok (.if_icmp .ge 21, 3) := by decide +kernel
theorem dX3_planksAt_17 : decode (zB 26) 17 = .ok (.aload_n 0, 1) := by decide +kernel
theorem dX3_planksAt_18 : decode (zB 26) 18 = .ok (.iload_n 3, 1) := by decide +kernel
theorem dX3_planksAt_19 : decode (zB 26) 19 = .ok (.iload_n 1, 1) := by decide +kernel
theorem dX3_planksAt_20 : decode (zB 26) 20 = .ok (.invokevirtual 108, 3) := by decide +kernel
theorem dX3_planksAt_23 : decode (zB 26) 23 = .ok (.ifCond .ne 6, 3) := by decide +kernel
theorem dX3_planksAt_26 : decode (zB 26) 26 = .ok (.iinc 2 1, 3) := by decide +kernel
theorem dX3_planksAt_29 : decode (zB 26) 29 = .ok (.iinc 3 1, 3) := by decide +kernel
theorem dX3_planksAt_32 : decode (zB 26) 32 = .ok (.goto (-28), 3) := by decide +kernel
theorem dX3_planksAt_35 : decode (zB 26) 35 = .ok (.iload_n 2, 1) := by decide +kernel
theorem dX3_planksAt_36 : decode (zB 26) 36 = .ok (.ireturn, 1) := by decide +kernel
theorem dX3_stepped_0 : decode (zB 27) 0 = .ok (.iload_n 1, 1) := by decide +kernel
theorem dX3_stepped_1 : decode (zB 27) 1 = .ok (.istore_n 3, 1) := by decide +kernel
theorem dX3_stepped_2 : decode (zB 27) 2 = .ok (.iconst 0, 1) := by decide +kernel
theorem dX3_stepped_3 : decode (zB 27) 3 = .ok (.istore 4, 2) := by decide +kernel
theorem dX3_stepped_5 : decode (zB 27) 5 = .ok (.iload 4, 2) := by decide +kernel
theorem dX3_stepped_7 : decode (zB 27) 7 = .ok (.iconst 1, 1) := by decide +kernel
theorem dX3_stepped_8 : decode (zB 27) 8 = .ok (.iadd, 1) := by decide +kernel
theorem dX3_stepped_9 : decode (zB 27) 9 = .ok (.aload_n 0, 1) := by decide +kernel
theorem dX3_stepped_10 : decode (zB 27) 10 = .ok (.getfield 24, 3) := by decide +kernel
theorem dX3_stepped_13 : decode (zB 27) 13 = .ok (.getfield 64, 3) := by decide +kernel
theorem dX3_stepped_16 : decode (zB 27) 16 = .ok (.if_icmp .ge 35, 3) := by decide +kernel
theorem dX3_stepped_19 : decode (zB 27) 19 = .ok (.iload_n 1, 1) := by decide +kernel
theorem dX3_stepped_20 : decode (zB 27) 20 = .ok (.iload 4, 2) := by decide +kernel
theorem dX3_stepped_22 : decode (zB 27) 22 = .ok (.ishr, 1) := by decide +kernel
theorem dX3_stepped_23 : decode (zB 27) 23 = .ok (.iconst 3, 1) := by decide +kernel
theorem dX3_stepped_24 : decode (zB 27) 24 = .ok (.iand, 1) := by decide +kernel
theorem dX3_stepped_25 : decode (zB 27) 25 = .ok (.ifCond .eq 20, 3) := by decide +kernel
theorem dX3_stepped_28 : decode (zB 27) 28 = .ok (.aload_n 0, 1) := by decide +kernel
theorem dX3_stepped_29 : decode (zB 27) 29 = .ok (.iload 4, 2) := by decide +kernel
theorem dX3_stepped_31 : decode (zB 27) 31 = .ok (.iload_n 2, 1) := by decide +kernel
theorem dX3_stepped_32 : decode (zB 27) 32 = .ok (.invokevirtual 108, 3) := by decide +kernel
theorem dX3_stepped_35 : decode (zB 27) 35 = .ok (.ifCond .eq 10, 3) := by decide +kernel
theorem dX3_stepped_38 : decode (zB 27) 38 = .ok (.iload_n 3, 1) := by decide +kernel
theorem dX3_stepped_39 : decode (zB 27) 39 = .ok (.iconst 3, 1) := by decide +kernel
theorem dX3_stepped_40 : decode (zB 27) 40 = .ok (.iload 4, 2) := by decide +kernel
theorem dX3_stepped_42 : decode (zB 27) 42 = .ok (.ishl, 1) := by decide +kernel
theorem dX3_stepped_43 : decode (zB 27) 43 = .ok (.ior, 1) := by decide +kernel
theorem dX3_stepped_44 : decode (zB 27) 44 = .ok (.istore_n 3, 1) := by decide +kernel
theorem dX3_stepped_45 : decode (zB 27) 45 = .ok (.iinc 4 1, 3) := by decide +kernel
theorem dX3_stepped_48 : decode (zB 27) 48 = .ok (.goto (-43), 3) := by decide +kernel
theorem dX3_stepped_51 : decode (zB 27) 51 = .ok (.iload_n 3, 1) := by decide +kernel
theorem dX3_stepped_52 : decode (zB 27) 52 = .ok (.ireturn, 1) := by decide +kernel
