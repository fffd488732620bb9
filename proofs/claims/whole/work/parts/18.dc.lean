theorem dX8_town_0 : decode (zB 48) 0 = .ok (.aload_n 0, 1) := by decide +kernel
theorem dX8_town_1 : decode (zB 48) 1 = .ok (.iconst 0, 1) := by decide +kernel
theorem dX8_town_2 : decode (zB 48) 2 = .ok (.putfield 69, 3) := by decide +kernel
theorem dX8_town_5 : decode (zB 48) 5 = .ok (.iload_n 1, 1) := by decide +kernel
theorem dX8_town_6 : decode (zB 48) 6 = .ok (.invokestatic 73, 3) := by decide +kernel
theorem dX8_town_9 : decode (zB 48) 9 = .ok (.ifCond .ne 5, 3) := by decide +kernel
theorem dX8_town_12 : decode (zB 48) 12 = .ok (.iconst (-1), 1) := by decide +kernel
theorem dX8_town_13 : decode (zB 48) 13 = .ok (.ireturn, 1) := by decide +kernel
theorem dX8_town_14 : decode (zB 48) 14 = .ok (.iload_n 2, 1) := by decide +kernel
theorem dX8_town_15 : decode (zB 48) 15 = .ok (.invokestatic 77, 3) := by decide +kernel
theorem dX8_town_18 : decode (zB 48) 18 = .ok (.ifCond .ne 6, 3) := by decide +kernel
theorem dX8_town_21 : decode (zB 48) 21 = .ok (.bipush (-2), 2) := by decide +kernel
theorem dX8_town_23 : decode (zB 48) 23 = .ok (.ireturn, 1) := by decide +kernel
theorem dX8_town_24 : decode (zB 48) 24 = .ok (.aload_n 0, 1) := by decide +kernel
theorem dX8_town_25 : decode (zB 48) 25 = .ok (.getfield 64, 3) := by decide +kernel
theorem dX8_town_28 : decode (zB 48) 28 = .ok (.iload_n 1, 1) := by decide +kernel
theorem dX8_town_29 : decode (zB 48) 29 = .ok (.aaload, 1) := by decide +kernel
theorem dX8_town_30 : decode (zB 48) 30 = .ok (.astore 5, 2) := by decide +kernel
theorem dX8_town_32 : decode (zB 48) 32 = .ok (.aload 5, 2) := by decide +kernel
theorem dX8_town_34 : decode (zB 48) 34 = .ok (.iload_n 2, 1) := by decide +kernel
theorem dX8_town_35 : decode (zB 48) 35 = .ok (.invokevirtual 80, 3) := by decide +kernel
theorem dX8_town_38 : decode (zB 48) 38 = .ok (.ifCond .eq 9, 3) := by decide +kernel
theorem dX8_town_41 : decode (zB 48) 41 = .ok (.aload_n 0, 1) := by decide +kernel
theorem dX8_town_42 : decode (zB 48) 42 = .ok (.iconst 2, 1) := by decide +kernel
theorem dX8_town_43 : decode (zB 48) 43 = .ok (.invokevirtual 83, 3) := by decide +kernel
theorem dX8_town_46 : decode (zB 48) 46 = .ok (.ireturn, 1) := by decide +kernel
theorem dX8_town_47 : decode (zB 48) 47 = .ok (.aload 5, 2) := by decide +kernel
theorem dX8_town_49 : decode (zB 48) 49 = .ok (.getfield 87, 3) := by decide +kernel
theorem dX8_town_52 : decode (zB 48) 52 = .ok (.ifCond .ne 9, 3) := by decide +kernel
theorem dX8_town_55 : decode (zB 48) 55 = .ok (.aload_n 0, 1) := by decide +kernel
theorem dX8_town_56 : decode (zB 48) 56 = .ok (.iconst 1, 1) := by decide +kernel
theorem dX8_town_57 : decode (zB 48) 57 = .ok (.invokevirtual 83, 3) := by decide +kernel
theorem dX8_town_60 : decode (zB 48) 60 = .ok (.ireturn, 1) := by decide +kernel
theorem dX8_town_61 : decode (zB 48) 61 = .ok (.iload 4, 2) := by decide +kernel
theorem dX8_town_63 : decode (zB 48) 63 = .ok (.ifCond .ge 9, 3) := by decide +kernel
theorem dX8_town_66 : decode (zB 48) 66 = .ok (.aload_n 0, 1) := by decide +kernel
theorem dX8_town_67 : decode (zB 48) 67 = .ok (.iconst 4, 1) := by decide +kernel
theorem dX8_town_68 : decode (zB 48) 68 = .ok (.invokevirtual 83, 3) := by decide +kernel
theorem dX8_town_71 : decode (zB 48) 71 = .ok (.ireturn, 1) := by decide +kernel
theorem dX8_town_72 : decode (zB 48) 72 = .ok (.aload 5, 2) := by decide +kernel
theorem dX8_town_74 : decode (zB 48) 74 = .ok (.iload_n 3, 1) := by decide +kernel
theorem dX8_town_75 : decode (zB 48) 75 = .ok (.iload 4, 2) := by decide +kernel
theorem dX8_town_77 : decode (zB 48) 77 = .ok (.invokevirtual 91, 3) := by decide +kernel
theorem dX8_town_80 : decode (zB 48) 80 = .ok (.ifCond .ne 9, 3) := by decide +kernel
theorem dX8_town_83 : decode (zB 48) 83 = .ok (.aload_n 0, 1) := by decide +kernel
theorem dX8_town_84 : decode (zB 48) 84 = .ok (.iconst 3, 1) := by decide +kernel
theorem dX8_town_85 : decode (zB 48) 85 = .ok (.invokevirtual 83, 3) := by decide +kernel
theorem dX8_town_88 : decode (zB 48) 88 = .ok (.ireturn, 1) := by decide +kernel
theorem dX8_town_89 : decode (zB 48) 89 = .ok (.aload 5, 2) := by decide +kernel
theorem dX8_town_91 : decode (zB 48) 91 = .ok (.iload_n 3, 1) := by decide +kernel
theorem dX8_town_92 : decode (zB 48) 92 = .ok (.iload 4, 2) := by decide +kernel
theorem dX8_town_94 : decode (zB 48) 94 = .ok (.invokestatic 95, 3) := by decide +kernel
theorem dX8_town_97 : decode (zB 48) 97 = .ok (.istore 6, 2) := by decide +kernel
theorem dX8_town_99 : decode (zB 48) 99 = .ok (.iload 6, 2) := by decide +kernel
theorem dX8_town_101 : decode (zB 48) 101 = .ok (.bipush (-9), 2) := by decide +kernel
theorem dX8_town_103 : decode (zB 48) 103 = .ok (.if_icmp .eq 9, 3) := by decide +kernel
theorem dX8_town_106 : decode (zB 48) 106 = .ok (.bipush (-100), 2) := by decide +kernel
theorem dX8_town_108 : decode (zB 48) 108 = .ok (.iload 6, 2) := by decide +kernel
theorem dX8_town_110 : decode (zB 48) 110 = .ok (.isub, 1) := by decide +kernel
theorem dX8_town_111 : decode (zB 48) 111 = .ok (.ireturn, 1) := by decide +kernel
theorem dX8_town_112 : decode (zB 48) 112 = .ok (.aload_n 0, 1) := by decide +kernel
theorem dX8_town_113 : decode (zB 48) 113 = .ok (.getfield 14, 3) := by decide +kernel
theorem dX8_town_116 : decode (zB 48) 116 = .ok (.aload 5, 2) := by decide +kernel
theorem dX8_town_118 : decode (zB 48) 118 = .ok (.iload_n 3, 1) := by decide +kernel
theorem dX8_town_119 : decode (zB 48) 119 = .ok (.iload 4, 2) := by decide +kernel
theorem dX8_town_121 : decode (zB 48) 121 = .ok (.invokevirtual 99, 3) := by decide +kernel
theorem dX8_town_124 : decode (zB 48) 124 = .ok (.aload_n 0, 1) := by decide +kernel
theorem dX8_town_125 : decode (zB 48) 125 = .ok (.getfield 23, 3) := by decide +kernel
theorem dX8_town_128 : decode (zB 48) 128 = .ok (.invokevirtual 103, 3) := by decide +kernel
theorem dX8_town_131 : decode (zB 48) 131 = .ok (.aload_n 0, 1) := by decide +kernel
theorem dX8_town_132 : decode (zB 48) 132 = .ok (.getfield 30, 3) := by decide +kernel
theorem dX8_town_135 : decode (zB 48) 135 = .ok (.iconst 0, 1) := by decide +kernel
theorem dX8_town_136 : decode (zB 48) 136 = .ok (.putfield 106, 3) := by decide +kernel
theorem dX8_town_139 : decode (zB 48) 139 = .ok (.aload_n 0, 1) := by decide +kernel
theorem dX8_town_140 : decode (zB 48) 140 = .ok (.invokevirtual 109, 3) := by decide +kernel
theorem dX8_town_143 : decode (zB 48) 143 = .ok (.aload_n 0, 1) := by decide +kernel
theorem dX8_town_144 : decode (zB 48) 144 = .ok (.getfield 14, 3) := by decide +kernel
theorem dX8_town_147 : decode (zB 48) 147 = .ok (.getfield 112, 3) := by decide +kernel
theorem dX8_town_150 : decode (zB 48) 150 = .ok (.ireturn, 1) := by decide +kernel
theorem dX8_ofHouse_0 : decode (zB 49) 0 = .ok (.aload_n 0, 1) := by decide +kernel
theorem dX8_ofHouse_1 : decode (zB 49) 1 = .ok (.getfield 14, 3) := by decide +kernel
theorem dX8_ofHouse_4 : decode (zB 49) 4 = .ok (.iload_n 1, 1) := by decide +kernel
theorem dX8_ofHouse_5 : decode (zB 49) 5 = .ok (.invokevirtual 113, 3) := by decide +kernel
theorem dX8_ofHouse_8 : decode (zB 49) 8 = .ok (.ifCond .ne 5, 3) := by decide +kernel
theorem dX8_ofHouse_11 : decode (zB 49) 11 = .ok (.iconst (-1), 1) := by decide +kernel
theorem dX8_ofHouse_12 : decode (zB 49) 12 = .ok (.ireturn, 1) := by decide +kernel
theorem dX8_ofHouse_13 : decode (zB 49) 13 = .ok (.aload_n 0, 1) := by decide +kernel
theorem dX8_ofHouse_14 : decode (zB 49) 14 = .ok (.getfield 14, 3) := by decide +kernel
theorem dX8_ofHouse_17 : decode (zB 49) 17 = .ok (.getfield 116, 3) := by decide +kernel
theorem dX8_ofHouse_20 : decode (zB 49) 20 = .ok (.iload_n 1, 1) := by decide +kernel
theorem dX8_ofHouse_21 : decode (zB 49) 21 = .ok (.aaload, 1) := by decide +kernel
theorem dX8_ofHouse_22 : decode (zB 49) 22 = .ok (.astore_n 3, 1) := by decide +kernel
theorem dX8_ofHouse_23 : decode (zB 49) 23 = .ok (.iload_n 2, 1) := by decide +kernel
theorem dX8_ofHouse_24 : decode (zB 49) 24 = .ok (.tableswitch 61 0 4 #[36, 41, 46, 51, 56], 36) := by decide +kernel
theorem dX8_ofHouse_60 : decode (zB 49) 60 = .ok (.aload_n 3, 1) := by decide +kernel
theorem dX8_ofHouse_61 : decode (zB 49) 61 = .ok (.getfield 120, 3) := by decide +kernel
theorem dX8_ofHouse_64 : decode (zB 49) 64 = .ok (.ireturn, 1) := by decide +kernel
theorem dX8_ofHouse_65 : decode (zB 49) 65 = .ok (.aload_n 3, 1) := by decide +kernel
theorem dX8_ofHouse_66 : decode (zB 49) 66 = .ok (.getfield 125, 3) := by decide +kernel
theorem dX8_ofHouse_69 : decode (zB 49) 69 = .ok (.ireturn, 1) := by decide +kernel
theorem dX8_ofHouse_70 : decode (zB 49) 70 = .ok (.aload_n 3, 1) := by decide +kernel
theorem dX8_ofHouse_71 : decode (zB 49) 71 = .ok (.getfield 128, 3) := by decide +kernel
theorem dX8_ofHouse_74 : decode (zB 49) 74 = .ok (.ireturn, 1) := by decide +kernel
theorem dX8_ofHouse_75 : decode (zB 49) 75 = .ok (.aload_n 3, 1) := by decide +kernel
theorem dX8_ofHouse_76 : decode (zB 49) 76 = .ok (.getfield 131, 3) := by decide +kernel
theorem dX8_ofHouse_79 : decode (zB 49) 79 = .ok (.ireturn, 1) := by decide +kernel
theorem dX8_ofHouse_80 : decode (zB 49) 80 = .ok (.aload_n 3, 1) := by decide +kernel
theorem dX8_ofHouse_81 : decode (zB 49) 81 = .ok (.getfield 134, 3) := by decide +kernel
theorem dX8_ofHouse_84 : decode (zB 49) 84 = .ok (.ireturn, 1) := by decide +kernel
theorem dX8_ofHouse_85 : decode (zB 49) 85 = .ok (.bipush (-2), 2) := by decide +kernel
theorem dX8_ofHouse_87 : decode (zB 49) 87 = .ok (.ireturn, 1) := by decide +kernel
theorem dX8_guest_0 : decode (zB 50) 0 = .ok (.iload_n 1, 1) := by decide +kernel
theorem dX8_guest_1 : decode (zB 50) 1 = .ok (.iconst 1, 1) := by decide +kernel
theorem dX8_guest_2 : decode (zB 50) 2 = .ok (.bipush 30, 2) := by decide +kernel
theorem dX8_guest_4 : decode (zB 50) 4 = .ok (.invokestatic 137, 3) := by decide +kernel
theorem dX8_guest_7 : decode (zB 50) 7 = .ok (.ifCond .eq 22, 3) := by decide +kernel
theorem dX8_guest_10 : decode (zB 50) 10 = .ok (.iload_n 2, 1) := by decide +kernel
theorem dX8_guest_11 : decode (zB 50) 11 = .ok (.invokestatic 141, 3) := by decide +kernel
theorem dX8_guest_14 : decode (zB 50) 14 = .ok (.ifCond .eq 15, 3) := by decide +kernel
theorem dX8_guest_17 : decode (zB 50) 17 = .ok (.iload_n 3, 1) := by decide +kernel
theorem dX8_guest_18 : decode (zB 50) 18 = .ok (.invokestatic 141, 3) := by decide +kernel
theorem dX8_guest_21 : decode (zB 50) 21 = .ok (.ifCond .eq 8, 3) := by decide +kernel
theorem dX8_guest_24 : decode (zB 50) 24 = .ok (.iload_n 3, 1) := by decide +kernel
theorem dX8_guest_25 : decode (zB 50) 25 = .ok (.iload_n 2, 1) := by decide +kernel
theorem dX8_guest_26 : decode (zB 50) 26 = .ok (.if_icmp .ge 6, 3) := by decide +kernel
theorem dX8_guest_29 : decode (zB 50) 29 = .ok (.bipush (-2), 2) := by decide +kernel
theorem dX8_guest_31 : decode (zB 50) 31 = .ok (.ireturn, 1) := by decide +kernel
theorem dX8_guest_32 : decode (zB 50) 32 = .ok (.aload_n 0, 1) := by decide +kernel
theorem dX8_guest_33 : decode (zB 50) 33 = .ok (.getfield 14, 3) := by decide +kernel
theorem dX8_guest_36 : decode (zB 50) 36 = .ok (.getfield 112, 3) := by decide +kernel
theorem dX8_guest_39 : decode (zB 50) 39 = .ok (.ifCond .ne 6, 3) := by decide +kernel
theorem dX8_guest_42 : decode (zB 50) 42 = .ok (.bipush (-3), 2) := by decide +kernel
theorem dX8_guest_44 : decode (zB 50) 44 = .ok (.ireturn, 1) := by decide +kernel
theorem dX8_guest_45 : decode (zB 50) 45 = .ok (.aload_n 0, 1) := by decide +kernel
theorem dX8_guest_46 : decode (zB 50) 46 = .ok (.getfield 23, 3) := by decide +kernel
theorem dX8_guest_49 : decode (zB 50) 49 = .ok (.getfield 144, 3) := by decide +kernel
theorem dX8_guest_52 : decode (zB 50) 52 = .ok (.bipush 8, 2) := by decide +kernel
theorem dX8_guest_54 : decode (zB 50) 54 = .ok (.if_icmp .lt 6, 3) := by decide +kernel
theorem dX8_guest_57 : decode (zB 50) 57 = .ok (.bipush (-4), 2) := by decide +kernel
theorem dX8_guest_59 : decode (zB 50) 59 = .ok (.ireturn, 1) := by decide +kernel
theorem dX8_guest_60 : decode (zB 50) 60 = .ok (.aload_n 0, 1) := by decide +kernel
theorem dX8_guest_61 : decode (zB 50) 61 = .ok (.getfield 23, 3) := by decide +kernel
theorem dX8_guest_64 : decode (zB 50) 64 = .ok (.getfield 144, 3) := by decide +kernel
theorem dX8_guest_67 : decode (zB 50) 67 = .ok (.istore 4, 2) := by decide +kernel
theorem dX8_guest_69 : decode (zB 50) 69 = .ok (.aload_n 0, 1) := by decide +kernel
theorem dX8_guest_70 : decode (zB 50) 70 = .ok (.getfield 23, 3) := by decide +kernel
theorem dX8_guest_73 : decode (zB 50) 73 = .ok (.iload 4, 2) := by decide +kernel
theorem dX8_guest_75 : decode (zB 50) 75 = .ok (.iconst 1, 1) := by decide +kernel
theorem dX8_guest_76 : decode (zB 50) 76 = .ok (.iadd, 1) := by decide +kernel
theorem dX8_guest_77 : decode (zB 50) 77 = .ok (.putfield 144, 3) := by decide +kernel
theorem dX8_guest_80 : decode (zB 50) 80 = .ok (.aload_n 0, 1) := by decide +kernel
theorem dX8_guest_81 : decode (zB 50) 81 = .ok (.getfield 23, 3) := by decide +kernel
theorem dX8_guest_84 : decode (zB 50) 84 = .ok (.iload 4, 2) := by decide +kernel
theorem dX8_guest_86 : decode (zB 50) 86 = .ok (.iload_n 1, 1) := by decide +kernel
theorem dX8_guest_87 : decode (zB 50) 87 = .ok (.iload_n 2, 1) := by decide +kernel
theorem dX8_guest_88 : decode (zB 50) 88 = .ok (.iload_n 3, 1) := by decide +kernel
theorem dX8_guest_89 : decode (zB 50) 89 = .ok (.invokevirtual 145, 3) := by decide +kernel
theorem dX8_guest_92 : decode (zB 50) 92 = .ok (.aload_n 0, 1) := by decide +kernel
theorem dX8_guest_93 : decode (zB 50) 93 = .ok (.invokevirtual 109, 3) := by decide +kernel
theorem dX8_guest_96 : decode (zB 50) 96 = .ok (.iload 4, 2) := by decide +kernel
theorem dX8_guest_98 : decode (zB 50) 98 = .ok (.ireturn, 1) := by decide +kernel
theorem dX8_ofGuest_0 : decode (zB 51) 0 = .ok (.aload_n 0, 1) := by decide +kernel
theorem dX8_ofGuest_1 : decode (zB 51) 1 = .ok (.getfield 23, 3) := by decide +kernel
theorem dX8_ofGuest_4 : decode (zB 51) 4 = .ok (.iload_n 1, 1) := by decide +kernel
theorem dX8_ofGuest_5 : decode (zB 51) 5 = .ok (.invokevirtual 149, 3) := by decide +kernel
theorem dX8_ofGuest_8 : decode (zB 51) 8 = .ok (.ifCond .ne 5, 3) := by decide +kernel
theorem dX8_ofGuest_11 : decode (zB 51) 11 = .ok (.iconst (-1), 1) := by decide +kernel
theorem dX8_ofGuest_12 : decode (zB 51) 12 = .ok (.ireturn, 1) := by decide +kernel
theorem dX8_ofGuest_13 : decode (zB 51) 13 = .ok (.iload_n 2, 1) := by decide +kernel
theorem dX8_ofGuest_14 : decode (zB 51) 14 = .ok (.tableswitch 70 0 3 #[30, 40, 50, 60], 30) := by decide +kernel
theorem dX8_ofGuest_44 : decode (zB 51) 44 = .ok (.aload_n 0, 1) := by decide +kernel
theorem dX8_ofGuest_45 : decode (zB 51) 45 = .ok (.getfield 23, 3) := by decide +kernel
theorem dX8_ofGuest_48 : decode (zB 51) 48 = .ok (.getfield 150, 3) := by decide +kernel
theorem dX8_ofGuest_51 : decode (zB 51) 51 = .ok (.iload_n 1, 1) := by decide +kernel
theorem dX8_ofGuest_52 : decode (zB 51) 52 = .ok (.iaload, 1) := by decide +kernel
theorem dX8_ofGuest_53 : decode (zB 51) 53 = .ok (.ireturn, 1) := by decide +kernel
theorem dX8_ofGuest_54 : decode (zB 51) 54 = .ok (.aload_n 0, 1) := by decide +kernel
theorem dX8_ofGuest_55 : decode (zB 51) 55 = .ok (.getfield 23, 3) := by decide +kernel
theorem dX8_ofGuest_58 : decode (zB 51) 58 = .ok (.getfield 154, 3) := by decide +kernel
theorem dX8_ofGuest_61 : decode (zB 51) 61 = .ok (.iload_n 1, 1) := by decide +kernel
theorem dX8_ofGuest_62 : decode (zB 51) 62 = .ok (.iaload, 1) := by decide +kernel
theorem dX8_ofGuest_63 : decode (zB 51) 63 = .ok (.ireturn, 1) := by decide +kernel
theorem dX8_ofGuest_64 : decode (zB 51) 64 = .ok (.aload_n 0, 1) := by decide +kernel
theorem dX8_ofGuest_65 : decode (zB 51) 65 = .ok (.getfield 23, 3) := by decide +kernel
theorem dX8_ofGuest_68 : decode (zB 51) 68 = .ok (.getfield 157, 3) := by decide +kernel
theorem dX8_ofGuest_71 : decode (zB 51) 71 = .ok (.iload_n 1, 1) := by decide +kernel
theorem dX8_ofGuest_72 : decode (zB 51) 72 = .ok (.iaload, 1) := by decide +kernel
theorem dX8_ofGuest_73 : decode (zB 51) 73 = .ok (.ireturn, 1) := by decide +kernel
theorem dX8_ofGuest_74 : decode (zB 51) 74 = .ok (.aload_n 0, 1) := by decide +kernel
theorem dX8_ofGuest_75 : decode (zB 51) 75 = .ok (.getfield 23, 3) := by decide +kernel
theorem dX8_ofGuest_78 : decode (zB 51) 78 = .ok (.getfield 160, 3) := by decide +kernel
theorem dX8_ofGuest_81 : decode (zB 51) 81 = .ok (.iload_n 1, 1) := by decide +kernel
theorem dX8_ofGuest_82 : decode (zB 51) 82 = .ok (.iaload, 1) := by decide +kernel
theorem dX8_ofGuest_83 : decode (zB 51) 83 = .ok (.ireturn, 1) := by decide +kernel
theorem dX8_ofGuest_84 : decode (zB 51) 84 = .ok (.bipush (-2), 2) := by decide +kernel
theorem dX8_ofGuest_86 : decode (zB 51) 86 = .ok (.ireturn, 1) := by decide +kernel
theorem dX8_lodge_0 : decode (zB 52) 0 = .ok (.aload_n 0, 1) := by decide +kernel
theorem dX8_lodge_1 : decode (zB 52) 1 = .ok (.getfield 23, 3) := by decide +kernel
theorem dX8_lodge_4 : decode (zB 52) 4 = .ok (.iload_n 1, 1) := by decide +kernel
theorem dX8_lodge_5 : decode (zB 52) 5 = .ok (.invokevirtual 149, 3) := by decide +kernel
theorem dX8_lodge_8 : decode (zB 52) 8 = .ok (.ifCond .eq 20, 3) := by decide +kernel
theorem dX8_lodge_11 : decode (zB 52) 11 = .ok (.iload_n 2, 1) := by decide +kernel
theorem dX8_lodge_12 : decode (zB 52) 12 = .ok (.bipush (-9), 2) := by decide +kernel
theorem dX8_lodge_14 : decode (zB 52) 14 = .ok (.if_icmp .eq 16, 3) := by decide +kernel
theorem dX8_lodge_17 : decode (zB 52) 17 = .ok (.aload_n 0, 1) := by decide +kernel
theorem dX8_lodge_18 : decode (zB 52) 18 = .ok (.getfield 14, 3) := by decide +kernel
theorem dX8_lodge_21 : decode (zB 52) 21 = .ok (.iload_n 2, 1) := by decide +kernel
theorem dX8_lodge_22 : decode (zB 52) 22 = .ok (.invokevirtual 113, 3) := by decide +kernel
theorem dX8_lodge_25 : decode (zB 52) 25 = .ok (.ifCond .ne 5, 3) := by decide +kernel
theorem dX8_lodge_28 : decode (zB 52) 28 = .ok (.iconst (-1), 1) := by decide +kernel
theorem dX8_lodge_29 : decode (zB 52) 29 = .ok (.ireturn, 1) := by decide +kernel
theorem dX8_lodge_30 : decode (zB 52) 30 = .ok (.aload_n 0, 1) := by decide +kernel
theorem dX8_lodge_31 : decode (zB 52) 31 = .ok (.getfield 23, 3) := by decide +kernel
theorem dX8_lodge_34 : decode (zB 52) 34 = .ok (.getfield 160, 3) := by decide +kernel
theorem dX8_lodge_37 : decode (zB 52) 37 = .ok (.iload_n 1, 1) := by decide +kernel
theorem dX8_lodge_38 : decode (zB 52) 38 = .ok (.iaload, 1) := by decide +kernel
theorem dX8_lodge_39 : decode (zB 52) 39 = .ok (.istore_n 3, 1) := by decide +kernel
theorem dX8_lodge_40 : decode (zB 52) 40 = .ok (.aload_n 0, 1) := by decide +kernel
theorem dX8_lodge_41 : decode (zB 52) 41 = .ok (.getfield 23, 3) := by decide +kernel
theorem dX8_lodge_44 : decode (zB 52) 44 = .ok (.getfield 160, 3) := by decide +kernel
theorem dX8_lodge_47 : decode (zB 52) 47 = .ok (.iload_n 1, 1) := by decide +kernel
theorem dX8_lodge_48 : decode (zB 52) 48 = .ok (.iload_n 2, 1) := by decide +kernel
theorem dX8_lodge_49 : decode (zB 52) 49 = .ok (.iastore, 1) := by decide +kernel
theorem dX8_lodge_50 : decode (zB 52) 50 = .ok (.iload_n 2, 1) := by decide +kernel
theorem dX8_lodge_51 : decode (zB 52) 51 = .ok (.bipush (-9), 2) := by decide +kernel
theorem dX8_lodge_53 : decode (zB 52) 53 = .ok (.if_icmp .eq 33, 3) := by decide +kernel
theorem dX8_lodge_56 : decode (zB 52) 56 = .ok (.aload_n 0, 1) := by decide +kernel
theorem dX8_lodge_57 : decode (zB 52) 57 = .ok (.getfield 23, 3) := by decide +kernel
theorem dX8_lodge_60 : decode (zB 52) 60 = .ok (.aload_n 0, 1) := by decide +kernel
theorem dX8_lodge_61 : decode (zB 52) 61 = .ok (.getfield 23, 3) := by decide +kernel
theorem dX8_lodge_64 : decode (zB 52) 64 = .ok (.getfield 160, 3) := by decide +kernel
theorem dX8_lodge_67 : decode (zB 52) 67 = .ok (.invokevirtual 163, 3) := by decide +kernel
theorem dX8_lodge_70 : decode (zB 52) 70 = .ok (.ifCond .ne 16, 3) := by decide +kernel
theorem dX8_lodge_73 : decode (zB 52) 73 = .ok (.aload_n 0, 1) := by decide +kernel
theorem dX8_lodge_74 : decode (zB 52) 74 = .ok (.getfield 23, 3) := by decide +kernel
theorem dX8_lodge_77 : decode (zB 52) 77 = .ok (.getfield 160, 3) := by decide +kernel
theorem dX8_lodge_80 : decode (zB 52) 80 = .ok (.iload_n 1, 1) := by decide +kernel
theorem dX8_lodge_81 : decode (zB 52) 81 = .ok (.iload_n 3, 1) := by decide +kernel
theorem dX8_lodge_82 : decode (zB 52) 82 = .ok (.iastore, 1) := by decide +kernel
theorem dX8_lodge_83 : decode (zB 52) 83 = .ok (.bipush (-3), 2) := by decide +kernel
theorem dX8_lodge_85 : decode (zB 52) 85 = .ok (.ireturn, 1) := by decide +kernel
theorem dX8_lodge_86 : decode (zB 52) 86 = .ok (.aload_n 0, 1) := by decide +kernel
theorem dX8_lodge_87 : decode (zB 52) 87 = .ok (.invokevirtual 109, 3) := by decide +kernel
theorem dX8_lodge_90 : decode (zB 52) 90 = .ok (.iload_n 3, 1) := by decide +kernel
theorem dX8_lodge_91 : decode (zB 52) 91 = .ok (.ireturn, 1) := by decide +kernel
theorem dX8_depth_0 : decode (zB 53) 0 = .ok (.aload_n 0, 1) := by decide +kernel
theorem dX8_depth_1 : decode (zB 53) 1 = .ok (.getfield 14, 3) := by decide +kernel
theorem dX8_depth_4 : decode (zB 53) 4 = .ok (.iload_n 1, 1) := by decide +kernel
theorem dX8_depth_5 : decode (zB 53) 5 = .ok (.invokevirtual 113, 3) := by decide +kernel
theorem dX8_depth_8 : decode (zB 53) 8 = .ok (.ifCond .ne 5, 3) := by decide +kernel
theorem dX8_depth_11 : decode (zB 53) 11 = .ok (.iconst (-1), 1) := by decide +kernel
theorem dX8_depth_12 : decode (zB 53) 12 = .ok (.ireturn, 1) := by decide +kernel
theorem dX8_depth_13 : decode (zB 53) 13 = .ok (.iload_n 2, 1) := by decide +kernel
theorem dX8_depth_14 : decode (zB 53) 14 = .ok (.invokestatic 167, 3) := by decide +kernel
theorem dX8_depth_17 : decode (zB 53) 17 = .ok (.ifCond .ne 6, 3) := by decide +kernel
theorem dX8_depth_20 : decode (zB 53) 20 = .ok (.bipush (-2), 2) := by decide +kernel
theorem dX8_depth_22 : decode (zB 53) 22 = .ok (.ireturn, 1) := by decide +kernel
theorem dX8_depth_23 : decode (zB 53) 23 = .ok (.aload_n 0, 1) := by decide +kernel
theorem dX8_depth_24 : decode (zB 53) 24 = .ok (.invokevirtual 170, 3) := by decide +kernel
theorem dX8_depth_27 : decode (zB 53) 27 = .ok (.iload_n 1, 1) := by decide +kernel
theorem dX8_depth_28 : decode (zB 53) 28 = .ok (.iload_n 2, 1) := by decide +kernel
theorem dX8_depth_29 : decode (zB 53) 29 = .ok (.invokevirtual 174, 3) := by decide +kernel
theorem dX8_depth_32 : decode (zB 53) 32 = .ok (.ireturn, 1) := by decide +kernel
theorem dX8_reach_0 : decode (zB 54) 0 = .ok (.aload_n 0, 1) := by decide +kernel
theorem dX8_reach_1 : decode (zB 54) 1 = .ok (.getfield 14, 3) := by decide +kernel
theorem dX8_reach_4 : decode (zB 54) 4 = .ok (.iload_n 1, 1) := by decide +kernel
theorem dX8_reach_5 : decode (zB 54) 5 = .ok (.invokevirtual 113, 3) := by decide +kernel
theorem dX8_reach_8 : decode (zB 54) 8 = .ok (.ifCond .ne 5, 3) := by decide +kernel
theorem dX8_reach_11 : decode (zB 54) 11 = .ok (.iconst (-1), 1) := by decide +kernel
theorem dX8_reach_12 : decode (zB 54) 12 = .ok (.ireturn, 1) := by decide +kernel
theorem dX8_reach_13 : decode (zB 54) 13 = .ok (.iload_n 2, 1) := by decide +kernel
theorem dX8_reach_14 : decode (zB 54) 14 = .ok (.invokestatic 167, 3) := by decide +kernel
theorem dX8_reach_17 : decode (zB 54) 17 = .ok (.ifCond .ne 6, 3) := by decide +kernel
theorem dX8_reach_20 : decode (zB 54) 20 = .ok (.bipush (-2), 2) := by decide +kernel
theorem dX8_reach_22 : decode (zB 54) 22 = .ok (.ireturn, 1) := by decide +kernel
theorem dX8_reach_23 : decode (zB 54) 23 = .ok (.aload_n 0, 1) := by decide +kernel
theorem dX8_reach_24 : decode (zB 54) 24 = .ok (.invokevirtual 170, 3) := by decide +kernel
theorem dX8_reach_27 : decode (zB 54) 27 = .ok (.astore_n 3, 1) := by decide +kernel
theorem dX8_reach_28 : decode (zB 54) 28 = .ok (.iconst 1, 1) := by decide +kernel
theorem dX8_reach_29 : decode (zB 54) 29 = .ok (.iload_n 1, 1) := by decide +kernel
theorem dX8_reach_30 : decode (zB 54) 30 = .ok (.ishl, 1) := by decide +kernel
theorem dX8_reach_31 : decode (zB 54) 31 = .ok (.istore 4, 2) := by decide +kernel
theorem dX8_reach_33 : decode (zB 54) 33 = .ok (.iload_n 1, 1) := by decide +kernel
theorem dX8_reach_34 : decode (zB 54) 34 = .ok (.iconst 1, 1) := by decide +kernel
theorem dX8_reach_35 : decode (zB 54) 35 = .ok (.isub, 1) := by decide +kernel
theorem dX8_reach_36 : decode (zB 54) 36 = .ok (.istore 5, 2) := by decide +kernel
theorem dX8_reach_38 : decode (zB 54) 38 = .ok (.iload 5, 2) := by decide +kernel
theorem dX8_reach_40 : decode (zB 54) 40 = .ok (.ifCond .lt 28, 3) := by decide +kernel
theorem dX8_reach_43 : decode (zB 54) 43 = .ok (.aload_n 3, 1) := by decide +kernel
theorem dX8_reach_44 : decode (zB 54) 44 = .ok (.iload 5, 2) := by decide +kernel
theorem dX8_reach_46 : decode (zB 54) 46 = .ok (.iload_n 2, 1) := by decide +kernel
theorem dX8_reach_47 : decode (zB 54) 47 = .ok (.invokevirtual 178, 3) := by decide +kernel
theorem dX8_reach_50 : decode (zB 54) 50 = .ok (.ifCond .eq 18, 3) := by decide +kernel
theorem dX8_reach_53 : decode (zB 54) 53 = .ok (.iload 4, 2) := by decide +kernel
theorem dX8_reach_55 : decode (zB 54) 55 = .ok (.iconst 1, 1) := by decide +kernel
theorem dX8_reach_56 : decode (zB 54) 56 = .ok (.iload 5, 2) := by decide +kernel
theorem dX8_reach_58 : decode (zB 54) 58 = .ok (.ishl, 1) := by decide +kernel
theorem dX8_reach_59 : decode (zB 54) 59 = .ok (.ior, 1) := by decide +kernel
theorem dX8_reach_60 : decode (zB 54) 60 = .ok (.istore 4, 2) := by decide +kernel
theorem dX8_reach_62 : decode (zB 54) 62 = .ok (.iinc 5 (-1), 3) := by decide +kernel
theorem dX8_reach_65 : decode (zB 54) 65 = .ok (.goto (-27), 3) := by decide +kernel
theorem dX8_reach_68 : decode (zB 54) 68 = .ok (.iload_n 1, 1) := by decide +kernel
theorem dX8_reach_69 : decode (zB 54) 69 = .ok (.iconst 1, 1) := by decide +kernel
theorem dX8_reach_70 : decode (zB 54) 70 = .ok (.iadd, 1) := by decide +kernel
theorem dX8_reach_71 : decode (zB 54) 71 = .ok (.istore 5, 2) := by decide +kernel
theorem dX8_reach_73 : decode (zB 54) 73 = .ok (.iload 5, 2) := by decide +kernel
theorem dX8_reach_75 : decode (zB 54) 75 = .ok (.aload_n 0, 1) := by decide +kernel
theorem dX8_reach_76 : decode (zB 54) 76 = .ok (.getfield 14, 3) := by decide +kernel
theorem dX8_reach_79 : decode (zB 54) 79 = .ok (.getfield 112, 3) := by decide +kernel
theorem dX8_reach_82 : decode (zB 54) 82 = .ok (.if_icmp .ge 30, 3) := by decide +kernel
theorem dX8_reach_85 : decode (zB 54) 85 = .ok (.aload_n 3, 1) := by decide +kernel
theorem dX8_reach_86 : decode (zB 54) 86 = .ok (.iload 5, 2) := by decide +kernel
theorem dX8_reach_88 : decode (zB 54) 88 = .ok (.iconst 1, 1) := by decide +kernel
theorem dX8_reach_89 : decode (zB 54) 89 = .ok (.isub, 1) := by decide +kernel
theorem dX8_reach_90 : decode (zB 54) 90 = .ok (.iload_n 2, 1) := by decide +kernel
theorem dX8_reach_91 : decode (zB 54) 91 = .ok (.invokevirtual 178, 3) := by decide +kernel
theorem dX8_reach_94 : decode (zB 54) 94 = .ok (.ifCond .eq 18, 3) := by decide +kernel
theorem dX8_reach_97 : decode (zB 54) 97 = .ok (.iload 4, 2) := by decide +kernel
theorem dX8_reach_99 : decode (zB 54) 99 = .ok (.iconst 1, 1) := by decide +kernel
theorem dX8_reach_100 : decode (zB 54) 100 = .ok (.iload 5, 2) := by decide +kernel
theorem dX8_reach_102 : decode (zB 54) 102 = .ok (.ishl, 1) := by decide +kernel
theorem dX8_reach_103 : decode (zB 54) 103 = .ok (.ior, 1) := by decide +kernel
theorem dX8_reach_104 : decode (zB 54) 104 = .ok (.istore 4, 2) := by decide +kernel
theorem dX8_reach_106 : decode (zB 54) 106 = .ok (.iinc 5 1, 3) := by decide +kernel
theorem dX8_reach_109 : decode (zB 54) 109 = .ok (.goto (-36), 3) := by decide +kernel
theorem dX8_reach_112 : decode (zB 54) 112 = .ok (.iload 4, 2) := by decide +kernel
theorem dX8_reach_114 : decode (zB 54) 114 = .ok (.ireturn, 1) := by decide +kernel
theorem dX8_planks_0 : decode (zB 55) 0 = .ok (.iload_n 1, 1) := by decide +kernel
theorem dX8_planks_1 : decode (zB 55) 1 = .ok (.iconst (-1), 1) := by decide +kernel
theorem dX8_planks_2 : decode (zB 55) 2 = .ok (.if_icmp .eq 13, 3) := by decide +kernel
theorem dX8_planks_5 : decode (zB 55) 5 = .ok (.iload_n 1, 1) := by decide +kernel
theorem dX8_planks_6 : decode (zB 55) 6 = .ok (.invokestatic 167, 3) := by decide +kernel
theorem dX8_planks_9 : decode (zB 55) 9 = .ok (.ifCond .ne 6, 3) := by decide +kernel
theorem dX8_planks_12 : decode (zB 55) 12 = .ok (.bipush (-2), 2) := by decide +kernel
theorem dX8_planks_14 : decode (zB 55) 14 = .ok (.ireturn, 1) := by decide +kernel
theorem dX8_planks_15 : decode (zB 55) 15 = .ok (.aload_n 0, 1) := by decide +kernel
theorem dX8_planks_16 : decode (zB 55) 16 = .ok (.getfield 14, 3) := by decide +kernel
theorem dX8_planks_19 : decode (zB 55) 19 = .ok (.getfield 112, 3) := by decide +kernel
theorem dX8_planks_22 : decode (zB 55) 22 = .ok (.ifCond .ne 6, 3) := by decide +kernel
theorem dX8_planks_25 : decode (zB 55) 25 = .ok (.bipush (-3), 2) := by decide +kernel
theorem dX8_planks_27 : decode (zB 55) 27 = .ok (.ireturn, 1) := by decide +kernel
theorem dX8_planks_28 : decode (zB 55) 28 = .ok (.aload_n 0, 1) := by decide +kernel
theorem dX8_planks_29 : decode (zB 55) 29 = .ok (.invokevirtual 170, 3) := by decide +kernel
theorem dX8_planks_32 : decode (zB 55) 32 = .ok (.astore_n 2, 1) := by decide +kernel
theorem dX8_planks_33 : decode (zB 55) 33 = .ok (.iload_n 1, 1) := by decide +kernel
theorem dX8_planks_34 : decode (zB 55) 34 = .ok (.iconst (-1), 1) := by decide +kernel
theorem dX8_planks_35 : decode (zB 55) 35 = .ok (.if_icmp .eq 9, 3) := by decide +kernel
theorem dX8_planks_38 : decode (zB 55) 38 = .ok (.aload_n 2, 1) := by decide +kernel
theorem dX8_planks_39 : decode (zB 55) 39 = .ok (.iload_n 1, 1) := by decide +kernel
theorem dX8_planks_40 : decode (zB 55) 40 = .ok (.invokevirtual 181, 3) := by decide +kernel
theorem dX8_planks_43 : decode (zB 55) 43 = .ok (.ireturn, 1) := by decide +kernel
theorem dX8_planks_44 : decode (zB 55) 44 = .ok (.iconst 0, 1) := by decide +kernel
theorem dX8_planks_45 : decode (zB 55) 45 = .ok (.istore_n 3, 1) := by decide +kernel
theorem dX8_planks_46 : decode (zB 55) 46 = .ok (.iconst 1, 1) := by decide +kernel
theorem dX8_planks_47 : decode (zB 55) 47 = .ok (.istore 4, 2) := by decide +kernel
theorem dX8_planks_49 : decode (zB 55) 49 = .ok (.iload 4, 2) := by decide +kernel
theorem dX8_planks_51 : decode (zB 55) 51 = .ok (.bipush 50, 2) := by decide +kernel
theorem dX8_planks_53 : decode (zB 55) 53 = .ok (.if_icmp .gt 18, 3) := by decide +kernel
theorem dX8_planks_56 : decode (zB 55) 56 = .ok (.iload_n 3, 1) := by decide +kernel
theorem dX8_planks_57 : decode (zB 55) 57 = .ok (.aload_n 2, 1) := by decide +kernel
theorem dX8_planks_58 : decode (zB 55) 58 = .ok (.iload 4, 2) := by decide +kernel
theorem dX8_planks_60 : decode (zB 55) 60 = .ok (.invokevirtual 181, 3) := by decide +kernel
theorem dX8_planks_63 : decode (zB 55) 63 = .ok (.iadd, 1) := by decide +kernel
theorem dX8_planks_64 : decode (zB 55) 64 = .ok (.istore_n 3, 1) := by decide +kernel
theorem dX8_planks_65 : decode (zB 55) 65 = .ok (.iinc 4 1, 3) := by decide +kernel
theorem dX8_planks_68 : decode (zB 55) 68 = .ok (.goto (-19), 3) := by decide +kernel
theorem dX8_planks_71 : decode (zB 55) 71 = .ok (.iload_n 3, 1) := by decide +kernel
theorem dX8_planks_72 : decode (zB 55) 72 = .ok (.ireturn, 1) := by decide +kernel
theorem dX8_under_0 : decode (zB 56) 0 = .ok (.iload_n 1, 1) := by decide +kernel
theorem dX8_under_1 : decode (zB 56) 1 = .ok (.iconst 0, 1) := by decide +kernel
theorem dX8_under_2 : decode (zB 56) 2 = .ok (.iconst 1, 1) := by decide +kernel
theorem dX8_under_3 : decode (zB 56) 3 = .ok (.invokestatic 137, 3) := by decide +kernel
theorem dX8_under_6 : decode (zB 56) 6 = .ok (.ifCond .ne 6, 3) := by decide +kernel
theorem dX8_under_9 : decode (zB 56) 9 = .ok (.bipush (-2), 2) := by decide +kernel
theorem dX8_under_11 : decode (zB 56) 11 = .ok (.ireturn, 1) := by decide +kernel
theorem dX8_under_12 : decode (zB 56) 12 = .ok (.aload_n 0, 1) := by decide +kernel
theorem dX8_under_13 : decode (zB 56) 13 = .ok (.getfield 14, 3) := by decide +kernel
theorem dX8_under_16 : decode (zB 56) 16 = .ok (.getfield 112, 3) := by decide +kernel
theorem dX8_under_19 : decode (zB 56) 19 = .ok (.ifCond .ne 6, 3) := by decide +kernel
theorem dX8_under_22 : decode (zB 56) 22 = .ok (.bipush (-3), 2) := by decide +kernel
theorem dX8_under_24 : decode (zB 56) 24 = .ok (.ireturn, 1) := by decide +kernel
theorem dX8_under_25 : decode (zB 56) 25 = .ok (.aload_n 0, 1) := by decide +kernel
theorem dX8_under_26 : decode (zB 56) 26 = .ok (.invokevirtual 170, 3) := by decide +kernel
theorem dX8_under_29 : decode (zB 56) 29 = .ok (.astore_n 2, 1) := by decide +kernel
theorem dX8_under_30 : decode (zB 56) 30 = .ok (.iconst 0, 1) := by decide +kernel
theorem dX8_under_31 : decode (zB 56) 31 = .ok (.istore_n 3, 1) := by decide +kernel
theorem dX8_under_32 : decode (zB 56) 32 = .ok (.iload_n 3, 1) := by decide +kernel
theorem dX8_under_33 : decode (zB 56) 33 = .ok (.bipush 50, 2) := by decide +kernel
theorem dX8_under_35 : decode (zB 56) 35 = .ok (.if_icmp .gt 51, 3) := by decide +kernel
theorem dX8_under_38 : decode (zB 56) 38 = .ok (.iconst 0, 1) := by decide +kernel
theorem dX8_under_39 : decode (zB 56) 39 = .ok (.istore 4, 2) := by decide +kernel
theorem dX8_under_41 : decode (zB 56) 41 = .ok (.iload 4, 2) := by decide +kernel
theorem dX8_under_43 : decode (zB 56) 43 = .ok (.aload_n 0, 1) := by decide +kernel
theorem dX8_under_44 : decode (zB 56) 44 = .ok (.getfield 14, 3) := by decide +kernel
theorem dX8_under_47 : decode (zB 56) 47 = .ok (.getfield 112, 3) := by decide +kernel
theorem dX8_under_50 : decode (zB 56) 50 = .ok (.if_icmp .ge 30, 3) := by decide +kernel
theorem dX8_under_53 : decode (zB 56) 53 = .ok (.aload_n 2, 1) := by decide +kernel
theorem dX8_under_54 : decode (zB 56) 54 = .ok (.iload 4, 2) := by decide +kernel
theorem dX8_under_56 : decode (zB 56) 56 = .ok (.iload_n 3, 1) := by decide +kernel
theorem dX8_under_57 : decode (zB 56) 57 = .ok (.invokevirtual 184, 3) := by decide +kernel
theorem dX8_under_60 : decode (zB 56) 60 = .ok (.ifCond .eq 14, 3) := by decide +kernel
theorem dX8_under_63 : decode (zB 56) 63 = .ok (.iload_n 1, 1) := by decide +kernel
theorem dX8_under_64 : decode (zB 56) 64 = .ok (.ifCond .ne 7, 3) := by decide +kernel
theorem dX8_under_67 : decode (zB 56) 67 = .ok (.iload_n 3, 1) := by decide +kernel
theorem dX8_under_68 : decode (zB 56) 68 = .ok (.goto 5, 3) := by decide +kernel
theorem dX8_under_71 : decode (zB 56) 71 = .ok (.iload 4, 2) := by decide +kernel
theorem dX8_under_73 : decode (zB 56) 73 = .ok (.ireturn, 1) := by decide +kernel
theorem dX8_under_74 : decode (zB 56) 74 = .ok (.iinc 4 1, 3) := by decide +kernel
theorem dX8_under_77 : decode (zB 56) 77 = .ok (.goto (-36), 3) := by decide +kernel
theorem dX8_under_80 : decode (zB 56) 80 = .ok (.iinc 3 1, 3) := by decide +kernel
theorem dX8_under_83 : decode (zB 56) 83 = .ok (.goto (-51), 3) := by decide +kernel
theorem dX8_under_86 : decode (zB 56) 86 = .ok (.bipush (-9), 2) := by decide +kernel
theorem dX8_under_88 : decode (zB 56) 88 = .ok (.ireturn, 1) := by decide +kernel
theorem dX8_open_0 : decode (zB 57) 0 = .ok (.aload_n 0, 1) := by decide +kernel
theorem dX8_open_1 : decode (zB 57) 1 = .ok (.getfield 14, 3) := by decide +kernel
theorem dX8_open_4 : decode (zB 57) 4 = .ok (.iload_n 1, 1) := by decide +kernel
theorem dX8_open_5 : decode (zB 57) 5 = .ok (.invokevirtual 113, 3) := by decide +kernel
theorem dX8_open_8 : decode (zB 57) 8 = .ok (.ifCond .eq 16, 3) := by decide +kernel
theorem dX8_open_11 : decode (zB 57) 11 = .ok (.aload_n 0, 1) := by decide +kernel
theorem dX8_open_12 : decode (zB 57) 12 = .ok (.getfield 14, 3) := by decide +kernel
theorem dX8_open_15 : decode (zB 57) 15 = .ok (.iload_n 1, 1) := by decide +kernel
theorem dX8_open_16 : decode (zB 57) 16 = .ok (.iconst 1, 1) := by decide +kernel
theorem dX8_open_17 : decode (zB 57) 17 = .ok (.iadd, 1) := by decide +kernel
theorem dX8_open_18 : decode (zB 57) 18 = .ok (.invokevirtual 113, 3) := by decide +kernel
theorem dX8_open_21 : decode (zB 57) 21 = .ok (.ifCond .ne 7, 3) := by decide +kernel
theorem dX8_open_24 : decode (zB 57) 24 = .ok (.ldc2_w 187, 3) := by decide +kernel
theorem dX8_open_27 : decode (zB 57) 27 = .ok (.lreturn, 1) := by decide +kernel
theorem dX8_open_28 : decode (zB 57) 28 = .ok (.iload_n 2, 1) := by decide +kernel
theorem dX8_open_29 : decode (zB 57) 29 = .ok (.iconst 0, 1) := by decide +kernel
theorem dX8_open_30 : decode (zB 57) 30 = .ok (.iconst 1, 1) := by decide +kernel
theorem dX8_open_31 : decode (zB 57) 31 = .ok (.invokestatic 137, 3) := by decide +kernel
theorem dX8_open_34 : decode (zB 57) 34 = .ok (.ifCond .ne 7, 3) := by decide +kernel
theorem dX8_open_37 : decode (zB 57) 37 = .ok (.ldc2_w 187, 3) := by decide +kernel
theorem dX8_open_40 : decode (zB 57) 40 = .ok (.lreturn, 1) := by decide +kernel
theorem dX8_open_41 : decode (zB 57) 41 = .ok (.aload_n 0, 1) := by decide +kernel
theorem dX8_open_42 : decode (zB 57) 42 = .ok (.invokevirtual 170, 3) := by decide +kernel
theorem dX8_open_45 : decode (zB 57) 45 = .ok (.astore_n 3, 1) := by decide +kernel
theorem dX8_open_46 : decode (zB 57) 46 = .ok (.iconst 0, 1) := by decide +kernel
theorem dX8_open_47 : decode (zB 57) 47 = .ok (.istore 4, 2) := by decide +kernel
theorem dX8_open_49 : decode (zB 57) 49 = .ok (.iconst 1, 1) := by decide +kernel
theorem dX8_open_50 : decode (zB 57) 50 = .ok (.istore 5, 2) := by decide +kernel
theorem dX8_open_52 : decode (zB 57) 52 = .ok (.iload 5, 2) := by decide +kernel
theorem dX8_open_54 : decode (zB 57) 54 = .ok (.bipush 50, 2) := by decide +kernel
theorem dX8_open_56 : decode (zB 57) 56 = .ok (.if_icmp .gt 22, 3) := by decide +kernel
theorem dX8_open_59 : decode (zB 57) 59 = .ok (.aload_n 3, 1) := by decide +kernel
theorem dX8_open_60 : decode (zB 57) 60 = .ok (.iload_n 1, 1) := by decide +kernel
theorem dX8_open_61 : decode (zB 57) 61 = .ok (.iload 5, 2) := by decide +kernel
theorem dX8_open_63 : decode (zB 57) 63 = .ok (.invokevirtual 178, 3) := by decide +kernel
theorem dX8_open_66 : decode (zB 57) 66 = .ok (.ifCond .eq 6, 3) := by decide +kernel
theorem dX8_open_69 : decode (zB 57) 69 = .ok (.iinc 4 1, 3) := by decide +kernel
theorem dX8_open_72 : decode (zB 57) 72 = .ok (.iinc 5 1, 3) := by decide +kernel
theorem dX8_open_75 : decode (zB 57) 75 = .ok (.goto (-23), 3) := by decide +kernel
theorem dX8_open_78 : decode (zB 57) 78 = .ok (.iload 4, 2) := by decide +kernel
theorem dX8_open_80 : decode (zB 57) 80 = .ok (.bipush 50, 2) := by decide +kernel
theorem dX8_open_82 : decode (zB 57) 82 = .ok (.invokestatic 189, 3) := by decide +kernel
theorem dX8_open_85 : decode (zB 57) 85 = .ok (.istore 5, 2) := by decide +kernel
theorem dX8_open_87 : decode (zB 57) 87 = .ok (.iload_n 2, 1) := by decide +kernel
theorem dX8_open_88 : decode (zB 57) 88 = .ok (.ifCond .ne 8, 3) := by decide +kernel
theorem dX8_open_91 : decode (zB 57) 91 = .ok (.iload 4, 2) := by decide +kernel
theorem dX8_open_93 : decode (zB 57) 93 = .ok (.goto 5, 3) := by decide +kernel
theorem dX8_open_96 : decode (zB 57) 96 = .ok (.bipush 50, 2) := by decide +kernel
theorem dX8_open_98 : decode (zB 57) 98 = .ok (.iload 5, 2) := by decide +kernel
theorem dX8_open_100 : decode (zB 57) 100 = .ok (.idiv, 1) := by decide +kernel
theorem dX8_open_101 : decode (zB 57) 101 = .ok (.i2l, 1) := by decide +kernel
theorem dX8_open_102 : decode (zB 57) 102 = .ok (.lreturn, 1) := by decide +kernel
theorem dX8_lodgings_0 : decode (zB 58) 0 = .ok (.iload_n 1, 1) := by decide +kernel
theorem dX8_lodgings_1 : decode (zB 58) 1 = .ok (.iconst 1, 1) := by decide +kernel
theorem dX8_lodgings_2 : decode (zB 58) 2 = .ok (.iconst 4, 1) := by decide +kernel
theorem dX8_lodgings_3 : decode (zB 58) 3 = .ok (.invokestatic 137, 3) := by decide +kernel
theorem dX8_lodgings_6 : decode (zB 58) 6 = .ok (.ifCond .eq 14, 3) := by decide +kernel
theorem dX8_lodgings_9 : decode (zB 58) 9 = .ok (.iload_n 1, 1) := by decide +kernel
theorem dX8_lodgings_10 : decode (zB 58) 10 = .ok (.aload_n 0, 1) := by decide +kernel
theorem dX8_lodgings_11 : decode (zB 58) 11 = .ok (.getfield 23, 3) := by decide +kernel
theorem dX8_lodgings_14 : decode (zB 58) 14 = .ok (.getfield 144, 3) := by decide +kernel
theorem dX8_lodgings_17 : decode (zB 58) 17 = .ok (.if_icmp .le 6, 3) := by decide +kernel
theorem dX8_lodgings_20 : decode (zB 58) 20 = .ok (.bipush (-2), 2) := by decide +kernel
theorem dX8_lodgings_22 : decode (zB 58) 22 = .ok (.ireturn, 1) := by decide +kernel
theorem dX8_lodgings_23 : decode (zB 58) 23 = .ok (.iload_n 2, 1) := by decide +kernel
theorem dX8_lodgings_24 : decode (zB 58) 24 = .ok (.iconst (-1), 1) := by decide +kernel
theorem dX8_lodgings_25 : decode (zB 58) 25 = .ok (.iload_n 1, 1) := by decide +kernel
theorem dX8_lodgings_26 : decode (zB 58) 26 = .ok (.iconst 1, 1) := by decide +kernel
theorem dX8_lodgings_27 : decode (zB 58) 27 = .ok (.isub, 1) := by decide +kernel
theorem dX8_lodgings_28 : decode (zB 58) 28 = .ok (.invokestatic 137, 3) := by decide +kernel
theorem dX8_lodgings_31 : decode (zB 58) 31 = .ok (.ifCond .ne 5, 3) := by decide +kernel
theorem dX8_lodgings_34 : decode (zB 58) 34 = .ok (.iconst (-1), 1) := by decide +kernel
theorem dX8_lodgings_35 : decode (zB 58) 35 = .ok (.ireturn, 1) := by decide +kernel
theorem dX8_lodgings_36 : decode (zB 58) 36 = .ok (.aload_n 0, 1) := by decide +kernel
theorem dX8_lodgings_37 : decode (zB 58) 37 = .ok (.getfield 51, 3) := by decide +kernel
theorem dX8_lodgings_40 : decode (zB 58) 40 = .ok (.iload_n 1, 1) := by decide +kernel
theorem dX8_lodgings_41 : decode (zB 58) 41 = .ok (.invokevirtual 192, 3) := by decide +kernel
theorem dX8_lodgings_44 : decode (zB 58) 44 = .ok (.iload_n 2, 1) := by decide +kernel
theorem dX8_lodgings_45 : decode (zB 58) 45 = .ok (.iconst (-1), 1) := by decide +kernel
theorem dX8_lodgings_46 : decode (zB 58) 46 = .ok (.if_icmp .ne 14, 3) := by decide +kernel
theorem dX8_lodgings_49 : decode (zB 58) 49 = .ok (.aload_n 0, 1) := by decide +kernel
theorem dX8_lodgings_50 : decode (zB 58) 50 = .ok (.getfield 51, 3) := by decide +kernel
theorem dX8_lodgings_53 : decode (zB 58) 53 = .ok (.iload_n 1, 1) := by decide +kernel
theorem dX8_lodgings_54 : decode (zB 58) 54 = .ok (.invokevirtual 196, 3) := by decide +kernel
theorem dX8_lodgings_57 : decode (zB 58) 57 = .ok (.goto 12, 3) := by decide +kernel
theorem dX8_lodgings_60 : decode (zB 58) 60 = .ok (.aload_n 0, 1) := by decide +kernel
theorem dX8_lodgings_61 : decode (zB 58) 61 = .ok (.getfield 51, 3) := by decide +kernel
theorem dX8_lodgings_64 : decode (zB 58) 64 = .ok (.iload_n 1, 1) := by decide +kernel
theorem dX8_lodgings_65 : decode (zB 58) 65 = .ok (.iload_n 2, 1) := by decide +kernel
theorem dX8_lodgings_66 : decode (zB 58) 66 = .ok (.invokevirtual 199, 3) := by decide +kernel
theorem dX8_lodgings_69 : decode (zB 58) 69 = .ok (.ireturn, 1) := by decide +kernel
theorem dX8_feast_0 : decode (zB 59) 0 = .ok (.aload_n 0, 1) := by decide +kernel
theorem dX8_feast_1 : decode (zB 59) 1 = .ok (.getfield 14, 3) := by decide +kernel
theorem dX8_feast_4 : decode (zB 59) 4 = .ok (.iload_n 1, 1) := by decide +kernel
theorem dX8_feast_5 : decode (zB 59) 5 = .ok (.invokevirtual 113, 3) := by decide +kernel
theorem dX8_feast_8 : decode (zB 59) 8 = .ok (.ifCond .ne 5, 3) := by decide +kernel
theorem dX8_feast_11 : decode (zB 59) 11 = .ok (.iconst (-1), 1) := by decide +kernel
theorem dX8_feast_12 : decode (zB 59) 12 = .ok (.ireturn, 1) := by decide +kernel
theorem dX8_feast_13 : decode (zB 59) 13 = .ok (.iload_n 2, 1) := by decide +kernel
theorem dX8_feast_14 : decode (zB 59) 14 = .ok (.iconst 1, 1) := by decide +kernel
theorem dX8_feast_15 : decode (zB 59) 15 = .ok (.sipush 300, 3) := by decide +kernel
theorem dX8_feast_18 : decode (zB 59) 18 = .ok (.invokestatic 137, 3) := by decide +kernel
theorem dX8_feast_21 : decode (zB 59) 21 = .ok (.ifCond .eq 10, 3) := by decide +kernel
theorem dX8_feast_24 : decode (zB 59) 24 = .ok (.iload_n 3, 1) := by decide +kernel
theorem dX8_feast_25 : decode (zB 59) 25 = .ok (.invokestatic 141, 3) := by decide +kernel
theorem dX8_feast_28 : decode (zB 59) 28 = .ok (.ifCond .ne 6, 3) := by decide +kernel
theorem dX8_feast_31 : decode (zB 59) 31 = .ok (.bipush (-2), 2) := by decide +kernel
theorem dX8_feast_33 : decode (zB 59) 33 = .ok (.ireturn, 1) := by decide +kernel
theorem dX8_feast_34 : decode (zB 59) 34 = .ok (.aload_n 0, 1) := by decide +kernel
theorem dX8_feast_35 : decode (zB 59) 35 = .ok (.getfield 23, 3) := by decide +kernel
theorem dX8_feast_38 : decode (zB 59) 38 = .ok (.bipush 8, 2) := by decide +kernel
theorem dX8_feast_40 : decode (zB 59) 40 = .ok (.iload_n 2, 1) := by decide +kernel
theorem dX8_feast_41 : decode (zB 59) 41 = .ok (.iload_n 3, 1) := by decide +kernel
theorem dX8_feast_42 : decode (zB 59) 42 = .ok (.bipush 49, 2) := by decide +kernel
theorem dX8_feast_44 : decode (zB 59) 44 = .ok (.invokevirtual 145, 3) := by decide +kernel
theorem dX8_feast_47 : decode (zB 59) 47 = .ok (.aload_n 0, 1) := by decide +kernel
theorem dX8_feast_48 : decode (zB 59) 48 = .ok (.getfield 23, 3) := by decide +kernel
theorem dX8_feast_51 : decode (zB 59) 51 = .ok (.getfield 160, 3) := by decide +kernel
theorem dX8_feast_54 : decode (zB 59) 54 = .ok (.bipush 8, 2) := by decide +kernel
theorem dX8_feast_56 : decode (zB 59) 56 = .ok (.iload_n 1, 1) := by decide +kernel
theorem dX8_feast_57 : decode (zB 59) 57 = .ok (.iastore, 1) := by decide +kernel
theorem dX8_feast_58 : decode (zB 59) 58 = .ok (.aload_n 0, 1) := by decide +kernel
theorem dX8_feast_59 : decode (zB 59) 59 = .ok (.iload_n 1, 1) := by decide +kernel
theorem dX8_feast_60 : decode (zB 59) 60 = .ok (.iload_n 3, 1) := by decide +kernel
theorem dX8_feast_61 : decode (zB 59) 61 = .ok (.invokevirtual 202, 3) := by decide +kernel
theorem dX8_feast_64 : decode (zB 59) 64 = .ok (.istore 4, 2) := by decide +kernel
theorem dX8_feast_66 : decode (zB 59) 66 = .ok (.aload_n 0, 1) := by decide +kernel
theorem dX8_feast_67 : decode (zB 59) 67 = .ok (.getfield 23, 3) := by decide +kernel
theorem dX8_feast_70 : decode (zB 59) 70 = .ok (.getfield 160, 3) := by decide +kernel
theorem dX8_feast_73 : decode (zB 59) 73 = .ok (.bipush 8, 2) := by decide +kernel
theorem dX8_feast_75 : decode (zB 59) 75 = .ok (.bipush (-9), 2) := by decide +kernel
theorem dX8_feast_77 : decode (zB 59) 77 = .ok (.iastore, 1) := by decide +kernel
theorem dX8_feast_78 : decode (zB 59) 78 = .ok (.iload 4, 2) := by decide +kernel
theorem dX8_feast_80 : decode (zB 59) 80 = .ok (.ireturn, 1) := by decide +kernel
theorem dX8_way_0 : decode (zB 60) 0 = .ok (.aload_n 0, 1) := by decide +kernel
theorem dX8_way_1 : decode (zB 60) 1 = .ok (.getfield 14, 3) := by decide +kernel
theorem dX8_way_4 : decode (zB 60) 4 = .ok (.iload_n 1, 1) := by decide +kernel
theorem dX8_way_5 : decode (zB 60) 5 = .ok (.invokevirtual 113, 3) := by decide +kernel
theorem dX8_way_8 : decode (zB 60) 8 = .ok (.ifCond .eq 14, 3) := by decide +kernel
theorem dX8_way_11 : decode (zB 60) 11 = .ok (.aload_n 0, 1) := by decide +kernel
theorem dX8_way_12 : decode (zB 60) 12 = .ok (.getfield 14, 3) := by decide +kernel
theorem dX8_way_15 : decode (zB 60) 15 = .ok (.iload_n 2, 1) := by decide +kernel
theorem dX8_way_16 : decode (zB 60) 16 = .ok (.invokevirtual 113, 3) := by decide +kernel
theorem dX8_way_19 : decode (zB 60) 19 = .ok (.ifCond .ne 5, 3) := by decide +kernel
theorem dX8_way_22 : decode (zB 60) 22 = .ok (.iconst (-1), 1) := by decide +kernel
theorem dX8_way_23 : decode (zB 60) 23 = .ok (.ireturn, 1) := by decide +kernel
theorem dX8_way_24 : decode (zB 60) 24 = .ok (.iload_n 3, 1) := by decide +kernel
theorem dX8_way_25 : decode (zB 60) 25 = .ok (.invokestatic 167, 3) := by decide +kernel
theorem dX8_way_28 : decode (zB 60) 28 = .ok (.ifCond .ne 6, 3) := by decide +kernel
theorem dX8_way_31 : decode (zB 60) 31 = .ok (.bipush (-2), 2) := by decide +kernel
theorem dX8_way_33 : decode (zB 60) 33 = .ok (.ireturn, 1) := by decide +kernel
theorem dX8_way_34 : decode (zB 60) 34 = .ok (.aload_n 0, 1) := by decide +kernel
theorem dX8_way_35 : decode (zB 60) 35 = .ok (.invokevirtual 170, 3) := by decide +kernel
theorem dX8_way_38 : decode (zB 60) 38 = .ok (.astore 4, 2) := by decide +kernel
theorem dX8_way_40 : decode (zB 60) 40 = .ok (.iconst 1, 1) := by decide +kernel
theorem dX8_way_41 : decode (zB 60) 41 = .ok (.iload_n 1, 1) := by decide +kernel
theorem dX8_way_42 : decode (zB 60) 42 = .ok (.ishl, 1) := by decide +kernel
theorem dX8_way_43 : decode (zB 60) 43 = .ok (.istore 5, 2) := by decide +kernel
theorem dX8_way_45 : decode (zB 60) 45 = .ok (.iload_n 3, 1) := by decide +kernel
theorem dX8_way_46 : decode (zB 60) 46 = .ok (.istore 6, 2) := by decide +kernel
theorem dX8_way_48 : decode (zB 60) 48 = .ok (.iload 6, 2) := by decide +kernel
theorem dX8_way_50 : decode (zB 60) 50 = .ok (.bipush 50, 2) := by decide +kernel
theorem dX8_way_52 : decode (zB 60) 52 = .ok (.if_icmp .gt 33, 3) := by decide +kernel
theorem dX8_way_55 : decode (zB 60) 55 = .ok (.aload 4, 2) := by decide +kernel
theorem dX8_way_57 : decode (zB 60) 57 = .ok (.iload 5, 2) := by decide +kernel
theorem dX8_way_59 : decode (zB 60) 59 = .ok (.iload 6, 2) := by decide +kernel
theorem dX8_way_61 : decode (zB 60) 61 = .ok (.invokevirtual 205, 3) := by decide +kernel
theorem dX8_way_64 : decode (zB 60) 64 = .ok (.istore 5, 2) := by decide +kernel
theorem dX8_way_66 : decode (zB 60) 66 = .ok (.iload 5, 2) := by decide +kernel
theorem dX8_way_68 : decode (zB 60) 68 = .ok (.iload_n 2, 1) := by decide +kernel
theorem dX8_way_69 : decode (zB 60) 69 = .ok (.ishr, 1) := by decide +kernel
theorem dX8_way_70 : decode (zB 60) 70 = .ok (.iconst 1, 1) := by decide +kernel
theorem dX8_way_71 : decode (zB 60) 71 = .ok (.iand, 1) := by decide +kernel
theorem dX8_way_72 : decode (zB 60) 72 = .ok (.iconst 1, 1) := by decide +kernel
theorem dX8_way_73 : decode (zB 60) 73 = .ok (.if_icmp .ne 6, 3) := by decide +kernel
theorem dX8_way_76 : decode (zB 60) 76 = .ok (.iload 6, 2) := by decide +kernel
theorem dX8_way_78 : decode (zB 60) 78 = .ok (.ireturn, 1) := by decide +kernel
theorem dX8_way_79 : decode (zB 60) 79 = .ok (.iinc 6 1, 3) := by decide +kernel
theorem dX8_way_82 : decode (zB 60) 82 = .ok (.goto (-34), 3) := by decide +kernel
theorem dX8_way_85 : decode (zB 60) 85 = .ok (.bipush (-9), 2) := by decide +kernel
theorem dX8_way_87 : decode (zB 60) 87 = .ok (.ireturn, 1) := by decide +kernel
theorem dX8_reading_0 : decode (zB 61) 0 = .ok (.aload_n 0, 1) := by decide +kernel
theorem dX8_reading_1 : decode (zB 61) 1 = .ok (.getfield 14, 3) := by decide +kernel
theorem dX8_reading_4 : decode (zB 61) 4 = .ok (.iload_n 1, 1) := by decide +kernel
theorem dX8_reading_5 : decode (zB 61) 5 = .ok (.invokevirtual 113, 3) := by decide +kernel
theorem dX8_reading_8 : decode (zB 61) 8 = .ok (.ifCond .ne 5, 3) := by decide +kernel
theorem dX8_reading_11 : decode (zB 61) 11 = .ok (.iconst (-1), 1) := by decide +kernel
theorem dX8_reading_12 : decode (zB 61) 12 = .ok (.ireturn, 1) := by decide +kernel
theorem dX8_reading_13 : decode (zB 61) 13 = .ok (.iload_n 2, 1) := by decide +kernel
theorem dX8_reading_14 : decode (zB 61) 14 = .ok (.invokestatic 167, 3) := by decide +kernel
theorem dX8_reading_17 : decode (zB 61) 17 = .ok (.ifCond .eq 13, 3) := by decide +kernel
theorem dX8_reading_20 : decode (zB 61) 20 = .ok (.iload_n 3, 1) := by decide +kernel
theorem dX8_reading_21 : decode (zB 61) 21 = .ok (.iconst 0, 1) := by decide +kernel
theorem dX8_reading_22 : decode (zB 61) 22 = .ok (.ldc 208, 2) := by decide +kernel
theorem dX8_reading_24 : decode (zB 61) 24 = .ok (.invokestatic 137, 3) := by decide +kernel
theorem dX8_reading_27 : decode (zB 61) 27 = .ok (.ifCond .ne 6, 3) := by decide +kernel
theorem dX8_reading_30 : decode (zB 61) 30 = .ok (.bipush (-2), 2) := by decide +kernel
theorem dX8_reading_32 : decode (zB 61) 32 = .ok (.ireturn, 1) := by decide +kernel
theorem dX8_reading_33 : decode (zB 61) 33 = .ok (.aload_n 0, 1) := by decide +kernel
theorem dX8_reading_34 : decode (zB 61) 34 = .ok (.getfield 30, 3) := by decide +kernel
theorem dX8_reading_37 : decode (zB 61) 37 = .ok (.getfield 106, 3) := by decide +kernel
theorem dX8_reading_40 : decode (zB 61) 40 = .ok (.bipush 10, 2) := by decide +kernel
theorem dX8_reading_42 : decode (zB 61) 42 = .ok (.if_icmp .lt 6, 3) := by decide +kernel
theorem dX8_reading_45 : decode (zB 61) 45 = .ok (.bipush (-4), 2) := by decide +kernel
theorem dX8_reading_47 : decode (zB 61) 47 = .ok (.ireturn, 1) := by decide +kernel
theorem dX8_reading_48 : decode (zB 61) 48 = .ok (.aload_n 0, 1) := by decide +kernel
theorem dX8_reading_49 : decode (zB 61) 49 = .ok (.getfield 30, 3) := by decide +kernel
theorem dX8_reading_52 : decode (zB 61) 52 = .ok (.iload_n 1, 1) := by decide +kernel
theorem dX8_reading_53 : decode (zB 61) 53 = .ok (.iload_n 2, 1) := by decide +kernel
theorem dX8_reading_54 : decode (zB 61) 54 = .ok (.iload_n 3, 1) := by decide +kernel
theorem dX8_reading_55 : decode (zB 61) 55 = .ok (.invokevirtual 209, 3) := by decide +kernel
theorem dX8_reading_58 : decode (zB 61) 58 = .ok (.ireturn, 1) := by decide +kernel
theorem dX8_back_0 : decode (zB 62) 0 = .ok (.iload_n 1, 1) := by decide +kernel
theorem dX8_back_1 : decode (zB 62) 1 = .ok (.iconst 0, 1) := by decide +kernel
theorem dX8_back_2 : decode (zB 62) 2 = .ok (.aload_n 0, 1) := by decide +kernel
theorem dX8_back_3 : decode (zB 62) 3 = .ok (.getfield 30, 3) := by decide +kernel
theorem dX8_back_6 : decode (zB 62) 6 = .ok (.getfield 106, 3) := by decide +kernel
theorem dX8_back_9 : decode (zB 62) 9 = .ok (.invokestatic 137, 3) := by decide +kernel
theorem dX8_back_12 : decode (zB 62) 12 = .ok (.ifCond .ne 6, 3) := by decide +kernel
theorem dX8_back_15 : decode (zB 62) 15 = .ok (.bipush (-2), 2) := by decide +kernel
theorem dX8_back_17 : decode (zB 62) 17 = .ok (.ireturn, 1) := by decide +kernel
theorem dX8_back_18 : decode (zB 62) 18 = .ok (.aload_n 0, 1) := by decide +kernel
theorem dX8_back_19 : decode (zB 62) 19 = .ok (.getfield 30, 3) := by decide +kernel
theorem dX8_back_22 : decode (zB 62) 22 = .ok (.dup, 1) := by decide +kernel
theorem dX8_back_23 : decode (zB 62) 23 = .ok (.getfield 106, 3) := by decide +kernel
theorem dX8_back_26 : decode (zB 62) 26 = .ok (.iload_n 1, 1) := by decide +kernel
theorem dX8_back_27 : decode (zB 62) 27 = .ok (.isub, 1) := by decide +kernel
theorem dX8_back_28 : decode (zB 62) 28 = .ok (.putfield 106, 3) := by decide +kernel
theorem dX8_back_31 : decode (zB 62) 31 = .ok (.aload_n 0, 1) := by decide +kernel
theorem dX8_back_32 : decode (zB 62) 32 = .ok (.getfield 30, 3) := by decide +kernel
theorem dX8_back_35 : decode (zB 62) 35 = .ok (.getfield 106, 3) := by decide +kernel
theorem dX8_back_38 : decode (zB 62) 38 = .ok (.ireturn, 1) := by decide +kernel
theorem dX8_right_0 : decode (zB 63) 0 = .ok (.aload_n 0, 1) := by decide +kernel
theorem dX8_right_1 : decode (zB 63) 1 = .ok (.getfield 30, 3) := by decide +kernel
theorem dX8_right_4 : decode (zB 63) 4 = .ok (.getfield 106, 3) := by decide +kernel
theorem dX8_right_7 : decode (zB 63) 7 = .ok (.ifCond .eq 17, 3) := by decide +kernel
theorem dX8_right_10 : decode (zB 63) 10 = .ok (.aload_n 0, 1) := by decide +kernel
theorem dX8_right_11 : decode (zB 63) 11 = .ok (.getfield 30, 3) := by decide +kernel
theorem dX8_right_14 : decode (zB 63) 14 = .ok (.aload_n 0, 1) := by decide +kernel
theorem dX8_right_15 : decode (zB 63) 15 = .ok (.invokevirtual 170, 3) := by decide +kernel
theorem dX8_right_18 : decode (zB 63) 18 = .ok (.invokevirtual 213, 3) := by decide +kernel
theorem dX8_right_21 : decode (zB 63) 21 = .ok (.ifCond .eq 7, 3) := by decide +kernel
theorem dX8_right_24 : decode (zB 63) 24 = .ok (.iconst 1, 1) := by decide +kernel
theorem dX8_right_25 : decode (zB 63) 25 = .ok (.goto 4, 3) := by decide +kernel
theorem dX8_right_28 : decode (zB 63) 28 = .ok (.iconst 0, 1) := by decide +kernel
theorem dX8_right_29 : decode (zB 63) 29 = .ok (.ireturn, 1) := by decide +kernel
theorem dX8_unseen_0 : decode (zB 64) 0 = .ok (.iload_n 1, 1) := by decide +kernel
theorem dX8_unseen_1 : decode (zB 64) 1 = .ok (.iconst 0, 1) := by decide +kernel
theorem dX8_unseen_2 : decode (zB 64) 2 = .ok (.iconst 1, 1) := by decide +kernel
theorem dX8_unseen_3 : decode (zB 64) 3 = .ok (.invokestatic 137, 3) := by decide +kernel
theorem dX8_unseen_6 : decode (zB 64) 6 = .ok (.ifCond .ne 6, 3) := by decide +kernel
theorem dX8_unseen_9 : decode (zB 64) 9 = .ok (.bipush (-2), 2) := by decide +kernel
theorem dX8_unseen_11 : decode (zB 64) 11 = .ok (.ireturn, 1) := by decide +kernel
theorem dX8_unseen_12 : decode (zB 64) 12 = .ok (.aload_n 0, 1) := by decide +kernel
theorem dX8_unseen_13 : decode (zB 64) 13 = .ok (.getfield 14, 3) := by decide +kernel
theorem dX8_unseen_16 : decode (zB 64) 16 = .ok (.getfield 112, 3) := by decide +kernel
theorem dX8_unseen_19 : decode (zB 64) 19 = .ok (.ifCond .ne 6, 3) := by decide +kernel
theorem dX8_unseen_22 : decode (zB 64) 22 = .ok (.bipush (-3), 2) := by decide +kernel
theorem dX8_unseen_24 : decode (zB 64) 24 = .ok (.ireturn, 1) := by decide +kernel
theorem dX8_unseen_25 : decode (zB 64) 25 = .ok (.iconst 0, 1) := by decide +kernel
theorem dX8_unseen_26 : decode (zB 64) 26 = .ok (.istore_n 2, 1) := by decide +kernel
theorem dX8_unseen_27 : decode (zB 64) 27 = .ok (.bipush (-9), 2) := by decide +kernel
theorem dX8_unseen_29 : decode (zB 64) 29 = .ok (.istore_n 3, 1) := by decide +kernel
theorem dX8_unseen_30 : decode (zB 64) 30 = .ok (.iconst 0, 1) := by decide +kernel
theorem dX8_unseen_31 : decode (zB 64) 31 = .ok (.istore 4, 2) := by decide +kernel
theorem dX8_unseen_33 : decode (zB 64) 33 = .ok (.iload 4, 2) := by decide +kernel
theorem dX8_unseen_35 : decode (zB 64) 35 = .ok (.aload_n 0, 1) := by decide +kernel
theorem dX8_unseen_36 : decode (zB 64) 36 = .ok (.getfield 14, 3) := by decide +kernel
theorem dX8_unseen_39 : decode (zB 64) 39 = .ok (.getfield 112, 3) := by decide +kernel
theorem dX8_unseen_42 : decode (zB 64) 42 = .ok (.if_icmp .ge 56, 3) := by decide +kernel
theorem dX8_unseen_45 : decode (zB 64) 45 = .ok (.iconst 1, 1) := by decide +kernel
theorem dX8_unseen_46 : decode (zB 64) 46 = .ok (.istore 5, 2) := by decide +kernel
theorem dX8_unseen_48 : decode (zB 64) 48 = .ok (.iload 5, 2) := by decide +kernel
theorem dX8_unseen_50 : decode (zB 64) 50 = .ok (.bipush 30, 2) := by decide +kernel
theorem dX8_unseen_52 : decode (zB 64) 52 = .ok (.if_icmp .gt 40, 3) := by decide +kernel
theorem dX8_unseen_55 : decode (zB 64) 55 = .ok (.aload_n 0, 1) := by decide +kernel
theorem dX8_unseen_56 : decode (zB 64) 56 = .ok (.iload 4, 2) := by decide +kernel
theorem dX8_unseen_58 : decode (zB 64) 58 = .ok (.iload 5, 2) := by decide +kernel
theorem dX8_unseen_60 : decode (zB 64) 60 = .ok (.invokevirtual 217, 3) := by decide +kernel
theorem dX8_unseen_63 : decode (zB 64) 63 = .ok (.ifCond .eq 23, 3) := by decide +kernel
theorem dX8_unseen_66 : decode (zB 64) 66 = .ok (.iload_n 2, 1) := by decide +kernel
theorem dX8_unseen_67 : decode (zB 64) 67 = .ok (.ifCond .ne 14, 3) := by decide +kernel
theorem dX8_unseen_70 : decode (zB 64) 70 = .ok (.bipush 100, 2) := by decide +kernel
theorem dX8_unseen_72 : decode (zB 64) 72 = .ok (.iload 4, 2) := by decide +kernel
theorem dX8_unseen_74 : decode (zB 64) 74 = .ok (.imul, 1) := by decide +kernel
theorem dX8_unseen_75 : decode (zB 64) 75 = .ok (.iload 5, 2) := by decide +kernel
theorem dX8_unseen_77 : decode (zB 64) 77 = .ok (.iadd, 1) := by decide +kernel
theorem dX8_unseen_78 : decode (zB 64) 78 = .ok (.goto 4, 3) := by decide +kernel
theorem dX8_unseen_81 : decode (zB 64) 81 = .ok (.iload_n 3, 1) := by decide +kernel
theorem dX8_unseen_82 : decode (zB 64) 82 = .ok (.istore_n 3, 1) := by decide +kernel
theorem dX8_unseen_83 : decode (zB 64) 83 = .ok (.iinc 2 1, 3) := by decide +kernel
theorem dX8_unseen_86 : decode (zB 64) 86 = .ok (.iinc 5 1, 3) := by decide +kernel
theorem dX8_unseen_89 : decode (zB 64) 89 = .ok (.goto (-41), 3) := by decide +kernel
theorem dX8_unseen_92 : decode (zB 64) 92 = .ok (.iinc 4 1, 3) := by decide +kernel
theorem dX8_unseen_95 : decode (zB 64) 95 = .ok (.goto (-62), 3) := by decide +kernel
theorem dX8_unseen_98 : decode (zB 64) 98 = .ok (.iload_n 1, 1) := by decide +kernel
theorem dX8_unseen_99 : decode (zB 64) 99 = .ok (.ifCond .ne 7, 3) := by decide +kernel
theorem dX8_unseen_102 : decode (zB 64) 102 = .ok (.iload_n 2, 1) := by decide +kernel
theorem dX8_unseen_103 : decode (zB 64) 103 = .ok (.goto 4, 3) := by decide +kernel
theorem dX8_unseen_106 : decode (zB 64) 106 = .ok (.iload_n 3, 1) := by decide +kernel
theorem dX8_unseen_107 : decode (zB 64) 107 = .ok (.ireturn, 1) := by decide +kernel
theorem dX8_piles_0 : decode (zB 65) 0 = .ok (.iload_n 1, 1) := by decide +kernel
theorem dX8_piles_1 : decode (zB 65) 1 = .ok (.iconst 0, 1) := by decide +kernel
theorem dX8_piles_2 : decode (zB 65) 2 = .ok (.iconst 1, 1) := by decide +kernel
theorem dX8_piles_3 : decode (zB 65) 3 = .ok (.invokestatic 137, 3) := by decide +kernel
theorem dX8_piles_6 : decode (zB 65) 6 = .ok (.ifCond .ne 6, 3) := by decide +kernel
theorem dX8_piles_9 : decode (zB 65) 9 = .ok (.bipush (-2), 2) := by decide +kernel
theorem dX8_piles_11 : decode (zB 65) 11 = .ok (.ireturn, 1) := by decide +kernel
theorem dX8_piles_12 : decode (zB 65) 12 = .ok (.aload_n 0, 1) := by decide +kernel
theorem dX8_piles_13 : decode (zB 65) 13 = .ok (.getfield 14, 3) := by decide +kernel
theorem dX8_piles_16 : decode (zB 65) 16 = .ok (.getfield 112, 3) := by decide +kernel
theorem dX8_piles_19 : decode (zB 65) 19 = .ok (.ifCond .ne 6, 3) := by decide +kernel
theorem dX8_piles_22 : decode (zB 65) 22 = .ok (.bipush (-3), 2) := by decide +kernel
theorem dX8_piles_24 : decode (zB 65) 24 = .ok (.ireturn, 1) := by decide +kernel
theorem dX8_piles_25 : decode (zB 65) 25 = .ok (.sipush 350, 3) := by decide +kernel
theorem dX8_piles_28 : decode (zB 65) 28 = .ok (.istore_n 2, 1) := by decide +kernel
theorem dX8_piles_29 : decode (zB 65) 29 = .ok (.iconst 0, 1) := by decide +kernel
theorem dX8_piles_30 : decode (zB 65) 30 = .ok (.istore_n 3, 1) := by decide +kernel
theorem dX8_piles_31 : decode (zB 65) 31 = .ok (.iconst 1, 1) := by decide +kernel
theorem dX8_piles_32 : decode (zB 65) 32 = .ok (.istore 4, 2) := by decide +kernel
theorem dX8_piles_34 : decode (zB 65) 34 = .ok (.iload 4, 2) := by decide +kernel
theorem dX8_piles_36 : decode (zB 65) 36 = .ok (.iconst 1, 1) := by decide +kernel
theorem dX8_piles_37 : decode (zB 65) 37 = .ok (.aload_n 0, 1) := by decide +kernel
theorem dX8_piles_38 : decode (zB 65) 38 = .ok (.getfield 14, 3) := by decide +kernel
theorem dX8_piles_41 : decode (zB 65) 41 = .ok (.getfield 112, 3) := by decide +kernel
theorem dX8_piles_44 : decode (zB 65) 44 = .ok (.ishl, 1) := by decide +kernel
theorem dX8_piles_45 : decode (zB 65) 45 = .ok (.if_icmp .ge 49, 3) := by decide +kernel
theorem dX8_piles_48 : decode (zB 65) 48 = .ok (.iload 4, 2) := by decide +kernel
theorem dX8_piles_50 : decode (zB 65) 50 = .ok (.invokestatic 220, 3) := by decide +kernel
theorem dX8_piles_53 : decode (zB 65) 53 = .ok (.iconst 2, 1) := by decide +kernel
theorem dX8_piles_54 : decode (zB 65) 54 = .ok (.if_icmp .gt 34, 3) := by decide +kernel
theorem dX8_piles_57 : decode (zB 65) 57 = .ok (.aload_n 0, 1) := by decide +kernel
theorem dX8_piles_58 : decode (zB 65) 58 = .ok (.getfield 43, 3) := by decide +kernel
theorem dX8_piles_61 : decode (zB 65) 61 = .ok (.aload_n 0, 1) := by decide +kernel
theorem dX8_piles_62 : decode (zB 65) 62 = .ok (.getfield 23, 3) := by decide +kernel
theorem dX8_piles_65 : decode (zB 65) 65 = .ok (.getfield 160, 3) := by decide +kernel
theorem dX8_piles_68 : decode (zB 65) 68 = .ok (.iload 4, 2) := by decide +kernel
theorem dX8_piles_70 : decode (zB 65) 70 = .ok (.iload_n 2, 1) := by decide +kernel
theorem dX8_piles_71 : decode (zB 65) 71 = .ok (.invokevirtual 225, 3) := by decide +kernel
theorem dX8_piles_74 : decode (zB 65) 74 = .ok (.istore 5, 2) := by decide +kernel
theorem dX8_piles_76 : decode (zB 65) 76 = .ok (.iload 5, 2) := by decide +kernel
theorem dX8_piles_78 : decode (zB 65) 78 = .ok (.iload_n 2, 1) := by decide +kernel
theorem dX8_piles_79 : decode (zB 65) 79 = .ok (.if_icmp .ge 9, 3) := by decide +kernel
theorem dX8_piles_82 : decode (zB 65) 82 = .ok (.iload 5, 2) := by decide +kernel
theorem dX8_piles_84 : decode (zB 65) 84 = .ok (.istore_n 2, 1) := by decide +kernel
theorem dX8_piles_85 : decode (zB 65) 85 = .ok (.iload 4, 2) := by decide +kernel
theorem dX8_piles_87 : decode (zB 65) 87 = .ok (.istore_n 3, 1) := by decide +kernel
theorem dX8_piles_88 : decode (zB 65) 88 = .ok (.iinc 4 1, 3) := by decide +kernel
theorem dX8_piles_91 : decode (zB 65) 91 = .ok (.goto (-57), 3) := by decide +kernel
theorem dX8_piles_94 : decode (zB 65) 94 = .ok (.iload_n 1, 1) := by decide +kernel
theorem dX8_piles_95 : decode (zB 65) 95 = .ok (.ifCond .ne 7, 3) := by decide +kernel
theorem dX8_piles_98 : decode (zB 65) 98 = .ok (.iload_n 2, 1) := by decide +kernel
theorem dX8_piles_99 : decode (zB 65) 99 = .ok (.goto 4, 3) := by decide +kernel
theorem dX8_piles_102 : decode (zB 65) 102 = .ok (.iload_n 3, 1) := by decide +kernel
theorem dX8_piles_103 : decode (zB 65) 103 = .ok (.ireturn, 1) := by decide +kernel
theorem dX8_settles_0 : decode (zB 66) 0 = .ok (.aload_n 0, 1) := by decide +kernel
theorem dX8_settles_1 : decode (zB 66) 1 = .ok (.getfield 14, 3) := by decide +kernel
theorem dX8_settles_4 : decode (zB 66) 4 = .ok (.getfield 112, 3) := by decide +kernel
theorem dX8_settles_7 : decode (zB 66) 7 = .ok (.ifCond .ne 6, 3) := by decide +kernel
theorem dX8_settles_10 : decode (zB 66) 10 = .ok (.bipush (-3), 2) := by decide +kernel
theorem dX8_settles_12 : decode (zB 66) 12 = .ok (.ireturn, 1) := by decide +kernel
theorem dX8_settles_13 : decode (zB 66) 13 = .ok (.aload_n 0, 1) := by decide +kernel
theorem dX8_settles_14 : decode (zB 66) 14 = .ok (.getfield 58, 3) := by decide +kernel
theorem dX8_settles_17 : decode (zB 66) 17 = .ok (.invokevirtual 229, 3) := by decide +kernel
theorem dX8_settles_20 : decode (zB 66) 20 = .ok (.aload_n 0, 1) := by decide +kernel
theorem dX8_settles_21 : decode (zB 66) 21 = .ok (.getfield 58, 3) := by decide +kernel
theorem dX8_settles_24 : decode (zB 66) 24 = .ok (.getfield 232, 3) := by decide +kernel
theorem dX8_settles_27 : decode (zB 66) 27 = .ok (.ireturn, 1) := by decide +kernel
theorem dX8_after_0 : decode (zB 67) 0 = .ok (.aload_n 0, 1) := by decide +kernel
theorem dX8_after_1 : decode (zB 67) 1 = .ok (.getfield 23, 3) := by decide +kernel
theorem dX8_after_4 : decode (zB 67) 4 = .ok (.iload_n 1, 1) := by decide +kernel
theorem dX8_after_5 : decode (zB 67) 5 = .ok (.invokevirtual 149, 3) := by decide +kernel
theorem dX8_after_8 : decode (zB 67) 8 = .ok (.ifCond .ne 5, 3) := by decide +kernel
theorem dX8_after_11 : decode (zB 67) 11 = .ok (.iconst (-1), 1) := by decide +kernel
theorem dX8_after_12 : decode (zB 67) 12 = .ok (.ireturn, 1) := by decide +kernel
theorem dX8_after_13 : decode (zB 67) 13 = .ok (.iload_n 2, 1) := by decide +kernel
theorem dX8_after_14 : decode (zB 67) 14 = .ok (.iconst 0, 1) := by decide +kernel
theorem dX8_after_15 : decode (zB 67) 15 = .ok (.bipush 50, 2) := by decide +kernel
theorem dX8_after_17 : decode (zB 67) 17 = .ok (.invokestatic 137, 3) := by decide +kernel
theorem dX8_after_20 : decode (zB 67) 20 = .ok (.ifCond .ne 6, 3) := by decide +kernel
theorem dX8_after_23 : decode (zB 67) 23 = .ok (.bipush (-2), 2) := by decide +kernel
theorem dX8_after_25 : decode (zB 67) 25 = .ok (.ireturn, 1) := by decide +kernel
theorem dX8_after_26 : decode (zB 67) 26 = .ok (.aload_n 0, 1) := by decide +kernel
theorem dX8_after_27 : decode (zB 67) 27 = .ok (.getfield 58, 3) := by decide +kernel
theorem dX8_after_30 : decode (zB 67) 30 = .ok (.invokevirtual 229, 3) := by decide +kernel
theorem dX8_after_33 : decode (zB 67) 33 = .ok (.aload_n 0, 1) := by decide +kernel
theorem dX8_after_34 : decode (zB 67) 34 = .ok (.getfield 58, 3) := by decide +kernel
theorem dX8_after_37 : decode (zB 67) 37 = .ok (.iload_n 1, 1) := by decide +kernel
theorem dX8_after_38 : decode (zB 67) 38 = .ok (.iload_n 2, 1) := by decide +kernel
theorem dX8_after_39 : decode (zB 67) 39 = .ok (.invokevirtual 235, 3) := by decide +kernel
theorem dX8_after_42 : decode (zB 67) 42 = .ok (.ireturn, 1) := by decide +kernel
theorem dX8_sheet_0 : decode (zB 68) 0 = .ok (.aload_n 0, 1) := by decide +kernel
theorem dX8_sheet_1 : decode (zB 68) 1 = .ok (.iconst 0, 1) := by decide +kernel
theorem dX8_sheet_2 : decode (zB 68) 2 = .ok (.putfield 69, 3) := by decide +kernel
theorem dX8_sheet_5 : decode (zB 68) 5 = .ok (.iload_n 1, 1) := by decide +kernel
theorem dX8_sheet_6 : decode (zB 68) 6 = .ok (.invokestatic 73, 3) := by decide +kernel
theorem dX8_sheet_9 : decode (zB 68) 9 = .ok (.ifCond .ne 5, 3) := by decide +kernel
theorem dX8_sheet_12 : decode (zB 68) 12 = .ok (.iconst (-1), 1) := by decide +kernel
theorem dX8_sheet_13 : decode (zB 68) 13 = .ok (.ireturn, 1) := by decide +kernel
theorem dX8_sheet_14 : decode (zB 68) 14 = .ok (.iload_n 2, 1) := by decide +kernel
theorem dX8_sheet_15 : decode (zB 68) 15 = .ok (.invokestatic 77, 3) := by decide +kernel
theorem dX8_sheet_18 : decode (zB 68) 18 = .ok (.ifCond .eq 9, 3) := by decide +kernel
theorem dX8_sheet_21 : decode (zB 68) 21 = .ok (.iload_n 3, 1) := by decide +kernel
theorem dX8_sheet_22 : decode (zB 68) 22 = .ok (.bipush 60, 2) := by decide +kernel
theorem dX8_sheet_24 : decode (zB 68) 24 = .ok (.if_icmp .le 6, 3) := by decide +kernel
theorem dX8_sheet_27 : decode (zB 68) 27 = .ok (.bipush (-2), 2) := by decide +kernel
theorem dX8_sheet_29 : decode (zB 68) 29 = .ok (.ireturn, 1) := by decide +kernel
theorem dX8_sheet_30 : decode (zB 68) 30 = .ok (.iload_n 3, 1) := by decide +kernel
theorem dX8_sheet_31 : decode (zB 68) 31 = .ok (.ifCond .ge 9, 3) := by decide +kernel
theorem dX8_sheet_34 : decode (zB 68) 34 = .ok (.aload_n 0, 1) := by decide +kernel
theorem dX8_sheet_35 : decode (zB 68) 35 = .ok (.iconst 4, 1) := by decide +kernel
theorem dX8_sheet_36 : decode (zB 68) 36 = .ok (.invokevirtual 83, 3) := by decide +kernel
theorem dX8_sheet_39 : decode (zB 68) 39 = .ok (.ireturn, 1) := by decide +kernel
theorem dX8_sheet_40 : decode (zB 68) 40 = .ok (.aload_n 0, 1) := by decide +kernel
theorem dX8_sheet_41 : decode (zB 68) 41 = .ok (.getfield 64, 3) := by decide +kernel
theorem dX8_sheet_44 : decode (zB 68) 44 = .ok (.iload_n 1, 1) := by decide +kernel
theorem dX8_sheet_45 : decode (zB 68) 45 = .ok (.aaload, 1) := by decide +kernel
theorem dX8_sheet_46 : decode (zB 68) 46 = .ok (.iload_n 2, 1) := by decide +kernel
theorem dX8_sheet_47 : decode (zB 68) 47 = .ok (.iload_n 3, 1) := by decide +kernel
theorem dX8_sheet_48 : decode (zB 68) 48 = .ok (.invokevirtual 238, 3) := by decide +kernel
theorem dX8_sheet_51 : decode (zB 68) 51 = .ok (.iconst 1, 1) := by decide +kernel
theorem dX8_sheet_52 : decode (zB 68) 52 = .ok (.ireturn, 1) := by decide +kernel
theorem dX8_lose_0 : decode (zB 69) 0 = .ok (.iload_n 1, 1) := by decide +kernel
theorem dX8_lose_1 : decode (zB 69) 1 = .ok (.invokestatic 73, 3) := by decide +kernel
theorem dX8_lose_4 : decode (zB 69) 4 = .ok (.ifCond .ne 5, 3) := by decide +kernel
theorem dX8_lose_7 : decode (zB 69) 7 = .ok (.iconst (-1), 1) := by decide +kernel
theorem dX8_lose_8 : decode (zB 69) 8 = .ok (.ireturn, 1) := by decide +kernel
theorem dX8_lose_9 : decode (zB 69) 9 = .ok (.aload_n 0, 1) := by decide +kernel
theorem dX8_lose_10 : decode (zB 69) 10 = .ok (.getfield 64, 3) := by decide +kernel
theorem dX8_lose_13 : decode (zB 69) 13 = .ok (.iload_n 1, 1) := by decide +kernel
theorem dX8_lose_14 : decode (zB 69) 14 = .ok (.aaload, 1) := by decide +kernel
theorem dX8_lose_15 : decode (zB 69) 15 = .ok (.getfield 87, 3) := by decide +kernel
theorem dX8_lose_18 : decode (zB 69) 18 = .ok (.ifCond .eq 7, 3) := by decide +kernel
theorem dX8_lose_21 : decode (zB 69) 21 = .ok (.iconst 1, 1) := by decide +kernel
theorem dX8_lose_22 : decode (zB 69) 22 = .ok (.goto 4, 3) := by decide +kernel
theorem dX8_lose_25 : decode (zB 69) 25 = .ok (.iconst 0, 1) := by decide +kernel
theorem dX8_lose_26 : decode (zB 69) 26 = .ok (.istore_n 2, 1) := by decide +kernel
theorem dX8_lose_27 : decode (zB 69) 27 = .ok (.aload_n 0, 1) := by decide +kernel
theorem dX8_lose_28 : decode (zB 69) 28 = .ok (.getfield 64, 3) := by decide +kernel
theorem dX8_lose_31 : decode (zB 69) 31 = .ok (.iload_n 1, 1) := by decide +kernel
theorem dX8_lose_32 : decode (zB 69) 32 = .ok (.aaload, 1) := by decide +kernel
theorem dX8_lose_33 : decode (zB 69) 33 = .ok (.iconst 0, 1) := by decide +kernel
theorem dX8_lose_34 : decode (zB 69) 34 = .ok (.putfield 87, 3) := by decide +kernel
theorem dX8_lose_37 : decode (zB 69) 37 = .ok (.iload_n 2, 1) := by decide +kernel
theorem dX8_lose_38 : decode (zB 69) 38 = .ok (.ireturn, 1) := by decide +kernel
theorem dX8_put_0 : decode (zB 70) 0 = .ok (.aload_n 0, 1) := by decide +kernel
theorem dX8_put_1 : decode (zB 70) 1 = .ok (.iconst 0, 1) := by decide +kernel
theorem dX8_put_2 : decode (zB 70) 2 = .ok (.putfield 69, 3) := by decide +kernel
theorem dX8_put_5 : decode (zB 70) 5 = .ok (.iload_n 1, 1) := by decide +kernel
theorem dX8_put_6 : decode (zB 70) 6 = .ok (.invokestatic 73, 3) := by decide +kernel
theorem dX8_put_9 : decode (zB 70) 9 = .ok (.ifCond .ne 5, 3) := by decide +kernel
theorem dX8_put_12 : decode (zB 70) 12 = .ok (.iconst (-1), 1) := by decide +kernel
theorem dX8_put_13 : decode (zB 70) 13 = .ok (.ireturn, 1) := by decide +kernel
theorem dX8_put_14 : decode (zB 70) 14 = .ok (.aload_n 0, 1) := by decide +kernel
theorem dX8_put_15 : decode (zB 70) 15 = .ok (.getfield 64, 3) := by decide +kernel
theorem dX8_put_18 : decode (zB 70) 18 = .ok (.iload_n 1, 1) := by decide +kernel
theorem dX8_put_19 : decode (zB 70) 19 = .ok (.aaload, 1) := by decide +kernel
theorem dX8_put_20 : decode (zB 70) 20 = .ok (.astore 4, 2) := by decide +kernel
theorem dX8_put_22 : decode (zB 70) 22 = .ok (.aload 4, 2) := by decide +kernel
theorem dX8_put_24 : decode (zB 70) 24 = .ok (.getfield 87, 3) := by decide +kernel
theorem dX8_put_27 : decode (zB 70) 27 = .ok (.ifCond .ne 9, 3) := by decide +kernel
theorem dX8_put_30 : decode (zB 70) 30 = .ok (.aload_n 0, 1) := by decide +kernel
theorem dX8_put_31 : decode (zB 70) 31 = .ok (.iconst 1, 1) := by decide +kernel
theorem dX8_put_32 : decode (zB 70) 32 = .ok (.invokevirtual 83, 3) := by decide +kernel
theorem dX8_put_35 : decode (zB 70) 35 = .ok (.ireturn, 1) := by decide +kernel
theorem dX8_put_36 : decode (zB 70) 36 = .ok (.iload_n 2, 1) := by decide +kernel
theorem dX8_put_37 : decode (zB 70) 37 = .ok (.iconst 0, 1) := by decide +kernel
theorem dX8_put_38 : decode (zB 70) 38 = .ok (.aload 4, 2) := by decide +kernel
theorem dX8_put_40 : decode (zB 70) 40 = .ok (.getfield 242, 3) := by decide +kernel
theorem dX8_put_43 : decode (zB 70) 43 = .ok (.iconst 1, 1) := by decide +kernel
theorem dX8_put_44 : decode (zB 70) 44 = .ok (.isub, 1) := by decide +kernel
theorem dX8_put_45 : decode (zB 70) 45 = .ok (.invokestatic 137, 3) := by decide +kernel
theorem dX8_put_48 : decode (zB 70) 48 = .ok (.ifCond .ne 9, 3) := by decide +kernel
theorem dX8_put_51 : decode (zB 70) 51 = .ok (.aload_n 0, 1) := by decide +kernel
theorem dX8_put_52 : decode (zB 70) 52 = .ok (.iconst 3, 1) := by decide +kernel
theorem dX8_put_53 : decode (zB 70) 53 = .ok (.invokevirtual 83, 3) := by decide +kernel
theorem dX8_put_56 : decode (zB 70) 56 = .ok (.ireturn, 1) := by decide +kernel
theorem dX8_put_57 : decode (zB 70) 57 = .ok (.aload 4, 2) := by decide +kernel
theorem dX8_put_59 : decode (zB 70) 59 = .ok (.getfield 245, 3) := by decide +kernel
theorem dX8_put_62 : decode (zB 70) 62 = .ok (.iload_n 2, 1) := by decide +kernel
theorem dX8_put_63 : decode (zB 70) 63 = .ok (.aload 4, 2) := by decide +kernel
theorem dX8_put_65 : decode (zB 70) 65 = .ok (.iload_n 3, 1) := by decide +kernel
theorem dX8_put_66 : decode (zB 70) 66 = .ok (.invokevirtual 248, 3) := by decide +kernel
theorem dX8_put_69 : decode (zB 70) 69 = .ok (.iastore, 1) := by decide +kernel
theorem dX8_put_70 : decode (zB 70) 70 = .ok (.iconst 1, 1) := by decide +kernel
theorem dX8_put_71 : decode (zB 70) 71 = .ok (.ireturn, 1) := by decide +kernel
theorem dX8_cell_0 : decode (zB 71) 0 = .ok (.aload_n 0, 1) := by decide +kernel
theorem dX8_cell_1 : decode (zB 71) 1 = .ok (.iconst 0, 1) := by decide +kernel
theorem dX8_cell_2 : decode (zB 71) 2 = .ok (.putfield 69, 3) := by decide +kernel
theorem dX8_cell_5 : decode (zB 71) 5 = .ok (.iload_n 1, 1) := by decide +kernel
theorem dX8_cell_6 : decode (zB 71) 6 = .ok (.invokestatic 73, 3) := by decide +kernel
theorem dX8_cell_9 : decode (zB 71) 9 = .ok (.ifCond .eq 10, 3) := by decide +kernel
theorem dX8_cell_12 : decode (zB 71) 12 = .ok (.iload_n 3, 1) := by decide +kernel
theorem dX8_cell_13 : decode (zB 71) 13 = .ok (.invokestatic 77, 3) := by decide +kernel
theorem dX8_cell_16 : decode (zB 71) 16 = .ok (.ifCond .ne 7, 3) := by decide +kernel
theorem dX8_cell_19 : decode (zB 71) 19 = .ok (.ldc2_w 187, 3) := by decide +kernel
theorem dX8_cell_22 : decode (zB 71) 22 = .ok (.lreturn, 1) := by decide +kernel
theorem dX8_cell_23 : decode (zB 71) 23 = .ok (.aload_n 0, 1) := by decide +kernel
theorem dX8_cell_24 : decode (zB 71) 24 = .ok (.getfield 64, 3) := by decide +kernel
theorem dX8_cell_27 : decode (zB 71) 27 = .ok (.iload_n 1, 1) := by decide +kernel
theorem dX8_cell_28 : decode (zB 71) 28 = .ok (.aaload, 1) := by decide +kernel
theorem dX8_cell_29 : decode (zB 71) 29 = .ok (.astore 4, 2) := by decide +kernel
theorem dX8_cell_31 : decode (zB 71) 31 = .ok (.aload 4, 2) := by decide +kernel
theorem dX8_cell_33 : decode (zB 71) 33 = .ok (.iload_n 3, 1) := by decide +kernel
theorem dX8_cell_34 : decode (zB 71) 34 = .ok (.invokevirtual 80, 3) := by decide +kernel
theorem dX8_cell_37 : decode (zB 71) 37 = .ok (.ifCond .eq 12, 3) := by decide +kernel
theorem dX8_cell_40 : decode (zB 71) 40 = .ok (.aload_n 0, 1) := by decide +kernel
theorem dX8_cell_41 : decode (zB 71) 41 = .ok (.iconst 2, 1) := by decide +kernel
theorem dX8_cell_42 : decode (zB 71) 42 = .ok (.putfield 69, 3) := by decide +kernel
theorem dX8_cell_45 : decode (zB 71) 45 = .ok (.ldc2_w 187, 3) := by decide +kernel
theorem dX8_cell_48 : decode (zB 71) 48 = .ok (.lreturn, 1) := by decide +kernel
theorem dX8_cell_49 : decode (zB 71) 49 = .ok (.aload 4, 2) := by decide +kernel
theorem dX8_cell_51 : decode (zB 71) 51 = .ok (.getfield 87, 3) := by decide +kernel
theorem dX8_cell_54 : decode (zB 71) 54 = .ok (.ifCond .ne 12, 3) := by decide +kernel
theorem dX8_cell_57 : decode (zB 71) 57 = .ok (.aload_n 0, 1) := by decide +kernel
theorem dX8_cell_58 : decode (zB 71) 58 = .ok (.iconst 1, 1) := by decide +kernel
theorem dX8_cell_59 : decode (zB 71) 59 = .ok (.putfield 69, 3) := by decide +kernel
theorem dX8_cell_62 : decode (zB 71) 62 = .ok (.ldc2_w 187, 3) := by decide +kernel
theorem dX8_cell_65 : decode (zB 71) 65 = .ok (.lreturn, 1) := by decide +kernel
theorem dX8_cell_66 : decode (zB 71) 66 = .ok (.iload_n 2, 1) := by decide +kernel
theorem dX8_cell_67 : decode (zB 71) 67 = .ok (.iconst 0, 1) := by decide +kernel
theorem dX8_cell_68 : decode (zB 71) 68 = .ok (.aload 4, 2) := by decide +kernel
theorem dX8_cell_70 : decode (zB 71) 70 = .ok (.getfield 242, 3) := by decide +kernel
theorem dX8_cell_73 : decode (zB 71) 73 = .ok (.iconst 1, 1) := by decide +kernel
theorem dX8_cell_74 : decode (zB 71) 74 = .ok (.isub, 1) := by decide +kernel
theorem dX8_cell_75 : decode (zB 71) 75 = .ok (.invokestatic 137, 3) := by decide +kernel
theorem dX8_cell_78 : decode (zB 71) 78 = .ok (.ifCond .ne 12, 3) := by decide +kernel
theorem dX8_cell_81 : decode (zB 71) 81 = .ok (.aload_n 0, 1) := by decide +kernel
theorem dX8_cell_82 : decode (zB 71) 82 = .ok (.iconst 3, 1) := by decide +kernel
theorem dX8_cell_83 : decode (zB 71) 83 = .ok (.putfield 69, 3) := by decide +kernel
theorem dX8_cell_86 : decode (zB 71) 86 = .ok (.ldc2_w 187, 3) := by decide +kernel
theorem dX8_cell_89 : decode (zB 71) 89 = .ok (.lreturn, 1) := by decide +kernel
theorem dX8_cell_90 : decode (zB 71) 90 = .ok (.aload 4, 2) := by decide +kernel
theorem dX8_cell_92 : decode (zB 71) 92 = .ok (.getfield 245, 3) := by decide +kernel
theorem dX8_cell_95 : decode (zB 71) 95 = .ok (.iload_n 2, 1) := by decide +kernel
theorem dX8_cell_96 : decode (zB 71) 96 = .ok (.iaload, 1) := by decide +kernel
theorem dX8_cell_97 : decode (zB 71) 97 = .ok (.i2l, 1) := by decide +kernel
theorem dX8_cell_98 : decode (zB 71) 98 = .ok (.lreturn, 1) := by decide +kernel
theorem dX8_copy_0 : decode (zB 72) 0 = .ok (.aload_n 0, 1) := by decide +kernel
theorem dX8_copy_1 : decode (zB 72) 1 = .ok (.iconst 0, 1) := by decide +kernel
theorem dX8_copy_2 : decode (zB 72) 2 = .ok (.putfield 69, 3) := by decide +kernel
theorem dX8_copy_5 : decode (zB 72) 5 = .ok (.iload_n 1, 1) := by decide +kernel
theorem dX8_copy_6 : decode (zB 72) 6 = .ok (.invokestatic 73, 3) := by decide +kernel
theorem dX8_copy_9 : decode (zB 72) 9 = .ok (.ifCond .eq 10, 3) := by decide +kernel
theorem dX8_copy_12 : decode (zB 72) 12 = .ok (.iload_n 3, 1) := by decide +kernel
theorem dX8_copy_13 : decode (zB 72) 13 = .ok (.invokestatic 73, 3) := by decide +kernel
theorem dX8_copy_16 : decode (zB 72) 16 = .ok (.ifCond .ne 5, 3) := by decide +kernel
theorem dX8_copy_19 : decode (zB 72) 19 = .ok (.iconst (-1), 1) := by decide +kernel
theorem dX8_copy_20 : decode (zB 72) 20 = .ok (.ireturn, 1) := by decide +kernel
theorem dX8_copy_21 : decode (zB 72) 21 = .ok (.aload_n 0, 1) := by decide +kernel
theorem dX8_copy_22 : decode (zB 72) 22 = .ok (.getfield 64, 3) := by decide +kernel
theorem dX8_copy_25 : decode (zB 72) 25 = .ok (.iload_n 1, 1) := by decide +kernel
theorem dX8_copy_26 : decode (zB 72) 26 = .ok (.aaload, 1) := by decide +kernel
theorem dX8_copy_27 : decode (zB 72) 27 = .ok (.astore 6, 2) := by decide +kernel
theorem dX8_copy_29 : decode (zB 72) 29 = .ok (.aload_n 0, 1) := by decide +kernel
theorem dX8_copy_30 : decode (zB 72) 30 = .ok (.getfield 64, 3) := by decide +kernel
theorem dX8_copy_33 : decode (zB 72) 33 = .ok (.iload_n 3, 1) := by decide +kernel
theorem dX8_copy_34 : decode (zB 72) 34 = .ok (.aaload, 1) := by decide +kernel
theorem dX8_copy_35 : decode (zB 72) 35 = .ok (.astore 7, 2) := by decide +kernel
theorem dX8_copy_37 : decode (zB 72) 37 = .ok (.aload 6, 2) := by decide +kernel
theorem dX8_copy_39 : decode (zB 72) 39 = .ok (.getfield 87, 3) := by decide +kernel
theorem dX8_copy_42 : decode (zB 72) 42 = .ok (.ifCond .eq 11, 3) := by decide +kernel
theorem dX8_copy_45 : decode (zB 72) 45 = .ok (.aload 7, 2) := by decide +kernel
theorem dX8_copy_47 : decode (zB 72) 47 = .ok (.getfield 87, 3) := by decide +kernel
theorem dX8_copy_50 : decode (zB 72) 50 = .ok (.ifCond .ne 9, 3) := by decide +kernel
theorem dX8_copy_53 : decode (zB 72) 53 = .ok (.aload_n 0, 1) := by decide +kernel
theorem dX8_copy_54 : decode (zB 72) 54 = .ok (.iconst 1, 1) := by decide +kernel
theorem dX8_copy_55 : decode (zB 72) 55 = .ok (.invokevirtual 83, 3) := by decide +kernel
theorem dX8_copy_58 : decode (zB 72) 58 = .ok (.ireturn, 1) := by decide +kernel
theorem dX8_copy_59 : decode (zB 72) 59 = .ok (.aload 6, 2) := by decide +kernel
theorem dX8_copy_61 : decode (zB 72) 61 = .ok (.getfield 251, 3) := by decide +kernel
theorem dX8_copy_64 : decode (zB 72) 64 = .ok (.aload 7, 2) := by decide +kernel
theorem dX8_copy_66 : decode (zB 72) 66 = .ok (.getfield 251, 3) := by decide +kernel
theorem dX8_copy_69 : decode (zB 72) 69 = .ok (.if_icmp .eq 9, 3) := by decide +kernel
theorem dX8_copy_72 : decode (zB 72) 72 = .ok (.aload_n 0, 1) := by decide +kernel
theorem dX8_copy_73 : decode (zB 72) 73 = .ok (.iconst 2, 1) := by decide +kernel
theorem dX8_copy_74 : decode (zB 72) 74 = .ok (.invokevirtual 83, 3) := by decide +kernel
theorem dX8_copy_77 : decode (zB 72) 77 = .ok (.ireturn, 1) := by decide +kernel
theorem dX8_copy_78 : decode (zB 72) 78 = .ok (.aload 6, 2) := by decide +kernel
theorem dX8_copy_80 : decode (zB 72) 80 = .ok (.iload_n 2, 1) := by decide +kernel
theorem dX8_copy_81 : decode (zB 72) 81 = .ok (.iload 5, 2) := by decide +kernel
theorem dX8_copy_83 : decode (zB 72) 83 = .ok (.invokevirtual 91, 3) := by decide +kernel
theorem dX8_copy_86 : decode (zB 72) 86 = .ok (.ifCond .eq 15, 3) := by decide +kernel
theorem dX8_copy_89 : decode (zB 72) 89 = .ok (.aload 7, 2) := by decide +kernel
theorem dX8_copy_91 : decode (zB 72) 91 = .ok (.iload 4, 2) := by decide +kernel
theorem dX8_copy_93 : decode (zB 72) 93 = .ok (.iload 5, 2) := by decide +kernel
theorem dX8_copy_95 : decode (zB 72) 95 = .ok (.invokevirtual 91, 3) := by decide +kernel
theorem dX8_copy_98 : decode (zB 72) 98 = .ok (.ifCond .ne 9, 3) := by decide +kernel
theorem dX8_copy_101 : decode (zB 72) 101 = .ok (.aload_n 0, 1) := by decide +kernel
theorem dX8_copy_102 : decode (zB 72) 102 = .ok (.iconst 3, 1) := by decide +kernel
theorem dX8_copy_103 : decode (zB 72) 103 = .ok (.invokevirtual 83, 3) := by decide +kernel
theorem dX8_copy_106 : decode (zB 72) 106 = .ok (.ireturn, 1) := by decide +kernel
theorem dX8_copy_107 : decode (zB 72) 107 = .ok (.aload 6, 2) := by decide +kernel
theorem dX8_copy_109 : decode (zB 72) 109 = .ok (.getfield 245, 3) := by decide +kernel
theorem dX8_copy_112 : decode (zB 72) 112 = .ok (.iload_n 2, 1) := by decide +kernel
theorem dX8_copy_113 : decode (zB 72) 113 = .ok (.aload 7, 2) := by decide +kernel
theorem dX8_copy_115 : decode (zB 72) 115 = .ok (.getfield 245, 3) := by decide +kernel
theorem dX8_copy_118 : decode (zB 72) 118 = .ok (.iload 4, 2) := by decide +kernel
theorem dX8_copy_120 : decode (zB 72) 120 = .ok (.iload 5, 2) := by decide +kernel
theorem dX8_copy_122 : decode (zB 72) 122 = .ok (.invokestatic 254, 3) := by decide +kernel
theorem dX8_copy_125 : decode (zB 72) 125 = .ok (.iload 5, 2) := by decide +kernel
theorem dX8_copy_127 : decode (zB 72) 127 = .ok (.ireturn, 1) := by decide +kernel
theorem dX8_tell_0 : decode (zB 73) 0 = .ok (.aload_n 0, 1) := by decide +kernel
theorem dX8_tell_1 : decode (zB 73) 1 = .ok (.getfield 14, 3) := by decide +kernel
theorem dX8_tell_4 : decode (zB 73) 4 = .ok (.iload_n 1, 1) := by decide +kernel
theorem dX8_tell_5 : decode (zB 73) 5 = .ok (.invokevirtual 113, 3) := by decide +kernel
theorem dX8_tell_8 : decode (zB 73) 8 = .ok (.ifCond .ne 5, 3) := by decide +kernel
theorem dX8_tell_11 : decode (zB 73) 11 = .ok (.iconst (-1), 1) := by decide +kernel
theorem dX8_tell_12 : decode (zB 73) 12 = .ok (.ireturn, 1) := by decide +kernel
theorem dX8_tell_13 : decode (zB 73) 13 = .ok (.aload_n 0, 1) := by decide +kernel
theorem dX8_tell_14 : decode (zB 73) 14 = .ok (.getfield 14, 3) := by decide +kernel
theorem dX8_tell_17 : decode (zB 73) 17 = .ok (.getfield 116, 3) := by decide +kernel
theorem dX8_tell_20 : decode (zB 73) 20 = .ok (.iload_n 1, 1) := by decide +kernel
theorem dX8_tell_21 : decode (zB 73) 21 = .ok (.aaload, 1) := by decide +kernel
theorem dX8_tell_22 : decode (zB 73) 22 = .ok (.astore_n 2, 1) := by decide +kernel
theorem dX8_tell_23 : decode (zB 73) 23 = .ok (.aload_n 2, 1) := by decide +kernel
theorem dX8_tell_24 : decode (zB 73) 24 = .ok (.getfield 120, 3) := by decide +kernel
theorem dX8_tell_27 : decode (zB 73) 27 = .ok (.lookupswitch 37 #[(1, 31), (2, 25)], 25) := by decide +kernel
theorem dX8_tell_52 : decode (zB 73) 52 = .ok (.aload_n 0, 1) := by decide +kernel
theorem dX8_tell_53 : decode (zB 73) 53 = .ok (.aload_n 2, 1) := by decide +kernel
theorem dX8_tell_54 : decode (zB 73) 54 = .ok (.invokevirtual 260, 3) := by decide +kernel
theorem dX8_tell_57 : decode (zB 73) 57 = .ok (.ireturn, 1) := by decide +kernel
theorem dX8_tell_58 : decode (zB 73) 58 = .ok (.aload_n 0, 1) := by decide +kernel
theorem dX8_tell_59 : decode (zB 73) 59 = .ok (.aload_n 2, 1) := by decide +kernel
theorem dX8_tell_60 : decode (zB 73) 60 = .ok (.invokevirtual 264, 3) := by decide +kernel
theorem dX8_tell_63 : decode (zB 73) 63 = .ok (.ireturn, 1) := by decide +kernel
theorem dX8_tell_64 : decode (zB 73) 64 = .ok (.aload_n 0, 1) := by decide +kernel
theorem dX8_tell_65 : decode (zB 73) 65 = .ok (.aload_n 2, 1) := by decide +kernel
theorem dX8_tell_66 : decode (zB 73) 66 = .ok (.invokevirtual 267, 3) := by decide +kernel
theorem dX8_tell_69 : decode (zB 73) 69 = .ok (.ireturn, 1) := by decide +kernel
theorem dX8_knock_0 : decode (zB 74) 0 = .ok (.aload_n 0, 1) := by decide +kernel
theorem dX8_knock_1 : decode (zB 74) 1 = .ok (.getfield 14, 3) := by decide +kernel
theorem dX8_knock_4 : decode (zB 74) 4 = .ok (.iload_n 1, 1) := by decide +kernel
theorem dX8_knock_5 : decode (zB 74) 5 = .ok (.invokevirtual 113, 3) := by decide +kernel
theorem dX8_knock_8 : decode (zB 74) 8 = .ok (.ifCond .ne 5, 3) := by decide +kernel
theorem dX8_knock_11 : decode (zB 74) 11 = .ok (.iconst (-1), 1) := by decide +kernel
theorem dX8_knock_12 : decode (zB 74) 12 = .ok (.ireturn, 1) := by decide +kernel
theorem dX8_knock_13 : decode (zB 74) 13 = .ok (.aload_n 0, 1) := by decide +kernel
theorem dX8_knock_14 : decode (zB 74) 14 = .ok (.getfield 14, 3) := by decide +kernel
theorem dX8_knock_17 : decode (zB 74) 17 = .ok (.getfield 116, 3) := by decide +kernel
theorem dX8_knock_20 : decode (zB 74) 20 = .ok (.iload_n 1, 1) := by decide +kernel
theorem dX8_knock_21 : decode (zB 74) 21 = .ok (.aaload, 1) := by decide +kernel
theorem dX8_knock_22 : decode (zB 74) 22 = .ok (.getfield 120, 3) := by decide +kernel
theorem dX8_knock_25 : decode (zB 74) 25 = .ok (.iconst 2, 1) := by decide +kernel
theorem dX8_knock_26 : decode (zB 74) 26 = .ok (.if_icmp .ne 11, 3) := by decide +kernel
theorem dX8_knock_29 : decode (zB 74) 29 = .ok (.aload_n 0, 1) := by decide +kernel
theorem dX8_knock_30 : decode (zB 74) 30 = .ok (.iconst 5, 1) := by decide +kernel
theorem dX8_knock_31 : decode (zB 74) 31 = .ok (.invokevirtual 270, 3) := by decide +kernel
theorem dX8_knock_34 : decode (zB 74) 34 = .ok (.bipush 40, 2) := by decide +kernel
theorem dX8_knock_36 : decode (zB 74) 36 = .ok (.ireturn, 1) := by decide +kernel
theorem dX8_knock_37 : decode (zB 74) 37 = .ok (.aload_n 0, 1) := by decide +kernel
theorem dX8_knock_38 : decode (zB 74) 38 = .ok (.iconst 4, 1) := by decide +kernel
theorem dX8_knock_39 : decode (zB 74) 39 = .ok (.invokevirtual 270, 3) := by decide +kernel
theorem dX8_knock_42 : decode (zB 74) 42 = .ok (.iload_n 1, 1) := by decide +kernel
theorem dX8_knock_43 : decode (zB 74) 43 = .ok (.ireturn, 1) := by decide +kernel
theorem dX8_as_0 : decode (zB 75) 0 = .ok (.aload_n 0, 1) := by decide +kernel
theorem dX8_as_1 : decode (zB 75) 1 = .ok (.iconst 0, 1) := by decide +kernel
theorem dX8_as_2 : decode (zB 75) 2 = .ok (.putfield 69, 3) := by decide +kernel
theorem dX8_as_5 : decode (zB 75) 5 = .ok (.aload_n 0, 1) := by decide +kernel
theorem dX8_as_6 : decode (zB 75) 6 = .ok (.getfield 14, 3) := by decide +kernel
theorem dX8_as_9 : decode (zB 75) 9 = .ok (.iload_n 1, 1) := by decide +kernel
theorem dX8_as_10 : decode (zB 75) 10 = .ok (.invokevirtual 113, 3) := by decide +kernel
theorem dX8_as_13 : decode (zB 75) 13 = .ok (.ifCond .ne 5, 3) := by decide +kernel
theorem dX8_as_16 : decode (zB 75) 16 = .ok (.iconst (-1), 1) := by decide +kernel
theorem dX8_as_17 : decode (zB 75) 17 = .ok (.ireturn, 1) := by decide +kernel
theorem dX8_as_18 : decode (zB 75) 18 = .ok (.iload_n 2, 1) := by decide +kernel
theorem dX8_as_19 : decode (zB 75) 19 = .ok (.iconst 0, 1) := by decide +kernel
theorem dX8_as_20 : decode (zB 75) 20 = .ok (.iconst 2, 1) := by decide +kernel
theorem dX8_as_21 : decode (zB 75) 21 = .ok (.invokestatic 137, 3) := by decide +kernel
theorem dX8_as_24 : decode (zB 75) 24 = .ok (.ifCond .ne 6, 3) := by decide +kernel
theorem dX8_as_27 : decode (zB 75) 27 = .ok (.bipush (-2), 2) := by decide +kernel
theorem dX8_as_29 : decode (zB 75) 29 = .ok (.ireturn, 1) := by decide +kernel
theorem dX8_as_30 : decode (zB 75) 30 = .ok (.aload_n 0, 1) := by decide +kernel
theorem dX8_as_31 : decode (zB 75) 31 = .ok (.getfield 14, 3) := by decide +kernel
theorem dX8_as_34 : decode (zB 75) 34 = .ok (.getfield 116, 3) := by decide +kernel
theorem dX8_as_37 : decode (zB 75) 37 = .ok (.iload_n 1, 1) := by decide +kernel
theorem dX8_as_38 : decode (zB 75) 38 = .ok (.aaload, 1) := by decide +kernel
theorem dX8_as_39 : decode (zB 75) 39 = .ok (.getfield 120, 3) := by decide +kernel
theorem dX8_as_42 : decode (zB 75) 42 = .ok (.iload_n 2, 1) := by decide +kernel
theorem dX8_as_43 : decode (zB 75) 43 = .ok (.if_icmp .lt 7, 3) := by decide +kernel
theorem dX8_as_46 : decode (zB 75) 46 = .ok (.iconst 1, 1) := by decide +kernel
theorem dX8_as_47 : decode (zB 75) 47 = .ok (.goto 8, 3) := by decide +kernel
theorem dX8_as_50 : decode (zB 75) 50 = .ok (.aload_n 0, 1) := by decide +kernel
theorem dX8_as_51 : decode (zB 75) 51 = .ok (.iconst 2, 1) := by decide +kernel
theorem dX8_as_52 : decode (zB 75) 52 = .ok (.invokevirtual 83, 3) := by decide +kernel
theorem dX8_as_55 : decode (zB 75) 55 = .ok (.ireturn, 1) := by decide +kernel
theorem dX8_trace_0 : decode (zB 76) 0 = .ok (.aload_n 0, 1) := by decide +kernel
theorem dX8_trace_1 : decode (zB 76) 1 = .ok (.getfield 273, 3) := by decide +kernel
theorem dX8_trace_4 : decode (zB 76) 4 = .ok (.ireturn, 1) := by decide +kernel
theorem dX8_fault_0 : decode (zB 77) 0 = .ok (.aload_n 0, 1) := by decide +kernel
theorem dX8_fault_1 : decode (zB 77) 1 = .ok (.getfield 69, 3) := by decide +kernel
theorem dX8_fault_4 : decode (zB 77) 4 = .ok (.ireturn, 1) := by decide +kernel
theorem dX8_many_0 : decode (zB 78) 0 = .ok (.iload_n 1, 1) := by decide +kernel
theorem dX8_many_1 : decode (zB 78) 1 = .ok (.tableswitch 63 0 3 #[31, 39, 47, 55], 31) := by decide +kernel
theorem dX8_many_32 : decode (zB 78) 32 = .ok (.aload_n 0, 1) := by decide +kernel
theorem dX8_many_33 : decode (zB 78) 33 = .ok (.getfield 14, 3) := by decide +kernel
theorem dX8_many_36 : decode (zB 78) 36 = .ok (.getfield 112, 3) := by decide +kernel
theorem dX8_many_39 : decode (zB 78) 39 = .ok (.ireturn, 1) := by decide +kernel
theorem dX8_many_40 : decode (zB 78) 40 = .ok (.aload_n 0, 1) := by decide +kernel
theorem dX8_many_41 : decode (zB 78) 41 = .ok (.getfield 14, 3) := by decide +kernel
theorem dX8_many_44 : decode (zB 78) 44 = .ok (.getfield 276, 3) := by decide +kernel
theorem dX8_many_47 : decode (zB 78) 47 = .ok (.ireturn, 1) := by decide +kernel
theorem dX8_many_48 : decode (zB 78) 48 = .ok (.aload_n 0, 1) := by decide +kernel
theorem dX8_many_49 : decode (zB 78) 49 = .ok (.getfield 23, 3) := by decide +kernel
theorem dX8_many_52 : decode (zB 78) 52 = .ok (.getfield 144, 3) := by decide +kernel
theorem dX8_many_55 : decode (zB 78) 55 = .ok (.ireturn, 1) := by decide +kernel
theorem dX8_many_56 : decode (zB 78) 56 = .ok (.aload_n 0, 1) := by decide +kernel
theorem dX8_many_57 : decode (zB 78) 57 = .ok (.getfield 30, 3) := by decide +kernel
theorem dX8_many_60 : decode (zB 78) 60 = .ok (.getfield 106, 3) := by decide +kernel
theorem dX8_many_63 : decode (zB 78) 63 = .ok (.ireturn, 1) := by decide +kernel
theorem dX8_many_64 : decode (zB 78) 64 = .ok (.bipush (-2), 2) := by decide +kernel
theorem dX8_many_66 : decode (zB 78) 66 = .ok (.ireturn, 1) := by decide +kernel
theorem dX8_isWithin_0 : decode (zB 79) 0 = .ok (.iload_n 0, 1) := by decide +kernel
theorem dX8_isWithin_1 : decode (zB 79) 1 = .ok (.iload_n 1, 1) := by decide +kernel
theorem dX8_isWithin_2 : decode (zB 79) 2 = .ok (.if_icmp .lt 12, 3) := by decide +kernel
theorem dX8_isWithin_5 : decode (zB 79) 5 = .ok (.iload_n 0, 1) := by decide +kernel
theorem dX8_isWithin_6 : decode (zB 79) 6 = .ok (.iload_n 2, 1) := by decide +kernel
theorem dX8_isWithin_7 : decode (zB 79) 7 = .ok (.if_icmp .gt 7, 3) := by decide +kernel
theorem dX8_isWithin_10 : decode (zB 79) 10 = .ok (.iconst 1, 1) := by decide +kernel
theorem dX8_isWithin_11 : decode (zB 79) 11 = .ok (.goto 4, 3) := by decide +kernel
theorem dX8_isWithin_14 : decode (zB 79) 14 = .ok (.iconst 0, 1) := by decide +kernel
theorem dX8_isWithin_15 : decode (zB 79) 15 = .ok (.ireturn, 1) := by decide +kernel
theorem dX8_isSheet_0 : decode (zB 80) 0 = .ok (.iload_n 0, 1) := by decide +kernel
theorem dX8_isSheet_1 : decode (zB 80) 1 = .ok (.iconst 0, 1) := by decide +kernel
theorem dX8_isSheet_2 : decode (zB 80) 2 = .ok (.iconst 3, 1) := by decide +kernel
theorem dX8_isSheet_3 : decode (zB 80) 3 = .ok (.invokestatic 137, 3) := by decide +kernel
theorem dX8_isSheet_6 : decode (zB 80) 6 = .ok (.ireturn, 1) := by decide +kernel
theorem dX8_isLane_0 : decode (zB 81) 0 = .ok (.iload_n 0, 1) := by decide +kernel
theorem dX8_isLane_1 : decode (zB 81) 1 = .ok (.iconst 0, 1) := by decide +kernel
theorem dX8_isLane_2 : decode (zB 81) 2 = .ok (.iconst 2, 1) := by decide +kernel
theorem dX8_isLane_3 : decode (zB 81) 3 = .ok (.invokestatic 137, 3) := by decide +kernel
theorem dX8_isLane_6 : decode (zB 81) 6 = .ok (.ireturn, 1) := by decide +kernel
theorem dX8_isNight_0 : decode (zB 82) 0 = .ok (.iload_n 0, 1) := by decide +kernel
theorem dX8_isNight_1 : decode (zB 82) 1 = .ok (.iconst 0, 1) := by decide +kernel
theorem dX8_isNight_2 : decode (zB 82) 2 = .ok (.bipush 49, 2) := by decide +kernel
theorem dX8_isNight_4 : decode (zB 82) 4 = .ok (.invokestatic 137, 3) := by decide +kernel
theorem dX8_isNight_7 : decode (zB 82) 7 = .ok (.ireturn, 1) := by decide +kernel
theorem dX8_isDawn_0 : decode (zB 83) 0 = .ok (.iload_n 0, 1) := by decide +kernel
theorem dX8_isDawn_1 : decode (zB 83) 1 = .ok (.iconst 0, 1) := by decide +kernel
theorem dX8_isDawn_2 : decode (zB 83) 2 = .ok (.bipush 50, 2) := by decide +kernel
theorem dX8_isDawn_4 : decode (zB 83) 4 = .ok (.invokestatic 137, 3) := by decide +kernel
theorem dX8_isDawn_7 : decode (zB 83) 7 = .ok (.ireturn, 1) := by decide +kernel
theorem dX8_failed_0 : decode (zB 84) 0 = .ok (.aload_n 0, 1) := by decide +kernel
theorem dX8_failed_1 : decode (zB 84) 1 = .ok (.iload_n 1, 1) := by decide +kernel
theorem dX8_failed_2 : decode (zB 84) 2 = .ok (.putfield 69, 3) := by decide +kernel
theorem dX8_failed_5 : decode (zB 84) 5 = .ok (.bipush (-10), 2) := by decide +kernel
theorem dX8_failed_7 : decode (zB 84) 7 = .ok (.iload_n 1, 1) := by decide +kernel
theorem dX8_failed_8 : decode (zB 84) 8 = .ok (.isub, 1) := by decide +kernel
theorem dX8_failed_9 : decode (zB 84) 9 = .ok (.ireturn, 1) := by decide +kernel
theorem dX8_commonDivisor_0 : decode (zB 85) 0 = .ok (.iload_n 1, 1) := by decide +kernel
theorem dX8_commonDivisor_1 : decode (zB 85) 1 = .ok (.istore_n 2, 1) := by decide +kernel
theorem dX8_commonDivisor_2 : decode (zB 85) 2 = .ok (.iload_n 2, 1) := by decide +kernel
theorem dX8_commonDivisor_3 : decode (zB 85) 3 = .ok (.iconst 1, 1) := by decide +kernel
theorem dX8_commonDivisor_4 : decode (zB 85) 4 = .ok (.if_icmp .le 23, 3) := by decide +kernel
theorem dX8_commonDivisor_7 : decode (zB 85) 7 = .ok (.iload_n 0, 1) := by decide +kernel
theorem dX8_commonDivisor_8 : decode (zB 85) 8 = .ok (.iload_n 2, 1) := by decide +kernel
theorem dX8_commonDivisor_9 : decode (zB 85) 9 = .ok (.irem, 1) := by decide +kernel
theorem dX8_commonDivisor_10 : decode (zB 85) 10 = .ok (.ifCond .ne 11, 3) := by decide +kernel
theorem dX8_commonDivisor_13 : decode (zB 85) 13 = .ok (.iload_n 1, 1) := by decide +kernel
theorem dX8_commonDivisor_14 : decode (zB 85) 14 = .ok (.iload_n 2, 1) := by decide +kernel
theorem dX8_commonDivisor_15 : decode (zB 85) 15 = .ok (.irem, 1) := by decide +kernel
theorem dX8_commonDivisor_16 : decode (zB 85) 16 = .ok (.ifCond .ne 5, 3) := by decide +kernel
theorem dX8_commonDivisor_19 : decode (zB 85) 19 = .ok (.iload_n 2, 1) := by decide +kernel
theorem dX8_commonDivisor_20 : decode (zB 85) 20 = .ok (.ireturn, 1) := by decide +kernel
theorem dX8_commonDivisor_21 : decode (zB 85) 21 = .ok (.iinc 2 (-1), 3) := by decide +kernel
theorem dX8_commonDivisor_24 : decode (zB 85) 24 = .ok (.goto (-22), 3) := by decide +kernel
theorem dX8_commonDivisor_27 : decode (zB 85) 27 = .ok (.iconst 1, 1) := by decide +kernel
theorem dX8_commonDivisor_28 : decode (zB 85) 28 = .ok (.ireturn, 1) := by decide +kernel
theorem dX8_forget_0 : decode (zB 86) 0 = .ok (.aload_n 0, 1) := by decide +kernel
theorem dX8_forget_1 : decode (zB 86) 1 = .ok (.iconst 0, 1) := by decide +kernel
theorem dX8_forget_2 : decode (zB 86) 2 = .ok (.putfield 279, 3) := by decide +kernel
theorem dX8_forget_5 : decode (zB 86) 5 = .ok (.aload_n 0, 1) := by decide +kernel
theorem dX8_forget_6 : decode (zB 86) 6 = .ok (.getfield 51, 3) := by decide +kernel
theorem dX8_forget_9 : decode (zB 86) 9 = .ok (.iconst 0, 1) := by decide +kernel
theorem dX8_forget_10 : decode (zB 86) 10 = .ok (.putfield 282, 3) := by decide +kernel
theorem dX8_forget_13 : decode (zB 86) 13 = .ok (.aload_n 0, 1) := by decide +kernel
theorem dX8_forget_14 : decode (zB 86) 14 = .ok (.getfield 58, 3) := by decide +kernel
theorem dX8_forget_17 : decode (zB 86) 17 = .ok (.iconst 0, 1) := by decide +kernel
theorem dX8_forget_18 : decode (zB 86) 18 = .ok (.putfield 285, 3) := by decide +kernel
theorem dX8_forget_21 : decode (zB 86) 21 = .ok (.return_, 1) := by decide +kernel
theorem dX8_asItIs_0 : decode (zB 87) 0 = .ok (.aload_n 0, 1) := by decide +kernel
theorem dX8_asItIs_1 : decode (zB 87) 1 = .ok (.getfield 279, 3) := by decide +kernel
theorem dX8_asItIs_4 : decode (zB 87) 4 = .ok (.ifCond .ne 24, 3) := by decide +kernel
theorem dX8_asItIs_7 : decode (zB 87) 7 = .ok (.aload_n 0, 1) := by decide +kernel
theorem dX8_asItIs_8 : decode (zB 87) 8 = .ok (.getfield 39, 3) := by decide +kernel
theorem dX8_asItIs_11 : decode (zB 87) 11 = .ok (.aload_n 0, 1) := by decide +kernel
theorem dX8_asItIs_12 : decode (zB 87) 12 = .ok (.getfield 23, 3) := by decide +kernel
theorem dX8_asItIs_15 : decode (zB 87) 15 = .ok (.getfield 160, 3) := by decide +kernel
theorem dX8_asItIs_18 : decode (zB 87) 18 = .ok (.bipush 50, 2) := by decide +kernel
theorem dX8_asItIs_20 : decode (zB 87) 20 = .ok (.invokevirtual 287, 3) := by decide +kernel
theorem dX8_asItIs_23 : decode (zB 87) 23 = .ok (.aload_n 0, 1) := by decide +kernel
theorem dX8_asItIs_24 : decode (zB 87) 24 = .ok (.iconst 1, 1) := by decide +kernel
theorem dX8_asItIs_25 : decode (zB 87) 25 = .ok (.putfield 279, 3) := by decide +kernel
theorem dX8_asItIs_28 : decode (zB 87) 28 = .ok (.aload_n 0, 1) := by decide +kernel
theorem dX8_asItIs_29 : decode (zB 87) 29 = .ok (.getfield 39, 3) := by decide +kernel
theorem dX8_asItIs_32 : decode (zB 87) 32 = .ok (.areturn, 1) := by decide +kernel
theorem dX8_nightsAbove_0 : decode (zB 88) 0 = .ok (.aload_n 0, 1) := by decide +kernel
theorem dX8_nightsAbove_1 : decode (zB 88) 1 = .ok (.getfield 43, 3) := by decide +kernel
theorem dX8_nightsAbove_4 : decode (zB 88) 4 = .ok (.aload_n 0, 1) := by decide +kernel
theorem dX8_nightsAbove_5 : decode (zB 88) 5 = .ok (.getfield 23, 3) := by decide +kernel
theorem dX8_nightsAbove_8 : decode (zB 88) 8 = .ok (.getfield 160, 3) := by decide +kernel
theorem dX8_nightsAbove_11 : decode (zB 88) 11 = .ok (.bipush 50, 2) := by decide +kernel
theorem dX8_nightsAbove_13 : decode (zB 88) 13 = .ok (.invokevirtual 287, 3) := by decide +kernel
theorem dX8_nightsAbove_16 : decode (zB 88) 16 = .ok (.iload_n 2, 1) := by decide +kernel
theorem dX8_nightsAbove_17 : decode (zB 88) 17 = .ok (.istore_n 3, 1) := by decide +kernel
theorem dX8_nightsAbove_18 : decode (zB 88) 18 = .ok (.iload_n 3, 1) := by decide +kernel
theorem dX8_nightsAbove_19 : decode (zB 88) 19 = .ok (.bipush 50, 2) := by decide +kernel
theorem dX8_nightsAbove_21 : decode (zB 88) 21 = .ok (.if_icmp .ge 23, 3) := by decide +kernel
theorem dX8_nightsAbove_24 : decode (zB 88) 24 = .ok (.aload_n 0, 1) := by decide +kernel
theorem dX8_nightsAbove_25 : decode (zB 88) 25 = .ok (.getfield 43, 3) := by decide +kernel
theorem dX8_nightsAbove_28 : decode (zB 88) 28 = .ok (.iload_n 1, 1) := by decide +kernel
theorem dX8_nightsAbove_29 : decode (zB 88) 29 = .ok (.iload_n 3, 1) := by decide +kernel
theorem dX8_nightsAbove_30 : decode (zB 88) 30 = .ok (.iconst 1, 1) := by decide +kernel
theorem dX8_nightsAbove_31 : decode (zB 88) 31 = .ok (.iadd, 1) := by decide +kernel
theorem dX8_nightsAbove_32 : decode (zB 88) 32 = .ok (.invokevirtual 184, 3) := by decide +kernel
theorem dX8_nightsAbove_35 : decode (zB 88) 35 = .ok (.ifCond .ne 9, 3) := by decide +kernel
theorem dX8_nightsAbove_38 : decode (zB 88) 38 = .ok (.iinc 3 1, 3) := by decide +kernel
theorem dX8_nightsAbove_41 : decode (zB 88) 41 = .ok (.goto (-23), 3) := by decide +kernel
theorem dX8_nightsAbove_44 : decode (zB 88) 44 = .ok (.iload_n 3, 1) := by decide +kernel
theorem dX8_nightsAbove_45 : decode (zB 88) 45 = .ok (.iload_n 2, 1) := by decide +kernel
theorem dX8_nightsAbove_46 : decode (zB 88) 46 = .ok (.isub, 1) := by decide +kernel
theorem dX8_nightsAbove_47 : decode (zB 88) 47 = .ok (.ireturn, 1) := by decide +kernel
theorem dX8_couldSleep_0 : decode (zB 89) 0 = .ok (.aload_n 0, 1) := by decide +kernel
theorem dX8_couldSleep_1 : decode (zB 89) 1 = .ok (.getfield 23, 3) := by decide +kernel
theorem dX8_couldSleep_4 : decode (zB 89) 4 = .ok (.bipush 8, 2) := by decide +kernel
theorem dX8_couldSleep_6 : decode (zB 89) 6 = .ok (.iload_n 2, 1) := by decide +kernel
theorem dX8_couldSleep_7 : decode (zB 89) 7 = .ok (.iconst 0, 1) := by decide +kernel
theorem dX8_couldSleep_8 : decode (zB 89) 8 = .ok (.bipush 49, 2) := by decide +kernel
theorem dX8_couldSleep_10 : decode (zB 89) 10 = .ok (.invokevirtual 145, 3) := by decide +kernel
theorem dX8_couldSleep_13 : decode (zB 89) 13 = .ok (.aload_n 0, 1) := by decide +kernel
theorem dX8_couldSleep_14 : decode (zB 89) 14 = .ok (.getfield 23, 3) := by decide +kernel
theorem dX8_couldSleep_17 : decode (zB 89) 17 = .ok (.getfield 160, 3) := by decide +kernel
theorem dX8_couldSleep_20 : decode (zB 89) 20 = .ok (.bipush 8, 2) := by decide +kernel
theorem dX8_couldSleep_22 : decode (zB 89) 22 = .ok (.iload_n 1, 1) := by decide +kernel
theorem dX8_couldSleep_23 : decode (zB 89) 23 = .ok (.iastore, 1) := by decide +kernel
theorem dX8_couldSleep_24 : decode (zB 89) 24 = .ok (.aload_n 0, 1) := by decide +kernel
theorem dX8_couldSleep_25 : decode (zB 89) 25 = .ok (.getfield 43, 3) := by decide +kernel
theorem dX8_couldSleep_28 : decode (zB 89) 28 = .ok (.aload_n 0, 1) := by decide +kernel
theorem dX8_couldSleep_29 : decode (zB 89) 29 = .ok (.getfield 23, 3) := by decide +kernel
theorem dX8_couldSleep_32 : decode (zB 89) 32 = .ok (.getfield 160, 3) := by decide +kernel
theorem dX8_couldSleep_35 : decode (zB 89) 35 = .ok (.aload_n 0, 1) := by decide +kernel
theorem dX8_couldSleep_36 : decode (zB 89) 36 = .ok (.getfield 30, 3) := by decide +kernel
theorem dX8_couldSleep_39 : decode (zB 89) 39 = .ok (.invokevirtual 291, 3) := by decide +kernel
theorem dX8_couldSleep_42 : decode (zB 89) 42 = .ok (.invokevirtual 287, 3) := by decide +kernel
theorem dX8_couldSleep_45 : decode (zB 89) 45 = .ok (.aload_n 0, 1) := by decide +kernel
theorem dX8_couldSleep_46 : decode (zB 89) 46 = .ok (.getfield 23, 3) := by decide +kernel
theorem dX8_couldSleep_49 : decode (zB 89) 49 = .ok (.getfield 160, 3) := by decide +kernel
theorem dX8_couldSleep_52 : decode (zB 89) 52 = .ok (.bipush 8, 2) := by decide +kernel
theorem dX8_couldSleep_54 : decode (zB 89) 54 = .ok (.bipush (-9), 2) := by decide +kernel
theorem dX8_couldSleep_56 : decode (zB 89) 56 = .ok (.iastore, 1) := by decide +kernel
theorem dX8_couldSleep_57 : decode (zB 89) 57 = .ok (.aload_n 0, 1) := by decide +kernel
theorem dX8_couldSleep_58 : decode (zB 89) 58 = .ok (.getfield 30, 3) := by decide +kernel
theorem dX8_couldSleep_61 : decode (zB 89) 61 = .ok (.aload_n 0, 1) := by decide +kernel
theorem dX8_couldSleep_62 : decode (zB 89) 62 = .ok (.getfield 43, 3) := by decide +kernel
theorem dX8_couldSleep_65 : decode (zB 89) 65 = .ok (.invokevirtual 213, 3) := by decide +kernel
theorem dX8_couldSleep_68 : decode (zB 89) 68 = .ok (.ireturn, 1) := by decide +kernel
theorem dX8_leaveTrace_0 : decode (zB 90) 0 = .ok (.aload_n 0, 1) := by decide +kernel
theorem dX8_leaveTrace_1 : decode (zB 90) 1 = .ok (.bipush 31, 2) := by decide +kernel
theorem dX8_leaveTrace_3 : decode (zB 90) 3 = .ok (.aload_n 0, 1) := by decide +kernel
theorem dX8_leaveTrace_4 : decode (zB 90) 4 = .ok (.getfield 273, 3) := by decide +kernel
theorem dX8_leaveTrace_7 : decode (zB 90) 7 = .ok (.imul, 1) := by decide +kernel
theorem dX8_leaveTrace_8 : decode (zB 90) 8 = .ok (.iload_n 1, 1) := by decide +kernel
theorem dX8_leaveTrace_9 : decode (zB 90) 9 = .ok (.iadd, 1) := by decide +kernel
theorem dX8_leaveTrace_10 : decode (zB 90) 10 = .ok (.putfield 273, 3) := by decide +kernel
theorem dX8_leaveTrace_13 : decode (zB 90) 13 = .ok (.return_, 1) := by decide +kernel
theorem dX8_toldAsHouse_0 : decode (zB 91) 0 = .ok (.aload_n 0, 1) := by decide +kernel
theorem dX8_toldAsHouse_1 : decode (zB 91) 1 = .ok (.iconst 1, 1) := by decide +kernel
theorem dX8_toldAsHouse_2 : decode (zB 91) 2 = .ok (.invokevirtual 270, 3) := by decide +kernel
theorem dX8_toldAsHouse_5 : decode (zB 91) 5 = .ok (.aload_n 1, 1) := by decide +kernel
theorem dX8_toldAsHouse_6 : decode (zB 91) 6 = .ok (.getfield 125, 3) := by decide +kernel
theorem dX8_toldAsHouse_9 : decode (zB 91) 9 = .ok (.ireturn, 1) := by decide +kernel
theorem dX8_toldAsInn_0 : decode (zB 92) 0 = .ok (.aload_n 0, 1) := by decide +kernel
theorem dX8_toldAsInn_1 : decode (zB 92) 1 = .ok (.iconst 2, 1) := by decide +kernel
theorem dX8_toldAsInn_2 : decode (zB 92) 2 = .ok (.invokevirtual 270, 3) := by decide +kernel
theorem dX8_toldAsInn_5 : decode (zB 92) 5 = .ok (.aload_n 0, 1) := by decide +kernel
theorem dX8_toldAsInn_6 : decode (zB 92) 6 = .ok (.aload_n 1, 1) := by decide +kernel
theorem dX8_toldAsInn_7 : decode (zB 92) 7 = .ok (.invokevirtual 267, 3) := by decide +kernel
theorem dX8_toldAsInn_10 : decode (zB 92) 10 = .ok (.bipush 100, 2) := by decide +kernel
theorem dX8_toldAsInn_12 : decode (zB 92) 12 = .ok (.iadd, 1) := by decide +kernel
theorem dX8_toldAsInn_13 : decode (zB 92) 13 = .ok (.ireturn, 1) := by decide +kernel
theorem dX8_toldAsPiled_0 : decode (zB 93) 0 = .ok (.aload_n 0, 1) := by decide +kernel
theorem dX8_toldAsPiled_1 : decode (zB 93) 1 = .ok (.iconst 3, 1) := by decide +kernel
theorem dX8_toldAsPiled_2 : decode (zB 93) 2 = .ok (.invokevirtual 270, 3) := by decide +kernel
theorem dX8_toldAsPiled_5 : decode (zB 93) 5 = .ok (.aload_n 0, 1) := by decide +kernel
theorem dX8_toldAsPiled_6 : decode (zB 93) 6 = .ok (.aload_n 1, 1) := by decide +kernel
theorem dX8_toldAsPiled_7 : decode (zB 93) 7 = .ok (.invokevirtual 264, 3) := by decide +kernel
theorem dX8_toldAsPiled_10 : decode (zB 93) 10 = .ok (.istore_n 2, 1) := by decide +kernel
theorem dX8_toldAsPiled_11 : decode (zB 93) 11 = .ok (.iload_n 2, 1) := by decide +kernel
theorem dX8_toldAsPiled_12 : decode (zB 93) 12 = .ok (.aload_n 0, 1) := by decide +kernel
theorem dX8_toldAsPiled_13 : decode (zB 93) 13 = .ok (.aload_n 1, 1) := by decide +kernel
theorem dX8_toldAsPiled_14 : decode (zB 93) 14 = .ok (.invokevirtual 267, 3) := by decide +kernel
theorem dX8_toldAsPiled_17 : decode (zB 93) 17 = .ok (.iadd, 1) := by decide +kernel
theorem dX8_toldAsPiled_18 : decode (zB 93) 18 = .ok (.ireturn, 1) := by decide +kernel
theorem dX8_firstFault_0 : decode (zB 94) 0 = .ok (.iconst 0, 1) := by decide +kernel
theorem dX8_firstFault_1 : decode (zB 94) 1 = .ok (.istore_n 3, 1) := by decide +kernel
theorem dX8_firstFault_2 : decode (zB 94) 2 = .ok (.iload_n 3, 1) := by decide +kernel
theorem dX8_firstFault_3 : decode (zB 94) 3 = .ok (.iload_n 2, 1) := by decide +kernel
theorem dX8_firstFault_4 : decode (zB 94) 4 = .ok (.if_icmp .ge 26, 3) := by decide +kernel
theorem dX8_firstFault_7 : decode (zB 94) 7 = .ok (.iload_n 3, 1) := by decide +kernel
theorem dX8_firstFault_8 : decode (zB 94) 8 = .ok (.aload_n 0, 1) := by decide +kernel
theorem dX8_firstFault_9 : decode (zB 94) 9 = .ok (.getfield 245, 3) := by decide +kernel
theorem dX8_firstFault_12 : decode (zB 94) 12 = .ok (.iload_n 1, 1) := by decide +kernel
theorem dX8_firstFault_13 : decode (zB 94) 13 = .ok (.iload_n 3, 1) := by decide +kernel
theorem dX8_firstFault_14 : decode (zB 94) 14 = .ok (.iadd, 1) := by decide +kernel
theorem dX8_firstFault_15 : decode (zB 94) 15 = .ok (.iaload, 1) := by decide +kernel
theorem dX8_firstFault_16 : decode (zB 94) 16 = .ok (.invokestatic 295, 3) := by decide +kernel
theorem dX8_firstFault_19 : decode (zB 94) 19 = .ok (.ifCond .ne 5, 3) := by decide +kernel
theorem dX8_firstFault_22 : decode (zB 94) 22 = .ok (.iload_n 3, 1) := by decide +kernel
theorem dX8_firstFault_23 : decode (zB 94) 23 = .ok (.ireturn, 1) := by decide +kernel
theorem dX8_firstFault_24 : decode (zB 94) 24 = .ok (.iinc 3 1, 3) := by decide +kernel
theorem dX8_firstFault_27 : decode (zB 94) 27 = .ok (.goto (-25), 3) := by decide +kernel
theorem dX8_firstFault_30 : decode (zB 94) 30 = .ok (.iload_n 2, 1) := by decide +kernel
theorem dX8_firstFault_31 : decode (zB 94) 31 = .ok (.iconst 2, 1) := by decide +kernel
theorem dX8_firstFault_32 : decode (zB 94) 32 = .ok (.isub, 1) := by decide +kernel
theorem dX8_firstFault_33 : decode (zB 94) 33 = .ok (.bipush 6, 2) := by decide +kernel
theorem dX8_firstFault_35 : decode (zB 94) 35 = .ok (.irem, 1) := by decide +kernel
theorem dX8_firstFault_36 : decode (zB 94) 36 = .ok (.ifCond .ne 7, 3) := by decide +kernel
theorem dX8_firstFault_39 : decode (zB 94) 39 = .ok (.iconst 1, 1) := by decide +kernel
theorem dX8_firstFault_40 : decode (zB 94) 40 = .ok (.goto 4, 3) := by decide +kernel
theorem dX8_firstFault_43 : decode (zB 94) 43 = .ok (.iconst 0, 1) := by decide +kernel
theorem dX8_firstFault_44 : decode (zB 94) 44 = .ok (.istore_n 3, 1) := by decide +kernel
theorem dX8_firstFault_45 : decode (zB 94) 45 = .ok (.iload_n 2, 1) := by decide +kernel
theorem dX8_firstFault_46 : decode (zB 94) 46 = .ok (.bipush 14, 2) := by decide +kernel
theorem dX8_firstFault_48 : decode (zB 94) 48 = .ok (.if_icmp .lt 7, 3) := by decide +kernel
theorem dX8_firstFault_51 : decode (zB 94) 51 = .ok (.iconst 1, 1) := by decide +kernel
theorem dX8_firstFault_52 : decode (zB 94) 52 = .ok (.goto 4, 3) := by decide +kernel
theorem dX8_firstFault_55 : decode (zB 94) 55 = .ok (.iconst 0, 1) := by decide +kernel
theorem dX8_firstFault_56 : decode (zB 94) 56 = .ok (.istore 4, 2) := by decide +kernel
theorem dX8_firstFault_58 : decode (zB 94) 58 = .ok (.iload_n 3, 1) := by decide +kernel
theorem dX8_firstFault_59 : decode (zB 94) 59 = .ok (.ifCond .eq 13, 3) := by decide +kernel
theorem dX8_firstFault_62 : decode (zB 94) 62 = .ok (.iload 4, 2) := by decide +kernel
theorem dX8_firstFault_64 : decode (zB 94) 64 = .ok (.ifCond .eq 8, 3) := by decide +kernel
theorem dX8_firstFault_67 : decode (zB 94) 67 = .ok (.bipush (-9), 2) := by decide +kernel
theorem dX8_firstFault_69 : decode (zB 94) 69 = .ok (.goto 4, 3) := by decide +kernel
theorem dX8_firstFault_72 : decode (zB 94) 72 = .ok (.iload_n 2, 1) := by decide +kernel
theorem dX8_firstFault_73 : decode (zB 94) 73 = .ok (.ireturn, 1) := by decide +kernel
theorem dX8_goesOn_0 : decode (zB 95) 0 = .ok (.iload_n 0, 1) := by decide +kernel
theorem dX8_goesOn_1 : decode (zB 95) 1 = .ok (.iconst 2, 1) := by decide +kernel
theorem dX8_goesOn_2 : decode (zB 95) 2 = .ok (.if_icmp .ge 30, 3) := by decide +kernel
theorem dX8_goesOn_5 : decode (zB 95) 5 = .ok (.iload_n 0, 1) := by decide +kernel
theorem dX8_goesOn_6 : decode (zB 95) 6 = .ok (.ifCond .ne 17, 3) := by decide +kernel
theorem dX8_goesOn_9 : decode (zB 95) 9 = .ok (.iload_n 1, 1) := by decide +kernel
theorem dX8_goesOn_10 : decode (zB 95) 10 = .ok (.bipush 116, 2) := by decide +kernel
theorem dX8_goesOn_12 : decode (zB 95) 12 = .ok (.if_icmp .ne 7, 3) := by decide +kernel
theorem dX8_goesOn_15 : decode (zB 95) 15 = .ok (.iconst 1, 1) := by decide +kernel
theorem dX8_goesOn_16 : decode (zB 95) 16 = .ok (.goto 15, 3) := by decide +kernel
theorem dX8_goesOn_19 : decode (zB 95) 19 = .ok (.iconst 0, 1) := by decide +kernel
theorem dX8_goesOn_20 : decode (zB 95) 20 = .ok (.goto 11, 3) := by decide +kernel
theorem dX8_goesOn_23 : decode (zB 95) 23 = .ok (.iload_n 1, 1) := by decide +kernel
theorem dX8_goesOn_24 : decode (zB 95) 24 = .ok (.bipush 48, 2) := by decide +kernel
theorem dX8_goesOn_26 : decode (zB 95) 26 = .ok (.bipush 57, 2) := by decide +kernel
theorem dX8_goesOn_28 : decode (zB 95) 28 = .ok (.invokestatic 137, 3) := by decide +kernel
theorem dX8_goesOn_31 : decode (zB 95) 31 = .ok (.ireturn, 1) := by decide +kernel
theorem dX8_goesOn_32 : decode (zB 95) 32 = .ok (.iload_n 0, 1) := by decide +kernel
theorem dX8_goesOn_33 : decode (zB 95) 33 = .ok (.bipush 44, 2) := by decide +kernel
theorem dX8_goesOn_35 : decode (zB 95) 35 = .ok (.if_icmp .lt 5, 3) := by decide +kernel
theorem dX8_goesOn_38 : decode (zB 95) 38 = .ok (.iconst 0, 1) := by decide +kernel
theorem dX8_goesOn_39 : decode (zB 95) 39 = .ok (.ireturn, 1) := by decide +kernel
theorem dX8_goesOn_40 : decode (zB 95) 40 = .ok (.iload_n 0, 1) := by decide +kernel
theorem dX8_goesOn_41 : decode (zB 95) 41 = .ok (.iconst 2, 1) := by decide +kernel
theorem dX8_goesOn_42 : decode (zB 95) 42 = .ok (.isub, 1) := by decide +kernel
theorem dX8_goesOn_43 : decode (zB 95) 43 = .ok (.bipush 6, 2) := by decide +kernel
theorem dX8_goesOn_45 : decode (zB 95) 45 = .ok (.irem, 1) := by decide +kernel
theorem dX8_goesOn_46 : decode (zB 95) 46 = .ok (.tableswitch 79 0 4 #[34, 46, 79, 79, 70], 34) := by decide +kernel
theorem dX8_goesOn_80 : decode (zB 95) 80 = .ok (.iload_n 1, 1) := by decide +kernel
theorem dX8_goesOn_81 : decode (zB 95) 81 = .ok (.bipush 59, 2) := by decide +kernel
theorem dX8_goesOn_83 : decode (zB 95) 83 = .ok (.if_icmp .ne 7, 3) := by decide +kernel
theorem dX8_goesOn_86 : decode (zB 95) 86 = .ok (.iconst 1, 1) := by decide +kernel
theorem dX8_goesOn_87 : decode (zB 95) 87 = .ok (.goto 4, 3) := by decide +kernel
theorem dX8_goesOn_90 : decode (zB 95) 90 = .ok (.iconst 0, 1) := by decide +kernel
theorem dX8_goesOn_91 : decode (zB 95) 91 = .ok (.ireturn, 1) := by decide +kernel
theorem dX8_goesOn_92 : decode (zB 95) 92 = .ok (.iload_n 1, 1) := by decide +kernel
theorem dX8_goesOn_93 : decode (zB 95) 93 = .ok (.bipush 104, 2) := by decide +kernel
theorem dX8_goesOn_95 : decode (zB 95) 95 = .ok (.if_icmp .eq 15, 3) := by decide +kernel
theorem dX8_goesOn_98 : decode (zB 95) 98 = .ok (.iload_n 1, 1) := by decide +kernel
theorem dX8_goesOn_99 : decode (zB 95) 99 = .ok (.bipush 105, 2) := by decide +kernel
theorem dX8_goesOn_101 : decode (zB 95) 101 = .ok (.if_icmp .eq 9, 3) := by decide +kernel
theorem dX8_goesOn_104 : decode (zB 95) 104 = .ok (.iload_n 1, 1) := by decide +kernel
theorem dX8_goesOn_105 : decode (zB 95) 105 = .ok (.bipush 112, 2) := by decide +kernel
theorem dX8_goesOn_107 : decode (zB 95) 107 = .ok (.if_icmp .ne 7, 3) := by decide +kernel
theorem dX8_goesOn_110 : decode (zB 95) 110 = .ok (.iconst 1, 1) := by decide +kernel
theorem dX8_goesOn_111 : decode (zB 95) 111 = .ok (.goto 4, 3) := by decide +kernel
theorem dX8_goesOn_114 : decode (zB 95) 114 = .ok (.iconst 0, 1) := by decide +kernel
theorem dX8_goesOn_115 : decode (zB 95) 115 = .ok (.ireturn, 1) := by decide +kernel
theorem dX8_goesOn_116 : decode (zB 95) 116 = .ok (.iload_n 1, 1) := by decide +kernel
theorem dX8_goesOn_117 : decode (zB 95) 117 = .ok (.bipush 48, 2) := by decide +kernel
theorem dX8_goesOn_119 : decode (zB 95) 119 = .ok (.bipush 57, 2) := by decide +kernel
theorem dX8_goesOn_121 : decode (zB 95) 121 = .ok (.invokestatic 137, 3) := by decide +kernel
theorem dX8_goesOn_124 : decode (zB 95) 124 = .ok (.ireturn, 1) := by decide +kernel
theorem dX8_goesOn_125 : decode (zB 95) 125 = .ok (.iload_n 1, 1) := by decide +kernel
theorem dX8_goesOn_126 : decode (zB 95) 126 = .ok (.bipush 49, 2) := by decide +kernel
theorem dX8_goesOn_128 : decode (zB 95) 128 = .ok (.bipush 57, 2) := by decide +kernel
theorem dX8_goesOn_130 : decode (zB 95) 130 = .ok (.invokestatic 137, 3) := by decide +kernel
theorem dX8_goesOn_133 : decode (zB 95) 133 = .ok (.ireturn, 1) := by decide +kernel
