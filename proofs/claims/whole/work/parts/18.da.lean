theorem dX0_has_0 : decode (zB 1) 0 = .ok (.iload_n 1, 1) := by decide +kernel
theorem dX0_has_1 : decode (zB 1) 1 = .ok (.ifCond .lt 15, 3) := by decide +kernel
theorem dX0_has_4 : decode (zB 1) 4 = .ok (.iload_n 1, 1) := by decide +kernel
theorem dX0_has_5 : decode (zB 1) 5 = .ok (.aload_n 0, 1) := by decide +kernel
theorem dX0_has_6 : decode (zB 1) 6 = .ok (.getfield 28, 3) := by decide +kernel
theorem dX0_has_9 : decode (zB 1) 9 = .ok (.if_icmp .ge 7, 3) := by decide +kernel
theorem dX0_has_12 : decode (zB 1) 12 = .ok (.iconst 1, 1) := by decide +kernel
theorem dX0_has_13 : decode (zB 1) 13 = .ok (.goto 4, 3) := by decide +kernel
theorem dX0_has_16 : decode (zB 1) 16 = .ok (.iconst 0, 1) := by decide +kernel
theorem dX0_has_17 : decode (zB 1) 17 = .ok (.ireturn, 1) := by decide +kernel
theorem dX0_leave_0 : decode (zB 2) 0 = .ok (.aload_n 0, 1) := by decide +kernel
theorem dX0_leave_1 : decode (zB 2) 1 = .ok (.iconst 0, 1) := by decide +kernel
theorem dX0_leave_2 : decode (zB 2) 2 = .ok (.putfield 28, 3) := by decide +kernel
theorem dX0_leave_5 : decode (zB 2) 5 = .ok (.iconst 0, 1) := by decide +kernel
theorem dX0_leave_6 : decode (zB 2) 6 = .ok (.istore_n 1, 1) := by decide +kernel
theorem dX0_leave_7 : decode (zB 2) 7 = .ok (.iload_n 1, 1) := by decide +kernel
theorem dX0_leave_8 : decode (zB 2) 8 = .ok (.bipush 9, 2) := by decide +kernel
theorem dX0_leave_10 : decode (zB 2) 10 = .ok (.if_icmp .ge 17, 3) := by decide +kernel
theorem dX0_leave_13 : decode (zB 2) 13 = .ok (.aload_n 0, 1) := by decide +kernel
theorem dX0_leave_14 : decode (zB 2) 14 = .ok (.getfield 21, 3) := by decide +kernel
theorem dX0_leave_17 : decode (zB 2) 17 = .ok (.iload_n 1, 1) := by decide +kernel
theorem dX0_leave_18 : decode (zB 2) 18 = .ok (.bipush (-9), 2) := by decide +kernel
theorem dX0_leave_20 : decode (zB 2) 20 = .ok (.iastore, 1) := by decide +kernel
theorem dX0_leave_21 : decode (zB 2) 21 = .ok (.iinc 1 1, 3) := by decide +kernel
theorem dX0_leave_24 : decode (zB 2) 24 = .ok (.goto (-17), 3) := by decide +kernel
theorem dX0_leave_27 : decode (zB 2) 27 = .ok (.return_, 1) := by decide +kernel
theorem dX0_enter_0 : decode (zB 3) 0 = .ok (.aload_n 0, 1) := by decide +kernel
theorem dX0_enter_1 : decode (zB 3) 1 = .ok (.getfield 9, 3) := by decide +kernel
theorem dX0_enter_4 : decode (zB 3) 4 = .ok (.iload_n 1, 1) := by decide +kernel
theorem dX0_enter_5 : decode (zB 3) 5 = .ok (.iload_n 2, 1) := by decide +kernel
theorem dX0_enter_6 : decode (zB 3) 6 = .ok (.iastore, 1) := by decide +kernel
theorem dX0_enter_7 : decode (zB 3) 7 = .ok (.aload_n 0, 1) := by decide +kernel
theorem dX0_enter_8 : decode (zB 3) 8 = .ok (.getfield 15, 3) := by decide +kernel
theorem dX0_enter_11 : decode (zB 3) 11 = .ok (.iload_n 1, 1) := by decide +kernel
theorem dX0_enter_12 : decode (zB 3) 12 = .ok (.iload_n 3, 1) := by decide +kernel
theorem dX0_enter_13 : decode (zB 3) 13 = .ok (.iastore, 1) := by decide +kernel
theorem dX0_enter_14 : decode (zB 3) 14 = .ok (.aload_n 0, 1) := by decide +kernel
theorem dX0_enter_15 : decode (zB 3) 15 = .ok (.getfield 18, 3) := by decide +kernel
theorem dX0_enter_18 : decode (zB 3) 18 = .ok (.iload_n 1, 1) := by decide +kernel
theorem dX0_enter_19 : decode (zB 3) 19 = .ok (.iload 4, 2) := by decide +kernel
theorem dX0_enter_21 : decode (zB 3) 21 = .ok (.iastore, 1) := by decide +kernel
theorem dX0_enter_22 : decode (zB 3) 22 = .ok (.aload_n 0, 1) := by decide +kernel
theorem dX0_enter_23 : decode (zB 3) 23 = .ok (.getfield 21, 3) := by decide +kernel
theorem dX0_enter_26 : decode (zB 3) 26 = .ok (.iload_n 1, 1) := by decide +kernel
theorem dX0_enter_27 : decode (zB 3) 27 = .ok (.bipush (-9), 2) := by decide +kernel
theorem dX0_enter_29 : decode (zB 3) 29 = .ok (.iastore, 1) := by decide +kernel
theorem dX0_enter_30 : decode (zB 3) 30 = .ok (.return_, 1) := by decide +kernel
theorem dX0_isThere_0 : decode (zB 4) 0 = .ok (.aload_n 0, 1) := by decide +kernel
theorem dX0_isThere_1 : decode (zB 4) 1 = .ok (.getfield 15, 3) := by decide +kernel
theorem dX0_isThere_4 : decode (zB 4) 4 = .ok (.iload_n 1, 1) := by decide +kernel
theorem dX0_isThere_5 : decode (zB 4) 5 = .ok (.iaload, 1) := by decide +kernel
theorem dX0_isThere_6 : decode (zB 4) 6 = .ok (.iload_n 2, 1) := by decide +kernel
theorem dX0_isThere_7 : decode (zB 4) 7 = .ok (.if_icmp .gt 17, 3) := by decide +kernel
theorem dX0_isThere_10 : decode (zB 4) 10 = .ok (.iload_n 2, 1) := by decide +kernel
theorem dX0_isThere_11 : decode (zB 4) 11 = .ok (.aload_n 0, 1) := by decide +kernel
theorem dX0_isThere_12 : decode (zB 4) 12 = .ok (.getfield 18, 3) := by decide +kernel
theorem dX0_isThere_15 : decode (zB 4) 15 = .ok (.iload_n 1, 1) := by decide +kernel
theorem dX0_isThere_16 : decode (zB 4) 16 = .ok (.iaload, 1) := by decide +kernel
theorem dX0_isThere_17 : decode (zB 4) 17 = .ok (.if_icmp .gt 7, 3) := by decide +kernel
theorem dX0_isThere_20 : decode (zB 4) 20 = .ok (.iconst 1, 1) := by decide +kernel
theorem dX0_isThere_21 : decode (zB 4) 21 = .ok (.goto 4, 3) := by decide +kernel
theorem dX0_isThere_24 : decode (zB 4) 24 = .ok (.iconst 0, 1) := by decide +kernel
theorem dX0_isThere_25 : decode (zB 4) 25 = .ok (.ireturn, 1) := by decide +kernel
theorem dX0_haveBeds_0 : decode (zB 5) 0 = .ok (.iconst 0, 1) := by decide +kernel
theorem dX0_haveBeds_1 : decode (zB 5) 1 = .ok (.istore_n 2, 1) := by decide +kernel
theorem dX0_haveBeds_2 : decode (zB 5) 2 = .ok (.iload_n 2, 1) := by decide +kernel
theorem dX0_haveBeds_3 : decode (zB 5) 3 = .ok (.aload_n 0, 1) := by decide +kernel
theorem dX0_haveBeds_4 : decode (zB 5) 4 = .ok (.getfield 28, 3) := by decide +kernel
theorem dX0_haveBeds_7 : decode (zB 5) 7 = .ok (.if_icmp .ge 53, 3) := by decide +kernel
theorem dX0_haveBeds_10 : decode (zB 5) 10 = .ok (.aload_n 1, 1) := by decide +kernel
theorem dX0_haveBeds_11 : decode (zB 5) 11 = .ok (.iload_n 2, 1) := by decide +kernel
theorem dX0_haveBeds_12 : decode (zB 5) 12 = .ok (.iaload, 1) := by decide +kernel
theorem dX0_haveBeds_13 : decode (zB 5) 13 = .ok (.istore_n 3, 1) := by decide +kernel
theorem dX0_haveBeds_14 : decode (zB 5) 14 = .ok (.aload_n 0, 1) := by decide +kernel
theorem dX0_haveBeds_15 : decode (zB 5) 15 = .ok (.getfield 24, 3) := by decide +kernel
theorem dX0_haveBeds_18 : decode (zB 5) 18 = .ok (.iload_n 3, 1) := by decide +kernel
theorem dX0_haveBeds_19 : decode (zB 5) 19 = .ok (.invokevirtual 32, 3) := by decide +kernel
theorem dX0_haveBeds_22 : decode (zB 5) 22 = .ok (.ifCond .eq 32, 3) := by decide +kernel
theorem dX0_haveBeds_25 : decode (zB 5) 25 = .ok (.aload_n 0, 1) := by decide +kernel
theorem dX0_haveBeds_26 : decode (zB 5) 26 = .ok (.aload_n 1, 1) := by decide +kernel
theorem dX0_haveBeds_27 : decode (zB 5) 27 = .ok (.iload_n 3, 1) := by decide +kernel
theorem dX0_haveBeds_28 : decode (zB 5) 28 = .ok (.aload_n 0, 1) := by decide +kernel
theorem dX0_haveBeds_29 : decode (zB 5) 29 = .ok (.getfield 15, 3) := by decide +kernel
theorem dX0_haveBeds_32 : decode (zB 5) 32 = .ok (.iload_n 2, 1) := by decide +kernel
theorem dX0_haveBeds_33 : decode (zB 5) 33 = .ok (.iaload, 1) := by decide +kernel
theorem dX0_haveBeds_34 : decode (zB 5) 34 = .ok (.invokevirtual 38, 3) := by decide +kernel
theorem dX0_haveBeds_37 : decode (zB 5) 37 = .ok (.aload_n 0, 1) := by decide +kernel
theorem dX0_haveBeds_38 : decode (zB 5) 38 = .ok (.getfield 24, 3) := by decide +kernel
theorem dX0_haveBeds_41 : decode (zB 5) 41 = .ok (.getfield 42, 3) := by decide +kernel
theorem dX0_haveBeds_44 : decode (zB 5) 44 = .ok (.iload_n 3, 1) := by decide +kernel
theorem dX0_haveBeds_45 : decode (zB 5) 45 = .ok (.aaload, 1) := by decide +kernel
theorem dX0_haveBeds_46 : decode (zB 5) 46 = .ok (.getfield 46, 3) := by decide +kernel
theorem dX0_haveBeds_49 : decode (zB 5) 49 = .ok (.if_icmp .le 5, 3) := by decide +kernel
theorem dX0_haveBeds_52 : decode (zB 5) 52 = .ok (.iconst 0, 1) := by decide +kernel
theorem dX0_haveBeds_53 : decode (zB 5) 53 = .ok (.ireturn, 1) := by decide +kernel
theorem dX0_haveBeds_54 : decode (zB 5) 54 = .ok (.iinc 2 1, 3) := by decide +kernel
theorem dX0_haveBeds_57 : decode (zB 5) 57 = .ok (.goto (-55), 3) := by decide +kernel
theorem dX0_haveBeds_60 : decode (zB 5) 60 = .ok (.iconst 1, 1) := by decide +kernel
theorem dX0_haveBeds_61 : decode (zB 5) 61 = .ok (.ireturn, 1) := by decide +kernel
theorem dX0_sleepers_0 : decode (zB 6) 0 = .ok (.iconst 0, 1) := by decide +kernel
theorem dX0_sleepers_1 : decode (zB 6) 1 = .ok (.istore 4, 2) := by decide +kernel
theorem dX0_sleepers_3 : decode (zB 6) 3 = .ok (.iconst 0, 1) := by decide +kernel
theorem dX0_sleepers_4 : decode (zB 6) 4 = .ok (.istore 5, 2) := by decide +kernel
theorem dX0_sleepers_6 : decode (zB 6) 6 = .ok (.iload 5, 2) := by decide +kernel
theorem dX0_sleepers_8 : decode (zB 6) 8 = .ok (.aload_n 0, 1) := by decide +kernel
theorem dX0_sleepers_9 : decode (zB 6) 9 = .ok (.getfield 28, 3) := by decide +kernel
theorem dX0_sleepers_12 : decode (zB 6) 12 = .ok (.if_icmp .ge 30, 3) := by decide +kernel
theorem dX0_sleepers_15 : decode (zB 6) 15 = .ok (.aload_n 1, 1) := by decide +kernel
theorem dX0_sleepers_16 : decode (zB 6) 16 = .ok (.iload 5, 2) := by decide +kernel
theorem dX0_sleepers_18 : decode (zB 6) 18 = .ok (.iaload, 1) := by decide +kernel
theorem dX0_sleepers_19 : decode (zB 6) 19 = .ok (.iload_n 2, 1) := by decide +kernel
theorem dX0_sleepers_20 : decode (zB 6) 20 = .ok (.if_icmp .ne 16, 3) := by decide +kernel
theorem dX0_sleepers_23 : decode (zB 6) 23 = .ok (.aload_n 0, 1) := by decide +kernel
theorem dX0_sleepers_24 : decode (zB 6) 24 = .ok (.iload 5, 2) := by decide +kernel
theorem dX0_sleepers_26 : decode (zB 6) 26 = .ok (.iload_n 3, 1) := by decide +kernel
theorem dX0_sleepers_27 : decode (zB 6) 27 = .ok (.invokevirtual 51, 3) := by decide +kernel
theorem dX0_sleepers_30 : decode (zB 6) 30 = .ok (.ifCond .eq 6, 3) := by decide +kernel
theorem dX0_sleepers_33 : decode (zB 6) 33 = .ok (.iinc 4 1, 3) := by decide +kernel
theorem dX0_sleepers_36 : decode (zB 6) 36 = .ok (.iinc 5 1, 3) := by decide +kernel
theorem dX0_sleepers_39 : decode (zB 6) 39 = .ok (.goto (-33), 3) := by decide +kernel
theorem dX0_sleepers_42 : decode (zB 6) 42 = .ok (.iload 4, 2) := by decide +kernel
theorem dX0_sleepers_44 : decode (zB 6) 44 = .ok (.ireturn, 1) := by decide +kernel
theorem dX1_pressedBy_0 : decode (zB 8) 0 = .ok (.iload_n 1, 1) := by decide +kernel
theorem dX1_pressedBy_1 : decode (zB 8) 1 = .ok (.aload_n 0, 1) := by decide +kernel
theorem dX1_pressedBy_2 : decode (zB 8) 2 = .ok (.getfield 9, 3) := by decide +kernel
theorem dX1_pressedBy_5 : decode (zB 8) 5 = .ok (.imul, 1) := by decide +kernel
theorem dX1_pressedBy_6 : decode (zB 8) 6 = .ok (.istore_n 3, 1) := by decide +kernel
theorem dX1_pressedBy_7 : decode (zB 8) 7 = .ok (.iload_n 2, 1) := by decide +kernel
theorem dX1_pressedBy_8 : decode (zB 8) 8 = .ok (.ifCond .eq 9, 3) := by decide +kernel
theorem dX1_pressedBy_11 : decode (zB 8) 11 = .ok (.iload_n 3, 1) := by decide +kernel
theorem dX1_pressedBy_12 : decode (zB 8) 12 = .ok (.iconst 2, 1) := by decide +kernel
theorem dX1_pressedBy_13 : decode (zB 8) 13 = .ok (.idiv, 1) := by decide +kernel
theorem dX1_pressedBy_14 : decode (zB 8) 14 = .ok (.goto 4, 3) := by decide +kernel
theorem dX1_pressedBy_17 : decode (zB 8) 17 = .ok (.iload_n 3, 1) := by decide +kernel
theorem dX1_pressedBy_18 : decode (zB 8) 18 = .ok (.ireturn, 1) := by decide +kernel
theorem dX1_comesUp_0 : decode (zB 9) 0 = .ok (.iload_n 1, 1) := by decide +kernel
theorem dX1_comesUp_1 : decode (zB 9) 1 = .ok (.ifCond .ne 11, 3) := by decide +kernel
theorem dX1_comesUp_4 : decode (zB 9) 4 = .ok (.bipush 10, 2) := by decide +kernel
theorem dX1_comesUp_6 : decode (zB 9) 6 = .ok (.aload_n 0, 1) := by decide +kernel
theorem dX1_comesUp_7 : decode (zB 9) 7 = .ok (.getfield 15, 3) := by decide +kernel
theorem dX1_comesUp_10 : decode (zB 9) 10 = .ok (.imul, 1) := by decide +kernel
theorem dX1_comesUp_11 : decode (zB 9) 11 = .ok (.ireturn, 1) := by decide +kernel
theorem dX1_comesUp_12 : decode (zB 9) 12 = .ok (.iload_n 2, 1) := by decide +kernel
theorem dX1_comesUp_13 : decode (zB 9) 13 = .ok (.ifCond .ne 11, 3) := by decide +kernel
theorem dX1_comesUp_16 : decode (zB 9) 16 = .ok (.aload_n 0, 1) := by decide +kernel
theorem dX1_comesUp_17 : decode (zB 9) 17 = .ok (.getfield 18, 3) := by decide +kernel
theorem dX1_comesUp_20 : decode (zB 9) 20 = .ok (.iconst 1, 1) := by decide +kernel
theorem dX1_comesUp_21 : decode (zB 9) 21 = .ok (.if_icmp .lt 12, 3) := by decide +kernel
theorem dX1_comesUp_24 : decode (zB 9) 24 = .ok (.iconst 5, 1) := by decide +kernel
theorem dX1_comesUp_25 : decode (zB 9) 25 = .ok (.aload_n 0, 1) := by decide +kernel
theorem dX1_comesUp_26 : decode (zB 9) 26 = .ok (.getfield 15, 3) := by decide +kernel
theorem dX1_comesUp_29 : decode (zB 9) 29 = .ok (.imul, 1) := by decide +kernel
theorem dX1_comesUp_30 : decode (zB 9) 30 = .ok (.goto 4, 3) := by decide +kernel
theorem dX1_comesUp_33 : decode (zB 9) 33 = .ok (.iconst 0, 1) := by decide +kernel
theorem dX1_comesUp_34 : decode (zB 9) 34 = .ok (.ireturn, 1) := by decide +kernel
theorem dX2_planksFor_0 : decode (zB 11) 0 = .ok (.aload_n 0, 1) := by decide +kernel
theorem dX2_planksFor_1 : decode (zB 11) 1 = .ok (.getfield 15, 3) := by decide +kernel
theorem dX2_planksFor_4 : decode (zB 11) 4 = .ok (.iload_n 1, 1) := by decide +kernel
theorem dX2_planksFor_5 : decode (zB 11) 5 = .ok (.iaload, 1) := by decide +kernel
theorem dX2_planksFor_6 : decode (zB 11) 6 = .ok (.sipush 350, 3) := by decide +kernel
theorem dX2_planksFor_9 : decode (zB 11) 9 = .ok (.if_icmp .ne 8, 3) := by decide +kernel
theorem dX2_planksFor_12 : decode (zB 11) 12 = .ok (.bipush (-9), 2) := by decide +kernel
theorem dX2_planksFor_14 : decode (zB 11) 14 = .ok (.goto 9, 3) := by decide +kernel
theorem dX2_planksFor_17 : decode (zB 11) 17 = .ok (.aload_n 0, 1) := by decide +kernel
theorem dX2_planksFor_18 : decode (zB 11) 18 = .ok (.getfield 15, 3) := by decide +kernel
theorem dX2_planksFor_21 : decode (zB 11) 21 = .ok (.iload_n 1, 1) := by decide +kernel
theorem dX2_planksFor_22 : decode (zB 11) 22 = .ok (.iaload, 1) := by decide +kernel
theorem dX2_planksFor_23 : decode (zB 11) 23 = .ok (.ireturn, 1) := by decide +kernel
theorem dX2_houseFor_0 : decode (zB 12) 0 = .ok (.aload_n 0, 1) := by decide +kernel
theorem dX2_houseFor_1 : decode (zB 12) 1 = .ok (.getfield 15, 3) := by decide +kernel
theorem dX2_houseFor_4 : decode (zB 12) 4 = .ok (.iload_n 1, 1) := by decide +kernel
theorem dX2_houseFor_5 : decode (zB 12) 5 = .ok (.iaload, 1) := by decide +kernel
theorem dX2_houseFor_6 : decode (zB 12) 6 = .ok (.sipush 350, 3) := by decide +kernel
theorem dX2_houseFor_9 : decode (zB 12) 9 = .ok (.if_icmp .ne 8, 3) := by decide +kernel
theorem dX2_houseFor_12 : decode (zB 12) 12 = .ok (.bipush (-9), 2) := by decide +kernel
theorem dX2_houseFor_14 : decode (zB 12) 14 = .ok (.goto 13, 3) := by decide +kernel
theorem dX2_houseFor_17 : decode (zB 12) 17 = .ok (.aload_n 0, 1) := by decide +kernel
theorem dX2_houseFor_18 : decode (zB 12) 18 = .ok (.getfield 18, 3) := by decide +kernel
theorem dX2_houseFor_21 : decode (zB 12) 21 = .ok (.iload_n 1, 1) := by decide +kernel
theorem dX2_houseFor_22 : decode (zB 12) 22 = .ok (.iconst 4, 1) := by decide +kernel
theorem dX2_houseFor_23 : decode (zB 12) 23 = .ok (.imul, 1) := by decide +kernel
theorem dX2_houseFor_24 : decode (zB 12) 24 = .ok (.iload_n 2, 1) := by decide +kernel
theorem dX2_houseFor_25 : decode (zB 12) 25 = .ok (.iadd, 1) := by decide +kernel
theorem dX2_houseFor_26 : decode (zB 12) 26 = .ok (.iaload, 1) := by decide +kernel
theorem dX2_houseFor_27 : decode (zB 12) 27 = .ok (.ireturn, 1) := by decide +kernel
theorem dX2_search_0 : decode (zB 13) 0 = .ok (.aload_n 0, 1) := by decide +kernel
theorem dX2_search_1 : decode (zB 13) 1 = .ok (.getfield 33, 3) := by decide +kernel
theorem dX2_search_4 : decode (zB 13) 4 = .ok (.iload_n 1, 1) := by decide +kernel
theorem dX2_search_5 : decode (zB 13) 5 = .ok (.ishr, 1) := by decide +kernel
theorem dX2_search_6 : decode (zB 13) 6 = .ok (.iconst 1, 1) := by decide +kernel
theorem dX2_search_7 : decode (zB 13) 7 = .ok (.iand, 1) := by decide +kernel
theorem dX2_search_8 : decode (zB 13) 8 = .ok (.iconst 1, 1) := by decide +kernel
theorem dX2_search_9 : decode (zB 13) 9 = .ok (.if_icmp .ne 4, 3) := by decide +kernel
theorem dX2_search_12 : decode (zB 13) 12 = .ok (.return_, 1) := by decide +kernel
theorem dX2_search_13 : decode (zB 13) 13 = .ok (.aload_n 0, 1) := by decide +kernel
theorem dX2_search_14 : decode (zB 13) 14 = .ok (.dup, 1) := by decide +kernel
theorem dX2_search_15 : decode (zB 13) 15 = .ok (.getfield 33, 3) := by decide +kernel
theorem dX2_search_18 : decode (zB 13) 18 = .ok (.iconst 1, 1) := by decide +kernel
theorem dX2_search_19 : decode (zB 13) 19 = .ok (.iload_n 1, 1) := by decide +kernel
theorem dX2_search_20 : decode (zB 13) 20 = .ok (.ishl, 1) := by decide +kernel
theorem dX2_search_21 : decode (zB 13) 21 = .ok (.ior, 1) := by decide +kernel
theorem dX2_search_22 : decode (zB 13) 22 = .ok (.putfield 33, 3) := by decide +kernel
theorem dX2_search_25 : decode (zB 13) 25 = .ok (.aload_n 0, 1) := by decide +kernel
theorem dX2_search_26 : decode (zB 13) 26 = .ok (.getfield 15, 3) := by decide +kernel
theorem dX2_search_29 : decode (zB 13) 29 = .ok (.iload_n 1, 1) := by decide +kernel
theorem dX2_search_30 : decode (zB 13) 30 = .ok (.sipush 350, 3) := by decide +kernel
theorem dX2_search_33 : decode (zB 13) 33 = .ok (.iastore, 1) := by decide +kernel
theorem dX2_search_34 : decode (zB 13) 34 = .ok (.aload_n 0, 1) := by decide +kernel
theorem dX2_search_35 : decode (zB 13) 35 = .ok (.getfield 25, 3) := by decide +kernel
theorem dX2_search_38 : decode (zB 13) 38 = .ok (.getfield 37, 3) := by decide +kernel
theorem dX2_search_41 : decode (zB 13) 41 = .ok (.iconst 0, 1) := by decide +kernel
theorem dX2_search_42 : decode (zB 13) 42 = .ok (.aload_n 0, 1) := by decide +kernel
theorem dX2_search_43 : decode (zB 13) 43 = .ok (.getfield 9, 3) := by decide +kernel
theorem dX2_search_46 : decode (zB 13) 46 = .ok (.iconst 0, 1) := by decide +kernel
theorem dX2_search_47 : decode (zB 13) 47 = .ok (.bipush 9, 2) := by decide +kernel
theorem dX2_search_49 : decode (zB 13) 49 = .ok (.invokestatic 42, 3) := by decide +kernel
theorem dX2_search_52 : decode (zB 13) 52 = .ok (.iconst 1, 1) := by decide +kernel
theorem dX2_search_53 : decode (zB 13) 53 = .ok (.istore_n 2, 1) := by decide +kernel
theorem dX2_search_54 : decode (zB 13) 54 = .ok (.iconst 0, 1) := by decide +kernel
theorem dX2_search_55 : decode (zB 13) 55 = .ok (.istore_n 3, 1) := by decide +kernel
theorem dX2_search_56 : decode (zB 13) 56 = .ok (.iload_n 3, 1) := by decide +kernel
theorem dX2_search_57 : decode (zB 13) 57 = .ok (.iload_n 1, 1) := by decide +kernel
theorem dX2_search_58 : decode (zB 13) 58 = .ok (.if_icmp .ge 19, 3) := by decide +kernel
theorem dX2_search_61 : decode (zB 13) 61 = .ok (.iload_n 2, 1) := by decide +kernel
theorem dX2_search_62 : decode (zB 13) 62 = .ok (.aload_n 0, 1) := by decide +kernel
theorem dX2_search_63 : decode (zB 13) 63 = .ok (.getfield 21, 3) := by decide +kernel
theorem dX2_search_66 : decode (zB 13) 66 = .ok (.getfield 48, 3) := by decide +kernel
theorem dX2_search_69 : decode (zB 13) 69 = .ok (.imul, 1) := by decide +kernel
theorem dX2_search_70 : decode (zB 13) 70 = .ok (.istore_n 2, 1) := by decide +kernel
theorem dX2_search_71 : decode (zB 13) 71 = .ok (.iinc 3 1, 3) := by decide +kernel
theorem dX2_search_74 : decode (zB 13) 74 = .ok (.goto (-18), 3) := by decide +kernel
theorem dX2_search_77 : decode (zB 13) 77 = .ok (.iconst 0, 1) := by decide +kernel
theorem dX2_search_78 : decode (zB 13) 78 = .ok (.istore_n 3, 1) := by decide +kernel
theorem dX2_search_79 : decode (zB 13) 79 = .ok (.iload_n 3, 1) := by decide +kernel
theorem dX2_search_80 : decode (zB 13) 80 = .ok (.iload_n 2, 1) := by decide +kernel
theorem dX2_search_81 : decode (zB 13) 81 = .ok (.if_icmp .ge 34, 3) := by decide +kernel
theorem dX2_search_84 : decode (zB 13) 84 = .ok (.aload_n 0, 1) := by decide +kernel
theorem dX2_search_85 : decode (zB 13) 85 = .ok (.iload_n 3, 1) := by decide +kernel
theorem dX2_search_86 : decode (zB 13) 86 = .ok (.iload_n 1, 1) := by decide +kernel
theorem dX2_search_87 : decode (zB 13) 87 = .ok (.invokevirtual 53, 3) := by decide +kernel
theorem dX2_search_90 : decode (zB 13) 90 = .ok (.aload_n 0, 1) := by decide +kernel
theorem dX2_search_91 : decode (zB 13) 91 = .ok (.getfield 25, 3) := by decide +kernel
theorem dX2_search_94 : decode (zB 13) 94 = .ok (.aload_n 0, 1) := by decide +kernel
theorem dX2_search_95 : decode (zB 13) 95 = .ok (.getfield 9, 3) := by decide +kernel
theorem dX2_search_98 : decode (zB 13) 98 = .ok (.invokevirtual 57, 3) := by decide +kernel
theorem dX2_search_101 : decode (zB 13) 101 = .ok (.ifCond .eq 8, 3) := by decide +kernel
theorem dX2_search_104 : decode (zB 13) 104 = .ok (.aload_n 0, 1) := by decide +kernel
theorem dX2_search_105 : decode (zB 13) 105 = .ok (.iload_n 1, 1) := by decide +kernel
theorem dX2_search_106 : decode (zB 13) 106 = .ok (.invokevirtual 61, 3) := by decide +kernel
theorem dX2_search_109 : decode (zB 13) 109 = .ok (.iinc 3 1, 3) := by decide +kernel
theorem dX2_search_112 : decode (zB 13) 112 = .ok (.goto (-33), 3) := by decide +kernel
theorem dX2_search_115 : decode (zB 13) 115 = .ok (.return_, 1) := by decide +kernel
theorem dX2_layOut_0 : decode (zB 14) 0 = .ok (.iload_n 1, 1) := by decide +kernel
theorem dX2_layOut_1 : decode (zB 14) 1 = .ok (.istore_n 3, 1) := by decide +kernel
theorem dX2_layOut_2 : decode (zB 14) 2 = .ok (.iload_n 2, 1) := by decide +kernel
theorem dX2_layOut_3 : decode (zB 14) 3 = .ok (.iconst 1, 1) := by decide +kernel
theorem dX2_layOut_4 : decode (zB 14) 4 = .ok (.isub, 1) := by decide +kernel
theorem dX2_layOut_5 : decode (zB 14) 5 = .ok (.istore 4, 2) := by decide +kernel
theorem dX2_layOut_7 : decode (zB 14) 7 = .ok (.iload 4, 2) := by decide +kernel
theorem dX2_layOut_9 : decode (zB 14) 9 = .ok (.ifCond .lt 45, 3) := by decide +kernel
theorem dX2_layOut_12 : decode (zB 14) 12 = .ok (.aload_n 0, 1) := by decide +kernel
theorem dX2_layOut_13 : decode (zB 14) 13 = .ok (.getfield 21, 3) := by decide +kernel
theorem dX2_layOut_16 : decode (zB 14) 16 = .ok (.getfield 48, 3) := by decide +kernel
theorem dX2_layOut_19 : decode (zB 14) 19 = .ok (.ifCond .le 35, 3) := by decide +kernel
theorem dX2_layOut_22 : decode (zB 14) 22 = .ok (.aload_n 0, 1) := by decide +kernel
theorem dX2_layOut_23 : decode (zB 14) 23 = .ok (.getfield 9, 3) := by decide +kernel
theorem dX2_layOut_26 : decode (zB 14) 26 = .ok (.iload 4, 2) := by decide +kernel
theorem dX2_layOut_28 : decode (zB 14) 28 = .ok (.iload_n 3, 1) := by decide +kernel
theorem dX2_layOut_29 : decode (zB 14) 29 = .ok (.aload_n 0, 1) := by decide +kernel
theorem dX2_layOut_30 : decode (zB 14) 30 = .ok (.getfield 21, 3) := by decide +kernel
theorem dX2_layOut_33 : decode (zB 14) 33 = .ok (.getfield 48, 3) := by decide +kernel
theorem dX2_layOut_36 : decode (zB 14) 36 = .ok (.irem, 1) := by decide +kernel
theorem dX2_layOut_37 : decode (zB 14) 37 = .ok (.iastore, 1) := by decide +kernel
theorem dX2_layOut_38 : decode (zB 14) 38 = .ok (.iload_n 3, 1) := by decide +kernel
theorem dX2_layOut_39 : decode (zB 14) 39 = .ok (.aload_n 0, 1) := by decide +kernel
theorem dX2_layOut_40 : decode (zB 14) 40 = .ok (.getfield 21, 3) := by decide +kernel
theorem dX2_layOut_43 : decode (zB 14) 43 = .ok (.getfield 48, 3) := by decide +kernel
theorem dX2_layOut_46 : decode (zB 14) 46 = .ok (.idiv, 1) := by decide +kernel
theorem dX2_layOut_47 : decode (zB 14) 47 = .ok (.istore_n 3, 1) := by decide +kernel
theorem dX2_layOut_48 : decode (zB 14) 48 = .ok (.iinc 4 (-1), 3) := by decide +kernel
theorem dX2_layOut_51 : decode (zB 14) 51 = .ok (.goto (-44), 3) := by decide +kernel
theorem dX2_layOut_54 : decode (zB 14) 54 = .ok (.return_, 1) := by decide +kernel
theorem dX2_keepIfFewer_0 : decode (zB 15) 0 = .ok (.aload_n 0, 1) := by decide +kernel
theorem dX2_keepIfFewer_1 : decode (zB 15) 1 = .ok (.getfield 29, 3) := by decide +kernel
theorem dX2_keepIfFewer_4 : decode (zB 15) 4 = .ok (.aload_n 0, 1) := by decide +kernel
theorem dX2_keepIfFewer_5 : decode (zB 15) 5 = .ok (.getfield 9, 3) := by decide +kernel
theorem dX2_keepIfFewer_8 : decode (zB 15) 8 = .ok (.iconst 0, 1) := by decide +kernel
theorem dX2_keepIfFewer_9 : decode (zB 15) 9 = .ok (.aload_n 0, 1) := by decide +kernel
theorem dX2_keepIfFewer_10 : decode (zB 15) 10 = .ok (.getfield 15, 3) := by decide +kernel
theorem dX2_keepIfFewer_13 : decode (zB 15) 13 = .ok (.iload_n 1, 1) := by decide +kernel
theorem dX2_keepIfFewer_14 : decode (zB 15) 14 = .ok (.iaload, 1) := by decide +kernel
theorem dX2_keepIfFewer_15 : decode (zB 15) 15 = .ok (.invokevirtual 65, 3) := by decide +kernel
theorem dX2_keepIfFewer_18 : decode (zB 15) 18 = .ok (.istore_n 2, 1) := by decide +kernel
theorem dX2_keepIfFewer_19 : decode (zB 15) 19 = .ok (.iload_n 2, 1) := by decide +kernel
theorem dX2_keepIfFewer_20 : decode (zB 15) 20 = .ok (.aload_n 0, 1) := by decide +kernel
theorem dX2_keepIfFewer_21 : decode (zB 15) 21 = .ok (.getfield 15, 3) := by decide +kernel
theorem dX2_keepIfFewer_24 : decode (zB 15) 24 = .ok (.iload_n 1, 1) := by decide +kernel
theorem dX2_keepIfFewer_25 : decode (zB 15) 25 = .ok (.iaload, 1) := by decide +kernel
theorem dX2_keepIfFewer_26 : decode (zB 15) 26 = .ok (.if_icmp .ge 26, 3) := by decide +kernel
theorem dX2_keepIfFewer_29 : decode (zB 15) 29 = .ok (.aload_n 0, 1) := by decide +kernel
theorem dX2_keepIfFewer_30 : decode (zB 15) 30 = .ok (.getfield 15, 3) := by decide +kernel
theorem dX2_keepIfFewer_33 : decode (zB 15) 33 = .ok (.iload_n 1, 1) := by decide +kernel
theorem dX2_keepIfFewer_34 : decode (zB 15) 34 = .ok (.iload_n 2, 1) := by decide +kernel
theorem dX2_keepIfFewer_35 : decode (zB 15) 35 = .ok (.iastore, 1) := by decide +kernel
theorem dX2_keepIfFewer_36 : decode (zB 15) 36 = .ok (.aload_n 0, 1) := by decide +kernel
theorem dX2_keepIfFewer_37 : decode (zB 15) 37 = .ok (.getfield 9, 3) := by decide +kernel
theorem dX2_keepIfFewer_40 : decode (zB 15) 40 = .ok (.iconst 0, 1) := by decide +kernel
theorem dX2_keepIfFewer_41 : decode (zB 15) 41 = .ok (.aload_n 0, 1) := by decide +kernel
theorem dX2_keepIfFewer_42 : decode (zB 15) 42 = .ok (.getfield 18, 3) := by decide +kernel
theorem dX2_keepIfFewer_45 : decode (zB 15) 45 = .ok (.iload_n 1, 1) := by decide +kernel
theorem dX2_keepIfFewer_46 : decode (zB 15) 46 = .ok (.iconst 4, 1) := by decide +kernel
theorem dX2_keepIfFewer_47 : decode (zB 15) 47 = .ok (.imul, 1) := by decide +kernel
theorem dX2_keepIfFewer_48 : decode (zB 15) 48 = .ok (.iload_n 1, 1) := by decide +kernel
theorem dX2_keepIfFewer_49 : decode (zB 15) 49 = .ok (.invokestatic 42, 3) := by decide +kernel
theorem dX2_keepIfFewer_52 : decode (zB 15) 52 = .ok (.return_, 1) := by decide +kernel
theorem dX4_add_0 : decode (zB 29) 0 = .ok (.aload_n 0, 1) := by decide +kernel
theorem dX4_add_1 : decode (zB 29) 1 = .ok (.getfield 21, 3) := by decide +kernel
theorem dX4_add_4 : decode (zB 29) 4 = .ok (.istore 4, 2) := by decide +kernel
theorem dX4_add_6 : decode (zB 29) 6 = .ok (.aload_n 0, 1) := by decide +kernel
theorem dX4_add_7 : decode (zB 29) 7 = .ok (.getfield 9, 3) := by decide +kernel
theorem dX4_add_10 : decode (zB 29) 10 = .ok (.iload 4, 2) := by decide +kernel
theorem dX4_add_12 : decode (zB 29) 12 = .ok (.iload_n 1, 1) := by decide +kernel
theorem dX4_add_13 : decode (zB 29) 13 = .ok (.iastore, 1) := by decide +kernel
theorem dX4_add_14 : decode (zB 29) 14 = .ok (.aload_n 0, 1) := by decide +kernel
theorem dX4_add_15 : decode (zB 29) 15 = .ok (.getfield 15, 3) := by decide +kernel
theorem dX4_add_18 : decode (zB 29) 18 = .ok (.iload 4, 2) := by decide +kernel
theorem dX4_add_20 : decode (zB 29) 20 = .ok (.iload_n 2, 1) := by decide +kernel
theorem dX4_add_21 : decode (zB 29) 21 = .ok (.iastore, 1) := by decide +kernel
theorem dX4_add_22 : decode (zB 29) 22 = .ok (.aload_n 0, 1) := by decide +kernel
theorem dX4_add_23 : decode (zB 29) 23 = .ok (.getfield 18, 3) := by decide +kernel
theorem dX4_add_26 : decode (zB 29) 26 = .ok (.iload 4, 2) := by decide +kernel
theorem dX4_add_28 : decode (zB 29) 28 = .ok (.iload_n 3, 1) := by decide +kernel
theorem dX4_add_29 : decode (zB 29) 29 = .ok (.iastore, 1) := by decide +kernel
theorem dX4_add_30 : decode (zB 29) 30 = .ok (.aload_n 0, 1) := by decide +kernel
theorem dX4_add_31 : decode (zB 29) 31 = .ok (.iload 4, 2) := by decide +kernel
theorem dX4_add_33 : decode (zB 29) 33 = .ok (.iconst 1, 1) := by decide +kernel
theorem dX4_add_34 : decode (zB 29) 34 = .ok (.iadd, 1) := by decide +kernel
theorem dX4_add_35 : decode (zB 29) 35 = .ok (.putfield 21, 3) := by decide +kernel
theorem dX4_add_38 : decode (zB 29) 38 = .ok (.iload 4, 2) := by decide +kernel
theorem dX4_add_40 : decode (zB 29) 40 = .ok (.ireturn, 1) := by decide +kernel
theorem dX4_lastDawn_0 : decode (zB 30) 0 = .ok (.iconst 0, 1) := by decide +kernel
theorem dX4_lastDawn_1 : decode (zB 30) 1 = .ok (.istore_n 1, 1) := by decide +kernel
theorem dX4_lastDawn_2 : decode (zB 30) 2 = .ok (.iconst 0, 1) := by decide +kernel
theorem dX4_lastDawn_3 : decode (zB 30) 3 = .ok (.istore_n 2, 1) := by decide +kernel
theorem dX4_lastDawn_4 : decode (zB 30) 4 = .ok (.iload_n 2, 1) := by decide +kernel
theorem dX4_lastDawn_5 : decode (zB 30) 5 = .ok (.aload_n 0, 1) := by decide +kernel
theorem dX4_lastDawn_6 : decode (zB 30) 6 = .ok (.getfield 21, 3) := by decide +kernel
theorem dX4_lastDawn_9 : decode (zB 30) 9 = .ok (.if_icmp .ge 20, 3) := by decide +kernel
theorem dX4_lastDawn_12 : decode (zB 30) 12 = .ok (.iload_n 1, 1) := by decide +kernel
theorem dX4_lastDawn_13 : decode (zB 30) 13 = .ok (.aload_n 0, 1) := by decide +kernel
theorem dX4_lastDawn_14 : decode (zB 30) 14 = .ok (.getfield 15, 3) := by decide +kernel
theorem dX4_lastDawn_17 : decode (zB 30) 17 = .ok (.iload_n 2, 1) := by decide +kernel
theorem dX4_lastDawn_18 : decode (zB 30) 18 = .ok (.iaload, 1) := by decide +kernel
theorem dX4_lastDawn_19 : decode (zB 30) 19 = .ok (.invokestatic 25, 3) := by decide +kernel
theorem dX4_lastDawn_22 : decode (zB 30) 22 = .ok (.istore_n 1, 1) := by decide +kernel
theorem dX4_lastDawn_23 : decode (zB 30) 23 = .ok (.iinc 2 1, 3) := by decide +kernel
theorem dX4_lastDawn_26 : decode (zB 30) 26 = .ok (.goto (-22), 3) := by decide +kernel
theorem dX4_lastDawn_29 : decode (zB 30) 29 = .ok (.iload_n 1, 1) := by decide +kernel
theorem dX4_lastDawn_30 : decode (zB 30) 30 = .ok (.ireturn, 1) := by decide +kernel
theorem dX4_areSo_0 : decode (zB 31) 0 = .ok (.iconst 0, 1) := by decide +kernel
theorem dX4_areSo_1 : decode (zB 31) 1 = .ok (.istore_n 2, 1) := by decide +kernel
theorem dX4_areSo_2 : decode (zB 31) 2 = .ok (.iload_n 2, 1) := by decide +kernel
theorem dX4_areSo_3 : decode (zB 31) 3 = .ok (.aload_n 0, 1) := by decide +kernel
theorem dX4_areSo_4 : decode (zB 31) 4 = .ok (.getfield 21, 3) := by decide +kernel
theorem dX4_areSo_7 : decode (zB 31) 7 = .ok (.if_icmp .ge 36, 3) := by decide +kernel
theorem dX4_areSo_10 : decode (zB 31) 10 = .ok (.aload_n 1, 1) := by decide +kernel
theorem dX4_areSo_11 : decode (zB 31) 11 = .ok (.aload_n 0, 1) := by decide +kernel
theorem dX4_areSo_12 : decode (zB 31) 12 = .ok (.getfield 9, 3) := by decide +kernel
theorem dX4_areSo_15 : decode (zB 31) 15 = .ok (.iload_n 2, 1) := by decide +kernel
theorem dX4_areSo_16 : decode (zB 31) 16 = .ok (.iaload, 1) := by decide +kernel
theorem dX4_areSo_17 : decode (zB 31) 17 = .ok (.aload_n 0, 1) := by decide +kernel
theorem dX4_areSo_18 : decode (zB 31) 18 = .ok (.getfield 15, 3) := by decide +kernel
theorem dX4_areSo_21 : decode (zB 31) 21 = .ok (.iload_n 2, 1) := by decide +kernel
theorem dX4_areSo_22 : decode (zB 31) 22 = .ok (.iaload, 1) := by decide +kernel
theorem dX4_areSo_23 : decode (zB 31) 23 = .ok (.invokevirtual 31, 3) := by decide +kernel
theorem dX4_areSo_26 : decode (zB 31) 26 = .ok (.aload_n 0, 1) := by decide +kernel
theorem dX4_areSo_27 : decode (zB 31) 27 = .ok (.getfield 18, 3) := by decide +kernel
theorem dX4_areSo_30 : decode (zB 31) 30 = .ok (.iload_n 2, 1) := by decide +kernel
theorem dX4_areSo_31 : decode (zB 31) 31 = .ok (.iaload, 1) := by decide +kernel
theorem dX4_areSo_32 : decode (zB 31) 32 = .ok (.if_icmp .eq 5, 3) := by decide +kernel
theorem dX4_areSo_35 : decode (zB 31) 35 = .ok (.iconst 0, 1) := by decide +kernel
theorem dX4_areSo_36 : decode (zB 31) 36 = .ok (.ireturn, 1) := by decide +kernel
theorem dX4_areSo_37 : decode (zB 31) 37 = .ok (.iinc 2 1, 3) := by decide +kernel
theorem dX4_areSo_40 : decode (zB 31) 40 = .ok (.goto (-38), 3) := by decide +kernel
theorem dX4_areSo_43 : decode (zB 31) 43 = .ok (.iconst 1, 1) := by decide +kernel
theorem dX4_areSo_44 : decode (zB 31) 44 = .ok (.ireturn, 1) := by decide +kernel
theorem dX5_houseBehind_0 : decode (zB 33) 0 = .ok (.aload_n 0, 1) := by decide +kernel
theorem dX5_houseBehind_1 : decode (zB 33) 1 = .ok (.getfield 15, 3) := by decide +kernel
theorem dX5_houseBehind_4 : decode (zB 33) 4 = .ok (.iload_n 2, 1) := by decide +kernel
theorem dX5_houseBehind_5 : decode (zB 33) 5 = .ok (.aload_n 0, 1) := by decide +kernel
theorem dX5_houseBehind_6 : decode (zB 33) 6 = .ok (.getfield 30, 3) := by decide +kernel
theorem dX5_houseBehind_9 : decode (zB 33) 9 = .ok (.invokestatic 34, 3) := by decide +kernel
theorem dX5_houseBehind_12 : decode (zB 33) 12 = .ok (.bipush 9, 2) := by decide +kernel
theorem dX5_houseBehind_14 : decode (zB 33) 14 = .ok (.imul, 1) := by decide +kernel
theorem dX5_houseBehind_15 : decode (zB 33) 15 = .ok (.iload_n 1, 1) := by decide +kernel
theorem dX5_houseBehind_16 : decode (zB 33) 16 = .ok (.iadd, 1) := by decide +kernel
theorem dX5_houseBehind_17 : decode (zB 33) 17 = .ok (.iaload, 1) := by decide +kernel
theorem dX5_houseBehind_18 : decode (zB 33) 18 = .ok (.ireturn, 1) := by decide +kernel
theorem dX5_run_0 : decode (zB 34) 0 = .ok (.aload_n 0, 1) := by decide +kernel
theorem dX5_run_1 : decode (zB 34) 1 = .ok (.getfield 40, 3) := by decide +kernel
theorem dX5_run_4 : decode (zB 34) 4 = .ok (.ifCond .eq 4, 3) := by decide +kernel
theorem dX5_run_7 : decode (zB 34) 7 = .ok (.return_, 1) := by decide +kernel
theorem dX5_run_8 : decode (zB 34) 8 = .ok (.aload_n 0, 1) := by decide +kernel
theorem dX5_run_9 : decode (zB 34) 9 = .ok (.iconst 1, 1) := by decide +kernel
theorem dX5_run_10 : decode (zB 34) 10 = .ok (.putfield 40, 3) := by decide +kernel
theorem dX5_run_13 : decode (zB 34) 13 = .ok (.aload_n 0, 1) := by decide +kernel
theorem dX5_run_14 : decode (zB 34) 14 = .ok (.getfield 22, 3) := by decide +kernel
theorem dX5_run_17 : decode (zB 34) 17 = .ok (.getfield 44, 3) := by decide +kernel
theorem dX5_run_20 : decode (zB 34) 20 = .ok (.iconst 0, 1) := by decide +kernel
theorem dX5_run_21 : decode (zB 34) 21 = .ok (.aload_n 0, 1) := by decide +kernel
theorem dX5_run_22 : decode (zB 34) 22 = .ok (.getfield 9, 3) := by decide +kernel
theorem dX5_run_25 : decode (zB 34) 25 = .ok (.iconst 0, 1) := by decide +kernel
theorem dX5_run_26 : decode (zB 34) 26 = .ok (.bipush 9, 2) := by decide +kernel
theorem dX5_run_28 : decode (zB 34) 28 = .ok (.invokestatic 49, 3) := by decide +kernel
theorem dX5_run_31 : decode (zB 34) 31 = .ok (.aload_n 0, 1) := by decide +kernel
theorem dX5_run_32 : decode (zB 34) 32 = .ok (.bipush (-9), 2) := by decide +kernel
theorem dX5_run_34 : decode (zB 34) 34 = .ok (.putfield 55, 3) := by decide +kernel
theorem dX5_run_37 : decode (zB 34) 37 = .ok (.aload_n 0, 1) := by decide +kernel
theorem dX5_run_38 : decode (zB 34) 38 = .ok (.iconst 0, 1) := by decide +kernel
theorem dX5_run_39 : decode (zB 34) 39 = .ok (.invokevirtual 58, 3) := by decide +kernel
theorem dX5_run_42 : decode (zB 34) 42 = .ok (.iconst 1, 1) := by decide +kernel
theorem dX5_run_43 : decode (zB 34) 43 = .ok (.istore_n 1, 1) := by decide +kernel
theorem dX5_run_44 : decode (zB 34) 44 = .ok (.iload_n 1, 1) := by decide +kernel
theorem dX5_run_45 : decode (zB 34) 45 = .ok (.bipush 50, 2) := by decide +kernel
theorem dX5_run_47 : decode (zB 34) 47 = .ok (.if_icmp .gt 85, 3) := by decide +kernel
theorem dX5_run_50 : decode (zB 34) 50 = .ok (.aload_n 0, 1) := by decide +kernel
theorem dX5_run_51 : decode (zB 34) 51 = .ok (.getfield 55, 3) := by decide +kernel
theorem dX5_run_54 : decode (zB 34) 54 = .ok (.bipush (-9), 2) := by decide +kernel
theorem dX5_run_56 : decode (zB 34) 56 = .ok (.if_icmp .ne 76, 3) := by decide +kernel
theorem dX5_run_59 : decode (zB 34) 59 = .ok (.iconst 0, 1) := by decide +kernel
theorem dX5_run_60 : decode (zB 34) 60 = .ok (.istore_n 2, 1) := by decide +kernel
theorem dX5_run_61 : decode (zB 34) 61 = .ok (.iconst 0, 1) := by decide +kernel
theorem dX5_run_62 : decode (zB 34) 62 = .ok (.istore_n 3, 1) := by decide +kernel
theorem dX5_run_63 : decode (zB 34) 63 = .ok (.iload_n 3, 1) := by decide +kernel
theorem dX5_run_64 : decode (zB 34) 64 = .ok (.aload_n 0, 1) := by decide +kernel
theorem dX5_run_65 : decode (zB 34) 65 = .ok (.getfield 22, 3) := by decide +kernel
theorem dX5_run_68 : decode (zB 34) 68 = .ok (.getfield 62, 3) := by decide +kernel
theorem dX5_run_71 : decode (zB 34) 71 = .ok (.if_icmp .ge 36, 3) := by decide +kernel
theorem dX5_run_74 : decode (zB 34) 74 = .ok (.iload_n 2, 1) := by decide +kernel
theorem dX5_run_75 : decode (zB 34) 75 = .ok (.aload_n 0, 1) := by decide +kernel
theorem dX5_run_76 : decode (zB 34) 76 = .ok (.getfield 9, 3) := by decide +kernel
theorem dX5_run_79 : decode (zB 34) 79 = .ok (.iload_n 3, 1) := by decide +kernel
theorem dX5_run_80 : decode (zB 34) 80 = .ok (.iaload, 1) := by decide +kernel
theorem dX5_run_81 : decode (zB 34) 81 = .ok (.bipush (-9), 2) := by decide +kernel
theorem dX5_run_83 : decode (zB 34) 83 = .ok (.if_icmp .eq 15, 3) := by decide +kernel
theorem dX5_run_86 : decode (zB 34) 86 = .ok (.aload_n 0, 1) := by decide +kernel
theorem dX5_run_87 : decode (zB 34) 87 = .ok (.iload_n 3, 1) := by decide +kernel
theorem dX5_run_88 : decode (zB 34) 88 = .ok (.invokevirtual 65, 3) := by decide +kernel
theorem dX5_run_91 : decode (zB 34) 91 = .ok (.ifCond .eq 7, 3) := by decide +kernel
theorem dX5_run_94 : decode (zB 34) 94 = .ok (.iconst 1, 1) := by decide +kernel
theorem dX5_run_95 : decode (zB 34) 95 = .ok (.goto 4, 3) := by decide +kernel
theorem dX5_run_98 : decode (zB 34) 98 = .ok (.iconst 0, 1) := by decide +kernel
theorem dX5_run_99 : decode (zB 34) 99 = .ok (.ior, 1) := by decide +kernel
theorem dX5_run_100 : decode (zB 34) 100 = .ok (.istore_n 2, 1) := by decide +kernel
theorem dX5_run_101 : decode (zB 34) 101 = .ok (.iinc 3 1, 3) := by decide +kernel
theorem dX5_run_104 : decode (zB 34) 104 = .ok (.goto (-41), 3) := by decide +kernel
theorem dX5_run_107 : decode (zB 34) 107 = .ok (.iload_n 2, 1) := by decide +kernel
theorem dX5_run_108 : decode (zB 34) 108 = .ok (.ifCond .eq 11, 3) := by decide +kernel
theorem dX5_run_111 : decode (zB 34) 111 = .ok (.aload_n 0, 1) := by decide +kernel
theorem dX5_run_112 : decode (zB 34) 112 = .ok (.iload_n 1, 1) := by decide +kernel
theorem dX5_run_113 : decode (zB 34) 113 = .ok (.invokevirtual 58, 3) := by decide +kernel
theorem dX5_run_116 : decode (zB 34) 116 = .ok (.goto 10, 3) := by decide +kernel
theorem dX5_run_119 : decode (zB 34) 119 = .ok (.aload_n 0, 1) := by decide +kernel
theorem dX5_run_120 : decode (zB 34) 120 = .ok (.iload_n 1, 1) := by decide +kernel
theorem dX5_run_121 : decode (zB 34) 121 = .ok (.iconst 1, 1) := by decide +kernel
theorem dX5_run_122 : decode (zB 34) 122 = .ok (.isub, 1) := by decide +kernel
theorem dX5_run_123 : decode (zB 34) 123 = .ok (.putfield 55, 3) := by decide +kernel
theorem dX5_run_126 : decode (zB 34) 126 = .ok (.iinc 1 1, 3) := by decide +kernel
theorem dX5_run_129 : decode (zB 34) 129 = .ok (.goto (-85), 3) := by decide +kernel
theorem dX5_run_132 : decode (zB 34) 132 = .ok (.return_, 1) := by decide +kernel
theorem dX5_keep_0 : decode (zB 35) 0 = .ok (.aload_n 0, 1) := by decide +kernel
theorem dX5_keep_1 : decode (zB 35) 1 = .ok (.getfield 9, 3) := by decide +kernel
theorem dX5_keep_4 : decode (zB 35) 4 = .ok (.iconst 0, 1) := by decide +kernel
theorem dX5_keep_5 : decode (zB 35) 5 = .ok (.aload_n 0, 1) := by decide +kernel
theorem dX5_keep_6 : decode (zB 35) 6 = .ok (.getfield 15, 3) := by decide +kernel
theorem dX5_keep_9 : decode (zB 35) 9 = .ok (.iload_n 1, 1) := by decide +kernel
theorem dX5_keep_10 : decode (zB 35) 10 = .ok (.bipush 9, 2) := by decide +kernel
theorem dX5_keep_12 : decode (zB 35) 12 = .ok (.imul, 1) := by decide +kernel
theorem dX5_keep_13 : decode (zB 35) 13 = .ok (.bipush 9, 2) := by decide +kernel
theorem dX5_keep_15 : decode (zB 35) 15 = .ok (.invokestatic 49, 3) := by decide +kernel
theorem dX5_keep_18 : decode (zB 35) 18 = .ok (.aload_n 0, 1) := by decide +kernel
theorem dX5_keep_19 : decode (zB 35) 19 = .ok (.iload_n 1, 1) := by decide +kernel
theorem dX5_keep_20 : decode (zB 35) 20 = .ok (.putfield 30, 3) := by decide +kernel
theorem dX5_keep_23 : decode (zB 35) 23 = .ok (.return_, 1) := by decide +kernel
theorem dX5_moves_0 : decode (zB 36) 0 = .ok (.aload_n 0, 1) := by decide +kernel
theorem dX5_moves_1 : decode (zB 36) 1 = .ok (.getfield 9, 3) := by decide +kernel
theorem dX5_moves_4 : decode (zB 36) 4 = .ok (.iload_n 1, 1) := by decide +kernel
theorem dX5_moves_5 : decode (zB 36) 5 = .ok (.iaload, 1) := by decide +kernel
theorem dX5_moves_6 : decode (zB 36) 6 = .ok (.istore_n 2, 1) := by decide +kernel
theorem dX5_moves_7 : decode (zB 36) 7 = .ok (.iload_n 2, 1) := by decide +kernel
theorem dX5_moves_8 : decode (zB 36) 8 = .ok (.istore_n 3, 1) := by decide +kernel
theorem dX5_moves_9 : decode (zB 36) 9 = .ok (.aload_n 0, 1) := by decide +kernel
theorem dX5_moves_10 : decode (zB 36) 10 = .ok (.iload_n 1, 1) := by decide +kernel
theorem dX5_moves_11 : decode (zB 36) 11 = .ok (.invokevirtual 69, 3) := by decide +kernel
theorem dX5_moves_14 : decode (zB 36) 14 = .ok (.istore 4, 2) := by decide +kernel
theorem dX5_moves_16 : decode (zB 36) 16 = .ok (.iconst 0, 1) := by decide +kernel
theorem dX5_moves_17 : decode (zB 36) 17 = .ok (.istore 5, 2) := by decide +kernel
theorem dX5_moves_19 : decode (zB 36) 19 = .ok (.iload 5, 2) := by decide +kernel
theorem dX5_moves_21 : decode (zB 36) 21 = .ok (.aload_n 0, 1) := by decide +kernel
theorem dX5_moves_22 : decode (zB 36) 22 = .ok (.getfield 18, 3) := by decide +kernel
theorem dX5_moves_25 : decode (zB 36) 25 = .ok (.getfield 73, 3) := by decide +kernel
theorem dX5_moves_28 : decode (zB 36) 28 = .ok (.if_icmp .ge 58, 3) := by decide +kernel
theorem dX5_moves_31 : decode (zB 36) 31 = .ok (.aload_n 0, 1) := by decide +kernel
theorem dX5_moves_32 : decode (zB 36) 32 = .ok (.getfield 9, 3) := by decide +kernel
theorem dX5_moves_35 : decode (zB 36) 35 = .ok (.iload_n 1, 1) := by decide +kernel
theorem dX5_moves_36 : decode (zB 36) 36 = .ok (.iload 5, 2) := by decide +kernel
theorem dX5_moves_38 : decode (zB 36) 38 = .ok (.iastore, 1) := by decide +kernel
theorem dX5_moves_39 : decode (zB 36) 39 = .ok (.iload 5, 2) := by decide +kernel
theorem dX5_moves_41 : decode (zB 36) 41 = .ok (.iload_n 2, 1) := by decide +kernel
theorem dX5_moves_42 : decode (zB 36) 42 = .ok (.if_icmp .eq 38, 3) := by decide +kernel
theorem dX5_moves_45 : decode (zB 36) 45 = .ok (.aload_n 0, 1) := by decide +kernel
theorem dX5_moves_46 : decode (zB 36) 46 = .ok (.getfield 22, 3) := by decide +kernel
theorem dX5_moves_49 : decode (zB 36) 49 = .ok (.aload_n 0, 1) := by decide +kernel
theorem dX5_moves_50 : decode (zB 36) 50 = .ok (.getfield 9, 3) := by decide +kernel
theorem dX5_moves_53 : decode (zB 36) 53 = .ok (.invokevirtual 76, 3) := by decide +kernel
theorem dX5_moves_56 : decode (zB 36) 56 = .ok (.ifCond .eq 24, 3) := by decide +kernel
theorem dX5_moves_59 : decode (zB 36) 59 = .ok (.aload_n 0, 1) := by decide +kernel
theorem dX5_moves_60 : decode (zB 36) 60 = .ok (.iload_n 1, 1) := by decide +kernel
theorem dX5_moves_61 : decode (zB 36) 61 = .ok (.invokevirtual 69, 3) := by decide +kernel
theorem dX5_moves_64 : decode (zB 36) 64 = .ok (.istore 6, 2) := by decide +kernel
theorem dX5_moves_66 : decode (zB 36) 66 = .ok (.iload 6, 2) := by decide +kernel
theorem dX5_moves_68 : decode (zB 36) 68 = .ok (.iload 4, 2) := by decide +kernel
theorem dX5_moves_70 : decode (zB 36) 70 = .ok (.if_icmp .ge 10, 3) := by decide +kernel
theorem dX5_moves_73 : decode (zB 36) 73 = .ok (.iload 6, 2) := by decide +kernel
theorem dX5_moves_75 : decode (zB 36) 75 = .ok (.istore 4, 2) := by decide +kernel
theorem dX5_moves_77 : decode (zB 36) 77 = .ok (.iload 5, 2) := by decide +kernel
theorem dX5_moves_79 : decode (zB 36) 79 = .ok (.istore_n 3, 1) := by decide +kernel
theorem dX5_moves_80 : decode (zB 36) 80 = .ok (.iinc 5 1, 3) := by decide +kernel
theorem dX5_moves_83 : decode (zB 36) 83 = .ok (.goto (-64), 3) := by decide +kernel
theorem dX5_moves_86 : decode (zB 36) 86 = .ok (.aload_n 0, 1) := by decide +kernel
theorem dX5_moves_87 : decode (zB 36) 87 = .ok (.getfield 9, 3) := by decide +kernel
theorem dX5_moves_90 : decode (zB 36) 90 = .ok (.iload_n 1, 1) := by decide +kernel
theorem dX5_moves_91 : decode (zB 36) 91 = .ok (.iload_n 3, 1) := by decide +kernel
theorem dX5_moves_92 : decode (zB 36) 92 = .ok (.iastore, 1) := by decide +kernel
theorem dX5_moves_93 : decode (zB 36) 93 = .ok (.iload_n 3, 1) := by decide +kernel
theorem dX5_moves_94 : decode (zB 36) 94 = .ok (.iload_n 2, 1) := by decide +kernel
theorem dX5_moves_95 : decode (zB 36) 95 = .ok (.if_icmp .eq 7, 3) := by decide +kernel
theorem dX5_moves_98 : decode (zB 36) 98 = .ok (.iconst 1, 1) := by decide +kernel
theorem dX5_moves_99 : decode (zB 36) 99 = .ok (.goto 4, 3) := by decide +kernel
theorem dX5_moves_102 : decode (zB 36) 102 = .ok (.iconst 0, 1) := by decide +kernel
theorem dX5_moves_103 : decode (zB 36) 103 = .ok (.ireturn, 1) := by decide +kernel
theorem dX5_howDeep_0 : decode (zB 37) 0 = .ok (.aload_n 0, 1) := by decide +kernel
theorem dX5_howDeep_1 : decode (zB 37) 1 = .ok (.getfield 26, 3) := by decide +kernel
theorem dX5_howDeep_4 : decode (zB 37) 4 = .ok (.aload_n 0, 1) := by decide +kernel
theorem dX5_howDeep_5 : decode (zB 37) 5 = .ok (.getfield 9, 3) := by decide +kernel
theorem dX5_howDeep_8 : decode (zB 37) 8 = .ok (.invokevirtual 80, 3) := by decide +kernel
theorem dX5_howDeep_11 : decode (zB 37) 11 = .ok (.iconst 0, 1) := by decide +kernel
theorem dX5_howDeep_12 : decode (zB 37) 12 = .ok (.istore_n 2, 1) := by decide +kernel
theorem dX5_howDeep_13 : decode (zB 37) 13 = .ok (.iconst 0, 1) := by decide +kernel
theorem dX5_howDeep_14 : decode (zB 37) 14 = .ok (.istore_n 3, 1) := by decide +kernel
theorem dX5_howDeep_15 : decode (zB 37) 15 = .ok (.iload_n 3, 1) := by decide +kernel
theorem dX5_howDeep_16 : decode (zB 37) 16 = .ok (.aload_n 0, 1) := by decide +kernel
theorem dX5_howDeep_17 : decode (zB 37) 17 = .ok (.getfield 22, 3) := by decide +kernel
theorem dX5_howDeep_20 : decode (zB 37) 20 = .ok (.getfield 86, 3) := by decide +kernel
theorem dX5_howDeep_23 : decode (zB 37) 23 = .ok (.iload_n 1, 1) := by decide +kernel
theorem dX5_howDeep_24 : decode (zB 37) 24 = .ok (.iaload, 1) := by decide +kernel
theorem dX5_howDeep_25 : decode (zB 37) 25 = .ok (.if_icmp .gt 58, 3) := by decide +kernel
theorem dX5_howDeep_28 : decode (zB 37) 28 = .ok (.aload_n 0, 1) := by decide +kernel
theorem dX5_howDeep_29 : decode (zB 37) 29 = .ok (.getfield 26, 3) := by decide +kernel
theorem dX5_howDeep_32 : decode (zB 37) 32 = .ok (.aload_n 0, 1) := by decide +kernel
theorem dX5_howDeep_33 : decode (zB 37) 33 = .ok (.getfield 9, 3) := by decide +kernel
theorem dX5_howDeep_36 : decode (zB 37) 36 = .ok (.iload_n 3, 1) := by decide +kernel
theorem dX5_howDeep_37 : decode (zB 37) 37 = .ok (.iconst 0, 1) := by decide +kernel
theorem dX5_howDeep_38 : decode (zB 37) 38 = .ok (.invokevirtual 89, 3) := by decide +kernel
theorem dX5_howDeep_41 : decode (zB 37) 41 = .ok (.iload_n 2, 1) := by decide +kernel
theorem dX5_howDeep_42 : decode (zB 37) 42 = .ok (.iload_n 3, 1) := by decide +kernel
theorem dX5_howDeep_43 : decode (zB 37) 43 = .ok (.aload_n 0, 1) := by decide +kernel
theorem dX5_howDeep_44 : decode (zB 37) 44 = .ok (.getfield 22, 3) := by decide +kernel
theorem dX5_howDeep_47 : decode (zB 37) 47 = .ok (.getfield 93, 3) := by decide +kernel
theorem dX5_howDeep_50 : decode (zB 37) 50 = .ok (.iload_n 1, 1) := by decide +kernel
theorem dX5_howDeep_51 : decode (zB 37) 51 = .ok (.iaload, 1) := by decide +kernel
theorem dX5_howDeep_52 : decode (zB 37) 52 = .ok (.if_icmp .lt 22, 3) := by decide +kernel
theorem dX5_howDeep_55 : decode (zB 37) 55 = .ok (.aload_n 0, 1) := by decide +kernel
theorem dX5_howDeep_56 : decode (zB 37) 56 = .ok (.getfield 26, 3) := by decide +kernel
theorem dX5_howDeep_59 : decode (zB 37) 59 = .ok (.aload_n 0, 1) := by decide +kernel
theorem dX5_howDeep_60 : decode (zB 37) 60 = .ok (.getfield 9, 3) := by decide +kernel
theorem dX5_howDeep_63 : decode (zB 37) 63 = .ok (.iload_n 1, 1) := by decide +kernel
theorem dX5_howDeep_64 : decode (zB 37) 64 = .ok (.iaload, 1) := by decide +kernel
theorem dX5_howDeep_65 : decode (zB 37) 65 = .ok (.iload_n 3, 1) := by decide +kernel
theorem dX5_howDeep_66 : decode (zB 37) 66 = .ok (.iconst 1, 1) := by decide +kernel
theorem dX5_howDeep_67 : decode (zB 37) 67 = .ok (.iadd, 1) := by decide +kernel
theorem dX5_howDeep_68 : decode (zB 37) 68 = .ok (.invokevirtual 96, 3) := by decide +kernel
theorem dX5_howDeep_71 : decode (zB 37) 71 = .ok (.goto 4, 3) := by decide +kernel
theorem dX5_howDeep_74 : decode (zB 37) 74 = .ok (.iconst 0, 1) := by decide +kernel
theorem dX5_howDeep_75 : decode (zB 37) 75 = .ok (.iadd, 1) := by decide +kernel
theorem dX5_howDeep_76 : decode (zB 37) 76 = .ok (.istore_n 2, 1) := by decide +kernel
theorem dX5_howDeep_77 : decode (zB 37) 77 = .ok (.iinc 3 1, 3) := by decide +kernel
theorem dX5_howDeep_80 : decode (zB 37) 80 = .ok (.goto (-65), 3) := by decide +kernel
theorem dX5_howDeep_83 : decode (zB 37) 83 = .ok (.iload_n 2, 1) := by decide +kernel
theorem dX5_howDeep_84 : decode (zB 37) 84 = .ok (.ireturn, 1) := by decide +kernel
theorem dX6_layRow_0 : decode (zB 39) 0 = .ok (.aload_n 0, 1) := by decide +kernel
theorem dX6_layRow_1 : decode (zB 39) 1 = .ok (.iload_n 1, 1) := by decide +kernel
theorem dX6_layRow_2 : decode (zB 39) 2 = .ok (.putfield 15, 3) := by decide +kernel
theorem dX6_layRow_5 : decode (zB 39) 5 = .ok (.aload_n 0, 1) := by decide +kernel
theorem dX6_layRow_6 : decode (zB 39) 6 = .ok (.iload_n 2, 1) := by decide +kernel
theorem dX6_layRow_7 : decode (zB 39) 7 = .ok (.putfield 19, 3) := by decide +kernel
theorem dX6_layRow_10 : decode (zB 39) 10 = .ok (.aload_n 0, 1) := by decide +kernel
theorem dX6_layRow_11 : decode (zB 39) 11 = .ok (.iconst 1, 1) := by decide +kernel
theorem dX6_layRow_12 : decode (zB 39) 12 = .ok (.putfield 22, 3) := by decide +kernel
theorem dX6_layRow_15 : decode (zB 39) 15 = .ok (.iconst 0, 1) := by decide +kernel
theorem dX6_layRow_16 : decode (zB 39) 16 = .ok (.istore_n 3, 1) := by decide +kernel
theorem dX6_layRow_17 : decode (zB 39) 17 = .ok (.iload_n 3, 1) := by decide +kernel
theorem dX6_layRow_18 : decode (zB 39) 18 = .ok (.bipush 60, 2) := by decide +kernel
theorem dX6_layRow_20 : decode (zB 39) 20 = .ok (.if_icmp .ge 16, 3) := by decide +kernel
theorem dX6_layRow_23 : decode (zB 39) 23 = .ok (.aload_n 0, 1) := by decide +kernel
theorem dX6_layRow_24 : decode (zB 39) 24 = .ok (.getfield 9, 3) := by decide +kernel
theorem dX6_layRow_27 : decode (zB 39) 27 = .ok (.iload_n 3, 1) := by decide +kernel
theorem dX6_layRow_28 : decode (zB 39) 28 = .ok (.iconst 0, 1) := by decide +kernel
theorem dX6_layRow_29 : decode (zB 39) 29 = .ok (.iastore, 1) := by decide +kernel
theorem dX6_layRow_30 : decode (zB 39) 30 = .ok (.iinc 3 1, 3) := by decide +kernel
theorem dX6_layRow_33 : decode (zB 39) 33 = .ok (.goto (-16), 3) := by decide +kernel
theorem dX6_layRow_36 : decode (zB 39) 36 = .ok (.return_, 1) := by decide +kernel
theorem dX6_isOfAnotherLane_0 : decode (zB 40) 0 = .ok (.aload_n 0, 1) := by decide +kernel
theorem dX6_isOfAnotherLane_1 : decode (zB 40) 1 = .ok (.getfield 22, 3) := by decide +kernel
theorem dX6_isOfAnotherLane_4 : decode (zB 40) 4 = .ok (.ifCond .eq 15, 3) := by decide +kernel
theorem dX6_isOfAnotherLane_7 : decode (zB 40) 7 = .ok (.aload_n 0, 1) := by decide +kernel
theorem dX6_isOfAnotherLane_8 : decode (zB 40) 8 = .ok (.getfield 15, 3) := by decide +kernel
theorem dX6_isOfAnotherLane_11 : decode (zB 40) 11 = .ok (.iload_n 1, 1) := by decide +kernel
theorem dX6_isOfAnotherLane_12 : decode (zB 40) 12 = .ok (.if_icmp .eq 7, 3) := by decide +kernel
theorem dX6_isOfAnotherLane_15 : decode (zB 40) 15 = .ok (.iconst 1, 1) := by decide +kernel
theorem dX6_isOfAnotherLane_16 : decode (zB 40) 16 = .ok (.goto 4, 3) := by decide +kernel
theorem dX6_isOfAnotherLane_19 : decode (zB 40) 19 = .ok (.iconst 0, 1) := by decide +kernel
theorem dX6_isOfAnotherLane_20 : decode (zB 40) 20 = .ok (.ireturn, 1) := by decide +kernel
theorem dX6_hasCells_0 : decode (zB 41) 0 = .ok (.iload_n 1, 1) := by decide +kernel
theorem dX6_hasCells_1 : decode (zB 41) 1 = .ok (.ifCond .lt 29, 3) := by decide +kernel
theorem dX6_hasCells_4 : decode (zB 41) 4 = .ok (.iload_n 1, 1) := by decide +kernel
theorem dX6_hasCells_5 : decode (zB 41) 5 = .ok (.aload_n 0, 1) := by decide +kernel
theorem dX6_hasCells_6 : decode (zB 41) 6 = .ok (.getfield 19, 3) := by decide +kernel
theorem dX6_hasCells_9 : decode (zB 41) 9 = .ok (.if_icmp .gt 21, 3) := by decide +kernel
theorem dX6_hasCells_12 : decode (zB 41) 12 = .ok (.iload_n 2, 1) := by decide +kernel
theorem dX6_hasCells_13 : decode (zB 41) 13 = .ok (.ifCond .lt 17, 3) := by decide +kernel
theorem dX6_hasCells_16 : decode (zB 41) 16 = .ok (.iload_n 2, 1) := by decide +kernel
theorem dX6_hasCells_17 : decode (zB 41) 17 = .ok (.aload_n 0, 1) := by decide +kernel
theorem dX6_hasCells_18 : decode (zB 41) 18 = .ok (.getfield 19, 3) := by decide +kernel
theorem dX6_hasCells_21 : decode (zB 41) 21 = .ok (.iload_n 1, 1) := by decide +kernel
theorem dX6_hasCells_22 : decode (zB 41) 22 = .ok (.isub, 1) := by decide +kernel
theorem dX6_hasCells_23 : decode (zB 41) 23 = .ok (.if_icmp .gt 7, 3) := by decide +kernel
theorem dX6_hasCells_26 : decode (zB 41) 26 = .ok (.iconst 1, 1) := by decide +kernel
theorem dX6_hasCells_27 : decode (zB 41) 27 = .ok (.goto 4, 3) := by decide +kernel
theorem dX6_hasCells_30 : decode (zB 41) 30 = .ok (.iconst 0, 1) := by decide +kernel
theorem dX6_hasCells_31 : decode (zB 41) 31 = .ok (.ireturn, 1) := by decide +kernel
theorem dX6_cut_0 : decode (zB 42) 0 = .ok (.aload_n 0, 1) := by decide +kernel
theorem dX6_cut_1 : decode (zB 42) 1 = .ok (.getfield 15, 3) := by decide +kernel
theorem dX6_cut_4 : decode (zB 42) 4 = .ok (.lookupswitch 34 #[(0, 28), (1, 31)], 28) := by decide +kernel
theorem dX6_cut_32 : decode (zB 42) 32 = .ok (.iload_n 1, 1) := by decide +kernel
theorem dX6_cut_33 : decode (zB 42) 33 = .ok (.i2b, 1) := by decide +kernel
theorem dX6_cut_34 : decode (zB 42) 34 = .ok (.ireturn, 1) := by decide +kernel
theorem dX6_cut_35 : decode (zB 42) 35 = .ok (.iload_n 1, 1) := by decide +kernel
theorem dX6_cut_36 : decode (zB 42) 36 = .ok (.i2s, 1) := by decide +kernel
theorem dX6_cut_37 : decode (zB 42) 37 = .ok (.ireturn, 1) := by decide +kernel
theorem dX6_cut_38 : decode (zB 42) 38 = .ok (.iload_n 1, 1) := by decide +kernel
theorem dX6_cut_39 : decode (zB 42) 39 = .ok (.ireturn, 1) := by decide +kernel
theorem dX7_has_0 : decode (zB 44) 0 = .ok (.iload_n 1, 1) := by decide +kernel
theorem dX7_has_1 : decode (zB 44) 1 = .ok (.ifCond .lt 15, 3) := by decide +kernel
theorem dX7_has_4 : decode (zB 44) 4 = .ok (.iload_n 1, 1) := by decide +kernel
theorem dX7_has_5 : decode (zB 44) 5 = .ok (.aload_n 0, 1) := by decide +kernel
theorem dX7_has_6 : decode (zB 44) 6 = .ok (.getfield 18, 3) := by decide +kernel
theorem dX7_has_9 : decode (zB 44) 9 = .ok (.if_icmp .ge 7, 3) := by decide +kernel
theorem dX7_has_12 : decode (zB 44) 12 = .ok (.iconst 1, 1) := by decide +kernel
theorem dX7_has_13 : decode (zB 44) 13 = .ok (.goto 4, 3) := by decide +kernel
theorem dX7_has_16 : decode (zB 44) 16 = .ok (.iconst 0, 1) := by decide +kernel
theorem dX7_has_17 : decode (zB 44) 17 = .ok (.ireturn, 1) := by decide +kernel
theorem dX7_build_0 : decode (zB 45) 0 = .ok (.aload_n 0, 1) := by decide +kernel
theorem dX7_build_1 : decode (zB 45) 1 = .ok (.aload_n 1, 1) := by decide +kernel
theorem dX7_build_2 : decode (zB 45) 2 = .ok (.getfield 22, 3) := by decide +kernel
theorem dX7_build_5 : decode (zB 45) 5 = .ok (.iload_n 2, 1) := by decide +kernel
theorem dX7_build_6 : decode (zB 45) 6 = .ok (.iconst 1, 1) := by decide +kernel
theorem dX7_build_7 : decode (zB 45) 7 = .ok (.iadd, 1) := by decide +kernel
theorem dX7_build_8 : decode (zB 45) 8 = .ok (.iaload, 1) := by decide +kernel
theorem dX7_build_9 : decode (zB 45) 9 = .ok (.bipush 48, 2) := by decide +kernel
theorem dX7_build_11 : decode (zB 45) 11 = .ok (.isub, 1) := by decide +kernel
theorem dX7_build_12 : decode (zB 45) 12 = .ok (.putfield 28, 3) := by decide +kernel
theorem dX7_build_15 : decode (zB 45) 15 = .ok (.aload_n 0, 1) := by decide +kernel
theorem dX7_build_16 : decode (zB 45) 16 = .ok (.iload_n 3, 1) := by decide +kernel
theorem dX7_build_17 : decode (zB 45) 17 = .ok (.iconst 2, 1) := by decide +kernel
theorem dX7_build_18 : decode (zB 45) 18 = .ok (.isub, 1) := by decide +kernel
theorem dX7_build_19 : decode (zB 45) 19 = .ok (.bipush 6, 2) := by decide +kernel
theorem dX7_build_21 : decode (zB 45) 21 = .ok (.idiv, 1) := by decide +kernel
theorem dX7_build_22 : decode (zB 45) 22 = .ok (.putfield 18, 3) := by decide +kernel
theorem dX7_build_25 : decode (zB 45) 25 = .ok (.iconst 0, 1) := by decide +kernel
theorem dX7_build_26 : decode (zB 45) 26 = .ok (.istore 4, 2) := by decide +kernel
theorem dX7_build_28 : decode (zB 45) 28 = .ok (.iload 4, 2) := by decide +kernel
theorem dX7_build_30 : decode (zB 45) 30 = .ok (.aload_n 0, 1) := by decide +kernel
theorem dX7_build_31 : decode (zB 45) 31 = .ok (.getfield 18, 3) := by decide +kernel
theorem dX7_build_34 : decode (zB 45) 34 = .ok (.if_icmp .ge 114, 3) := by decide +kernel
theorem dX7_build_37 : decode (zB 45) 37 = .ok (.iload_n 2, 1) := by decide +kernel
theorem dX7_build_38 : decode (zB 45) 38 = .ok (.iconst 2, 1) := by decide +kernel
theorem dX7_build_39 : decode (zB 45) 39 = .ok (.iadd, 1) := by decide +kernel
theorem dX7_build_40 : decode (zB 45) 40 = .ok (.iload 4, 2) := by decide +kernel
theorem dX7_build_42 : decode (zB 45) 42 = .ok (.bipush 6, 2) := by decide +kernel
theorem dX7_build_44 : decode (zB 45) 44 = .ok (.imul, 1) := by decide +kernel
theorem dX7_build_45 : decode (zB 45) 45 = .ok (.iadd, 1) := by decide +kernel
theorem dX7_build_46 : decode (zB 45) 46 = .ok (.istore 5, 2) := by decide +kernel
theorem dX7_build_48 : decode (zB 45) 48 = .ok (.aload_n 0, 1) := by decide +kernel
theorem dX7_build_49 : decode (zB 45) 49 = .ok (.getfield 11, 3) := by decide +kernel
theorem dX7_build_52 : decode (zB 45) 52 = .ok (.iload 4, 2) := by decide +kernel
theorem dX7_build_54 : decode (zB 45) 54 = .ok (.aaload, 1) := by decide +kernel
theorem dX7_build_55 : decode (zB 45) 55 = .ok (.astore 6, 2) := by decide +kernel
theorem dX7_build_57 : decode (zB 45) 57 = .ok (.aload 6, 2) := by decide +kernel
theorem dX7_build_59 : decode (zB 45) 59 = .ok (.aload_n 1, 1) := by decide +kernel
theorem dX7_build_60 : decode (zB 45) 60 = .ok (.getfield 22, 3) := by decide +kernel
theorem dX7_build_63 : decode (zB 45) 63 = .ok (.iload 5, 2) := by decide +kernel
theorem dX7_build_65 : decode (zB 45) 65 = .ok (.iconst 1, 1) := by decide +kernel
theorem dX7_build_66 : decode (zB 45) 66 = .ok (.iadd, 1) := by decide +kernel
theorem dX7_build_67 : decode (zB 45) 67 = .ok (.iaload, 1) := by decide +kernel
theorem dX7_build_68 : decode (zB 45) 68 = .ok (.invokestatic 31, 3) := by decide +kernel
theorem dX7_build_71 : decode (zB 45) 71 = .ok (.putfield 35, 3) := by decide +kernel
theorem dX7_build_74 : decode (zB 45) 74 = .ok (.aload 6, 2) := by decide +kernel
theorem dX7_build_76 : decode (zB 45) 76 = .ok (.aload_n 1, 1) := by decide +kernel
theorem dX7_build_77 : decode (zB 45) 77 = .ok (.getfield 22, 3) := by decide +kernel
theorem dX7_build_80 : decode (zB 45) 80 = .ok (.iload 5, 2) := by decide +kernel
theorem dX7_build_82 : decode (zB 45) 82 = .ok (.iconst 2, 1) := by decide +kernel
theorem dX7_build_83 : decode (zB 45) 83 = .ok (.iadd, 1) := by decide +kernel
theorem dX7_build_84 : decode (zB 45) 84 = .ok (.iaload, 1) := by decide +kernel
theorem dX7_build_85 : decode (zB 45) 85 = .ok (.bipush 48, 2) := by decide +kernel
theorem dX7_build_87 : decode (zB 45) 87 = .ok (.isub, 1) := by decide +kernel
theorem dX7_build_88 : decode (zB 45) 88 = .ok (.putfield 38, 3) := by decide +kernel
theorem dX7_build_91 : decode (zB 45) 91 = .ok (.aload 6, 2) := by decide +kernel
theorem dX7_build_93 : decode (zB 45) 93 = .ok (.aload_n 1, 1) := by decide +kernel
theorem dX7_build_94 : decode (zB 45) 94 = .ok (.getfield 22, 3) := by decide +kernel
theorem dX7_build_97 : decode (zB 45) 97 = .ok (.iload 5, 2) := by decide +kernel
theorem dX7_build_99 : decode (zB 45) 99 = .ok (.iconst 3, 1) := by decide +kernel
theorem dX7_build_100 : decode (zB 45) 100 = .ok (.iadd, 1) := by decide +kernel
theorem dX7_build_101 : decode (zB 45) 101 = .ok (.iaload, 1) := by decide +kernel
theorem dX7_build_102 : decode (zB 45) 102 = .ok (.bipush 48, 2) := by decide +kernel
theorem dX7_build_104 : decode (zB 45) 104 = .ok (.isub, 1) := by decide +kernel
theorem dX7_build_105 : decode (zB 45) 105 = .ok (.putfield 41, 3) := by decide +kernel
theorem dX7_build_108 : decode (zB 45) 108 = .ok (.aload 6, 2) := by decide +kernel
theorem dX7_build_110 : decode (zB 45) 110 = .ok (.aload_n 1, 1) := by decide +kernel
theorem dX7_build_111 : decode (zB 45) 111 = .ok (.getfield 22, 3) := by decide +kernel
theorem dX7_build_114 : decode (zB 45) 114 = .ok (.iload 5, 2) := by decide +kernel
theorem dX7_build_116 : decode (zB 45) 116 = .ok (.iconst 4, 1) := by decide +kernel
theorem dX7_build_117 : decode (zB 45) 117 = .ok (.iadd, 1) := by decide +kernel
theorem dX7_build_118 : decode (zB 45) 118 = .ok (.iaload, 1) := by decide +kernel
theorem dX7_build_119 : decode (zB 45) 119 = .ok (.bipush 48, 2) := by decide +kernel
theorem dX7_build_121 : decode (zB 45) 121 = .ok (.isub, 1) := by decide +kernel
theorem dX7_build_122 : decode (zB 45) 122 = .ok (.putfield 44, 3) := by decide +kernel
theorem dX7_build_125 : decode (zB 45) 125 = .ok (.aload 6, 2) := by decide +kernel
theorem dX7_build_127 : decode (zB 45) 127 = .ok (.aload_n 1, 1) := by decide +kernel
theorem dX7_build_128 : decode (zB 45) 128 = .ok (.getfield 22, 3) := by decide +kernel
theorem dX7_build_131 : decode (zB 45) 131 = .ok (.iload 5, 2) := by decide +kernel
theorem dX7_build_133 : decode (zB 45) 133 = .ok (.iconst 5, 1) := by decide +kernel
theorem dX7_build_134 : decode (zB 45) 134 = .ok (.iadd, 1) := by decide +kernel
theorem dX7_build_135 : decode (zB 45) 135 = .ok (.iaload, 1) := by decide +kernel
theorem dX7_build_136 : decode (zB 45) 136 = .ok (.bipush 48, 2) := by decide +kernel
theorem dX7_build_138 : decode (zB 45) 138 = .ok (.isub, 1) := by decide +kernel
theorem dX7_build_139 : decode (zB 45) 139 = .ok (.putfield 47, 3) := by decide +kernel
theorem dX7_build_142 : decode (zB 45) 142 = .ok (.iinc 4 1, 3) := by decide +kernel
theorem dX7_build_145 : decode (zB 45) 145 = .ok (.goto (-117), 3) := by decide +kernel
theorem dX7_build_148 : decode (zB 45) 148 = .ok (.return_, 1) := by decide +kernel
theorem dX7_kindOf_0 : decode (zB 46) 0 = .ok (.iload_n 0, 1) := by decide +kernel
theorem dX7_kindOf_1 : decode (zB 46) 1 = .ok (.lookupswitch 31 #[(105, 29), (112, 27)], 27) := by decide +kernel
theorem dX7_kindOf_28 : decode (zB 46) 28 = .ok (.iconst 2, 1) := by decide +kernel
theorem dX7_kindOf_29 : decode (zB 46) 29 = .ok (.ireturn, 1) := by decide +kernel
theorem dX7_kindOf_30 : decode (zB 46) 30 = .ok (.iconst 1, 1) := by decide +kernel
theorem dX7_kindOf_31 : decode (zB 46) 31 = .ok (.ireturn, 1) := by decide +kernel
theorem dX7_kindOf_32 : decode (zB 46) 32 = .ok (.iconst 0, 1) := by decide +kernel
theorem dX7_kindOf_33 : decode (zB 46) 33 = .ok (.ireturn, 1) := by decide +kernel
theorem dJ6_bitCount_0f7a4_0 : decode (zB 167) 0 = .ok (.iload_n 0, 1) := by decide +kernel
theorem dJ6_bitCount_0f7a4_1 : decode (zB 167) 1 = .ok (.iload_n 0, 1) := by decide +kernel
theorem dJ6_bitCount_0f7a4_2 : decode (zB 167) 2 = .ok (.iconst 1, 1) := by decide +kernel
theorem dJ6_bitCount_0f7a4_3 : decode (zB 167) 3 = .ok (.iushr, 1) := by decide +kernel
theorem dJ6_bitCount_0f7a4_4 : decode (zB 167) 4 = .ok (.ldc_w 265, 3) := by decide +kernel
theorem dJ6_bitCount_0f7a4_7 : decode (zB 167) 7 = .ok (.iand, 1) := by decide +kernel
theorem dJ6_bitCount_0f7a4_8 : decode (zB 167) 8 = .ok (.isub, 1) := by decide +kernel
theorem dJ6_bitCount_0f7a4_9 : decode (zB 167) 9 = .ok (.istore_n 0, 1) := by decide +kernel
theorem dJ6_bitCount_0f7a4_10 : decode (zB 167) 10 = .ok (.iload_n 0, 1) := by decide +kernel
theorem dJ6_bitCount_0f7a4_11 : decode (zB 167) 11 = .ok (.ldc_w 266, 3) := by decide +kernel
theorem dJ6_bitCount_0f7a4_14 : decode (zB 167) 14 = .ok (.iand, 1) := by decide +kernel
theorem dJ6_bitCount_0f7a4_15 : decode (zB 167) 15 = .ok (.iload_n 0, 1) := by decide +kernel
theorem dJ6_bitCount_0f7a4_16 : decode (zB 167) 16 = .ok (.iconst 2, 1) := by decide +kernel
theorem dJ6_bitCount_0f7a4_17 : decode (zB 167) 17 = .ok (.iushr, 1) := by decide +kernel
theorem dJ6_bitCount_0f7a4_18 : decode (zB 167) 18 = .ok (.ldc_w 266, 3) := by decide +kernel
theorem dJ6_bitCount_0f7a4_21 : decode (zB 167) 21 = .ok (.iand, 1) := by decide +kernel
theorem dJ6_bitCount_0f7a4_22 : decode (zB 167) 22 = .ok (.iadd, 1) := by decide +kernel
theorem dJ6_bitCount_0f7a4_23 : decode (zB 167) 23 = .ok (.istore_n 0, 1) := by decide +kernel
theorem dJ6_bitCount_0f7a4_24 : decode (zB 167) 24 = .ok (.iload_n 0, 1) := by decide +kernel
theorem dJ6_bitCount_0f7a4_25 : decode (zB 167) 25 = .ok (.iload_n 0, 1) := by decide +kernel
theorem dJ6_bitCount_0f7a4_26 : decode (zB 167) 26 = .ok (.iconst 4, 1) := by decide +kernel
theorem dJ6_bitCount_0f7a4_27 : decode (zB 167) 27 = .ok (.iushr, 1) := by decide +kernel
theorem dJ6_bitCount_0f7a4_28 : decode (zB 167) 28 = .ok (.iadd, 1) := by decide +kernel
theorem dJ6_bitCount_0f7a4_29 : decode (zB 167) 29 = .ok (.ldc_w 267, 3) := by decide +kernel
theorem dJ6_bitCount_0f7a4_32 : decode (zB 167) 32 = .ok (.iand, 1) := by decide +kernel
theorem dJ6_bitCount_0f7a4_33 : decode (zB 167) 33 = .ok (.istore_n 0, 1) := by decide +kernel
theorem dJ6_bitCount_0f7a4_34 : decode (zB 167) 34 = .ok (.iload_n 0, 1) := by decide +kernel
theorem dJ6_bitCount_0f7a4_35 : decode (zB 167) 35 = .ok (.iload_n 0, 1) := by decide +kernel
theorem dJ6_bitCount_0f7a4_36 : decode (zB 167) 36 = .ok (.bipush 8, 2) := by decide +kernel
theorem dJ6_bitCount_0f7a4_38 : decode (zB 167) 38 = .ok (.iushr, 1) := by decide +kernel
theorem dJ6_bitCount_0f7a4_39 : decode (zB 167) 39 = .ok (.iadd, 1) := by decide +kernel
theorem dJ6_bitCount_0f7a4_40 : decode (zB 167) 40 = .ok (.istore_n 0, 1) := by decide +kernel
theorem dJ6_bitCount_0f7a4_41 : decode (zB 167) 41 = .ok (.iload_n 0, 1) := by decide +kernel
theorem dJ6_bitCount_0f7a4_42 : decode (zB 167) 42 = .ok (.iload_n 0, 1) := by decide +kernel
theorem dJ6_bitCount_0f7a4_43 : decode (zB 167) 43 = .ok (.bipush 16, 2) := by decide +kernel
theorem dJ6_bitCount_0f7a4_45 : decode (zB 167) 45 = .ok (.iushr, 1) := by decide +kernel
theorem dJ6_bitCount_0f7a4_46 : decode (zB 167) 46 = .ok (.iadd, 1) := by decide +kernel
theorem dJ6_bitCount_0f7a4_47 : decode (zB 167) 47 = .ok (.istore_n 0, 1) := by decide +kernel
theorem dJ6_bitCount_0f7a4_48 : decode (zB 167) 48 = .ok (.iload_n 0, 1) := by decide +kernel
theorem dJ6_bitCount_0f7a4_49 : decode (zB 167) 49 = .ok (.bipush 63, 2) := by decide +kernel
theorem dJ6_bitCount_0f7a4_51 : decode (zB 167) 51 = .ok (.iand, 1) := by decide +kernel
theorem dJ6_bitCount_0f7a4_52 : decode (zB 167) 52 = .ok (.ireturn, 1) := by decide +kernel
