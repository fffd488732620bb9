theorem dX0_has_0 : decode cX0_has 0 = .ok (.iload_n 1, 1) := by decide +kernel
theorem dX0_has_1 : decode cX0_has 1 = .ok (.ifCond .lt 15, 3) := by decide +kernel
theorem dX0_has_4 : decode cX0_has 4 = .ok (.iload_n 1, 1) := by decide +kernel
theorem dX0_has_5 : decode cX0_has 5 = .ok (.aload_n 0, 1) := by decide +kernel
theorem dX0_has_6 : decode cX0_has 6 = .ok (.getfield 28, 3) := by decide +kernel
theorem dX0_has_9 : decode cX0_has 9 = .ok (.if_icmp .ge 7, 3) := by decide +kernel
theorem dX0_has_12 : decode cX0_has 12 = .ok (.iconst 1, 1) := by decide +kernel
theorem dX0_has_13 : decode cX0_has 13 = .ok (.goto 4, 3) := by decide +kernel
theorem dX0_has_16 : decode cX0_has 16 = .ok (.iconst 0, 1) := by decide +kernel
theorem dX0_has_17 : decode cX0_has 17 = .ok (.ireturn, 1) := by decide +kernel
theorem dX0_leave_0 : decode cX0_leave 0 = .ok (.aload_n 0, 1) := by decide +kernel
theorem dX0_leave_1 : decode cX0_leave 1 = .ok (.iconst 0, 1) := by decide +kernel
theorem dX0_leave_2 : decode cX0_leave 2 = .ok (.putfield 28, 3) := by decide +kernel
theorem dX0_leave_5 : decode cX0_leave 5 = .ok (.iconst 0, 1) := by decide +kernel
theorem dX0_leave_6 : decode cX0_leave 6 = .ok (.istore_n 1, 1) := by decide +kernel
theorem dX0_leave_7 : decode cX0_leave 7 = .ok (.iload_n 1, 1) := by decide +kernel
theorem dX0_leave_8 : decode cX0_leave 8 = .ok (.bipush 9, 2) := by decide +kernel
theorem dX0_leave_10 : decode cX0_leave 10 = .ok (.if_icmp .ge 17, 3) := by decide +kernel
theorem dX0_leave_13 : decode cX0_leave 13 = .ok (.aload_n 0, 1) := by decide +kernel
theorem dX0_leave_14 : decode cX0_leave 14 = .ok (.getfield 21, 3) := by decide +kernel
theorem dX0_leave_17 : decode cX0_leave 17 = .ok (.iload_n 1, 1) := by decide +kernel
theorem dX0_leave_18 : decode cX0_leave 18 = .ok (.bipush (-9), 2) := by decide +kernel
theorem dX0_leave_20 : decode cX0_leave 20 = .ok (.iastore, 1) := by decide +kernel
theorem dX0_leave_21 : decode cX0_leave 21 = .ok (.iinc 1 1, 3) := by decide +kernel
theorem dX0_leave_24 : decode cX0_leave 24 = .ok (.goto (-17), 3) := by decide +kernel
theorem dX0_leave_27 : decode cX0_leave 27 = .ok (.return_, 1) := by decide +kernel
theorem dX0_enter_0 : decode cX0_enter 0 = .ok (.aload_n 0, 1) := by decide +kernel
theorem dX0_enter_1 : decode cX0_enter 1 = .ok (.getfield 9, 3) := by decide +kernel
theorem dX0_enter_4 : decode cX0_enter 4 = .ok (.iload_n 1, 1) := by decide +kernel
theorem dX0_enter_5 : decode cX0_enter 5 = .ok (.iload_n 2, 1) := by decide +kernel
theorem dX0_enter_6 : decode cX0_enter 6 = .ok (.iastore, 1) := by decide +kernel
theorem dX0_enter_7 : decode cX0_enter 7 = .ok (.aload_n 0, 1) := by decide +kernel
theorem dX0_enter_8 : decode cX0_enter 8 = .ok (.getfield 15, 3) := by decide +kernel
theorem dX0_enter_11 : decode cX0_enter 11 = .ok (.iload_n 1, 1) := by decide +kernel
theorem dX0_enter_12 : decode cX0_enter 12 = .ok (.iload_n 3, 1) := by decide +kernel
theorem dX0_enter_13 : decode cX0_enter 13 = .ok (.iastore, 1) := by decide +kernel
theorem dX0_enter_14 : decode cX0_enter 14 = .ok (.aload_n 0, 1) := by decide +kernel
theorem dX0_enter_15 : decode cX0_enter 15 = .ok (.getfield 18, 3) := by decide +kernel
theorem dX0_enter_18 : decode cX0_enter 18 = .ok (.iload_n 1, 1) := by decide +kernel
theorem dX0_enter_19 : decode cX0_enter 19 = .ok (.iload 4, 2) := by decide +kernel
theorem dX0_enter_21 : decode cX0_enter 21 = .ok (.iastore, 1) := by decide +kernel
theorem dX0_enter_22 : decode cX0_enter 22 = .ok (.aload_n 0, 1) := by decide +kernel
theorem dX0_enter_23 : decode cX0_enter 23 = .ok (.getfield 21, 3) := by decide +kernel
theorem dX0_enter_26 : decode cX0_enter 26 = .ok (.iload_n 1, 1) := by decide +kernel
theorem dX0_enter_27 : decode cX0_enter 27 = .ok (.bipush (-9), 2) := by decide +kernel
theorem dX0_enter_29 : decode cX0_enter 29 = .ok (.iastore, 1) := by decide +kernel
theorem dX0_enter_30 : decode cX0_enter 30 = .ok (.return_, 1) := by decide +kernel
theorem dX0_isThere_0 : decode cX0_isThere 0 = .ok (.aload_n 0, 1) := by decide +kernel
theorem dX0_isThere_1 : decode cX0_isThere 1 = .ok (.getfield 15, 3) := by decide +kernel
theorem dX0_isThere_4 : decode cX0_isThere 4 = .ok (.iload_n 1, 1) := by decide +kernel
theorem dX0_isThere_5 : decode cX0_isThere 5 = .ok (.iaload, 1) := by decide +kernel
theorem dX0_isThere_6 : decode cX0_isThere 6 = .ok (.iload_n 2, 1) := by decide +kernel
theorem dX0_isThere_7 : decode cX0_isThere 7 = .ok (.if_icmp .gt 17, 3) := by decide +kernel
theorem dX0_isThere_10 : decode cX0_isThere 10 = .ok (.iload_n 2, 1) := by decide +kernel
theorem dX0_isThere_11 : decode cX0_isThere 11 = .ok (.aload_n 0, 1) := by decide +kernel
theorem dX0_isThere_12 : decode cX0_isThere 12 = .ok (.getfield 18, 3) := by decide +kernel
theorem dX0_isThere_15 : decode cX0_isThere 15 = .ok (.iload_n 1, 1) := by decide +kernel
theorem dX0_isThere_16 : decode cX0_isThere 16 = .ok (.iaload, 1) := by decide +kernel
theorem dX0_isThere_17 : decode cX0_isThere 17 = .ok (.if_icmp .gt 7, 3) := by decide +kernel
theorem dX0_isThere_20 : decode cX0_isThere 20 = .ok (.iconst 1, 1) := by decide +kernel
theorem dX0_isThere_21 : decode cX0_isThere 21 = .ok (.goto 4, 3) := by decide +kernel
theorem dX0_isThere_24 : decode cX0_isThere 24 = .ok (.iconst 0, 1) := by decide +kernel
theorem dX0_isThere_25 : decode cX0_isThere 25 = .ok (.ireturn, 1) := by decide +kernel
theorem dX0_haveBeds_0 : decode cX0_haveBeds 0 = .ok (.iconst 0, 1) := by decide +kernel
theorem dX0_haveBeds_1 : decode cX0_haveBeds 1 = .ok (.istore_n 2, 1) := by decide +kernel
theorem dX0_haveBeds_2 : decode cX0_haveBeds 2 = .ok (.iload_n 2, 1) := by decide +kernel
theorem dX0_haveBeds_3 : decode cX0_haveBeds 3 = .ok (.aload_n 0, 1) := by decide +kernel
theorem dX0_haveBeds_4 : decode cX0_haveBeds 4 = .ok (.getfield 28, 3) := by decide +kernel
theorem dX0_haveBeds_7 : decode cX0_haveBeds 7 = .ok (.if_icmp .ge 53, 3) := by decide +kernel
theorem dX0_haveBeds_10 : decode cX0_haveBeds 10 = .ok (.aload_n 1, 1) := by decide +kernel
theorem dX0_haveBeds_11 : decode cX0_haveBeds 11 = .ok (.iload_n 2, 1) := by decide +kernel
theorem dX0_haveBeds_12 : decode cX0_haveBeds 12 = .ok (.iaload, 1) := by decide +kernel
theorem dX0_haveBeds_13 : decode cX0_haveBeds 13 = .ok (.istore_n 3, 1) := by decide +kernel
theorem dX0_haveBeds_14 : decode cX0_haveBeds 14 = .ok (.aload_n 0, 1) := by decide +kernel
theorem dX0_haveBeds_15 : decode cX0_haveBeds 15 = .ok (.getfield 24, 3) := by decide +kernel
theorem dX0_haveBeds_18 : decode cX0_haveBeds 18 = .ok (.iload_n 3, 1) := by decide +kernel
theorem dX0_haveBeds_19 : decode cX0_haveBeds 19 = .ok (.invokevirtual 32, 3) := by decide +kernel
theorem dX0_haveBeds_22 : decode cX0_haveBeds 22 = .ok (.ifCond .eq 32, 3) := by decide +kernel
theorem dX0_haveBeds_25 : decode cX0_haveBeds 25 = .ok (.aload_n 0, 1) := by decide +kernel
theorem dX0_haveBeds_26 : decode cX0_haveBeds 26 = .ok (.aload_n 1, 1) := by decide +kernel
theorem dX0_haveBeds_27 : decode cX0_haveBeds 27 = .ok (.iload_n 3, 1) := by decide +kernel
theorem dX0_haveBeds_28 : decode cX0_haveBeds 28 = .ok (.aload_n 0, 1) := by decide +kernel
theorem dX0_haveBeds_29 : decode cX0_haveBeds 29 = .ok (.getfield 15, 3) := by decide +kernel
theorem dX0_haveBeds_32 : decode cX0_haveBeds 32 = .ok (.iload_n 2, 1) := by decide +kernel
theorem dX0_haveBeds_33 : decode cX0_haveBeds 33 = .ok (.iaload, 1) := by decide +kernel
theorem dX0_haveBeds_34 : decode cX0_haveBeds 34 = .ok (.invokevirtual 38, 3) := by decide +kernel
theorem dX0_haveBeds_37 : decode cX0_haveBeds 37 = .ok (.aload_n 0, 1) := by decide +kernel
theorem dX0_haveBeds_38 : decode cX0_haveBeds 38 = .ok (.getfield 24, 3) := by decide +kernel
theorem dX0_haveBeds_41 : decode cX0_haveBeds 41 = .ok (.getfield 42, 3) := by decide +kernel
theorem dX0_haveBeds_44 : decode cX0_haveBeds 44 = .ok (.iload_n 3, 1) := by decide +kernel
theorem dX0_haveBeds_45 : decode cX0_haveBeds 45 = .ok (.aaload, 1) := by decide +kernel
theorem dX0_haveBeds_46 : decode cX0_haveBeds 46 = .ok (.getfield 46, 3) := by decide +kernel
theorem dX0_haveBeds_49 : decode cX0_haveBeds 49 = .ok (.if_icmp .le 5, 3) := by decide +kernel
theorem dX0_haveBeds_52 : decode cX0_haveBeds 52 = .ok (.iconst 0, 1) := by decide +kernel
theorem dX0_haveBeds_53 : decode cX0_haveBeds 53 = .ok (.ireturn, 1) := by decide +kernel
theorem dX0_haveBeds_54 : decode cX0_haveBeds 54 = .ok (.iinc 2 1, 3) := by decide +kernel
theorem dX0_haveBeds_57 : decode cX0_haveBeds 57 = .ok (.goto (-55), 3) := by decide +kernel
theorem dX0_haveBeds_60 : decode cX0_haveBeds 60 = .ok (.iconst 1, 1) := by decide +kernel
theorem dX0_haveBeds_61 : decode cX0_haveBeds 61 = .ok (.ireturn, 1) := by decide +kernel
theorem dX0_sleepers_0 : decode cX0_sleepers 0 = .ok (.iconst 0, 1) := by decide +kernel
theorem dX0_sleepers_1 : decode cX0_sleepers 1 = .ok (.istore 4, 2) := by decide +kernel
theorem dX0_sleepers_3 : decode cX0_sleepers 3 = .ok (.iconst 0, 1) := by decide +kernel
theorem dX0_sleepers_4 : decode cX0_sleepers 4 = .ok (.istore 5, 2) := by decide +kernel
theorem dX0_sleepers_6 : decode cX0_sleepers 6 = .ok (.iload 5, 2) := by decide +kernel
theorem dX0_sleepers_8 : decode cX0_sleepers 8 = .ok (.aload_n 0, 1) := by decide +kernel
theorem dX0_sleepers_9 : decode cX0_sleepers 9 = .ok (.getfield 28, 3) := by decide +kernel
theorem dX0_sleepers_12 : decode cX0_sleepers 12 = .ok (.if_icmp .ge 30, 3) := by decide +kernel
theorem dX0_sleepers_15 : decode cX0_sleepers 15 = .ok (.aload_n 1, 1) := by decide +kernel
theorem dX0_sleepers_16 : decode cX0_sleepers 16 = .ok (.iload 5, 2) := by decide +kernel
theorem dX0_sleepers_18 : decode cX0_sleepers 18 = .ok (.iaload, 1) := by decide +kernel
theorem dX0_sleepers_19 : decode cX0_sleepers 19 = .ok (.iload_n 2, 1) := by decide +kernel
theorem dX0_sleepers_20 : decode cX0_sleepers 20 = .ok (.if_icmp .ne 16, 3) := by decide +kernel
theorem dX0_sleepers_23 : decode cX0_sleepers 23 = .ok (.aload_n 0, 1) := by decide +kernel
theorem dX0_sleepers_24 : decode cX0_sleepers 24 = .ok (.iload 5, 2) := by decide +kernel
theorem dX0_sleepers_26 : decode cX0_sleepers 26 = .ok (.iload_n 3, 1) := by decide +kernel
theorem dX0_sleepers_27 : decode cX0_sleepers 27 = .ok (.invokevirtual 51, 3) := by decide +kernel
theorem dX0_sleepers_30 : decode cX0_sleepers 30 = .ok (.ifCond .eq 6, 3) := by decide +kernel
theorem dX0_sleepers_33 : decode cX0_sleepers 33 = .ok (.iinc 4 1, 3) := by decide +kernel
theorem dX0_sleepers_36 : decode cX0_sleepers 36 = .ok (.iinc 5 1, 3) := by decide +kernel
theorem dX0_sleepers_39 : decode cX0_sleepers 39 = .ok (.goto (-33), 3) := by decide +kernel
theorem dX0_sleepers_42 : decode cX0_sleepers 42 = .ok (.iload 4, 2) := by decide +kernel
theorem dX0_sleepers_44 : decode cX0_sleepers 44 = .ok (.ireturn, 1) := by decide +kernel
theorem dX1_pressedBy_0 : decode cX1_pressedBy 0 = .ok (.iload_n 1, 1) := by decide +kernel
theorem dX1_pressedBy_1 : decode cX1_pressedBy 1 = .ok (.aload_n 0, 1) := by decide +kernel
theorem dX1_pressedBy_2 : decode cX1_pressedBy 2 = .ok (.getfield 9, 3) := by decide +kernel
theorem dX1_pressedBy_5 : decode cX1_pressedBy 5 = .ok (.imul, 1) := by decide +kernel
theorem dX1_pressedBy_6 : decode cX1_pressedBy 6 = .ok (.istore_n 3, 1) := by decide +kernel
theorem dX1_pressedBy_7 : decode cX1_pressedBy 7 = .ok (.iload_n 2, 1) := by decide +kernel
theorem dX1_pressedBy_8 : decode cX1_pressedBy 8 = .ok (.ifCond .eq 9, 3) := by decide +kernel
theorem dX1_pressedBy_11 : decode cX1_pressedBy 11 = .ok (.iload_n 3, 1) := by decide +kernel
theorem dX1_pressedBy_12 : decode cX1_pressedBy 12 = .ok (.iconst 2, 1) := by decide +kernel
theorem dX1_pressedBy_13 : decode cX1_pressedBy 13 = .ok (.idiv, 1) := by decide +kernel
theorem dX1_pressedBy_14 : decode cX1_pressedBy 14 = .ok (.goto 4, 3) := by decide +kernel
theorem dX1_pressedBy_17 : decode cX1_pressedBy 17 = .ok (.iload_n 3, 1) := by decide +kernel
theorem dX1_pressedBy_18 : decode cX1_pressedBy 18 = .ok (.ireturn, 1) := by decide +kernel
theorem dX1_comesUp_0 : decode cX1_comesUp 0 = .ok (.iload_n 1, 1) := by decide +kernel
theorem dX1_comesUp_1 : decode cX1_comesUp 1 = .ok (.ifCond .ne 11, 3) := by decide +kernel
theorem dX1_comesUp_4 : decode cX1_comesUp 4 = .ok (.bipush 10, 2) := by decide +kernel
theorem dX1_comesUp_6 : decode cX1_comesUp 6 = .ok (.aload_n 0, 1) := by decide +kernel
theorem dX1_comesUp_7 : decode cX1_comesUp 7 = .ok (.getfield 15, 3) := by decide +kernel
theorem dX1_comesUp_10 : decode cX1_comesUp 10 = .ok (.imul, 1) := by decide +kernel
theorem dX1_comesUp_11 : decode cX1_comesUp 11 = .ok (.ireturn, 1) := by decide +kernel
theorem dX1_comesUp_12 : decode cX1_comesUp 12 = .ok (.iload_n 2, 1) := by decide +kernel
theorem dX1_comesUp_13 : decode cX1_comesUp 13 = .ok (.ifCond .ne 11, 3) := by decide +kernel
theorem dX1_comesUp_16 : decode cX1_comesUp 16 = .ok (.aload_n 0, 1) := by decide +kernel
theorem dX1_comesUp_17 : decode cX1_comesUp 17 = .ok (.getfield 18, 3) := by decide +kernel
theorem dX1_comesUp_20 : decode cX1_comesUp 20 = .ok (.iconst 1, 1) := by decide +kernel
theorem dX1_comesUp_21 : decode cX1_comesUp 21 = .ok (.if_icmp .lt 12, 3) := by decide +kernel
theorem dX1_comesUp_24 : decode cX1_comesUp 24 = .ok (.iconst 5, 1) := by decide +kernel
theorem dX1_comesUp_25 : decode cX1_comesUp 25 = .ok (.aload_n 0, 1) := by decide +kernel
theorem dX1_comesUp_26 : decode cX1_comesUp 26 = .ok (.getfield 15, 3) := by decide +kernel
theorem dX1_comesUp_29 : decode cX1_comesUp 29 = .ok (.imul, 1) := by decide +kernel
theorem dX1_comesUp_30 : decode cX1_comesUp 30 = .ok (.goto 4, 3) := by decide +kernel
theorem dX1_comesUp_33 : decode cX1_comesUp 33 = .ok (.iconst 0, 1) := by decide +kernel
theorem dX1_comesUp_34 : decode cX1_comesUp 34 = .ok (.ireturn, 1) := by decide +kernel
theorem dX2_planksFor_0 : decode cX2_planksFor 0 = .ok (.aload_n 0, 1) := by decide +kernel
theorem dX2_planksFor_1 : decode cX2_planksFor 1 = .ok (.getfield 15, 3) := by decide +kernel
theorem dX2_planksFor_4 : decode cX2_planksFor 4 = .ok (.iload_n 1, 1) := by decide +kernel
theorem dX2_planksFor_5 : decode cX2_planksFor 5 = .ok (.iaload, 1) := by decide +kernel
theorem dX2_planksFor_6 : decode cX2_planksFor 6 = .ok (.sipush 350, 3) := by decide +kernel
theorem dX2_planksFor_9 : decode cX2_planksFor 9 = .ok (.if_icmp .ne 8, 3) := by decide +kernel
theorem dX2_planksFor_12 : decode cX2_planksFor 12 = .ok (.bipush (-9), 2) := by decide +kernel
theorem dX2_planksFor_14 : decode cX2_planksFor 14 = .ok (.goto 9, 3) := by decide +kernel
theorem dX2_planksFor_17 : decode cX2_planksFor 17 = .ok (.aload_n 0, 1) := by decide +kernel
theorem dX2_planksFor_18 : decode cX2_planksFor 18 = .ok (.getfield 15, 3) := by decide +kernel
theorem dX2_planksFor_21 : decode cX2_planksFor 21 = .ok (.iload_n 1, 1) := by decide +kernel
theorem dX2_planksFor_22 : decode cX2_planksFor 22 = .ok (.iaload, 1) := by decide +kernel
theorem dX2_planksFor_23 : decode cX2_planksFor 23 = .ok (.ireturn, 1) := by decide +kernel
theorem dX2_houseFor_0 : decode cX2_houseFor 0 = .ok (.aload_n 0, 1) := by decide +kernel
theorem dX2_houseFor_1 : decode cX2_houseFor 1 = .ok (.getfield 15, 3) := by decide +kernel
theorem dX2_houseFor_4 : decode cX2_houseFor 4 = .ok (.iload_n 1, 1) := by decide +kernel
theorem dX2_houseFor_5 : decode cX2_houseFor 5 = .ok (.iaload, 1) := by decide +kernel
theorem dX2_houseFor_6 : decode cX2_houseFor 6 = .ok (.sipush 350, 3) := by decide +kernel
theorem dX2_houseFor_9 : decode cX2_houseFor 9 = .ok (.if_icmp .ne 8, 3) := by decide +kernel
theorem dX2_houseFor_12 : decode cX2_houseFor 12 = .ok (.bipush (-9), 2) := by decide +kernel
theorem dX2_houseFor_14 : decode cX2_houseFor 14 = .ok (.goto 13, 3) := by decide +kernel
theorem dX2_houseFor_17 : decode cX2_houseFor 17 = .ok (.aload_n 0, 1) := by decide +kernel
theorem dX2_houseFor_18 : decode cX2_houseFor 18 = .ok (.getfield 18, 3) := by decide +kernel
theorem dX2_houseFor_21 : decode cX2_houseFor 21 = .ok (.iload_n 1, 1) := by decide +kernel
theorem dX2_houseFor_22 : decode cX2_houseFor 22 = .ok (.iconst 4, 1) := by decide +kernel
theorem dX2_houseFor_23 : decode cX2_houseFor 23 = .ok (.imul, 1) := by decide +kernel
theorem dX2_houseFor_24 : decode cX2_houseFor 24 = .ok (.iload_n 2, 1) := by decide +kernel
theorem dX2_houseFor_25 : decode cX2_houseFor 25 = .ok (.iadd, 1) := by decide +kernel
theorem dX2_houseFor_26 : decode cX2_houseFor 26 = .ok (.iaload, 1) := by decide +kernel
theorem dX2_houseFor_27 : decode cX2_houseFor 27 = .ok (.ireturn, 1) := by decide +kernel
theorem dX2_search_0 : decode cX2_search 0 = .ok (.aload_n 0, 1) := by decide +kernel
theorem dX2_search_1 : decode cX2_search 1 = .ok (.getfield 33, 3) := by decide +kernel
theorem dX2_search_4 : decode cX2_search 4 = .ok (.iload_n 1, 1) := by decide +kernel
theorem dX2_search_5 : decode cX2_search 5 = .ok (.ishr, 1) := by decide +kernel
theorem dX2_search_6 : decode cX2_search 6 = .ok (.iconst 1, 1) := by decide +kernel
theorem dX2_search_7 : decode cX2_search 7 = .ok (.iand, 1) := by decide +kernel
theorem dX2_search_8 : decode cX2_search 8 = .ok (.iconst 1, 1) := by decide +kernel
theorem dX2_search_9 : decode cX2_search 9 = .ok (.if_icmp .ne 4, 3) := by decide +kernel
theorem dX2_search_12 : decode cX2_search 12 = .ok (.return_, 1) := by decide +kernel
theorem dX2_search_13 : decode cX2_search 13 = .ok (.aload_n 0, 1) := by decide +kernel
theorem dX2_search_14 : decode cX2_search 14 = .ok (.dup, 1) := by decide +kernel
theorem dX2_search_15 : decode cX2_search 15 = .ok (.getfield 33, 3) := by decide +kernel
theorem dX2_search_18 : decode cX2_search 18 = .ok (.iconst 1, 1) := by decide +kernel
theorem dX2_search_19 : decode cX2_search 19 = .ok (.iload_n 1, 1) := by decide +kernel
theorem dX2_search_20 : decode cX2_search 20 = .ok (.ishl, 1) := by decide +kernel
theorem dX2_search_21 : decode cX2_search 21 = .ok (.ior, 1) := by decide +kernel
theorem dX2_search_22 : decode cX2_search 22 = .ok (.putfield 33, 3) := by decide +kernel
theorem dX2_search_25 : decode cX2_search 25 = .ok (.aload_n 0, 1) := by decide +kernel
theorem dX2_search_26 : decode cX2_search 26 = .ok (.getfield 15, 3) := by decide +kernel
theorem dX2_search_29 : decode cX2_search 29 = .ok (.iload_n 1, 1) := by decide +kernel
theorem dX2_search_30 : decode cX2_search 30 = .ok (.sipush 350, 3) := by decide +kernel
theorem dX2_search_33 : decode cX2_search 33 = .ok (.iastore, 1) := by decide +kernel
theorem dX2_search_34 : decode cX2_search 34 = .ok (.aload_n 0, 1) := by decide +kernel
theorem dX2_search_35 : decode cX2_search 35 = .ok (.getfield 25, 3) := by decide +kernel
theorem dX2_search_38 : decode cX2_search 38 = .ok (.getfield 37, 3) := by decide +kernel
theorem dX2_search_41 : decode cX2_search 41 = .ok (.iconst 0, 1) := by decide +kernel
theorem dX2_search_42 : decode cX2_search 42 = .ok (.aload_n 0, 1) := by decide +kernel
theorem dX2_search_43 : decode cX2_search 43 = .ok (.getfield 9, 3) := by decide +kernel
theorem dX2_search_46 : decode cX2_search 46 = .ok (.iconst 0, 1) := by decide +kernel
theorem dX2_search_47 : decode cX2_search 47 = .ok (.bipush 9, 2) := by decide +kernel
theorem dX2_search_49 : decode cX2_search 49 = .ok (.invokestatic 42, 3) := by decide +kernel
theorem dX2_search_52 : decode cX2_search 52 = .ok (.iconst 1, 1) := by decide +kernel
theorem dX2_search_53 : decode cX2_search 53 = .ok (.istore_n 2, 1) := by decide +kernel
theorem dX2_search_54 : decode cX2_search 54 = .ok (.iconst 0, 1) := by decide +kernel
theorem dX2_search_55 : decode cX2_search 55 = .ok (.istore_n 3, 1) := by decide +kernel
theorem dX2_search_56 : decode cX2_search 56 = .ok (.iload_n 3, 1) := by decide +kernel
theorem dX2_search_57 : decode cX2_search 57 = .ok (.iload_n 1, 1) := by decide +kernel
theorem dX2_search_58 : decode cX2_search 58 = .ok (.if_icmp .ge 19, 3) := by decide +kernel
theorem dX2_search_61 : decode cX2_search 61 = .ok (.iload_n 2, 1) := by decide +kernel
theorem dX2_search_62 : decode cX2_search 62 = .ok (.aload_n 0, 1) := by decide +kernel
theorem dX2_search_63 : decode cX2_search 63 = .ok (.getfield 21, 3) := by decide +kernel
theorem dX2_search_66 : decode cX2_search 66 = .ok (.getfield 48, 3) := by decide +kernel
theorem dX2_search_69 : decode cX2_search 69 = .ok (.imul, 1) := by decide +kernel
theorem dX2_search_70 : decode cX2_search 70 = .ok (.istore_n 2, 1) := by decide +kernel
theorem dX2_search_71 : decode cX2_search 71 = .ok (.iinc 3 1, 3) := by decide +kernel
theorem dX2_search_74 : decode cX2_search 74 = .ok (.goto (-18), 3) := by decide +kernel
theorem dX2_search_77 : decode cX2_search 77 = .ok (.iconst 0, 1) := by decide +kernel
theorem dX2_search_78 : decode cX2_search 78 = .ok (.istore_n 3, 1) := by decide +kernel
theorem dX2_search_79 : decode cX2_search 79 = .ok (.iload_n 3, 1) := by decide +kernel
theorem dX2_search_80 : decode cX2_search 80 = .ok (.iload_n 2, 1) := by decide +kernel
theorem dX2_search_81 : decode cX2_search 81 = .ok (.if_icmp .ge 34, 3) := by decide +kernel
theorem dX2_search_84 : decode cX2_search 84 = .ok (.aload_n 0, 1) := by decide +kernel
theorem dX2_search_85 : decode cX2_search 85 = .ok (.iload_n 3, 1) := by decide +kernel
theorem dX2_search_86 : decode cX2_search 86 = .ok (.iload_n 1, 1) := by decide +kernel
theorem dX2_search_87 : decode cX2_search 87 = .ok (.invokevirtual 53, 3) := by decide +kernel
theorem dX2_search_90 : decode cX2_search 90 = .ok (.aload_n 0, 1) := by decide +kernel
theorem dX2_search_91 : decode cX2_search 91 = .ok (.getfield 25, 3) := by decide +kernel
theorem dX2_search_94 : decode cX2_search 94 = .ok (.aload_n 0, 1) := by decide +kernel
theorem dX2_search_95 : decode cX2_search 95 = .ok (.getfield 9, 3) := by decide +kernel
theorem dX2_search_98 : decode cX2_search 98 = .ok (.invokevirtual 57, 3) := by decide +kernel
theorem dX2_search_101 : decode cX2_search 101 = .ok (.ifCond .eq 8, 3) := by decide +kernel
theorem dX2_search_104 : decode cX2_search 104 = .ok (.aload_n 0, 1) := by decide +kernel
theorem dX2_search_105 : decode cX2_search 105 = .ok (.iload_n 1, 1) := by decide +kernel
theorem dX2_search_106 : decode cX2_search 106 = .ok (.invokevirtual 61, 3) := by decide +kernel
theorem dX2_search_109 : decode cX2_search 109 = .ok (.iinc 3 1, 3) := by decide +kernel
theorem dX2_search_112 : decode cX2_search 112 = .ok (.goto (-33), 3) := by decide +kernel
theorem dX2_search_115 : decode cX2_search 115 = .ok (.return_, 1) := by decide +kernel
theorem dX2_layOut_0 : decode cX2_layOut 0 = .ok (.iload_n 1, 1) := by decide +kernel
theorem dX2_layOut_1 : decode cX2_layOut 1 = .ok (.istore_n 3, 1) := by decide +kernel
theorem dX2_layOut_2 : decode cX2_layOut 2 = .ok (.iload_n 2, 1) := by decide +kernel
theorem dX2_layOut_3 : decode cX2_layOut 3 = .ok (.iconst 1, 1) := by decide +kernel
theorem dX2_layOut_4 : decode cX2_layOut 4 = .ok (.isub, 1) := by decide +kernel
theorem dX2_layOut_5 : decode cX2_layOut 5 = .ok (.istore 4, 2) := by decide +kernel
theorem dX2_layOut_7 : decode cX2_layOut 7 = .ok (.iload 4, 2) := by decide +kernel
theorem dX2_layOut_9 : decode cX2_layOut 9 = .ok (.ifCond .lt 45, 3) := by decide +kernel
theorem dX2_layOut_12 : decode cX2_layOut 12 = .ok (.aload_n 0, 1) := by decide +kernel
theorem dX2_layOut_13 : decode cX2_layOut 13 = .ok (.getfield 21, 3) := by decide +kernel
theorem dX2_layOut_16 : decode cX2_layOut 16 = .ok (.getfield 48, 3) := by decide +kernel
theorem dX2_layOut_19 : decode cX2_layOut 19 = .ok (.ifCond .le 35, 3) := by decide +kernel
theorem dX2_layOut_22 : decode cX2_layOut 22 = .ok (.aload_n 0, 1) := by decide +kernel
theorem dX2_layOut_23 : decode cX2_layOut 23 = .ok (.getfield 9, 3) := by decide +kernel
theorem dX2_layOut_26 : decode cX2_layOut 26 = .ok (.iload 4, 2) := by decide +kernel
theorem dX2_layOut_28 : decode cX2_layOut 28 = .ok (.iload_n 3, 1) := by decide +kernel
theorem dX2_layOut_29 : decode cX2_layOut 29 = .ok (.aload_n 0, 1) := by decide +kernel
theorem dX2_layOut_30 : decode cX2_layOut 30 = .ok (.getfield 21, 3) := by decide +kernel
theorem dX2_layOut_33 : decode cX2_layOut 33 = .ok (.getfield 48, 3) := by decide +kernel
theorem dX2_layOut_36 : decode cX2_layOut 36 = .ok (.irem, 1) := by decide +kernel
theorem dX2_layOut_37 : decode cX2_layOut 37 = .ok (.iastore, 1) := by decide +kernel
theorem dX2_layOut_38 : decode cX2_layOut 38 = .ok (.iload_n 3, 1) := by decide +kernel
theorem dX2_layOut_39 : decode cX2_layOut 39 = .ok (.aload_n 0, 1) := by decide +kernel
theorem dX2_layOut_40 : decode cX2_layOut 40 = .ok (.getfield 21, 3) := by decide +kernel
theorem dX2_layOut_43 : decode cX2_layOut 43 = .ok (.getfield 48, 3) := by decide +kernel
theorem dX2_layOut_46 : decode cX2_layOut 46 = .ok (.idiv, 1) := by decide +kernel
theorem dX2_layOut_47 : decode cX2_layOut 47 = .ok (.istore_n 3, 1) := by decide +kernel
theorem dX2_layOut_48 : decode cX2_layOut 48 = .ok (.iinc 4 (-1), 3) := by decide +kernel
theorem dX2_layOut_51 : decode cX2_layOut 51 = .ok (.goto (-44), 3) := by decide +kernel
theorem dX2_layOut_54 : decode cX2_layOut 54 = .ok (.return_, 1) := by decide +kernel
theorem dX2_keepIfFewer_0 : decode cX2_keepIfFewer 0 = .ok (.aload_n 0, 1) := by decide +kernel
theorem dX2_keepIfFewer_1 : decode cX2_keepIfFewer 1 = .ok (.getfield 29, 3) := by decide +kernel
theorem dX2_keepIfFewer_4 : decode cX2_keepIfFewer 4 = .ok (.aload_n 0, 1) := by decide +kernel
theorem dX2_keepIfFewer_5 : decode cX2_keepIfFewer 5 = .ok (.getfield 9, 3) := by decide +kernel
theorem dX2_keepIfFewer_8 : decode cX2_keepIfFewer 8 = .ok (.iconst 0, 1) := by decide +kernel
theorem dX2_keepIfFewer_9 : decode cX2_keepIfFewer 9 = .ok (.aload_n 0, 1) := by decide +kernel
theorem dX2_keepIfFewer_10 : decode cX2_keepIfFewer 10 = .ok (.getfield 15, 3) := by decide +kernel
theorem dX2_keepIfFewer_13 : decode cX2_keepIfFewer 13 = .ok (.iload_n 1, 1) := by decide +kernel
theorem dX2_keepIfFewer_14 : decode cX2_keepIfFewer 14 = .ok (.iaload, 1) := by decide +kernel
theorem dX2_keepIfFewer_15 : decode cX2_keepIfFewer 15 = .ok (.invokevirtual 65, 3) := by decide +kernel
theorem dX2_keepIfFewer_18 : decode cX2_keepIfFewer 18 = .ok (.istore_n 2, 1) := by decide +kernel
theorem dX2_keepIfFewer_19 : decode cX2_keepIfFewer 19 = .ok (.iload_n 2, 1) := by decide +kernel
theorem dX2_keepIfFewer_20 : decode cX2_keepIfFewer 20 = .ok (.aload_n 0, 1) := by decide +kernel
theorem dX2_keepIfFewer_21 : decode cX2_keepIfFewer 21 = .ok (.getfield 15, 3) := by decide +kernel
theorem dX2_keepIfFewer_24 : decode cX2_keepIfFewer 24 = .ok (.iload_n 1, 1) := by decide +kernel
theorem dX2_keepIfFewer_25 : decode cX2_keepIfFewer 25 = .ok (.iaload, 1) := by decide +kernel
theorem dX2_keepIfFewer_26 : decode cX2_keepIfFewer 26 = .ok (.if_icmp .ge 26, 3) := by decide +kernel
theorem dX2_keepIfFewer_29 : decode cX2_keepIfFewer 29 = .ok (.aload_n 0, 1) := by decide +kernel
theorem dX2_keepIfFewer_30 : decode cX2_keepIfFewer 30 = .ok (.getfield 15, 3) := by decide +kernel
theorem dX2_keepIfFewer_33 : decode cX2_keepIfFewer 33 = .ok (.iload_n 1, 1) := by decide +kernel
theorem dX2_keepIfFewer_34 : decode cX2_keepIfFewer 34 = .ok (.iload_n 2, 1) := by decide +kernel
theorem dX2_keepIfFewer_35 : decode cX2_keepIfFewer 35 = .ok (.iastore, 1) := by decide +kernel
theorem dX2_keepIfFewer_36 : decode cX2_keepIfFewer 36 = .ok (.aload_n 0, 1) := by decide +kernel
theorem dX2_keepIfFewer_37 : decode cX2_keepIfFewer 37 = .ok (.getfield 9, 3) := by decide +kernel
theorem dX2_keepIfFewer_40 : decode cX2_keepIfFewer 40 = .ok (.iconst 0, 1) := by decide +kernel
theorem dX2_keepIfFewer_41 : decode cX2_keepIfFewer 41 = .ok (.aload_n 0, 1) := by decide +kernel
theorem dX2_keepIfFewer_42 : decode cX2_keepIfFewer 42 = .ok (.getfield 18, 3) := by decide +kernel
theorem dX2_keepIfFewer_45 : decode cX2_keepIfFewer 45 = .ok (.iload_n 1, 1) := by decide +kernel
theorem dX2_keepIfFewer_46 : decode cX2_keepIfFewer 46 = .ok (.iconst 4, 1) := by decide +kernel
theorem dX2_keepIfFewer_47 : decode cX2_keepIfFewer 47 = .ok (.imul, 1) := by decide +kernel
theorem dX2_keepIfFewer_48 : decode cX2_keepIfFewer 48 = .ok (.iload_n 1, 1) := by decide +kernel
theorem dX2_keepIfFewer_49 : decode cX2_keepIfFewer 49 = .ok (.invokestatic 42, 3) := by decide +kernel
theorem dX2_keepIfFewer_52 : decode cX2_keepIfFewer 52 = .ok (.return_, 1) := by decide +kernel
theorem dX4_add_0 : decode cX4_add 0 = .ok (.aload_n 0, 1) := by decide +kernel
theorem dX4_add_1 : decode cX4_add 1 = .ok (.getfield 21, 3) := by decide +kernel
theorem dX4_add_4 : decode cX4_add 4 = .ok (.istore 4, 2) := by decide +kernel
theorem dX4_add_6 : decode cX4_add 6 = .ok (.aload_n 0, 1) := by decide +kernel
theorem dX4_add_7 : decode cX4_add 7 = .ok (.getfield 9, 3) := by decide +kernel
theorem dX4_add_10 : decode cX4_add 10 = .ok (.iload 4, 2) := by decide +kernel
theorem dX4_add_12 : decode cX4_add 12 = .ok (.iload_n 1, 1) := by decide +kernel
theorem dX4_add_13 : decode cX4_add 13 = .ok (.iastore, 1) := by decide +kernel
theorem dX4_add_14 : decode cX4_add 14 = .ok (.aload_n 0, 1) := by decide +kernel
theorem dX4_add_15 : decode cX4_add 15 = .ok (.getfield 15, 3) := by decide +kernel
theorem dX4_add_18 : decode cX4_add 18 = .ok (.iload 4, 2) := by decide +kernel
theorem dX4_add_20 : decode cX4_add 20 = .ok (.iload_n 2, 1) := by decide +kernel
theorem dX4_add_21 : decode cX4_add 21 = .ok (.iastore, 1) := by decide +kernel
theorem dX4_add_22 : decode cX4_add 22 = .ok (.aload_n 0, 1) := by decide +kernel
theorem dX4_add_23 : decode cX4_add 23 = .ok (.getfield 18, 3) := by decide +kernel
theorem dX4_add_26 : decode cX4_add 26 = .ok (.iload 4, 2) := by decide +kernel
theorem dX4_add_28 : decode cX4_add 28 = .ok (.iload_n 3, 1) := by decide +kernel
theorem dX4_add_29 : decode cX4_add 29 = .ok (.iastore, 1) := by decide +kernel
theorem dX4_add_30 : decode cX4_add 30 = .ok (.aload_n 0, 1) := by decide +kernel
theorem dX4_add_31 : decode cX4_add 31 = .ok (.iload 4, 2) := by decide +kernel
theorem dX4_add_33 : decode cX4_add 33 = .ok (.iconst 1, 1) := by decide +kernel
theorem dX4_add_34 : decode cX4_add 34 = .ok (.iadd, 1) := by decide +kernel
theorem dX4_add_35 : decode cX4_add 35 = .ok (.putfield 21, 3) := by decide +kernel
theorem dX4_add_38 : decode cX4_add 38 = .ok (.iload 4, 2) := by decide +kernel
theorem dX4_add_40 : decode cX4_add 40 = .ok (.ireturn, 1) := by decide +kernel
theorem dX4_lastDawn_0 : decode cX4_lastDawn 0 = .ok (.iconst 0, 1) := by decide +kernel
theorem dX4_lastDawn_1 : decode cX4_lastDawn 1 = .ok (.istore_n 1, 1) := by decide +kernel
theorem dX4_lastDawn_2 : decode cX4_lastDawn 2 = .ok (.iconst 0, 1) := by decide +kernel
theorem dX4_lastDawn_3 : decode cX4_lastDawn 3 = .ok (.istore_n 2, 1) := by decide +kernel
theorem dX4_lastDawn_4 : decode cX4_lastDawn 4 = .ok (.iload_n 2, 1) := by decide +kernel
theorem dX4_lastDawn_5 : decode cX4_lastDawn 5 = .ok (.aload_n 0, 1) := by decide +kernel
theorem dX4_lastDawn_6 : decode cX4_lastDawn 6 = .ok (.getfield 21, 3) := by decide +kernel
theorem dX4_lastDawn_9 : decode cX4_lastDawn 9 = .ok (.if_icmp .ge 20, 3) := by decide +kernel
theorem dX4_lastDawn_12 : decode cX4_lastDawn 12 = .ok (.iload_n 1, 1) := by decide +kernel
theorem dX4_lastDawn_13 : decode cX4_lastDawn 13 = .ok (.aload_n 0, 1) := by decide +kernel
theorem dX4_lastDawn_14 : decode cX4_lastDawn 14 = .ok (.getfield 15, 3) := by decide +kernel
theorem dX4_lastDawn_17 : decode cX4_lastDawn 17 = .ok (.iload_n 2, 1) := by decide +kernel
theorem dX4_lastDawn_18 : decode cX4_lastDawn 18 = .ok (.iaload, 1) := by decide +kernel
theorem dX4_lastDawn_19 : decode cX4_lastDawn 19 = .ok (.invokestatic 25, 3) := by decide +kernel
theorem dX4_lastDawn_22 : decode cX4_lastDawn 22 = .ok (.istore_n 1, 1) := by decide +kernel
theorem dX4_lastDawn_23 : decode cX4_lastDawn 23 = .ok (.iinc 2 1, 3) := by decide +kernel
theorem dX4_lastDawn_26 : decode cX4_lastDawn 26 = .ok (.goto (-22), 3) := by decide +kernel
theorem dX4_lastDawn_29 : decode cX4_lastDawn 29 = .ok (.iload_n 1, 1) := by decide +kernel
theorem dX4_lastDawn_30 : decode cX4_lastDawn 30 = .ok (.ireturn, 1) := by decide +kernel
theorem dX4_areSo_0 : decode cX4_areSo 0 = .ok (.iconst 0, 1) := by decide +kernel
theorem dX4_areSo_1 : decode cX4_areSo 1 = .ok (.istore_n 2, 1) := by decide +kernel
theorem dX4_areSo_2 : decode cX4_areSo 2 = .ok (.iload_n 2, 1) := by decide +kernel
theorem dX4_areSo_3 : decode cX4_areSo 3 = .ok (.aload_n 0, 1) := by decide +kernel
theorem dX4_areSo_4 : decode cX4_areSo 4 = .ok (.getfield 21, 3) := by decide +kernel
theorem dX4_areSo_7 : decode cX4_areSo 7 = .ok (.if_icmp .ge 36, 3) := by decide +kernel
theorem dX4_areSo_10 : decode cX4_areSo 10 = .ok (.aload_n 1, 1) := by decide +kernel
theorem dX4_areSo_11 : decode cX4_areSo 11 = .ok (.aload_n 0, 1) := by decide +kernel
theorem dX4_areSo_12 : decode cX4_areSo 12 = .ok (.getfield 9, 3) := by decide +kernel
theorem dX4_areSo_15 : decode cX4_areSo 15 = .ok (.iload_n 2, 1) := by decide +kernel
theorem dX4_areSo_16 : decode cX4_areSo 16 = .ok (.iaload, 1) := by decide +kernel
theorem dX4_areSo_17 : decode cX4_areSo 17 = .ok (.aload_n 0, 1) := by decide +kernel
theorem dX4_areSo_18 : decode cX4_areSo 18 = .ok (.getfield 15, 3) := by decide +kernel
theorem dX4_areSo_21 : decode cX4_areSo 21 = .ok (.iload_n 2, 1) := by decide +kernel
theorem dX4_areSo_22 : decode cX4_areSo 22 = .ok (.iaload, 1) := by decide +kernel
theorem dX4_areSo_23 : decode cX4_areSo 23 = .ok (.invokevirtual 31, 3) := by decide +kernel
theorem dX4_areSo_26 : decode cX4_areSo 26 = .ok (.aload_n 0, 1) := by decide +kernel
theorem dX4_areSo_27 : decode cX4_areSo 27 = .ok (.getfield 18, 3) := by decide +kernel
theorem dX4_areSo_30 : decode cX4_areSo 30 = .ok (.iload_n 2, 1) := by decide +kernel
theorem dX4_areSo_31 : decode cX4_areSo 31 = .ok (.iaload, 1) := by decide +kernel
theorem dX4_areSo_32 : decode cX4_areSo 32 = .ok (.if_icmp .eq 5, 3) := by decide +kernel
theorem dX4_areSo_35 : decode cX4_areSo 35 = .ok (.iconst 0, 1) := by decide +kernel
theorem dX4_areSo_36 : decode cX4_areSo 36 = .ok (.ireturn, 1) := by decide +kernel
theorem dX4_areSo_37 : decode cX4_areSo 37 = .ok (.iinc 2 1, 3) := by decide +kernel
theorem dX4_areSo_40 : decode cX4_areSo 40 = .ok (.goto (-38), 3) := by decide +kernel
theorem dX4_areSo_43 : decode cX4_areSo 43 = .ok (.iconst 1, 1) := by decide +kernel
theorem dX4_areSo_44 : decode cX4_areSo 44 = .ok (.ireturn, 1) := by decide +kernel
theorem dX5_houseBehind_0 : decode cX5_houseBehind 0 = .ok (.aload_n 0, 1) := by decide +kernel
theorem dX5_houseBehind_1 : decode cX5_houseBehind 1 = .ok (.getfield 15, 3) := by decide +kernel
theorem dX5_houseBehind_4 : decode cX5_houseBehind 4 = .ok (.iload_n 2, 1) := by decide +kernel
theorem dX5_houseBehind_5 : decode cX5_houseBehind 5 = .ok (.aload_n 0, 1) := by decide +kernel
theorem dX5_houseBehind_6 : decode cX5_houseBehind 6 = .ok (.getfield 30, 3) := by decide +kernel
theorem dX5_houseBehind_9 : decode cX5_houseBehind 9 = .ok (.invokestatic 34, 3) := by decide +kernel
theorem dX5_houseBehind_12 : decode cX5_houseBehind 12 = .ok (.bipush 9, 2) := by decide +kernel
theorem dX5_houseBehind_14 : decode cX5_houseBehind 14 = .ok (.imul, 1) := by decide +kernel
theorem dX5_houseBehind_15 : decode cX5_houseBehind 15 = .ok (.iload_n 1, 1) := by decide +kernel
theorem dX5_houseBehind_16 : decode cX5_houseBehind 16 = .ok (.iadd, 1) := by decide +kernel
theorem dX5_houseBehind_17 : decode cX5_houseBehind 17 = .ok (.iaload, 1) := by decide +kernel
theorem dX5_houseBehind_18 : decode cX5_houseBehind 18 = .ok (.ireturn, 1) := by decide +kernel
theorem dX5_run_0 : decode cX5_run 0 = .ok (.aload_n 0, 1) := by decide +kernel
theorem dX5_run_1 : decode cX5_run 1 = .ok (.getfield 40, 3) := by decide +kernel
theorem dX5_run_4 : decode cX5_run 4 = .ok (.ifCond .eq 4, 3) := by decide +kernel
theorem dX5_run_7 : decode cX5_run 7 = .ok (.return_, 1) := by decide +kernel
theorem dX5_run_8 : decode cX5_run 8 = .ok (.aload_n 0, 1) := by decide +kernel
theorem dX5_run_9 : decode cX5_run 9 = .ok (.iconst 1, 1) := by decide +kernel
theorem dX5_run_10 : decode cX5_run 10 = .ok (.putfield 40, 3) := by decide +kernel
theorem dX5_run_13 : decode cX5_run 13 = .ok (.aload_n 0, 1) := by decide +kernel
theorem dX5_run_14 : decode cX5_run 14 = .ok (.getfield 22, 3) := by decide +kernel
theorem dX5_run_17 : decode cX5_run 17 = .ok (.getfield 44, 3) := by decide +kernel
theorem dX5_run_20 : decode cX5_run 20 = .ok (.iconst 0, 1) := by decide +kernel
theorem dX5_run_21 : decode cX5_run 21 = .ok (.aload_n 0, 1) := by decide +kernel
theorem dX5_run_22 : decode cX5_run 22 = .ok (.getfield 9, 3) := by decide +kernel
theorem dX5_run_25 : decode cX5_run 25 = .ok (.iconst 0, 1) := by decide +kernel
theorem dX5_run_26 : decode cX5_run 26 = .ok (.bipush 9, 2) := by decide +kernel
theorem dX5_run_28 : decode cX5_run 28 = .ok (.invokestatic 49, 3) := by decide +kernel
theorem dX5_run_31 : decode cX5_run 31 = .ok (.aload_n 0, 1) := by decide +kernel
theorem dX5_run_32 : decode cX5_run 32 = .ok (.bipush (-9), 2) := by decide +kernel
theorem dX5_run_34 : decode cX5_run 34 = .ok (.putfield 55, 3) := by decide +kernel
theorem dX5_run_37 : decode cX5_run 37 = .ok (.aload_n 0, 1) := by decide +kernel
theorem dX5_run_38 : decode cX5_run 38 = .ok (.iconst 0, 1) := by decide +kernel
theorem dX5_run_39 : decode cX5_run 39 = .ok (.invokevirtual 58, 3) := by decide +kernel
theorem dX5_run_42 : decode cX5_run 42 = .ok (.iconst 1, 1) := by decide +kernel
theorem dX5_run_43 : decode cX5_run 43 = .ok (.istore_n 1, 1) := by decide +kernel
theorem dX5_run_44 : decode cX5_run 44 = .ok (.iload_n 1, 1) := by decide +kernel
theorem dX5_run_45 : decode cX5_run 45 = .ok (.bipush 50, 2) := by decide +kernel
theorem dX5_run_47 : decode cX5_run 47 = .ok (.if_icmp .gt 85, 3) := by decide +kernel
theorem dX5_run_50 : decode cX5_run 50 = .ok (.aload_n 0, 1) := by decide +kernel
theorem dX5_run_51 : decode cX5_run 51 = .ok (.getfield 55, 3) := by decide +kernel
theorem dX5_run_54 : decode cX5_run 54 = .ok (.bipush (-9), 2) := by decide +kernel
theorem dX5_run_56 : decode cX5_run 56 = .ok (.if_icmp .ne 76, 3) := by decide +kernel
theorem dX5_run_59 : decode cX5_run 59 = .ok (.iconst 0, 1) := by decide +kernel
theorem dX5_run_60 : decode cX5_run 60 = .ok (.istore_n 2, 1) := by decide +kernel
theorem dX5_run_61 : decode cX5_run 61 = .ok (.iconst 0, 1) := by decide +kernel
theorem dX5_run_62 : decode cX5_run 62 = .ok (.istore_n 3, 1) := by decide +kernel
theorem dX5_run_63 : decode cX5_run 63 = .ok (.iload_n 3, 1) := by decide +kernel
theorem dX5_run_64 : decode cX5_run 64 = .ok (.aload_n 0, 1) := by decide +kernel
theorem dX5_run_65 : decode cX5_run 65 = .ok (.getfield 22, 3) := by decide +kernel
theorem dX5_run_68 : decode cX5_run 68 = .ok (.getfield 62, 3) := by decide +kernel
theorem dX5_run_71 : decode cX5_run 71 = .ok (.if_icmp .ge 36, 3) := by decide +kernel
theorem dX5_run_74 : decode cX5_run 74 = .ok (.iload_n 2, 1) := by decide +kernel
theorem dX5_run_75 : decode cX5_run 75 = .ok (.aload_n 0, 1) := by decide +kernel
theorem dX5_run_76 : decode cX5_run 76 = .ok (.getfield 9, 3) := by decide +kernel
theorem dX5_run_79 : decode cX5_run 79 = .ok (.iload_n 3, 1) := by decide +kernel
theorem dX5_run_80 : decode cX5_run 80 = .ok (.iaload, 1) := by decide +kernel
theorem dX5_run_81 : decode cX5_run 81 = .ok (.bipush (-9), 2) := by decide +kernel
theorem dX5_run_83 : decode cX5_run 83 = .ok (.if_icmp .eq 15, 3) := by decide +kernel
theorem dX5_run_86 : decode cX5_run 86 = .ok (.aload_n 0, 1) := by decide +kernel
theorem dX5_run_87 : decode cX5_run 87 = .ok (.iload_n 3, 1) := by decide +kernel
theorem dX5_run_88 : decode cX5_run 88 = .ok (.invokevirtual 65, 3) := by decide +kernel
theorem dX5_run_91 : decode cX5_run 91 = .ok (.ifCond .eq 7, 3) := by decide +kernel
theorem dX5_run_94 : decode cX5_run 94 = .ok (.iconst 1, 1) := by decide +kernel
theorem dX5_run_95 : decode cX5_run 95 = .ok (.goto 4, 3) := by decide +kernel
theorem dX5_run_98 : decode cX5_run 98 = .ok (.iconst 0, 1) := by decide +kernel
theorem dX5_run_99 : decode cX5_run 99 = .ok (.ior, 1) := by decide +kernel
theorem dX5_run_100 : decode cX5_run 100 = .ok (.istore_n 2, 1) := by decide +kernel
theorem dX5_run_101 : decode cX5_run 101 = .ok (.iinc 3 1, 3) := by decide +kernel
theorem dX5_run_104 : decode cX5_run 104 = .ok (.goto (-41), 3) := by decide +kernel
theorem dX5_run_107 : decode cX5_run 107 = .ok (.iload_n 2, 1) := by decide +kernel
theorem dX5_run_108 : decode cX5_run 108 = .ok (.ifCond .eq 11, 3) := by decide +kernel
theorem dX5_run_111 : decode cX5_run 111 = .ok (.aload_n 0, 1) := by decide +kernel
theorem dX5_run_112 : decode cX5_run 112 = .ok (.iload_n 1, 1) := by decide +kernel
theorem dX5_run_113 : decode cX5_run 113 = .ok (.invokevirtual 58, 3) := by decide +kernel
theorem dX5_run_116 : decode cX5_run 116 = .ok (.goto 10, 3) := by decide +kernel
theorem dX5_run_119 : decode cX5_run 119 = .ok (.aload_n 0, 1) := by decide +kernel
theorem dX5_run_120 : decode cX5_run 120 = .ok (.iload_n 1, 1) := by decide +kernel
theorem dX5_run_121 : decode cX5_run 121 = .ok (.iconst 1, 1) := by decide +kernel
theorem dX5_run_122 : decode cX5_run 122 = .ok (.isub, 1) := by decide +kernel
theorem dX5_run_123 : decode cX5_run 123 = .ok (.putfield 55, 3) := by decide +kernel
theorem dX5_run_126 : decode cX5_run 126 = .ok (.iinc 1 1, 3) := by decide +kernel
theorem dX5_run_129 : decode cX5_run 129 = .ok (.goto (-85), 3) := by decide +kernel
theorem dX5_run_132 : decode cX5_run 132 = .ok (.return_, 1) := by decide +kernel
theorem dX5_keep_0 : decode cX5_keep 0 = .ok (.aload_n 0, 1) := by decide +kernel
theorem dX5_keep_1 : decode cX5_keep 1 = .ok (.getfield 9, 3) := by decide +kernel
theorem dX5_keep_4 : decode cX5_keep 4 = .ok (.iconst 0, 1) := by decide +kernel
theorem dX5_keep_5 : decode cX5_keep 5 = .ok (.aload_n 0, 1) := by decide +kernel
theorem dX5_keep_6 : decode cX5_keep 6 = .ok (.getfield 15, 3) := by decide +kernel
theorem dX5_keep_9 : decode cX5_keep 9 = .ok (.iload_n 1, 1) := by decide +kernel
theorem dX5_keep_10 : decode cX5_keep 10 = .ok (.bipush 9, 2) := by decide +kernel
theorem dX5_keep_12 : decode cX5_keep 12 = .ok (.imul, 1) := by decide +kernel
theorem dX5_keep_13 : decode cX5_keep 13 = .ok (.bipush 9, 2) := by decide +kernel
theorem dX5_keep_15 : decode cX5_keep 15 = .ok (.invokestatic 49, 3) := by decide +kernel
theorem dX5_keep_18 : decode cX5_keep 18 = .ok (.aload_n 0, 1) := by decide +kernel
theorem dX5_keep_19 : decode cX5_keep 19 = .ok (.iload_n 1, 1) := by decide +kernel
theorem dX5_keep_20 : decode cX5_keep 20 = .ok (.putfield 30, 3) := by decide +kernel
theorem dX5_keep_23 : decode cX5_keep 23 = .ok (.return_, 1) := by decide +kernel
theorem dX5_moves_0 : decode cX5_moves 0 = .ok (.aload_n 0, 1) := by decide +kernel
theorem dX5_moves_1 : decode cX5_moves 1 = .ok (.getfield 9, 3) := by decide +kernel
theorem dX5_moves_4 : decode cX5_moves 4 = .ok (.iload_n 1, 1) := by decide +kernel
theorem dX5_moves_5 : decode cX5_moves 5 = .ok (.iaload, 1) := by decide +kernel
theorem dX5_moves_6 : decode cX5_moves 6 = .ok (.istore_n 2, 1) := by decide +kernel
theorem dX5_moves_7 : decode cX5_moves 7 = .ok (.iload_n 2, 1) := by decide +kernel
theorem dX5_moves_8 : decode cX5_moves 8 = .ok (.istore_n 3, 1) := by decide +kernel
theorem dX5_moves_9 : decode cX5_moves 9 = .ok (.aload_n 0, 1) := by decide +kernel
theorem dX5_moves_10 : decode cX5_moves 10 = .ok (.iload_n 1, 1) := by decide +kernel
theorem dX5_moves_11 : decode cX5_moves 11 = .ok (.invokevirtual 69, 3) := by decide +kernel
theorem dX5_moves_14 : decode cX5_moves 14 = .ok (.istore 4, 2) := by decide +kernel
theorem dX5_moves_16 : decode cX5_moves 16 = .ok (.iconst 0, 1) := by decide +kernel
theorem dX5_moves_17 : decode cX5_moves 17 = .ok (.istore 5, 2) := by decide +kernel
theorem dX5_moves_19 : decode cX5_moves 19 = .ok (.iload 5, 2) := by decide +kernel
theorem dX5_moves_21 : decode cX5_moves 21 = .ok (.aload_n 0, 1) := by decide +kernel
theorem dX5_moves_22 : decode cX5_moves 22 = .ok (.getfield 18, 3) := by decide +kernel
theorem dX5_moves_25 : decode cX5_moves 25 = .ok (.getfield 73, 3) := by decide +kernel
theorem dX5_moves_28 : decode cX5_moves 28 = .ok (.if_icmp .ge 58, 3) := by decide +kernel
theorem dX5_moves_31 : decode cX5_moves 31 = .ok (.aload_n 0, 1) := by decide +kernel
theorem dX5_moves_32 : decode cX5_moves 32 = .ok (.getfield 9, 3) := by decide +kernel
theorem dX5_moves_35 : decode cX5_moves 35 = .ok (.iload_n 1, 1) := by decide +kernel
theorem dX5_moves_36 : decode cX5_moves 36 = .ok (.iload 5, 2) := by decide +kernel
theorem dX5_moves_38 : decode cX5_moves 38 = .ok (.iastore, 1) := by decide +kernel
theorem dX5_moves_39 : decode cX5_moves 39 = .ok (.iload 5, 2) := by decide +kernel
theorem dX5_moves_41 : decode cX5_moves 41 = .ok (.iload_n 2, 1) := by decide +kernel
theorem dX5_moves_42 : decode cX5_moves 42 = .ok (.if_icmp .eq 38, 3) := by decide +kernel
theorem dX5_moves_45 : decode cX5_moves 45 = .ok (.aload_n 0, 1) := by decide +kernel
theorem dX5_moves_46 : decode cX5_moves 46 = .ok (.getfield 22, 3) := by decide +kernel
theorem dX5_moves_49 : decode cX5_moves 49 = .ok (.aload_n 0, 1) := by decide +kernel
theorem dX5_moves_50 : decode cX5_moves 50 = .ok (.getfield 9, 3) := by decide +kernel
theorem dX5_moves_53 : decode cX5_moves 53 = .ok (.invokevirtual 76, 3) := by decide +kernel
theorem dX5_moves_56 : decode cX5_moves 56 = .ok (.ifCond .eq 24, 3) := by decide +kernel
theorem dX5_moves_59 : decode cX5_moves 59 = .ok (.aload_n 0, 1) := by decide +kernel
theorem dX5_moves_60 : decode cX5_moves 60 = .ok (.iload_n 1, 1) := by decide +kernel
theorem dX5_moves_61 : decode cX5_moves 61 = .ok (.invokevirtual 69, 3) := by decide +kernel
theorem dX5_moves_64 : decode cX5_moves 64 = .ok (.istore 6, 2) := by decide +kernel
theorem dX5_moves_66 : decode cX5_moves 66 = .ok (.iload 6, 2) := by decide +kernel
theorem dX5_moves_68 : decode cX5_moves 68 = .ok (.iload 4, 2) := by decide +kernel
theorem dX5_moves_70 : decode cX5_moves 70 = .ok (.if_icmp .ge 10, 3) := by decide +kernel
theorem dX5_moves_73 : decode cX5_moves 73 = .ok (.iload 6, 2) := by decide +kernel
theorem dX5_moves_75 : decode cX5_moves 75 = .ok (.istore 4, 2) := by decide +kernel
theorem dX5_moves_77 : decode cX5_moves 77 = .ok (.iload 5, 2) := by decide +kernel
theorem dX5_moves_79 : decode cX5_moves 79 = .ok (.istore_n 3, 1) := by decide +kernel
theorem dX5_moves_80 : decode cX5_moves 80 = .ok (.iinc 5 1, 3) := by decide +kernel
theorem dX5_moves_83 : decode cX5_moves 83 = .ok (.goto (-64), 3) := by decide +kernel
theorem dX5_moves_86 : decode cX5_moves 86 = .ok (.aload_n 0, 1) := by decide +kernel
theorem dX5_moves_87 : decode cX5_moves 87 = .ok (.getfield 9, 3) := by decide +kernel
theorem dX5_moves_90 : decode cX5_moves 90 = .ok (.iload_n 1, 1) := by decide +kernel
theorem dX5_moves_91 : decode cX5_moves 91 = .ok (.iload_n 3, 1) := by decide +kernel
theorem dX5_moves_92 : decode cX5_moves 92 = .ok (.iastore, 1) := by decide +kernel
theorem dX5_moves_93 : decode cX5_moves 93 = .ok (.iload_n 3, 1) := by decide +kernel
theorem dX5_moves_94 : decode cX5_moves 94 = .ok (.iload_n 2, 1) := by decide +kernel
theorem dX5_moves_95 : decode cX5_moves 95 = .ok (.if_icmp .eq 7, 3) := by decide +kernel
theorem dX5_moves_98 : decode cX5_moves 98 = .ok (.iconst 1, 1) := by decide +kernel
theorem dX5_moves_99 : decode cX5_moves 99 = .ok (.goto 4, 3) := by decide +kernel
theorem dX5_moves_102 : decode cX5_moves 102 = .ok (.iconst 0, 1) := by decide +kernel
theorem dX5_moves_103 : decode cX5_moves 103 = .ok (.ireturn, 1) := by decide +kernel
theorem dX5_howDeep_0 : decode cX5_howDeep 0 = .ok (.aload_n 0, 1) := by decide +kernel
theorem dX5_howDeep_1 : decode cX5_howDeep 1 = .ok (.getfield 26, 3) := by decide +kernel
theorem dX5_howDeep_4 : decode cX5_howDeep 4 = .ok (.aload_n 0, 1) := by decide +kernel
theorem dX5_howDeep_5 : decode cX5_howDeep 5 = .ok (.getfield 9, 3) := by decide +kernel
theorem dX5_howDeep_8 : decode cX5_howDeep 8 = .ok (.invokevirtual 80, 3) := by decide +kernel
theorem dX5_howDeep_11 : decode cX5_howDeep 11 = .ok (.iconst 0, 1) := by decide +kernel
theorem dX5_howDeep_12 : decode cX5_howDeep 12 = .ok (.istore_n 2, 1) := by decide +kernel
theorem dX5_howDeep_13 : decode cX5_howDeep 13 = .ok (.iconst 0, 1) := by decide +kernel
theorem dX5_howDeep_14 : decode cX5_howDeep 14 = .ok (.istore_n 3, 1) := by decide +kernel
theorem dX5_howDeep_15 : decode cX5_howDeep 15 = .ok (.iload_n 3, 1) := by decide +kernel
theorem dX5_howDeep_16 : decode cX5_howDeep 16 = .ok (.aload_n 0, 1) := by decide +kernel
theorem dX5_howDeep_17 : decode cX5_howDeep 17 = .ok (.getfield 22, 3) := by decide +kernel
theorem dX5_howDeep_20 : decode cX5_howDeep 20 = .ok (.getfield 86, 3) := by decide +kernel
theorem dX5_howDeep_23 : decode cX5_howDeep 23 = .ok (.iload_n 1, 1) := by decide +kernel
theorem dX5_howDeep_24 : decode cX5_howDeep 24 = .ok (.iaload, 1) := by decide +kernel
theorem dX5_howDeep_25 : decode cX5_howDeep 25 = .ok (.if_icmp .gt 58, 3) := by decide +kernel
theorem dX5_howDeep_28 : decode cX5_howDeep 28 = .ok (.aload_n 0, 1) := by decide +kernel
theorem dX5_howDeep_29 : decode cX5_howDeep 29 = .ok (.getfield 26, 3) := by decide +kernel
theorem dX5_howDeep_32 : decode cX5_howDeep 32 = .ok (.aload_n 0, 1) := by decide +kernel
theorem dX5_howDeep_33 : decode cX5_howDeep 33 = .ok (.getfield 9, 3) := by decide +kernel
theorem dX5_howDeep_36 : decode cX5_howDeep 36 = .ok (.iload_n 3, 1) := by decide +kernel
theorem dX5_howDeep_37 : decode cX5_howDeep 37 = .ok (.iconst 0, 1) := by decide +kernel
theorem dX5_howDeep_38 : decode cX5_howDeep 38 = .ok (.invokevirtual 89, 3) := by decide +kernel
theorem dX5_howDeep_41 : decode cX5_howDeep 41 = .ok (.iload_n 2, 1) := by decide +kernel
theorem dX5_howDeep_42 : decode cX5_howDeep 42 = .ok (.iload_n 3, 1) := by decide +kernel
theorem dX5_howDeep_43 : decode cX5_howDeep 43 = .ok (.aload_n 0, 1) := by decide +kernel
theorem dX5_howDeep_44 : decode cX5_howDeep 44 = .ok (.getfield 22, 3) := by decide +kernel
theorem dX5_howDeep_47 : decode cX5_howDeep 47 = .ok (.getfield 93, 3) := by decide +kernel
theorem dX5_howDeep_50 : decode cX5_howDeep 50 = .ok (.iload_n 1, 1) := by decide +kernel
theorem dX5_howDeep_51 : decode cX5_howDeep 51 = .ok (.iaload, 1) := by decide +kernel
theorem dX5_howDeep_52 : decode cX5_howDeep 52 = .ok (.if_icmp .lt 22, 3) := by decide +kernel
theorem dX5_howDeep_55 : decode cX5_howDeep 55 = .ok (.aload_n 0, 1) := by decide +kernel
theorem dX5_howDeep_56 : decode cX5_howDeep 56 = .ok (.getfield 26, 3) := by decide +kernel
theorem dX5_howDeep_59 : decode cX5_howDeep 59 = .ok (.aload_n 0, 1) := by decide +kernel
theorem dX5_howDeep_60 : decode cX5_howDeep 60 = .ok (.getfield 9, 3) := by decide +kernel
theorem dX5_howDeep_63 : decode cX5_howDeep 63 = .ok (.iload_n 1, 1) := by decide +kernel
theorem dX5_howDeep_64 : decode cX5_howDeep 64 = .ok (.iaload, 1) := by decide +kernel
theorem dX5_howDeep_65 : decode cX5_howDeep 65 = .ok (.iload_n 3, 1) := by decide +kernel
theorem dX5_howDeep_66 : decode cX5_howDeep 66 = .ok (.iconst 1, 1) := by decide +kernel
theorem dX5_howDeep_67 : decode cX5_howDeep 67 = .ok (.iadd, 1) := by decide +kernel
theorem dX5_howDeep_68 : decode cX5_howDeep 68 = .ok (.invokevirtual 96, 3) := by decide +kernel
theorem dX5_howDeep_71 : decode cX5_howDeep 71 = .ok (.goto 4, 3) := by decide +kernel
theorem dX5_howDeep_74 : decode cX5_howDeep 74 = .ok (.iconst 0, 1) := by decide +kernel
theorem dX5_howDeep_75 : decode cX5_howDeep 75 = .ok (.iadd, 1) := by decide +kernel
theorem dX5_howDeep_76 : decode cX5_howDeep 76 = .ok (.istore_n 2, 1) := by decide +kernel
theorem dX5_howDeep_77 : decode cX5_howDeep 77 = .ok (.iinc 3 1, 3) := by decide +kernel
theorem dX5_howDeep_80 : decode cX5_howDeep 80 = .ok (.goto (-65), 3) := by decide +kernel
theorem dX5_howDeep_83 : decode cX5_howDeep 83 = .ok (.iload_n 2, 1) := by decide +kernel
theorem dX5_howDeep_84 : decode cX5_howDeep 84 = .ok (.ireturn, 1) := by decide +kernel
theorem dX6_layRow_0 : decode cX6_layRow 0 = .ok (.aload_n 0, 1) := by decide +kernel
theorem dX6_layRow_1 : decode cX6_layRow 1 = .ok (.iload_n 1, 1) := by decide +kernel
theorem dX6_layRow_2 : decode cX6_layRow 2 = .ok (.putfield 15, 3) := by decide +kernel
theorem dX6_layRow_5 : decode cX6_layRow 5 = .ok (.aload_n 0, 1) := by decide +kernel
theorem dX6_layRow_6 : decode cX6_layRow 6 = .ok (.iload_n 2, 1) := by decide +kernel
theorem dX6_layRow_7 : decode cX6_layRow 7 = .ok (.putfield 19, 3) := by decide +kernel
theorem dX6_layRow_10 : decode cX6_layRow 10 = .ok (.aload_n 0, 1) := by decide +kernel
theorem dX6_layRow_11 : decode cX6_layRow 11 = .ok (.iconst 1, 1) := by decide +kernel
theorem dX6_layRow_12 : decode cX6_layRow 12 = .ok (.putfield 22, 3) := by decide +kernel
theorem dX6_layRow_15 : decode cX6_layRow 15 = .ok (.iconst 0, 1) := by decide +kernel
theorem dX6_layRow_16 : decode cX6_layRow 16 = .ok (.istore_n 3, 1) := by decide +kernel
theorem dX6_layRow_17 : decode cX6_layRow 17 = .ok (.iload_n 3, 1) := by decide +kernel
theorem dX6_layRow_18 : decode cX6_layRow 18 = .ok (.bipush 60, 2) := by decide +kernel
theorem dX6_layRow_20 : decode cX6_layRow 20 = .ok (.if_icmp .ge 16, 3) := by decide +kernel
theorem dX6_layRow_23 : decode cX6_layRow 23 = .ok (.aload_n 0, 1) := by decide +kernel
theorem dX6_layRow_24 : decode cX6_layRow 24 = .ok (.getfield 9, 3) := by decide +kernel
theorem dX6_layRow_27 : decode cX6_layRow 27 = .ok (.iload_n 3, 1) := by decide +kernel
theorem dX6_layRow_28 : decode cX6_layRow 28 = .ok (.iconst 0, 1) := by decide +kernel
theorem dX6_layRow_29 : decode cX6_layRow 29 = .ok (.iastore, 1) := by decide +kernel
theorem dX6_layRow_30 : decode cX6_layRow 30 = .ok (.iinc 3 1, 3) := by decide +kernel
theorem dX6_layRow_33 : decode cX6_layRow 33 = .ok (.goto (-16), 3) := by decide +kernel
theorem dX6_layRow_36 : decode cX6_layRow 36 = .ok (.return_, 1) := by decide +kernel
theorem dX6_isOfAnotherLane_0 : decode cX6_isOfAnotherLane 0 = .ok (.aload_n 0, 1) := by decide +kernel
theorem dX6_isOfAnotherLane_1 : decode cX6_isOfAnotherLane 1 = .ok (.getfield 22, 3) := by decide +kernel
theorem dX6_isOfAnotherLane_4 : decode cX6_isOfAnotherLane 4 = .ok (.ifCond .eq 15, 3) := by decide +kernel
theorem dX6_isOfAnotherLane_7 : decode cX6_isOfAnotherLane 7 = .ok (.aload_n 0, 1) := by decide +kernel
theorem dX6_isOfAnotherLane_8 : decode cX6_isOfAnotherLane 8 = .ok (.getfield 15, 3) := by decide +kernel
theorem dX6_isOfAnotherLane_11 : decode cX6_isOfAnotherLane 11 = .ok (.iload_n 1, 1) := by decide +kernel
theorem dX6_isOfAnotherLane_12 : decode cX6_isOfAnotherLane 12 = .ok (.if_icmp .eq 7, 3) := by decide +kernel
theorem dX6_isOfAnotherLane_15 : decode cX6_isOfAnotherLane 15 = .ok (.iconst 1, 1) := by decide +kernel
theorem dX6_isOfAnotherLane_16 : decode cX6_isOfAnotherLane 16 = .ok (.goto 4, 3) := by decide +kernel
theorem dX6_isOfAnotherLane_19 : decode cX6_isOfAnotherLane 19 = .ok (.iconst 0, 1) := by decide +kernel
theorem dX6_isOfAnotherLane_20 : decode cX6_isOfAnotherLane 20 = .ok (.ireturn, 1) := by decide +kernel
theorem dX6_hasCells_0 : decode cX6_hasCells 0 = .ok (.iload_n 1, 1) := by decide +kernel
theorem dX6_hasCells_1 : decode cX6_hasCells 1 = .ok (.ifCond .lt 29, 3) := by decide +kernel
theorem dX6_hasCells_4 : decode cX6_hasCells 4 = .ok (.iload_n 1, 1) := by decide +kernel
theorem dX6_hasCells_5 : decode cX6_hasCells 5 = .ok (.aload_n 0, 1) := by decide +kernel
theorem dX6_hasCells_6 : decode cX6_hasCells 6 = .ok (.getfield 19, 3) := by decide +kernel
theorem dX6_hasCells_9 : decode cX6_hasCells 9 = .ok (.if_icmp .gt 21, 3) := by decide +kernel
theorem dX6_hasCells_12 : decode cX6_hasCells 12 = .ok (.iload_n 2, 1) := by decide +kernel
theorem dX6_hasCells_13 : decode cX6_hasCells 13 = .ok (.ifCond .lt 17, 3) := by decide +kernel
theorem dX6_hasCells_16 : decode cX6_hasCells 16 = .ok (.iload_n 2, 1) := by decide +kernel
theorem dX6_hasCells_17 : decode cX6_hasCells 17 = .ok (.aload_n 0, 1) := by decide +kernel
theorem dX6_hasCells_18 : decode cX6_hasCells 18 = .ok (.getfield 19, 3) := by decide +kernel
theorem dX6_hasCells_21 : decode cX6_hasCells 21 = .ok (.iload_n 1, 1) := by decide +kernel
theorem dX6_hasCells_22 : decode cX6_hasCells 22 = .ok (.isub, 1) := by decide +kernel
theorem dX6_hasCells_23 : decode cX6_hasCells 23 = .ok (.if_icmp .gt 7, 3) := by decide +kernel
theorem dX6_hasCells_26 : decode cX6_hasCells 26 = .ok (.iconst 1, 1) := by decide +kernel
theorem dX6_hasCells_27 : decode cX6_hasCells 27 = .ok (.goto 4, 3) := by decide +kernel
theorem dX6_hasCells_30 : decode cX6_hasCells 30 = .ok (.iconst 0, 1) := by decide +kernel
theorem dX6_hasCells_31 : decode cX6_hasCells 31 = .ok (.ireturn, 1) := by decide +kernel
theorem dX6_cut_0 : decode cX6_cut 0 = .ok (.aload_n 0, 1) := by decide +kernel
theorem dX6_cut_1 : decode cX6_cut 1 = .ok (.getfield 15, 3) := by decide +kernel
theorem dX6_cut_4 : decode cX6_cut 4 = .ok (.lookupswitch 34 #[(0, 28), (1, 31)], 28) := by decide +kernel
theorem dX6_cut_32 : decode cX6_cut 32 = .ok (.iload_n 1, 1) := by decide +kernel
theorem dX6_cut_33 : decode cX6_cut 33 = .ok (.i2b, 1) := by decide +kernel
theorem dX6_cut_34 : decode cX6_cut 34 = .ok (.ireturn, 1) := by decide +kernel
theorem dX6_cut_35 : decode cX6_cut 35 = .ok (.iload_n 1, 1) := by decide +kernel
theorem dX6_cut_36 : decode cX6_cut 36 = .ok (.i2s, 1) := by decide +kernel
theorem dX6_cut_37 : decode cX6_cut 37 = .ok (.ireturn, 1) := by decide +kernel
theorem dX6_cut_38 : decode cX6_cut 38 = .ok (.iload_n 1, 1) := by decide +kernel
theorem dX6_cut_39 : decode cX6_cut 39 = .ok (.ireturn, 1) := by decide +kernel
theorem dX7_has_0 : decode cX7_has 0 = .ok (.iload_n 1, 1) := by decide +kernel
theorem dX7_has_1 : decode cX7_has 1 = .ok (.ifCond .lt 15, 3) := by decide +kernel
theorem dX7_has_4 : decode cX7_has 4 = .ok (.iload_n 1, 1) := by decide +kernel
theorem dX7_has_5 : decode cX7_has 5 = .ok (.aload_n 0, 1) := by decide +kernel
theorem dX7_has_6 : decode cX7_has 6 = .ok (.getfield 18, 3) := by decide +kernel
theorem dX7_has_9 : decode cX7_has 9 = .ok (.if_icmp .ge 7, 3) := by decide +kernel
theorem dX7_has_12 : decode cX7_has 12 = .ok (.iconst 1, 1) := by decide +kernel
theorem dX7_has_13 : decode cX7_has 13 = .ok (.goto 4, 3) := by decide +kernel
theorem dX7_has_16 : decode cX7_has 16 = .ok (.iconst 0, 1) := by decide +kernel
theorem dX7_has_17 : decode cX7_has 17 = .ok (.ireturn, 1) := by decide +kernel
theorem dX7_build_0 : decode cX7_build 0 = .ok (.aload_n 0, 1) := by decide +kernel
theorem dX7_build_1 : decode cX7_build 1 = .ok (.aload_n 1, 1) := by decide +kernel
theorem dX7_build_2 : decode cX7_build 2 = .ok (.getfield 22, 3) := by decide +kernel
theorem dX7_build_5 : decode cX7_build 5 = .ok (.iload_n 2, 1) := by decide +kernel
theorem dX7_build_6 : decode cX7_build 6 = .ok (.iconst 1, 1) := by decide +kernel
theorem dX7_build_7 : decode cX7_build 7 = .ok (.iadd, 1) := by decide +kernel
theorem dX7_build_8 : decode cX7_build 8 = .ok (.iaload, 1) := by decide +kernel
theorem dX7_build_9 : decode cX7_build 9 = .ok (.bipush 48, 2) := by decide +kernel
theorem dX7_build_11 : decode cX7_build 11 = .ok (.isub, 1) := by decide +kernel
theorem dX7_build_12 : decode cX7_build 12 = .ok (.putfield 28, 3) := by decide +kernel
theorem dX7_build_15 : decode cX7_build 15 = .ok (.aload_n 0, 1) := by decide +kernel
theorem dX7_build_16 : decode cX7_build 16 = .ok (.iload_n 3, 1) := by decide +kernel
theorem dX7_build_17 : decode cX7_build 17 = .ok (.iconst 2, 1) := by decide +kernel
theorem dX7_build_18 : decode cX7_build 18 = .ok (.isub, 1) := by decide +kernel
theorem dX7_build_19 : decode cX7_build 19 = .ok (.bipush 6, 2) := by decide +kernel
theorem dX7_build_21 : decode cX7_build 21 = .ok (.idiv, 1) := by decide +kernel
theorem dX7_build_22 : decode cX7_build 22 = .ok (.putfield 18, 3) := by decide +kernel
theorem dX7_build_25 : decode cX7_build 25 = .ok (.iconst 0, 1) := by decide +kernel
theorem dX7_build_26 : decode cX7_build 26 = .ok (.istore 4, 2) := by decide +kernel
theorem dX7_build_28 : decode cX7_build 28 = .ok (.iload 4, 2) := by decide +kernel
theorem dX7_build_30 : decode cX7_build 30 = .ok (.aload_n 0, 1) := by decide +kernel
theorem dX7_build_31 : decode cX7_build 31 = .ok (.getfield 18, 3) := by decide +kernel
theorem dX7_build_34 : decode cX7_build 34 = .ok (.if_icmp .ge 114, 3) := by decide +kernel
theorem dX7_build_37 : decode cX7_build 37 = .ok (.iload_n 2, 1) := by decide +kernel
theorem dX7_build_38 : decode cX7_build 38 = .ok (.iconst 2, 1) := by decide +kernel
theorem dX7_build_39 : decode cX7_build 39 = .ok (.iadd, 1) := by decide +kernel
theorem dX7_build_40 : decode cX7_build 40 = .ok (.iload 4, 2) := by decide +kernel
theorem dX7_build_42 : decode cX7_build 42 = .ok (.bipush 6, 2) := by decide +kernel
theorem dX7_build_44 : decode cX7_build 44 = .ok (.imul, 1) := by decide +kernel
theorem dX7_build_45 : decode cX7_build 45 = .ok (.iadd, 1) := by decide +kernel
theorem dX7_build_46 : decode cX7_build 46 = .ok (.istore 5, 2) := by decide +kernel
theorem dX7_build_48 : decode cX7_build 48 = .ok (.aload_n 0, 1) := by decide +kernel
theorem dX7_build_49 : decode cX7_build 49 = .ok (.getfield 11, 3) := by decide +kernel
theorem dX7_build_52 : decode cX7_build 52 = .ok (.iload 4, 2) := by decide +kernel
theorem dX7_build_54 : decode cX7_build 54 = .ok (.aaload, 1) := by decide +kernel
theorem dX7_build_55 : decode cX7_build 55 = .ok (.astore 6, 2) := by decide +kernel
theorem dX7_build_57 : decode cX7_build 57 = .ok (.aload 6, 2) := by decide +kernel
theorem dX7_build_59 : decode cX7_build 59 = .ok (.aload_n 1, 1) := by decide +kernel
theorem dX7_build_60 : decode cX7_build 60 = .ok (.getfield 22, 3) := by decide +kernel
theorem dX7_build_63 : decode cX7_build 63 = .ok (.iload 5, 2) := by decide +kernel
theorem dX7_build_65 : decode cX7_build 65 = .ok (.iconst 1, 1) := by decide +kernel
theorem dX7_build_66 : decode cX7_build 66 = .ok (.iadd, 1) := by decide +kernel
theorem dX7_build_67 : decode cX7_build 67 = .ok (.iaload, 1) := by decide +kernel
theorem dX7_build_68 : decode cX7_build 68 = .ok (.invokestatic 31, 3) := by decide +kernel
theorem dX7_build_71 : decode cX7_build 71 = .ok (.putfield 35, 3) := by decide +kernel
theorem dX7_build_74 : decode cX7_build 74 = .ok (.aload 6, 2) := by decide +kernel
theorem dX7_build_76 : decode cX7_build 76 = .ok (.aload_n 1, 1) := by decide +kernel
theorem dX7_build_77 : decode cX7_build 77 = .ok (.getfield 22, 3) := by decide +kernel
theorem dX7_build_80 : decode cX7_build 80 = .ok (.iload 5, 2) := by decide +kernel
theorem dX7_build_82 : decode cX7_build 82 = .ok (.iconst 2, 1) := by decide +kernel
theorem dX7_build_83 : decode cX7_build 83 = .ok (.iadd, 1) := by decide +kernel
theorem dX7_build_84 : decode cX7_build 84 = .ok (.iaload, 1) := by decide +kernel
theorem dX7_build_85 : decode cX7_build 85 = .ok (.bipush 48, 2) := by decide +kernel
theorem dX7_build_87 : decode cX7_build 87 = .ok (.isub, 1) := by decide +kernel
theorem dX7_build_88 : decode cX7_build 88 = .ok (.putfield 38, 3) := by decide +kernel
theorem dX7_build_91 : decode cX7_build 91 = .ok (.aload 6, 2) := by decide +kernel
theorem dX7_build_93 : decode cX7_build 93 = .ok (.aload_n 1, 1) := by decide +kernel
theorem dX7_build_94 : decode cX7_build 94 = .ok (.getfield 22, 3) := by decide +kernel
theorem dX7_build_97 : decode cX7_build 97 = .ok (.iload 5, 2) := by decide +kernel
theorem dX7_build_99 : decode cX7_build 99 = .ok (.iconst 3, 1) := by decide +kernel
theorem dX7_build_100 : decode cX7_build 100 = .ok (.iadd, 1) := by decide +kernel
theorem dX7_build_101 : decode cX7_build 101 = .ok (.iaload, 1) := by decide +kernel
theorem dX7_build_102 : decode cX7_build 102 = .ok (.bipush 48, 2) := by decide +kernel
theorem dX7_build_104 : decode cX7_build 104 = .ok (.isub, 1) := by decide +kernel
theorem dX7_build_105 : decode cX7_build 105 = .ok (.putfield 41, 3) := by decide +kernel
theorem dX7_build_108 : decode cX7_build 108 = .ok (.aload 6, 2) := by decide +kernel
theorem dX7_build_110 : decode cX7_build 110 = .ok (.aload_n 1, 1) := by decide +kernel
theorem dX7_build_111 : decode cX7_build 111 = .ok (.getfield 22, 3) := by decide +kernel
theorem dX7_build_114 : decode cX7_build 114 = .ok (.iload 5, 2) := by decide +kernel
theorem dX7_build_116 : decode cX7_build 116 = .ok (.iconst 4, 1) := by decide +kernel
theorem dX7_build_117 : decode cX7_build 117 = .ok (.iadd, 1) := by decide +kernel
theorem dX7_build_118 : decode cX7_build 118 = .ok (.iaload, 1) := by decide +kernel
theorem dX7_build_119 : decode cX7_build 119 = .ok (.bipush 48, 2) := by decide +kernel
theorem dX7_build_121 : decode cX7_build 121 = .ok (.isub, 1) := by decide +kernel
theorem dX7_build_122 : decode cX7_build 122 = .ok (.putfield 44, 3) := by decide +kernel
theorem dX7_build_125 : decode cX7_build 125 = .ok (.aload 6, 2) := by decide +kernel
theorem dX7_build_127 : decode cX7_build 127 = .ok (.aload_n 1, 1) := by decide +kernel
theorem dX7_build_128 : decode cX7_build 128 = .ok (.getfield 22, 3) := by decide +kernel
theorem dX7_build_131 : decode cX7_build 131 = .ok (.iload 5, 2) := by decide +kernel
theorem dX7_build_133 : decode cX7_build 133 = .ok (.iconst 5, 1) := by decide +kernel
theorem dX7_build_134 : decode cX7_build 134 = .ok (.iadd, 1) := by decide +kernel
theorem dX7_build_135 : decode cX7_build 135 = .ok (.iaload, 1) := by decide +kernel
theorem dX7_build_136 : decode cX7_build 136 = .ok (.bipush 48, 2) := by decide +kernel
theorem dX7_build_138 : decode cX7_build 138 = .ok (.isub, 1) := by decide +kernel
theorem dX7_build_139 : decode cX7_build 139 = .ok (.putfield 47, 3) := by decide +kernel
theorem dX7_build_142 : decode cX7_build 142 = .ok (.iinc 4 1, 3) := by decide +kernel
theorem dX7_build_145 : decode cX7_build 145 = .ok (.goto (-117), 3) := by decide +kernel
theorem dX7_build_148 : decode cX7_build 148 = .ok (.return_, 1) := by decide +kernel
theorem dX7_kindOf_0 : decode cX7_kindOf 0 = .ok (.iload_n 0, 1) := by decide +kernel
theorem dX7_kindOf_1 : decode cX7_kindOf 1 = .ok (.lookupswitch 31 #[(105, 29), (112, 27)], 27) := by decide +kernel
theorem dX7_kindOf_28 : decode cX7_kindOf 28 = .ok (.iconst 2, 1) := by decide +kernel
theorem dX7_kindOf_29 : decode cX7_kindOf 29 = .ok (.ireturn, 1) := by decide +kernel
theorem dX7_kindOf_30 : decode cX7_kindOf 30 = .ok (.iconst 1, 1) := by decide +kernel
theorem dX7_kindOf_31 : decode cX7_kindOf 31 = .ok (.ireturn, 1) := by decide +kernel
theorem dX7_kindOf_32 : decode cX7_kindOf 32 = .ok (.iconst 0, 1) := by decide +kernel
theorem dX7_kindOf_33 : decode cX7_kindOf 33 = .ok (.ireturn, 1) := by decide +kernel
theorem dJ6_bitCount_0f7a4_0 : decode cJ6_bitCount_0f7a4 0 = .ok (.iload_n 0, 1) := by decide +kernel
theorem dJ6_bitCount_0f7a4_1 : decode cJ6_bitCount_0f7a4 1 = .ok (.iload_n 0, 1) := by decide +kernel
theorem dJ6_bitCount_0f7a4_2 : decode cJ6_bitCount_0f7a4 2 = .ok (.iconst 1, 1) := by decide +kernel
theorem dJ6_bitCount_0f7a4_3 : decode cJ6_bitCount_0f7a4 3 = .ok (.iushr, 1) := by decide +kernel
theorem dJ6_bitCount_0f7a4_4 : decode cJ6_bitCount_0f7a4 4 = .ok (.ldc_w 265, 3) := by decide +kernel
theorem dJ6_bitCount_0f7a4_7 : decode cJ6_bitCount_0f7a4 7 = .ok (.iand, 1) := by decide +kernel
theorem dJ6_bitCount_0f7a4_8 : decode cJ6_bitCount_0f7a4 8 = .ok (.isub, 1) := by decide +kernel
theorem dJ6_bitCount_0f7a4_9 : decode cJ6_bitCount_0f7a4 9 = .ok (.istore_n 0, 1) := by decide +kernel
theorem dJ6_bitCount_0f7a4_10 : decode cJ6_bitCount_0f7a4 10 = .ok (.iload_n 0, 1) := by decide +kernel
theorem dJ6_bitCount_0f7a4_11 : decode cJ6_bitCount_0f7a4 11 = .ok (.ldc_w 266, 3) := by decide +kernel
theorem dJ6_bitCount_0f7a4_14 : decode cJ6_bitCount_0f7a4 14 = .ok (.iand, 1) := by decide +kernel
theorem dJ6_bitCount_0f7a4_15 : decode cJ6_bitCount_0f7a4 15 = .ok (.iload_n 0, 1) := by decide +kernel
theorem dJ6_bitCount_0f7a4_16 : decode cJ6_bitCount_0f7a4 16 = .ok (.iconst 2, 1) := by decide +kernel
theorem dJ6_bitCount_0f7a4_17 : decode cJ6_bitCount_0f7a4 17 = .ok (.iushr, 1) := by decide +kernel
theorem dJ6_bitCount_0f7a4_18 : decode cJ6_bitCount_0f7a4 18 = .ok (.ldc_w 266, 3) := by decide +kernel
theorem dJ6_bitCount_0f7a4_21 : decode cJ6_bitCount_0f7a4 21 = .ok (.iand, 1) := by decide +kernel
theorem dJ6_bitCount_0f7a4_22 : decode cJ6_bitCount_0f7a4 22 = .ok (.iadd, 1) := by decide +kernel
theorem dJ6_bitCount_0f7a4_23 : decode cJ6_bitCount_0f7a4 23 = .ok (.istore_n 0, 1) := by decide +kernel
theorem dJ6_bitCount_0f7a4_24 : decode cJ6_bitCount_0f7a4 24 = .ok (.iload_n 0, 1) := by decide +kernel
theorem dJ6_bitCount_0f7a4_25 : decode cJ6_bitCount_0f7a4 25 = .ok (.iload_n 0, 1) := by decide +kernel
theorem dJ6_bitCount_0f7a4_26 : decode cJ6_bitCount_0f7a4 26 = .ok (.iconst 4, 1) := by decide +kernel
theorem dJ6_bitCount_0f7a4_27 : decode cJ6_bitCount_0f7a4 27 = .ok (.iushr, 1) := by decide +kernel
theorem dJ6_bitCount_0f7a4_28 : decode cJ6_bitCount_0f7a4 28 = .ok (.iadd, 1) := by decide +kernel
theorem dJ6_bitCount_0f7a4_29 : decode cJ6_bitCount_0f7a4 29 = .ok (.ldc_w 267, 3) := by decide +kernel
theorem dJ6_bitCount_0f7a4_32 : decode cJ6_bitCount_0f7a4 32 = .ok (.iand, 1) := by decide +kernel
theorem dJ6_bitCount_0f7a4_33 : decode cJ6_bitCount_0f7a4 33 = .ok (.istore_n 0, 1) := by decide +kernel
theorem dJ6_bitCount_0f7a4_34 : decode cJ6_bitCount_0f7a4 34 = .ok (.iload_n 0, 1) := by decide +kernel
theorem dJ6_bitCount_0f7a4_35 : decode cJ6_bitCount_0f7a4 35 = .ok (.iload_n 0, 1) := by decide +kernel
theorem dJ6_bitCount_0f7a4_36 : decode cJ6_bitCount_0f7a4 36 = .ok (.bipush 8, 2) := by decide +kernel
theorem dJ6_bitCount_0f7a4_38 : decode cJ6_bitCount_0f7a4 38 = .ok (.iushr, 1) := by decide +kernel
theorem dJ6_bitCount_0f7a4_39 : decode cJ6_bitCount_0f7a4 39 = .ok (.iadd, 1) := by decide +kernel
theorem dJ6_bitCount_0f7a4_40 : decode cJ6_bitCount_0f7a4 40 = .ok (.istore_n 0, 1) := by decide +kernel
theorem dJ6_bitCount_0f7a4_41 : decode cJ6_bitCount_0f7a4 41 = .ok (.iload_n 0, 1) := by decide +kernel
theorem dJ6_bitCount_0f7a4_42 : decode cJ6_bitCount_0f7a4 42 = .ok (.iload_n 0, 1) := by decide +kernel
theorem dJ6_bitCount_0f7a4_43 : decode cJ6_bitCount_0f7a4 43 = .ok (.bipush 16, 2) := by decide +kernel
theorem dJ6_bitCount_0f7a4_45 : decode cJ6_bitCount_0f7a4 45 = .ok (.iushr, 1) := by decide +kernel
theorem dJ6_bitCount_0f7a4_46 : decode cJ6_bitCount_0f7a4 46 = .ok (.iadd, 1) := by decide +kernel
theorem dJ6_bitCount_0f7a4_47 : decode cJ6_bitCount_0f7a4 47 = .ok (.istore_n 0, 1) := by decide +kernel
theorem dJ6_bitCount_0f7a4_48 : decode cJ6_bitCount_0f7a4 48 = .ok (.iload_n 0, 1) := by decide +kernel
theorem dJ6_bitCount_0f7a4_49 : decode cJ6_bitCount_0f7a4 49 = .ok (.bipush 63, 2) := by decide +kernel
theorem dJ6_bitCount_0f7a4_51 : decode cJ6_bitCount_0f7a4 51 = .ok (.iand, 1) := by decide +kernel
theorem dJ6_bitCount_0f7a4_52 : decode cJ6_bitCount_0f7a4 52 = .ok (.ireturn, 1) := by decide +kernel
