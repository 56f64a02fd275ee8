theorem dL_below_0 : decode cL_below 0 = .ok (.iload_n 0, 1) := by decide +kernel
theorem dL_below_1 : decode cL_below 1 = .ok (.ldc 7, 2) := by decide +kernel
theorem dL_below_3 : decode cL_below 3 = .ok (.iand, 1) := by decide +kernel
theorem dL_below_4 : decode cL_below 4 = .ok (.iload_n 1, 1) := by decide +kernel
theorem dL_below_5 : decode cL_below 5 = .ok (.irem, 1) := by decide +kernel
theorem dL_below_6 : decode cL_below 6 = .ok (.ireturn, 1) := by decide +kernel
theorem dL_cell_0 : decode cL_cell 0 = .ok (.iload_n 1, 1) := by decide +kernel
theorem dL_cell_1 : decode cL_cell 1 = .ok (.aload_n 0, 1) := by decide +kernel
theorem dL_cell_2 : decode cL_cell 2 = .ok (.arraylength, 1) := by decide +kernel
theorem dL_cell_3 : decode cL_cell 3 = .ok (.if_icmp .ge 9, 3) := by decide +kernel
theorem dL_cell_6 : decode cL_cell 6 = .ok (.aload_n 0, 1) := by decide +kernel
theorem dL_cell_7 : decode cL_cell 7 = .ok (.iload_n 1, 1) := by decide +kernel
theorem dL_cell_8 : decode cL_cell 8 = .ok (.iaload, 1) := by decide +kernel
theorem dL_cell_9 : decode cL_cell 9 = .ok (.goto 9, 3) := by decide +kernel
theorem dL_cell_12 : decode cL_cell 12 = .ok (.ldc 8, 2) := by decide +kernel
theorem dL_cell_14 : decode cL_cell 14 = .ok (.iload_n 1, 1) := by decide +kernel
theorem dL_cell_15 : decode cL_cell 15 = .ok (.iconst 3, 1) := by decide +kernel
theorem dL_cell_16 : decode cL_cell 16 = .ok (.iadd, 1) := by decide +kernel
theorem dL_cell_17 : decode cL_cell 17 = .ok (.imul, 1) := by decide +kernel
theorem dL_cell_18 : decode cL_cell 18 = .ok (.ireturn, 1) := by decide +kernel
theorem dX7_commonDivisor_0 : decode cX7_commonDivisor 0 = .ok (.lload_n 0, 1) := by decide +kernel
theorem dX7_commonDivisor_1 : decode cX7_commonDivisor 1 = .ok (.lconst 0, 1) := by decide +kernel
theorem dX7_commonDivisor_2 : decode cX7_commonDivisor 2 = .ok (.lcmp, 1) := by decide +kernel
theorem dX7_commonDivisor_3 : decode cX7_commonDivisor 3 = .ok (.ifCond .ge 8, 3) := by decide +kernel
theorem dX7_commonDivisor_6 : decode cX7_commonDivisor 6 = .ok (.lload_n 0, 1) := by decide +kernel
theorem dX7_commonDivisor_7 : decode cX7_commonDivisor 7 = .ok (.lneg, 1) := by decide +kernel
theorem dX7_commonDivisor_8 : decode cX7_commonDivisor 8 = .ok (.goto 4, 3) := by decide +kernel
theorem dX7_commonDivisor_11 : decode cX7_commonDivisor 11 = .ok (.lload_n 0, 1) := by decide +kernel
theorem dX7_commonDivisor_12 : decode cX7_commonDivisor 12 = .ok (.lstore 4, 2) := by decide +kernel
theorem dX7_commonDivisor_14 : decode cX7_commonDivisor 14 = .ok (.lload_n 2, 1) := by decide +kernel
theorem dX7_commonDivisor_15 : decode cX7_commonDivisor 15 = .ok (.lconst 0, 1) := by decide +kernel
theorem dX7_commonDivisor_16 : decode cX7_commonDivisor 16 = .ok (.lcmp, 1) := by decide +kernel
theorem dX7_commonDivisor_17 : decode cX7_commonDivisor 17 = .ok (.ifCond .ge 8, 3) := by decide +kernel
theorem dX7_commonDivisor_20 : decode cX7_commonDivisor 20 = .ok (.lload_n 2, 1) := by decide +kernel
theorem dX7_commonDivisor_21 : decode cX7_commonDivisor 21 = .ok (.lneg, 1) := by decide +kernel
theorem dX7_commonDivisor_22 : decode cX7_commonDivisor 22 = .ok (.goto 4, 3) := by decide +kernel
theorem dX7_commonDivisor_25 : decode cX7_commonDivisor 25 = .ok (.lload_n 2, 1) := by decide +kernel
theorem dX7_commonDivisor_26 : decode cX7_commonDivisor 26 = .ok (.lstore 6, 2) := by decide +kernel
theorem dX7_commonDivisor_28 : decode cX7_commonDivisor 28 = .ok (.iconst 0, 1) := by decide +kernel
theorem dX7_commonDivisor_29 : decode cX7_commonDivisor 29 = .ok (.istore 8, 2) := by decide +kernel
theorem dX7_commonDivisor_31 : decode cX7_commonDivisor 31 = .ok (.iload 8, 2) := by decide +kernel
theorem dX7_commonDivisor_33 : decode cX7_commonDivisor 33 = .ok (.sipush 200, 3) := by decide +kernel
theorem dX7_commonDivisor_36 : decode cX7_commonDivisor 36 = .ok (.if_icmp .ge 31, 3) := by decide +kernel
theorem dX7_commonDivisor_39 : decode cX7_commonDivisor 39 = .ok (.lload 6, 2) := by decide +kernel
theorem dX7_commonDivisor_41 : decode cX7_commonDivisor 41 = .ok (.lconst 0, 1) := by decide +kernel
theorem dX7_commonDivisor_42 : decode cX7_commonDivisor 42 = .ok (.lcmp, 1) := by decide +kernel
theorem dX7_commonDivisor_43 : decode cX7_commonDivisor 43 = .ok (.ifCond .eq 24, 3) := by decide +kernel
theorem dX7_commonDivisor_46 : decode cX7_commonDivisor 46 = .ok (.lload 4, 2) := by decide +kernel
theorem dX7_commonDivisor_48 : decode cX7_commonDivisor 48 = .ok (.lload 6, 2) := by decide +kernel
theorem dX7_commonDivisor_50 : decode cX7_commonDivisor 50 = .ok (.lrem, 1) := by decide +kernel
theorem dX7_commonDivisor_51 : decode cX7_commonDivisor 51 = .ok (.lstore 9, 2) := by decide +kernel
theorem dX7_commonDivisor_53 : decode cX7_commonDivisor 53 = .ok (.lload 6, 2) := by decide +kernel
theorem dX7_commonDivisor_55 : decode cX7_commonDivisor 55 = .ok (.lstore 4, 2) := by decide +kernel
theorem dX7_commonDivisor_57 : decode cX7_commonDivisor 57 = .ok (.lload 9, 2) := by decide +kernel
theorem dX7_commonDivisor_59 : decode cX7_commonDivisor 59 = .ok (.lstore 6, 2) := by decide +kernel
theorem dX7_commonDivisor_61 : decode cX7_commonDivisor 61 = .ok (.iinc 8 1, 3) := by decide +kernel
theorem dX7_commonDivisor_64 : decode cX7_commonDivisor 64 = .ok (.goto (-33), 3) := by decide +kernel
theorem dX7_commonDivisor_67 : decode cX7_commonDivisor 67 = .ok (.lload 4, 2) := by decide +kernel
theorem dX7_commonDivisor_69 : decode cX7_commonDivisor 69 = .ok (.lconst 0, 1) := by decide +kernel
theorem dX7_commonDivisor_70 : decode cX7_commonDivisor 70 = .ok (.lcmp, 1) := by decide +kernel
theorem dX7_commonDivisor_71 : decode cX7_commonDivisor 71 = .ok (.ifCond .le 8, 3) := by decide +kernel
theorem dX7_commonDivisor_74 : decode cX7_commonDivisor 74 = .ok (.lload 4, 2) := by decide +kernel
theorem dX7_commonDivisor_76 : decode cX7_commonDivisor 76 = .ok (.goto 4, 3) := by decide +kernel
theorem dX7_commonDivisor_79 : decode cX7_commonDivisor 79 = .ok (.lconst 1, 1) := by decide +kernel
theorem dX7_commonDivisor_80 : decode cX7_commonDivisor 80 = .ok (.lreturn, 1) := by decide +kernel
theorem dX5_part_0 : decode cX5_part 0 = .ok (.iload_n 1, 1) := by decide +kernel
theorem dX5_part_1 : decode cX5_part 1 = .ok (.iconst 2, 1) := by decide +kernel
theorem dX5_part_2 : decode cX5_part 2 = .ok (.if_icmp .ge 10, 3) := by decide +kernel
theorem dX5_part_5 : decode cX5_part 5 = .ok (.aload_n 0, 1) := by decide +kernel
theorem dX5_part_6 : decode cX5_part 6 = .ok (.getfield 15, 3) := by decide +kernel
theorem dX5_part_9 : decode cX5_part 9 = .ok (.goto 7, 3) := by decide +kernel
theorem dX5_part_12 : decode cX5_part 12 = .ok (.aload_n 0, 1) := by decide +kernel
theorem dX5_part_13 : decode cX5_part 13 = .ok (.getfield 18, 3) := by decide +kernel
theorem dX5_part_16 : decode cX5_part 16 = .ok (.lstore_n 2, 1) := by decide +kernel
theorem dX5_part_17 : decode cX5_part 17 = .ok (.lload_n 2, 1) := by decide +kernel
theorem dX5_part_18 : decode cX5_part 18 = .ok (.aload_n 0, 1) := by decide +kernel
theorem dX5_part_19 : decode cX5_part 19 = .ok (.getfield 9, 3) := by decide +kernel
theorem dX5_part_22 : decode cX5_part 22 = .ok (.invokestatic 64, 3) := by decide +kernel
theorem dX5_part_25 : decode cX5_part 25 = .ok (.lstore 4, 2) := by decide +kernel
theorem dX5_part_27 : decode cX5_part 27 = .ok (.iload_n 1, 1) := by decide +kernel
theorem dX5_part_28 : decode cX5_part 28 = .ok (.iconst 2, 1) := by decide +kernel
theorem dX5_part_29 : decode cX5_part 29 = .ok (.irem, 1) := by decide +kernel
theorem dX5_part_30 : decode cX5_part 30 = .ok (.ifCond .ne 7, 3) := by decide +kernel
theorem dX5_part_33 : decode cX5_part 33 = .ok (.lload_n 2, 1) := by decide +kernel
theorem dX5_part_34 : decode cX5_part 34 = .ok (.goto 7, 3) := by decide +kernel
theorem dX5_part_37 : decode cX5_part 37 = .ok (.aload_n 0, 1) := by decide +kernel
theorem dX5_part_38 : decode cX5_part 38 = .ok (.getfield 9, 3) := by decide +kernel
theorem dX5_part_41 : decode cX5_part 41 = .ok (.lload 4, 2) := by decide +kernel
theorem dX5_part_43 : decode cX5_part 43 = .ok (.ldiv, 1) := by decide +kernel
theorem dX5_part_44 : decode cX5_part 44 = .ok (.lreturn, 1) := by decide +kernel
theorem dX7_isFrom_0 : decode cX7_isFrom 0 = .ok (.iload_n 0, 1) := by decide +kernel
theorem dX7_isFrom_1 : decode cX7_isFrom 1 = .ok (.iload_n 1, 1) := by decide +kernel
theorem dX7_isFrom_2 : decode cX7_isFrom 2 = .ok (.if_icmp .lt 12, 3) := by decide +kernel
theorem dX7_isFrom_5 : decode cX7_isFrom 5 = .ok (.iload_n 0, 1) := by decide +kernel
theorem dX7_isFrom_6 : decode cX7_isFrom 6 = .ok (.iload_n 2, 1) := by decide +kernel
theorem dX7_isFrom_7 : decode cX7_isFrom 7 = .ok (.if_icmp .gt 7, 3) := by decide +kernel
theorem dX7_isFrom_10 : decode cX7_isFrom 10 = .ok (.iconst 1, 1) := by decide +kernel
theorem dX7_isFrom_11 : decode cX7_isFrom 11 = .ok (.goto 4, 3) := by decide +kernel
theorem dX7_isFrom_14 : decode cX7_isFrom 14 = .ok (.iconst 0, 1) := by decide +kernel
theorem dX7_isFrom_15 : decode cX7_isFrom 15 = .ok (.ireturn, 1) := by decide +kernel
theorem dX7_checkPoint_0 : decode cX7_checkPoint 0 = .ok (.iload_n 0, 1) := by decide +kernel
theorem dX7_checkPoint_1 : decode cX7_checkPoint 1 = .ok (.sipush (-1000), 3) := by decide +kernel
theorem dX7_checkPoint_4 : decode cX7_checkPoint 4 = .ok (.sipush 1000, 3) := by decide +kernel
theorem dX7_checkPoint_7 : decode cX7_checkPoint 7 = .ok (.invokestatic 56, 3) := by decide +kernel
theorem dX7_checkPoint_10 : decode cX7_checkPoint 10 = .ok (.ifCond .eq 16, 3) := by decide +kernel
theorem dX7_checkPoint_13 : decode cX7_checkPoint 13 = .ok (.iload_n 1, 1) := by decide +kernel
theorem dX7_checkPoint_14 : decode cX7_checkPoint 14 = .ok (.sipush (-1000), 3) := by decide +kernel
theorem dX7_checkPoint_17 : decode cX7_checkPoint 17 = .ok (.sipush 1000, 3) := by decide +kernel
theorem dX7_checkPoint_20 : decode cX7_checkPoint 20 = .ok (.invokestatic 56, 3) := by decide +kernel
theorem dX7_checkPoint_23 : decode cX7_checkPoint 23 = .ok (.ifCond .ne 14, 3) := by decide +kernel
theorem dX7_checkPoint_26 : decode cX7_checkPoint 26 = .ok (.new 60, 3) := by decide +kernel
theorem dX7_checkPoint_29 : decode cX7_checkPoint 29 = .ok (.dup, 1) := by decide +kernel
theorem dX7_checkPoint_30 : decode cX7_checkPoint 30 = .ok (.ldc_w 351, 3) := by decide +kernel
theorem dX7_checkPoint_33 : decode cX7_checkPoint 33 = .ok (.invokespecial 64, 3) := by decide +kernel
theorem dX7_checkPoint_36 : decode cX7_checkPoint 36 = .ok (.athrow, 1) := by decide +kernel
theorem dX7_checkPoint_37 : decode cX7_checkPoint 37 = .ok (.iload_n 2, 1) := by decide +kernel
theorem dX7_checkPoint_38 : decode cX7_checkPoint 38 = .ok (.iconst 0, 1) := by decide +kernel
theorem dX7_checkPoint_39 : decode cX7_checkPoint 39 = .ok (.iconst 3, 1) := by decide +kernel
theorem dX7_checkPoint_40 : decode cX7_checkPoint 40 = .ok (.invokestatic 56, 3) := by decide +kernel
theorem dX7_checkPoint_43 : decode cX7_checkPoint 43 = .ok (.ifCond .ne 14, 3) := by decide +kernel
theorem dX7_checkPoint_46 : decode cX7_checkPoint 46 = .ok (.new 60, 3) := by decide +kernel
theorem dX7_checkPoint_49 : decode cX7_checkPoint 49 = .ok (.dup, 1) := by decide +kernel
theorem dX7_checkPoint_50 : decode cX7_checkPoint 50 = .ok (.ldc_w 353, 3) := by decide +kernel
theorem dX7_checkPoint_53 : decode cX7_checkPoint 53 = .ok (.invokespecial 64, 3) := by decide +kernel
theorem dX7_checkPoint_56 : decode cX7_checkPoint 56 = .ok (.athrow, 1) := by decide +kernel
theorem dX7_checkPoint_57 : decode cX7_checkPoint 57 = .ok (.return_, 1) := by decide +kernel
theorem dX7_nodeOrNull_0 : decode cX7_nodeOrNull 0 = .ok (.iload_n 1, 1) := by decide +kernel
theorem dX7_nodeOrNull_1 : decode cX7_nodeOrNull 1 = .ok (.ifCond .lt 12, 3) := by decide +kernel
theorem dX7_nodeOrNull_4 : decode cX7_nodeOrNull 4 = .ok (.iload_n 1, 1) := by decide +kernel
theorem dX7_nodeOrNull_5 : decode cX7_nodeOrNull 5 = .ok (.aload_n 0, 1) := by decide +kernel
theorem dX7_nodeOrNull_6 : decode cX7_nodeOrNull 6 = .ok (.getfield 11, 3) := by decide +kernel
theorem dX7_nodeOrNull_9 : decode cX7_nodeOrNull 9 = .ok (.arraylength, 1) := by decide +kernel
theorem dX7_nodeOrNull_10 : decode cX7_nodeOrNull 10 = .ok (.if_icmp .lt 5, 3) := by decide +kernel
theorem dX7_nodeOrNull_13 : decode cX7_nodeOrNull 13 = .ok (.aconst_null, 1) := by decide +kernel
theorem dX7_nodeOrNull_14 : decode cX7_nodeOrNull 14 = .ok (.areturn, 1) := by decide +kernel
theorem dX7_nodeOrNull_15 : decode cX7_nodeOrNull 15 = .ok (.aload_n 0, 1) := by decide +kernel
theorem dX7_nodeOrNull_16 : decode cX7_nodeOrNull 16 = .ok (.getfield 11, 3) := by decide +kernel
theorem dX7_nodeOrNull_19 : decode cX7_nodeOrNull 19 = .ok (.iload_n 1, 1) := by decide +kernel
theorem dX7_nodeOrNull_20 : decode cX7_nodeOrNull 20 = .ok (.aaload, 1) := by decide +kernel
theorem dX7_nodeOrNull_21 : decode cX7_nodeOrNull 21 = .ok (.astore_n 2, 1) := by decide +kernel
theorem dX7_nodeOrNull_22 : decode cX7_nodeOrNull 22 = .ok (.aload_n 2, 1) := by decide +kernel
theorem dX7_nodeOrNull_23 : decode cX7_nodeOrNull 23 = .ok (.ifnull 10, 3) := by decide +kernel
theorem dX7_nodeOrNull_26 : decode cX7_nodeOrNull 26 = .ok (.aload_n 2, 1) := by decide +kernel
theorem dX7_nodeOrNull_27 : decode cX7_nodeOrNull 27 = .ok (.getfield 340, 3) := by decide +kernel
theorem dX7_nodeOrNull_30 : decode cX7_nodeOrNull 30 = .ok (.ifCond .eq 7, 3) := by decide +kernel
theorem dX7_nodeOrNull_33 : decode cX7_nodeOrNull 33 = .ok (.aconst_null, 1) := by decide +kernel
theorem dX7_nodeOrNull_34 : decode cX7_nodeOrNull 34 = .ok (.goto 4, 3) := by decide +kernel
theorem dX7_nodeOrNull_37 : decode cX7_nodeOrNull 37 = .ok (.aload_n 2, 1) := by decide +kernel
theorem dX7_nodeOrNull_38 : decode cX7_nodeOrNull 38 = .ok (.areturn, 1) := by decide +kernel
theorem dX7_found_0 : decode cX7_found 0 = .ok (.aload_n 0, 1) := by decide +kernel
theorem dX7_found_1 : decode cX7_found 1 = .ok (.iload_n 1, 1) := by decide +kernel
theorem dX7_found_2 : decode cX7_found 2 = .ok (.invokevirtual 330, 3) := by decide +kernel
theorem dX7_found_5 : decode cX7_found 5 = .ok (.astore_n 2, 1) := by decide +kernel
theorem dX7_found_6 : decode cX7_found 6 = .ok (.aload_n 2, 1) := by decide +kernel
theorem dX7_found_7 : decode cX7_found 7 = .ok (.ifnonnull 14, 3) := by decide +kernel
theorem dX7_found_10 : decode cX7_found 10 = .ok (.new 290, 3) := by decide +kernel
theorem dX7_found_13 : decode cX7_found 13 = .ok (.dup, 1) := by decide +kernel
theorem dX7_found_14 : decode cX7_found 14 = .ok (.ldc_w 343, 3) := by decide +kernel
theorem dX7_found_17 : decode cX7_found 17 = .ok (.invokespecial 294, 3) := by decide +kernel
theorem dX7_found_20 : decode cX7_found 20 = .ok (.athrow, 1) := by decide +kernel
theorem dX7_found_21 : decode cX7_found 21 = .ok (.aload_n 2, 1) := by decide +kernel
theorem dX7_found_22 : decode cX7_found 22 = .ok (.areturn, 1) := by decide +kernel
theorem dX5_turnQuarters_0 : decode cX5_turnQuarters 0 = .ok (.iconst 0, 1) := by decide +kernel
theorem dX5_turnQuarters_1 : decode cX5_turnQuarters 1 = .ok (.istore_n 2, 1) := by decide +kernel
theorem dX5_turnQuarters_2 : decode cX5_turnQuarters 2 = .ok (.iload_n 2, 1) := by decide +kernel
theorem dX5_turnQuarters_3 : decode cX5_turnQuarters 3 = .ok (.iload_n 1, 1) := by decide +kernel
theorem dX5_turnQuarters_4 : decode cX5_turnQuarters 4 = .ok (.if_icmp .ge 28, 3) := by decide +kernel
theorem dX5_turnQuarters_7 : decode cX5_turnQuarters 7 = .ok (.aload_n 0, 1) := by decide +kernel
theorem dX5_turnQuarters_8 : decode cX5_turnQuarters 8 = .ok (.getfield 15, 3) := by decide +kernel
theorem dX5_turnQuarters_11 : decode cX5_turnQuarters 11 = .ok (.lstore_n 3, 1) := by decide +kernel
theorem dX5_turnQuarters_12 : decode cX5_turnQuarters 12 = .ok (.aload_n 0, 1) := by decide +kernel
theorem dX5_turnQuarters_13 : decode cX5_turnQuarters 13 = .ok (.aload_n 0, 1) := by decide +kernel
theorem dX5_turnQuarters_14 : decode cX5_turnQuarters 14 = .ok (.getfield 18, 3) := by decide +kernel
theorem dX5_turnQuarters_17 : decode cX5_turnQuarters 17 = .ok (.lneg, 1) := by decide +kernel
theorem dX5_turnQuarters_18 : decode cX5_turnQuarters 18 = .ok (.putfield 15, 3) := by decide +kernel
theorem dX5_turnQuarters_21 : decode cX5_turnQuarters 21 = .ok (.aload_n 0, 1) := by decide +kernel
theorem dX5_turnQuarters_22 : decode cX5_turnQuarters 22 = .ok (.lload_n 3, 1) := by decide +kernel
theorem dX5_turnQuarters_23 : decode cX5_turnQuarters 23 = .ok (.putfield 18, 3) := by decide +kernel
theorem dX5_turnQuarters_26 : decode cX5_turnQuarters 26 = .ok (.iinc 2 1, 3) := by decide +kernel
theorem dX5_turnQuarters_29 : decode cX5_turnQuarters 29 = .ok (.goto (-27), 3) := by decide +kernel
theorem dX5_turnQuarters_32 : decode cX5_turnQuarters 32 = .ok (.return_, 1) := by decide +kernel
theorem dX6_countedTime_0 : decode cX6_countedTime 0 = .ok (.iload_n 3, 1) := by decide +kernel
theorem dX6_countedTime_1 : decode cX6_countedTime 1 = .ok (.iload_n 2, 1) := by decide +kernel
theorem dX6_countedTime_2 : decode cX6_countedTime 2 = .ok (.isub, 1) := by decide +kernel
theorem dX6_countedTime_3 : decode cX6_countedTime 3 = .ok (.istore 4, 2) := by decide +kernel
theorem dX6_countedTime_5 : decode cX6_countedTime 5 = .ok (.aload_n 0, 1) := by decide +kernel
theorem dX6_countedTime_6 : decode cX6_countedTime 6 = .ok (.getfield 66, 3) := by decide +kernel
theorem dX6_countedTime_9 : decode cX6_countedTime 9 = .ok (.ifCond .eq 14, 3) := by decide +kernel
theorem dX6_countedTime_12 : decode cX6_countedTime 12 = .ok (.iload_n 1, 1) := by decide +kernel
theorem dX6_countedTime_13 : decode cX6_countedTime 13 = .ok (.iload_n 3, 1) := by decide +kernel
theorem dX6_countedTime_14 : decode cX6_countedTime 14 = .ok (.if_icmp .le 9, 3) := by decide +kernel
theorem dX6_countedTime_17 : decode cX6_countedTime 17 = .ok (.iload 4, 2) := by decide +kernel
theorem dX6_countedTime_19 : decode cX6_countedTime 19 = .ok (.iconst 1, 1) := by decide +kernel
theorem dX6_countedTime_20 : decode cX6_countedTime 20 = .ok (.if_icmp .ge 5, 3) := by decide +kernel
theorem dX6_countedTime_23 : decode cX6_countedTime 23 = .ok (.iload_n 1, 1) := by decide +kernel
theorem dX6_countedTime_24 : decode cX6_countedTime 24 = .ok (.ireturn, 1) := by decide +kernel
theorem dX6_countedTime_25 : decode cX6_countedTime 25 = .ok (.iload_n 1, 1) := by decide +kernel
theorem dX6_countedTime_26 : decode cX6_countedTime 26 = .ok (.iload_n 2, 1) := by decide +kernel
theorem dX6_countedTime_27 : decode cX6_countedTime 27 = .ok (.isub, 1) := by decide +kernel
theorem dX6_countedTime_28 : decode cX6_countedTime 28 = .ok (.istore 5, 2) := by decide +kernel
theorem dX6_countedTime_30 : decode cX6_countedTime 30 = .ok (.aload_n 0, 1) := by decide +kernel
theorem dX6_countedTime_31 : decode cX6_countedTime 31 = .ok (.getfield 66, 3) := by decide +kernel
theorem dX6_countedTime_34 : decode cX6_countedTime 34 = .ok (.iconst 1, 1) := by decide +kernel
theorem dX6_countedTime_35 : decode cX6_countedTime 35 = .ok (.if_icmp .ne 11, 3) := by decide +kernel
theorem dX6_countedTime_38 : decode cX6_countedTime 38 = .ok (.iload_n 2, 1) := by decide +kernel
theorem dX6_countedTime_39 : decode cX6_countedTime 39 = .ok (.iload 5, 2) := by decide +kernel
theorem dX6_countedTime_41 : decode cX6_countedTime 41 = .ok (.iload 4, 2) := by decide +kernel
theorem dX6_countedTime_43 : decode cX6_countedTime 43 = .ok (.irem, 1) := by decide +kernel
theorem dX6_countedTime_44 : decode cX6_countedTime 44 = .ok (.iadd, 1) := by decide +kernel
theorem dX6_countedTime_45 : decode cX6_countedTime 45 = .ok (.ireturn, 1) := by decide +kernel
theorem dX6_countedTime_46 : decode cX6_countedTime 46 = .ok (.iload 5, 2) := by decide +kernel
theorem dX6_countedTime_48 : decode cX6_countedTime 48 = .ok (.iconst 2, 1) := by decide +kernel
theorem dX6_countedTime_49 : decode cX6_countedTime 49 = .ok (.iload 4, 2) := by decide +kernel
theorem dX6_countedTime_51 : decode cX6_countedTime 51 = .ok (.imul, 1) := by decide +kernel
theorem dX6_countedTime_52 : decode cX6_countedTime 52 = .ok (.irem, 1) := by decide +kernel
theorem dX6_countedTime_53 : decode cX6_countedTime 53 = .ok (.istore 6, 2) := by decide +kernel
theorem dX6_countedTime_55 : decode cX6_countedTime 55 = .ok (.iload_n 2, 1) := by decide +kernel
theorem dX6_countedTime_56 : decode cX6_countedTime 56 = .ok (.iload 6, 2) := by decide +kernel
theorem dX6_countedTime_58 : decode cX6_countedTime 58 = .ok (.iload 4, 2) := by decide +kernel
theorem dX6_countedTime_60 : decode cX6_countedTime 60 = .ok (.if_icmp .gt 8, 3) := by decide +kernel
theorem dX6_countedTime_63 : decode cX6_countedTime 63 = .ok (.iload 6, 2) := by decide +kernel
theorem dX6_countedTime_65 : decode cX6_countedTime 65 = .ok (.goto 10, 3) := by decide +kernel
theorem dX6_countedTime_68 : decode cX6_countedTime 68 = .ok (.iconst 2, 1) := by decide +kernel
theorem dX6_countedTime_69 : decode cX6_countedTime 69 = .ok (.iload 4, 2) := by decide +kernel
theorem dX6_countedTime_71 : decode cX6_countedTime 71 = .ok (.imul, 1) := by decide +kernel
theorem dX6_countedTime_72 : decode cX6_countedTime 72 = .ok (.iload 6, 2) := by decide +kernel
theorem dX6_countedTime_74 : decode cX6_countedTime 74 = .ok (.isub, 1) := by decide +kernel
theorem dX6_countedTime_75 : decode cX6_countedTime 75 = .ok (.iadd, 1) := by decide +kernel
theorem dX6_countedTime_76 : decode cX6_countedTime 76 = .ok (.ireturn, 1) := by decide +kernel
theorem dX6_lastKeyUpTo_0 : decode cX6_lastKeyUpTo 0 = .ok (.aconst_null, 1) := by decide +kernel
theorem dX6_lastKeyUpTo_1 : decode cX6_lastKeyUpTo 1 = .ok (.astore_n 2, 1) := by decide +kernel
theorem dX6_lastKeyUpTo_2 : decode cX6_lastKeyUpTo 2 = .ok (.aload_n 0, 1) := by decide +kernel
theorem dX6_lastKeyUpTo_3 : decode cX6_lastKeyUpTo 3 = .ok (.getfield 40, 3) := by decide +kernel
theorem dX6_lastKeyUpTo_6 : decode cX6_lastKeyUpTo 6 = .ok (.astore_n 3, 1) := by decide +kernel
theorem dX6_lastKeyUpTo_7 : decode cX6_lastKeyUpTo 7 = .ok (.aload_n 3, 1) := by decide +kernel
theorem dX6_lastKeyUpTo_8 : decode cX6_lastKeyUpTo 8 = .ok (.ifnull 21, 3) := by decide +kernel
theorem dX6_lastKeyUpTo_11 : decode cX6_lastKeyUpTo 11 = .ok (.aload_n 3, 1) := by decide +kernel
theorem dX6_lastKeyUpTo_12 : decode cX6_lastKeyUpTo 12 = .ok (.getfield 29, 3) := by decide +kernel
theorem dX6_lastKeyUpTo_15 : decode cX6_lastKeyUpTo 15 = .ok (.iload_n 1, 1) := by decide +kernel
theorem dX6_lastKeyUpTo_16 : decode cX6_lastKeyUpTo 16 = .ok (.if_icmp .gt 13, 3) := by decide +kernel
theorem dX6_lastKeyUpTo_19 : decode cX6_lastKeyUpTo 19 = .ok (.aload_n 3, 1) := by decide +kernel
theorem dX6_lastKeyUpTo_20 : decode cX6_lastKeyUpTo 20 = .ok (.astore_n 2, 1) := by decide +kernel
theorem dX6_lastKeyUpTo_21 : decode cX6_lastKeyUpTo 21 = .ok (.aload_n 3, 1) := by decide +kernel
theorem dX6_lastKeyUpTo_22 : decode cX6_lastKeyUpTo 22 = .ok (.getfield 44, 3) := by decide +kernel
theorem dX6_lastKeyUpTo_25 : decode cX6_lastKeyUpTo 25 = .ok (.astore_n 3, 1) := by decide +kernel
theorem dX6_lastKeyUpTo_26 : decode cX6_lastKeyUpTo 26 = .ok (.goto (-19), 3) := by decide +kernel
theorem dX6_lastKeyUpTo_29 : decode cX6_lastKeyUpTo 29 = .ok (.aload_n 2, 1) := by decide +kernel
theorem dX6_lastKeyUpTo_30 : decode cX6_lastKeyUpTo 30 = .ok (.areturn, 1) := by decide +kernel
theorem dX6_valueFrom_0 : decode cX6_valueFrom 0 = .ok (.aload_n 1, 1) := by decide +kernel
theorem dX6_valueFrom_1 : decode cX6_valueFrom 1 = .ok (.getfield 44, 3) := by decide +kernel
theorem dX6_valueFrom_4 : decode cX6_valueFrom 4 = .ok (.astore_n 3, 1) := by decide +kernel
theorem dX6_valueFrom_5 : decode cX6_valueFrom 5 = .ok (.aload_n 3, 1) := by decide +kernel
theorem dX6_valueFrom_6 : decode cX6_valueFrom 6 = .ok (.ifnull 10, 3) := by decide +kernel
theorem dX6_valueFrom_9 : decode cX6_valueFrom 9 = .ok (.aload_n 0, 1) := by decide +kernel
theorem dX6_valueFrom_10 : decode cX6_valueFrom 10 = .ok (.getfield 69, 3) := by decide +kernel
theorem dX6_valueFrom_13 : decode cX6_valueFrom 13 = .ok (.ifCond .ne 8, 3) := by decide +kernel
theorem dX6_valueFrom_16 : decode cX6_valueFrom 16 = .ok (.aload_n 1, 1) := by decide +kernel
theorem dX6_valueFrom_17 : decode cX6_valueFrom 17 = .ok (.getfield 34, 3) := by decide +kernel
theorem dX6_valueFrom_20 : decode cX6_valueFrom 20 = .ok (.ireturn, 1) := by decide +kernel
theorem dX6_valueFrom_21 : decode cX6_valueFrom 21 = .ok (.iload_n 2, 1) := by decide +kernel
theorem dX6_valueFrom_22 : decode cX6_valueFrom 22 = .ok (.aload_n 1, 1) := by decide +kernel
theorem dX6_valueFrom_23 : decode cX6_valueFrom 23 = .ok (.getfield 29, 3) := by decide +kernel
theorem dX6_valueFrom_26 : decode cX6_valueFrom 26 = .ok (.isub, 1) := by decide +kernel
theorem dX6_valueFrom_27 : decode cX6_valueFrom 27 = .ok (.i2l, 1) := by decide +kernel
theorem dX6_valueFrom_28 : decode cX6_valueFrom 28 = .ok (.lstore 4, 2) := by decide +kernel
theorem dX6_valueFrom_30 : decode cX6_valueFrom 30 = .ok (.aload_n 3, 1) := by decide +kernel
theorem dX6_valueFrom_31 : decode cX6_valueFrom 31 = .ok (.getfield 29, 3) := by decide +kernel
theorem dX6_valueFrom_34 : decode cX6_valueFrom 34 = .ok (.aload_n 1, 1) := by decide +kernel
theorem dX6_valueFrom_35 : decode cX6_valueFrom 35 = .ok (.getfield 29, 3) := by decide +kernel
theorem dX6_valueFrom_38 : decode cX6_valueFrom 38 = .ok (.isub, 1) := by decide +kernel
theorem dX6_valueFrom_39 : decode cX6_valueFrom 39 = .ok (.i2l, 1) := by decide +kernel
theorem dX6_valueFrom_40 : decode cX6_valueFrom 40 = .ok (.lstore 6, 2) := by decide +kernel
theorem dX6_valueFrom_42 : decode cX6_valueFrom 42 = .ok (.lload 6, 2) := by decide +kernel
theorem dX6_valueFrom_44 : decode cX6_valueFrom 44 = .ok (.lconst 1, 1) := by decide +kernel
theorem dX6_valueFrom_45 : decode cX6_valueFrom 45 = .ok (.lcmp, 1) := by decide +kernel
theorem dX6_valueFrom_46 : decode cX6_valueFrom 46 = .ok (.ifCond .ge 8, 3) := by decide +kernel
theorem dX6_valueFrom_49 : decode cX6_valueFrom 49 = .ok (.aload_n 1, 1) := by decide +kernel
theorem dX6_valueFrom_50 : decode cX6_valueFrom 50 = .ok (.getfield 34, 3) := by decide +kernel
theorem dX6_valueFrom_53 : decode cX6_valueFrom 53 = .ok (.ireturn, 1) := by decide +kernel
theorem dX6_valueFrom_54 : decode cX6_valueFrom 54 = .ok (.aload_n 3, 1) := by decide +kernel
theorem dX6_valueFrom_55 : decode cX6_valueFrom 55 = .ok (.getfield 34, 3) := by decide +kernel
theorem dX6_valueFrom_58 : decode cX6_valueFrom 58 = .ok (.aload_n 1, 1) := by decide +kernel
theorem dX6_valueFrom_59 : decode cX6_valueFrom 59 = .ok (.getfield 34, 3) := by decide +kernel
theorem dX6_valueFrom_62 : decode cX6_valueFrom 62 = .ok (.isub, 1) := by decide +kernel
theorem dX6_valueFrom_63 : decode cX6_valueFrom 63 = .ok (.i2l, 1) := by decide +kernel
theorem dX6_valueFrom_64 : decode cX6_valueFrom 64 = .ok (.lstore 8, 2) := by decide +kernel
theorem dX6_valueFrom_66 : decode cX6_valueFrom 66 = .ok (.aload_n 0, 1) := by decide +kernel
theorem dX6_valueFrom_67 : decode cX6_valueFrom 67 = .ok (.getfield 69, 3) := by decide +kernel
theorem dX6_valueFrom_70 : decode cX6_valueFrom 70 = .ok (.iconst 1, 1) := by decide +kernel
theorem dX6_valueFrom_71 : decode cX6_valueFrom 71 = .ok (.if_icmp .ne 19, 3) := by decide +kernel
theorem dX6_valueFrom_74 : decode cX6_valueFrom 74 = .ok (.aload_n 1, 1) := by decide +kernel
theorem dX6_valueFrom_75 : decode cX6_valueFrom 75 = .ok (.getfield 34, 3) := by decide +kernel
theorem dX6_valueFrom_78 : decode cX6_valueFrom 78 = .ok (.i2l, 1) := by decide +kernel
theorem dX6_valueFrom_79 : decode cX6_valueFrom 79 = .ok (.lload 8, 2) := by decide +kernel
theorem dX6_valueFrom_81 : decode cX6_valueFrom 81 = .ok (.lload 4, 2) := by decide +kernel
theorem dX6_valueFrom_83 : decode cX6_valueFrom 83 = .ok (.lmul, 1) := by decide +kernel
theorem dX6_valueFrom_84 : decode cX6_valueFrom 84 = .ok (.lload 6, 2) := by decide +kernel
theorem dX6_valueFrom_86 : decode cX6_valueFrom 86 = .ok (.ldiv, 1) := by decide +kernel
theorem dX6_valueFrom_87 : decode cX6_valueFrom 87 = .ok (.ladd, 1) := by decide +kernel
theorem dX6_valueFrom_88 : decode cX6_valueFrom 88 = .ok (.l2i, 1) := by decide +kernel
theorem dX6_valueFrom_89 : decode cX6_valueFrom 89 = .ok (.ireturn, 1) := by decide +kernel
theorem dX6_valueFrom_90 : decode cX6_valueFrom 90 = .ok (.aload_n 1, 1) := by decide +kernel
theorem dX6_valueFrom_91 : decode cX6_valueFrom 91 = .ok (.getfield 34, 3) := by decide +kernel
theorem dX6_valueFrom_94 : decode cX6_valueFrom 94 = .ok (.i2l, 1) := by decide +kernel
theorem dX6_valueFrom_95 : decode cX6_valueFrom 95 = .ok (.lload 8, 2) := by decide +kernel
theorem dX6_valueFrom_97 : decode cX6_valueFrom 97 = .ok (.lload 4, 2) := by decide +kernel
theorem dX6_valueFrom_99 : decode cX6_valueFrom 99 = .ok (.lmul, 1) := by decide +kernel
theorem dX6_valueFrom_100 : decode cX6_valueFrom 100 = .ok (.lload 4, 2) := by decide +kernel
theorem dX6_valueFrom_102 : decode cX6_valueFrom 102 = .ok (.lmul, 1) := by decide +kernel
theorem dX6_valueFrom_103 : decode cX6_valueFrom 103 = .ok (.ldc2_w 72, 3) := by decide +kernel
theorem dX6_valueFrom_106 : decode cX6_valueFrom 106 = .ok (.lload 6, 2) := by decide +kernel
theorem dX6_valueFrom_108 : decode cX6_valueFrom 108 = .ok (.lmul, 1) := by decide +kernel
theorem dX6_valueFrom_109 : decode cX6_valueFrom 109 = .ok (.ldc2_w 74, 3) := by decide +kernel
theorem dX6_valueFrom_112 : decode cX6_valueFrom 112 = .ok (.lload 4, 2) := by decide +kernel
theorem dX6_valueFrom_114 : decode cX6_valueFrom 114 = .ok (.lmul, 1) := by decide +kernel
theorem dX6_valueFrom_115 : decode cX6_valueFrom 115 = .ok (.lsub, 1) := by decide +kernel
theorem dX6_valueFrom_116 : decode cX6_valueFrom 116 = .ok (.lmul, 1) := by decide +kernel
theorem dX6_valueFrom_117 : decode cX6_valueFrom 117 = .ok (.lload 6, 2) := by decide +kernel
theorem dX6_valueFrom_119 : decode cX6_valueFrom 119 = .ok (.lload 6, 2) := by decide +kernel
theorem dX6_valueFrom_121 : decode cX6_valueFrom 121 = .ok (.lmul, 1) := by decide +kernel
theorem dX6_valueFrom_122 : decode cX6_valueFrom 122 = .ok (.lload 6, 2) := by decide +kernel
theorem dX6_valueFrom_124 : decode cX6_valueFrom 124 = .ok (.lmul, 1) := by decide +kernel
theorem dX6_valueFrom_125 : decode cX6_valueFrom 125 = .ok (.ldiv, 1) := by decide +kernel
theorem dX6_valueFrom_126 : decode cX6_valueFrom 126 = .ok (.ladd, 1) := by decide +kernel
theorem dX6_valueFrom_127 : decode cX6_valueFrom 127 = .ok (.l2i, 1) := by decide +kernel
theorem dX6_valueFrom_128 : decode cX6_valueFrom 128 = .ok (.ireturn, 1) := by decide +kernel
theorem dX6_at_0 : decode cX6_at 0 = .ok (.aload_n 0, 1) := by decide +kernel
theorem dX6_at_1 : decode cX6_at 1 = .ok (.getfield 40, 3) := by decide +kernel
theorem dX6_at_4 : decode cX6_at 4 = .ok (.ifnonnull 8, 3) := by decide +kernel
theorem dX6_at_7 : decode cX6_at 7 = .ok (.aload_n 0, 1) := by decide +kernel
theorem dX6_at_8 : decode cX6_at 8 = .ok (.getfield 9, 3) := by decide +kernel
theorem dX6_at_11 : decode cX6_at 11 = .ok (.ireturn, 1) := by decide +kernel
theorem dX6_at_12 : decode cX6_at 12 = .ok (.iload_n 1, 1) := by decide +kernel
theorem dX6_at_13 : decode cX6_at 13 = .ok (.istore_n 2, 1) := by decide +kernel
theorem dX6_at_14 : decode cX6_at 14 = .ok (.aload_n 0, 1) := by decide +kernel
theorem dX6_at_15 : decode cX6_at 15 = .ok (.iload_n 1, 1) := by decide +kernel
theorem dX6_at_16 : decode cX6_at 16 = .ok (.invokevirtual 25, 3) := by decide +kernel
theorem dX6_at_19 : decode cX6_at 19 = .ok (.astore_n 3, 1) := by decide +kernel
theorem dX6_at_20 : decode cX6_at 20 = .ok (.aload_n 3, 1) := by decide +kernel
theorem dX6_at_21 : decode cX6_at 21 = .ok (.ifnull 33, 3) := by decide +kernel
theorem dX6_at_24 : decode cX6_at 24 = .ok (.aload_n 3, 1) := by decide +kernel
theorem dX6_at_25 : decode cX6_at 25 = .ok (.getfield 44, 3) := by decide +kernel
theorem dX6_at_28 : decode cX6_at 28 = .ok (.ifnonnull 26, 3) := by decide +kernel
theorem dX6_at_31 : decode cX6_at 31 = .ok (.aload_n 0, 1) := by decide +kernel
theorem dX6_at_32 : decode cX6_at 32 = .ok (.iload_n 1, 1) := by decide +kernel
theorem dX6_at_33 : decode cX6_at 33 = .ok (.aload_n 0, 1) := by decide +kernel
theorem dX6_at_34 : decode cX6_at 34 = .ok (.getfield 40, 3) := by decide +kernel
theorem dX6_at_37 : decode cX6_at 37 = .ok (.getfield 29, 3) := by decide +kernel
theorem dX6_at_40 : decode cX6_at 40 = .ok (.aload_n 3, 1) := by decide +kernel
theorem dX6_at_41 : decode cX6_at 41 = .ok (.getfield 29, 3) := by decide +kernel
theorem dX6_at_44 : decode cX6_at 44 = .ok (.invokevirtual 58, 3) := by decide +kernel
theorem dX6_at_47 : decode cX6_at 47 = .ok (.istore_n 2, 1) := by decide +kernel
theorem dX6_at_48 : decode cX6_at 48 = .ok (.aload_n 0, 1) := by decide +kernel
theorem dX6_at_49 : decode cX6_at 49 = .ok (.iload_n 2, 1) := by decide +kernel
theorem dX6_at_50 : decode cX6_at 50 = .ok (.invokevirtual 25, 3) := by decide +kernel
theorem dX6_at_53 : decode cX6_at 53 = .ok (.astore_n 3, 1) := by decide +kernel
theorem dX6_at_54 : decode cX6_at 54 = .ok (.aload_n 3, 1) := by decide +kernel
theorem dX6_at_55 : decode cX6_at 55 = .ok (.ifnonnull 13, 3) := by decide +kernel
theorem dX6_at_58 : decode cX6_at 58 = .ok (.aload_n 0, 1) := by decide +kernel
theorem dX6_at_59 : decode cX6_at 59 = .ok (.getfield 40, 3) := by decide +kernel
theorem dX6_at_62 : decode cX6_at 62 = .ok (.getfield 34, 3) := by decide +kernel
theorem dX6_at_65 : decode cX6_at 65 = .ok (.goto 9, 3) := by decide +kernel
theorem dX6_at_68 : decode cX6_at 68 = .ok (.aload_n 0, 1) := by decide +kernel
theorem dX6_at_69 : decode cX6_at 69 = .ok (.aload_n 3, 1) := by decide +kernel
theorem dX6_at_70 : decode cX6_at 70 = .ok (.iload_n 2, 1) := by decide +kernel
theorem dX6_at_71 : decode cX6_at 71 = .ok (.invokevirtual 62, 3) := by decide +kernel
theorem dX6_at_74 : decode cX6_at 74 = .ok (.ireturn, 1) := by decide +kernel
theorem dX5_leave_0 : decode cX5_leave 0 = .ok (.aload_n 0, 1) := by decide +kernel
theorem dX5_leave_1 : decode cX5_leave 1 = .ok (.dup, 1) := by decide +kernel
theorem dX5_leave_2 : decode cX5_leave 2 = .ok (.getfield 15, 3) := by decide +kernel
theorem dX5_leave_5 : decode cX5_leave 5 = .ok (.aload_n 1, 1) := by decide +kernel
theorem dX5_leave_6 : decode cX5_leave 6 = .ok (.getfield 25, 3) := by decide +kernel
theorem dX5_leave_9 : decode cX5_leave 9 = .ok (.i2l, 1) := by decide +kernel
theorem dX5_leave_10 : decode cX5_leave 10 = .ok (.lmul, 1) := by decide +kernel
theorem dX5_leave_11 : decode cX5_leave 11 = .ok (.putfield 15, 3) := by decide +kernel
theorem dX5_leave_14 : decode cX5_leave 14 = .ok (.aload_n 0, 1) := by decide +kernel
theorem dX5_leave_15 : decode cX5_leave 15 = .ok (.dup, 1) := by decide +kernel
theorem dX5_leave_16 : decode cX5_leave 16 = .ok (.getfield 18, 3) := by decide +kernel
theorem dX5_leave_19 : decode cX5_leave 19 = .ok (.aload_n 1, 1) := by decide +kernel
theorem dX5_leave_20 : decode cX5_leave 20 = .ok (.getfield 25, 3) := by decide +kernel
theorem dX5_leave_23 : decode cX5_leave 23 = .ok (.i2l, 1) := by decide +kernel
theorem dX5_leave_24 : decode cX5_leave 24 = .ok (.lmul, 1) := by decide +kernel
theorem dX5_leave_25 : decode cX5_leave 25 = .ok (.putfield 18, 3) := by decide +kernel
theorem dX5_leave_28 : decode cX5_leave 28 = .ok (.aload_n 0, 1) := by decide +kernel
theorem dX5_leave_29 : decode cX5_leave 29 = .ok (.dup, 1) := by decide +kernel
theorem dX5_leave_30 : decode cX5_leave 30 = .ok (.getfield 9, 3) := by decide +kernel
theorem dX5_leave_33 : decode cX5_leave 33 = .ok (.aload_n 1, 1) := by decide +kernel
theorem dX5_leave_34 : decode cX5_leave 34 = .ok (.getfield 31, 3) := by decide +kernel
theorem dX5_leave_37 : decode cX5_leave 37 = .ok (.i2l, 1) := by decide +kernel
theorem dX5_leave_38 : decode cX5_leave 38 = .ok (.lmul, 1) := by decide +kernel
theorem dX5_leave_39 : decode cX5_leave 39 = .ok (.putfield 9, 3) := by decide +kernel
theorem dX5_leave_42 : decode cX5_leave 42 = .ok (.aload_n 1, 1) := by decide +kernel
theorem dX5_leave_43 : decode cX5_leave 43 = .ok (.getfield 33, 3) := by decide +kernel
theorem dX5_leave_46 : decode cX5_leave 46 = .ok (.ifCond .eq 12, 3) := by decide +kernel
theorem dX5_leave_49 : decode cX5_leave 49 = .ok (.aload_n 0, 1) := by decide +kernel
theorem dX5_leave_50 : decode cX5_leave 50 = .ok (.aload_n 0, 1) := by decide +kernel
theorem dX5_leave_51 : decode cX5_leave 51 = .ok (.getfield 15, 3) := by decide +kernel
theorem dX5_leave_54 : decode cX5_leave 54 = .ok (.lneg, 1) := by decide +kernel
theorem dX5_leave_55 : decode cX5_leave 55 = .ok (.putfield 15, 3) := by decide +kernel
theorem dX5_leave_58 : decode cX5_leave 58 = .ok (.aload_n 0, 1) := by decide +kernel
theorem dX5_leave_59 : decode cX5_leave 59 = .ok (.aload_n 1, 1) := by decide +kernel
theorem dX5_leave_60 : decode cX5_leave 60 = .ok (.getfield 36, 3) := by decide +kernel
theorem dX5_leave_63 : decode cX5_leave 63 = .ok (.iload_n 2, 1) := by decide +kernel
theorem dX5_leave_64 : decode cX5_leave 64 = .ok (.invokevirtual 40, 3) := by decide +kernel
theorem dX5_leave_67 : decode cX5_leave 67 = .ok (.invokevirtual 46, 3) := by decide +kernel
theorem dX5_leave_70 : decode cX5_leave 70 = .ok (.aload_n 0, 1) := by decide +kernel
theorem dX5_leave_71 : decode cX5_leave 71 = .ok (.dup, 1) := by decide +kernel
theorem dX5_leave_72 : decode cX5_leave 72 = .ok (.getfield 15, 3) := by decide +kernel
theorem dX5_leave_75 : decode cX5_leave 75 = .ok (.aload_n 1, 1) := by decide +kernel
theorem dX5_leave_76 : decode cX5_leave 76 = .ok (.getfield 50, 3) := by decide +kernel
theorem dX5_leave_79 : decode cX5_leave 79 = .ok (.iload_n 2, 1) := by decide +kernel
theorem dX5_leave_80 : decode cX5_leave 80 = .ok (.invokevirtual 40, 3) := by decide +kernel
theorem dX5_leave_83 : decode cX5_leave 83 = .ok (.i2l, 1) := by decide +kernel
theorem dX5_leave_84 : decode cX5_leave 84 = .ok (.aload_n 0, 1) := by decide +kernel
theorem dX5_leave_85 : decode cX5_leave 85 = .ok (.getfield 9, 3) := by decide +kernel
theorem dX5_leave_88 : decode cX5_leave 88 = .ok (.lmul, 1) := by decide +kernel
theorem dX5_leave_89 : decode cX5_leave 89 = .ok (.ladd, 1) := by decide +kernel
theorem dX5_leave_90 : decode cX5_leave 90 = .ok (.putfield 15, 3) := by decide +kernel
theorem dX5_leave_93 : decode cX5_leave 93 = .ok (.aload_n 0, 1) := by decide +kernel
theorem dX5_leave_94 : decode cX5_leave 94 = .ok (.dup, 1) := by decide +kernel
theorem dX5_leave_95 : decode cX5_leave 95 = .ok (.getfield 18, 3) := by decide +kernel
theorem dX5_leave_98 : decode cX5_leave 98 = .ok (.aload_n 1, 1) := by decide +kernel
theorem dX5_leave_99 : decode cX5_leave 99 = .ok (.getfield 52, 3) := by decide +kernel
theorem dX5_leave_102 : decode cX5_leave 102 = .ok (.iload_n 2, 1) := by decide +kernel
theorem dX5_leave_103 : decode cX5_leave 103 = .ok (.invokevirtual 40, 3) := by decide +kernel
theorem dX5_leave_106 : decode cX5_leave 106 = .ok (.i2l, 1) := by decide +kernel
theorem dX5_leave_107 : decode cX5_leave 107 = .ok (.aload_n 0, 1) := by decide +kernel
theorem dX5_leave_108 : decode cX5_leave 108 = .ok (.getfield 9, 3) := by decide +kernel
theorem dX5_leave_111 : decode cX5_leave 111 = .ok (.lmul, 1) := by decide +kernel
theorem dX5_leave_112 : decode cX5_leave 112 = .ok (.ladd, 1) := by decide +kernel
theorem dX5_leave_113 : decode cX5_leave 113 = .ok (.putfield 18, 3) := by decide +kernel
theorem dX5_leave_116 : decode cX5_leave 116 = .ok (.return_, 1) := by decide +kernel
theorem dX5_set_0 : decode cX5_set 0 = .ok (.aload_n 0, 1) := by decide +kernel
theorem dX5_set_1 : decode cX5_set 1 = .ok (.lload_n 1, 1) := by decide +kernel
theorem dX5_set_2 : decode cX5_set 2 = .ok (.putfield 15, 3) := by decide +kernel
theorem dX5_set_5 : decode cX5_set 5 = .ok (.aload_n 0, 1) := by decide +kernel
theorem dX5_set_6 : decode cX5_set 6 = .ok (.lload_n 3, 1) := by decide +kernel
theorem dX5_set_7 : decode cX5_set 7 = .ok (.putfield 18, 3) := by decide +kernel
theorem dX5_set_10 : decode cX5_set 10 = .ok (.aload_n 0, 1) := by decide +kernel
theorem dX5_set_11 : decode cX5_set 11 = .ok (.lload 5, 2) := by decide +kernel
theorem dX5_set_13 : decode cX5_set 13 = .ok (.putfield 9, 3) := by decide +kernel
theorem dX5_set_16 : decode cX5_set 16 = .ok (.aload_n 0, 1) := by decide +kernel
theorem dX5_set_17 : decode cX5_set 17 = .ok (.iconst 0, 1) := by decide +kernel
theorem dX5_set_18 : decode cX5_set 18 = .ok (.putfield 21, 3) := by decide +kernel
theorem dX5_set_21 : decode cX5_set 21 = .ok (.return_, 1) := by decide +kernel
theorem dX7_raise_0 : decode cX7_raise 0 = .ok (.aload_n 0, 1) := by decide +kernel
theorem dX7_raise_1 : decode cX7_raise 1 = .ok (.getfield 31, 3) := by decide +kernel
theorem dX7_raise_4 : decode cX7_raise 4 = .ok (.iload_n 2, 1) := by decide +kernel
theorem dX7_raise_5 : decode cX7_raise 5 = .ok (.i2l, 1) := by decide +kernel
theorem dX7_raise_6 : decode cX7_raise 6 = .ok (.iload_n 3, 1) := by decide +kernel
theorem dX7_raise_7 : decode cX7_raise 7 = .ok (.i2l, 1) := by decide +kernel
theorem dX7_raise_8 : decode cX7_raise 8 = .ok (.lconst 1, 1) := by decide +kernel
theorem dX7_raise_9 : decode cX7_raise 9 = .ok (.invokevirtual 256, 3) := by decide +kernel
theorem dX7_raise_12 : decode cX7_raise 12 = .ok (.aload_n 1, 1) := by decide +kernel
theorem dX7_raise_13 : decode cX7_raise 13 = .ok (.astore 4, 2) := by decide +kernel
theorem dX7_raise_15 : decode cX7_raise 15 = .ok (.aload 4, 2) := by decide +kernel
theorem dX7_raise_17 : decode cX7_raise 17 = .ok (.ifnull 26, 3) := by decide +kernel
theorem dX7_raise_20 : decode cX7_raise 20 = .ok (.aload_n 0, 1) := by decide +kernel
theorem dX7_raise_21 : decode cX7_raise 21 = .ok (.getfield 31, 3) := by decide +kernel
theorem dX7_raise_24 : decode cX7_raise 24 = .ok (.aload 4, 2) := by decide +kernel
theorem dX7_raise_26 : decode cX7_raise 26 = .ok (.aload_n 0, 1) := by decide +kernel
theorem dX7_raise_27 : decode cX7_raise 27 = .ok (.getfield 232, 3) := by decide +kernel
theorem dX7_raise_30 : decode cX7_raise 30 = .ok (.invokevirtual 376, 3) := by decide +kernel
theorem dX7_raise_33 : decode cX7_raise 33 = .ok (.aload 4, 2) := by decide +kernel
theorem dX7_raise_35 : decode cX7_raise 35 = .ok (.getfield 173, 3) := by decide +kernel
theorem dX7_raise_38 : decode cX7_raise 38 = .ok (.astore 4, 2) := by decide +kernel
theorem dX7_raise_40 : decode cX7_raise 40 = .ok (.goto (-25), 3) := by decide +kernel
theorem dX7_raise_43 : decode cX7_raise 43 = .ok (.return_, 1) := by decide +kernel
theorem dX2_holds_0 : decode cX2_holds 0 = .ok (.aload_n 1, 1) := by decide +kernel
theorem dX2_holds_1 : decode cX2_holds 1 = .ok (.getfield 22, 3) := by decide +kernel
theorem dX2_holds_4 : decode cX2_holds 4 = .ok (.aload_n 0, 1) := by decide +kernel
theorem dX2_holds_5 : decode cX2_holds 5 = .ok (.getfield 7, 3) := by decide +kernel
theorem dX2_holds_8 : decode cX2_holds 8 = .ok (.i2l, 1) := by decide +kernel
theorem dX2_holds_9 : decode cX2_holds 9 = .ok (.aload_n 1, 1) := by decide +kernel
theorem dX2_holds_10 : decode cX2_holds 10 = .ok (.getfield 28, 3) := by decide +kernel
theorem dX2_holds_13 : decode cX2_holds 13 = .ok (.lmul, 1) := by decide +kernel
theorem dX2_holds_14 : decode cX2_holds 14 = .ok (.lcmp, 1) := by decide +kernel
theorem dX2_holds_15 : decode cX2_holds 15 = .ok (.ifCond .lt 61, 3) := by decide +kernel
theorem dX2_holds_18 : decode cX2_holds 18 = .ok (.aload_n 1, 1) := by decide +kernel
theorem dX2_holds_19 : decode cX2_holds 19 = .ok (.getfield 22, 3) := by decide +kernel
theorem dX2_holds_22 : decode cX2_holds 22 = .ok (.aload_n 0, 1) := by decide +kernel
theorem dX2_holds_23 : decode cX2_holds 23 = .ok (.getfield 16, 3) := by decide +kernel
theorem dX2_holds_26 : decode cX2_holds 26 = .ok (.i2l, 1) := by decide +kernel
theorem dX2_holds_27 : decode cX2_holds 27 = .ok (.aload_n 1, 1) := by decide +kernel
theorem dX2_holds_28 : decode cX2_holds 28 = .ok (.getfield 28, 3) := by decide +kernel
theorem dX2_holds_31 : decode cX2_holds 31 = .ok (.lmul, 1) := by decide +kernel
theorem dX2_holds_32 : decode cX2_holds 32 = .ok (.lcmp, 1) := by decide +kernel
theorem dX2_holds_33 : decode cX2_holds 33 = .ok (.ifCond .gt 43, 3) := by decide +kernel
theorem dX2_holds_36 : decode cX2_holds 36 = .ok (.aload_n 1, 1) := by decide +kernel
theorem dX2_holds_37 : decode cX2_holds 37 = .ok (.getfield 31, 3) := by decide +kernel
theorem dX2_holds_40 : decode cX2_holds 40 = .ok (.aload_n 0, 1) := by decide +kernel
theorem dX2_holds_41 : decode cX2_holds 41 = .ok (.getfield 13, 3) := by decide +kernel
theorem dX2_holds_44 : decode cX2_holds 44 = .ok (.i2l, 1) := by decide +kernel
theorem dX2_holds_45 : decode cX2_holds 45 = .ok (.aload_n 1, 1) := by decide +kernel
theorem dX2_holds_46 : decode cX2_holds 46 = .ok (.getfield 28, 3) := by decide +kernel
theorem dX2_holds_49 : decode cX2_holds 49 = .ok (.lmul, 1) := by decide +kernel
theorem dX2_holds_50 : decode cX2_holds 50 = .ok (.lcmp, 1) := by decide +kernel
theorem dX2_holds_51 : decode cX2_holds 51 = .ok (.ifCond .lt 25, 3) := by decide +kernel
theorem dX2_holds_54 : decode cX2_holds 54 = .ok (.aload_n 1, 1) := by decide +kernel
theorem dX2_holds_55 : decode cX2_holds 55 = .ok (.getfield 31, 3) := by decide +kernel
theorem dX2_holds_58 : decode cX2_holds 58 = .ok (.aload_n 0, 1) := by decide +kernel
theorem dX2_holds_59 : decode cX2_holds 59 = .ok (.getfield 19, 3) := by decide +kernel
theorem dX2_holds_62 : decode cX2_holds 62 = .ok (.i2l, 1) := by decide +kernel
theorem dX2_holds_63 : decode cX2_holds 63 = .ok (.aload_n 1, 1) := by decide +kernel
theorem dX2_holds_64 : decode cX2_holds 64 = .ok (.getfield 28, 3) := by decide +kernel
theorem dX2_holds_67 : decode cX2_holds 67 = .ok (.lmul, 1) := by decide +kernel
theorem dX2_holds_68 : decode cX2_holds 68 = .ok (.lcmp, 1) := by decide +kernel
theorem dX2_holds_69 : decode cX2_holds 69 = .ok (.ifCond .gt 7, 3) := by decide +kernel
theorem dX2_holds_72 : decode cX2_holds 72 = .ok (.iconst 1, 1) := by decide +kernel
theorem dX2_holds_73 : decode cX2_holds 73 = .ok (.goto 4, 3) := by decide +kernel
theorem dX2_holds_76 : decode cX2_holds 76 = .ok (.iconst 0, 1) := by decide +kernel
theorem dX2_holds_77 : decode cX2_holds 77 = .ok (.ireturn, 1) := by decide +kernel
theorem dX5_enter_0 : decode cX5_enter 0 = .ok (.aload_n 0, 1) := by decide +kernel
theorem dX5_enter_1 : decode cX5_enter 1 = .ok (.dup, 1) := by decide +kernel
theorem dX5_enter_2 : decode cX5_enter 2 = .ok (.getfield 15, 3) := by decide +kernel
theorem dX5_enter_5 : decode cX5_enter 5 = .ok (.aload_n 1, 1) := by decide +kernel
theorem dX5_enter_6 : decode cX5_enter 6 = .ok (.getfield 50, 3) := by decide +kernel
theorem dX5_enter_9 : decode cX5_enter 9 = .ok (.iload_n 2, 1) := by decide +kernel
theorem dX5_enter_10 : decode cX5_enter 10 = .ok (.invokevirtual 40, 3) := by decide +kernel
theorem dX5_enter_13 : decode cX5_enter 13 = .ok (.i2l, 1) := by decide +kernel
theorem dX5_enter_14 : decode cX5_enter 14 = .ok (.aload_n 0, 1) := by decide +kernel
theorem dX5_enter_15 : decode cX5_enter 15 = .ok (.getfield 9, 3) := by decide +kernel
theorem dX5_enter_18 : decode cX5_enter 18 = .ok (.lmul, 1) := by decide +kernel
theorem dX5_enter_19 : decode cX5_enter 19 = .ok (.lsub, 1) := by decide +kernel
theorem dX5_enter_20 : decode cX5_enter 20 = .ok (.putfield 15, 3) := by decide +kernel
theorem dX5_enter_23 : decode cX5_enter 23 = .ok (.aload_n 0, 1) := by decide +kernel
theorem dX5_enter_24 : decode cX5_enter 24 = .ok (.dup, 1) := by decide +kernel
theorem dX5_enter_25 : decode cX5_enter 25 = .ok (.getfield 18, 3) := by decide +kernel
theorem dX5_enter_28 : decode cX5_enter 28 = .ok (.aload_n 1, 1) := by decide +kernel
theorem dX5_enter_29 : decode cX5_enter 29 = .ok (.getfield 52, 3) := by decide +kernel
theorem dX5_enter_32 : decode cX5_enter 32 = .ok (.iload_n 2, 1) := by decide +kernel
theorem dX5_enter_33 : decode cX5_enter 33 = .ok (.invokevirtual 40, 3) := by decide +kernel
theorem dX5_enter_36 : decode cX5_enter 36 = .ok (.i2l, 1) := by decide +kernel
theorem dX5_enter_37 : decode cX5_enter 37 = .ok (.aload_n 0, 1) := by decide +kernel
theorem dX5_enter_38 : decode cX5_enter 38 = .ok (.getfield 9, 3) := by decide +kernel
theorem dX5_enter_41 : decode cX5_enter 41 = .ok (.lmul, 1) := by decide +kernel
theorem dX5_enter_42 : decode cX5_enter 42 = .ok (.lsub, 1) := by decide +kernel
theorem dX5_enter_43 : decode cX5_enter 43 = .ok (.putfield 18, 3) := by decide +kernel
theorem dX5_enter_46 : decode cX5_enter 46 = .ok (.aload_n 0, 1) := by decide +kernel
theorem dX5_enter_47 : decode cX5_enter 47 = .ok (.iconst 4, 1) := by decide +kernel
theorem dX5_enter_48 : decode cX5_enter 48 = .ok (.aload_n 1, 1) := by decide +kernel
theorem dX5_enter_49 : decode cX5_enter 49 = .ok (.getfield 36, 3) := by decide +kernel
theorem dX5_enter_52 : decode cX5_enter 52 = .ok (.iload_n 2, 1) := by decide +kernel
theorem dX5_enter_53 : decode cX5_enter 53 = .ok (.invokevirtual 40, 3) := by decide +kernel
theorem dX5_enter_56 : decode cX5_enter 56 = .ok (.isub, 1) := by decide +kernel
theorem dX5_enter_57 : decode cX5_enter 57 = .ok (.invokevirtual 46, 3) := by decide +kernel
theorem dX5_enter_60 : decode cX5_enter 60 = .ok (.aload_n 1, 1) := by decide +kernel
theorem dX5_enter_61 : decode cX5_enter 61 = .ok (.getfield 33, 3) := by decide +kernel
theorem dX5_enter_64 : decode cX5_enter 64 = .ok (.ifCond .eq 12, 3) := by decide +kernel
theorem dX5_enter_67 : decode cX5_enter 67 = .ok (.aload_n 0, 1) := by decide +kernel
theorem dX5_enter_68 : decode cX5_enter 68 = .ok (.aload_n 0, 1) := by decide +kernel
theorem dX5_enter_69 : decode cX5_enter 69 = .ok (.getfield 15, 3) := by decide +kernel
theorem dX5_enter_72 : decode cX5_enter 72 = .ok (.lneg, 1) := by decide +kernel
theorem dX5_enter_73 : decode cX5_enter 73 = .ok (.putfield 15, 3) := by decide +kernel
theorem dX5_enter_76 : decode cX5_enter 76 = .ok (.aload_n 0, 1) := by decide +kernel
theorem dX5_enter_77 : decode cX5_enter 77 = .ok (.dup, 1) := by decide +kernel
theorem dX5_enter_78 : decode cX5_enter 78 = .ok (.getfield 15, 3) := by decide +kernel
theorem dX5_enter_81 : decode cX5_enter 81 = .ok (.aload_n 1, 1) := by decide +kernel
theorem dX5_enter_82 : decode cX5_enter 82 = .ok (.getfield 31, 3) := by decide +kernel
theorem dX5_enter_85 : decode cX5_enter 85 = .ok (.i2l, 1) := by decide +kernel
theorem dX5_enter_86 : decode cX5_enter 86 = .ok (.lmul, 1) := by decide +kernel
theorem dX5_enter_87 : decode cX5_enter 87 = .ok (.putfield 15, 3) := by decide +kernel
theorem dX5_enter_90 : decode cX5_enter 90 = .ok (.aload_n 0, 1) := by decide +kernel
theorem dX5_enter_91 : decode cX5_enter 91 = .ok (.dup, 1) := by decide +kernel
theorem dX5_enter_92 : decode cX5_enter 92 = .ok (.getfield 18, 3) := by decide +kernel
theorem dX5_enter_95 : decode cX5_enter 95 = .ok (.aload_n 1, 1) := by decide +kernel
theorem dX5_enter_96 : decode cX5_enter 96 = .ok (.getfield 31, 3) := by decide +kernel
theorem dX5_enter_99 : decode cX5_enter 99 = .ok (.i2l, 1) := by decide +kernel
theorem dX5_enter_100 : decode cX5_enter 100 = .ok (.lmul, 1) := by decide +kernel
theorem dX5_enter_101 : decode cX5_enter 101 = .ok (.putfield 18, 3) := by decide +kernel
theorem dX5_enter_104 : decode cX5_enter 104 = .ok (.aload_n 0, 1) := by decide +kernel
theorem dX5_enter_105 : decode cX5_enter 105 = .ok (.dup, 1) := by decide +kernel
theorem dX5_enter_106 : decode cX5_enter 106 = .ok (.getfield 9, 3) := by decide +kernel
theorem dX5_enter_109 : decode cX5_enter 109 = .ok (.aload_n 1, 1) := by decide +kernel
theorem dX5_enter_110 : decode cX5_enter 110 = .ok (.getfield 25, 3) := by decide +kernel
theorem dX5_enter_113 : decode cX5_enter 113 = .ok (.i2l, 1) := by decide +kernel
theorem dX5_enter_114 : decode cX5_enter 114 = .ok (.lmul, 1) := by decide +kernel
theorem dX5_enter_115 : decode cX5_enter 115 = .ok (.putfield 9, 3) := by decide +kernel
theorem dX5_enter_118 : decode cX5_enter 118 = .ok (.aload_n 1, 1) := by decide +kernel
theorem dX5_enter_119 : decode cX5_enter 119 = .ok (.getfield 54, 3) := by decide +kernel
theorem dX5_enter_122 : decode cX5_enter 122 = .ok (.ifnull 19, 3) := by decide +kernel
theorem dX5_enter_125 : decode cX5_enter 125 = .ok (.aload_n 1, 1) := by decide +kernel
theorem dX5_enter_126 : decode cX5_enter 126 = .ok (.getfield 54, 3) := by decide +kernel
theorem dX5_enter_129 : decode cX5_enter 129 = .ok (.aload_n 0, 1) := by decide +kernel
theorem dX5_enter_130 : decode cX5_enter 130 = .ok (.invokevirtual 58, 3) := by decide +kernel
theorem dX5_enter_133 : decode cX5_enter 133 = .ok (.ifCond .ne 8, 3) := by decide +kernel
theorem dX5_enter_136 : decode cX5_enter 136 = .ok (.aload_n 0, 1) := by decide +kernel
theorem dX5_enter_137 : decode cX5_enter 137 = .ok (.iconst 1, 1) := by decide +kernel
theorem dX5_enter_138 : decode cX5_enter 138 = .ok (.putfield 21, 3) := by decide +kernel
theorem dX5_enter_141 : decode cX5_enter 141 = .ok (.return_, 1) := by decide +kernel
theorem dX7_sink_0 : decode cX7_sink 0 = .ok (.aload_n 1, 1) := by decide +kernel
theorem dX7_sink_1 : decode cX7_sink 1 = .ok (.getfield 173, 3) := by decide +kernel
theorem dX7_sink_4 : decode cX7_sink 4 = .ok (.ifnull 20, 3) := by decide +kernel
theorem dX7_sink_7 : decode cX7_sink 7 = .ok (.iload_n 3, 1) := by decide +kernel
theorem dX7_sink_8 : decode cX7_sink 8 = .ok (.iconst 4, 1) := by decide +kernel
theorem dX7_sink_9 : decode cX7_sink 9 = .ok (.if_icmp .ge 15, 3) := by decide +kernel
theorem dX7_sink_12 : decode cX7_sink 12 = .ok (.aload_n 0, 1) := by decide +kernel
theorem dX7_sink_13 : decode cX7_sink 13 = .ok (.aload_n 1, 1) := by decide +kernel
theorem dX7_sink_14 : decode cX7_sink 14 = .ok (.getfield 173, 3) := by decide +kernel
theorem dX7_sink_17 : decode cX7_sink 17 = .ok (.iload_n 2, 1) := by decide +kernel
theorem dX7_sink_18 : decode cX7_sink 18 = .ok (.iload_n 3, 1) := by decide +kernel
theorem dX7_sink_19 : decode cX7_sink 19 = .ok (.iconst 1, 1) := by decide +kernel
theorem dX7_sink_20 : decode cX7_sink 20 = .ok (.iadd, 1) := by decide +kernel
theorem dX7_sink_21 : decode cX7_sink 21 = .ok (.invokestatic 260, 3) := by decide +kernel
theorem dX7_sink_24 : decode cX7_sink 24 = .ok (.aload_n 0, 1) := by decide +kernel
theorem dX7_sink_25 : decode cX7_sink 25 = .ok (.aload_n 1, 1) := by decide +kernel
theorem dX7_sink_26 : decode cX7_sink 26 = .ok (.iload_n 2, 1) := by decide +kernel
theorem dX7_sink_27 : decode cX7_sink 27 = .ok (.invokevirtual 379, 3) := by decide +kernel
theorem dX7_sink_30 : decode cX7_sink 30 = .ok (.return_, 1) := by decide +kernel
theorem dX7_between_0 : decode cX7_between 0 = .ok (.aload_n 0, 1) := by decide +kernel
theorem dX7_between_1 : decode cX7_between 1 = .ok (.iload_n 1, 1) := by decide +kernel
theorem dX7_between_2 : decode cX7_between 2 = .ok (.invokevirtual 52, 3) := by decide +kernel
theorem dX7_between_5 : decode cX7_between 5 = .ok (.astore 6, 2) := by decide +kernel
theorem dX7_between_7 : decode cX7_between 7 = .ok (.aload_n 0, 1) := by decide +kernel
theorem dX7_between_8 : decode cX7_between 8 = .ok (.iload_n 2, 1) := by decide +kernel
theorem dX7_between_9 : decode cX7_between 9 = .ok (.invokevirtual 52, 3) := by decide +kernel
theorem dX7_between_12 : decode cX7_between 12 = .ok (.astore 7, 2) := by decide +kernel
theorem dX7_between_14 : decode cX7_between 14 = .ok (.iload_n 3, 1) := by decide +kernel
theorem dX7_between_15 : decode cX7_between 15 = .ok (.iload 4, 2) := by decide +kernel
theorem dX7_between_17 : decode cX7_between 17 = .ok (.iload 5, 2) := by decide +kernel
theorem dX7_between_19 : decode cX7_between 19 = .ok (.invokestatic 244, 3) := by decide +kernel
theorem dX7_between_22 : decode cX7_between 22 = .ok (.aload_n 0, 1) := by decide +kernel
theorem dX7_between_23 : decode cX7_between 23 = .ok (.aload 6, 2) := by decide +kernel
theorem dX7_between_25 : decode cX7_between 25 = .ok (.iload_n 3, 1) := by decide +kernel
theorem dX7_between_26 : decode cX7_between 26 = .ok (.iload 4, 2) := by decide +kernel
theorem dX7_between_28 : decode cX7_between 28 = .ok (.invokevirtual 248, 3) := by decide +kernel
theorem dX7_between_31 : decode cX7_between 31 = .ok (.aload_n 0, 1) := by decide +kernel
theorem dX7_between_32 : decode cX7_between 32 = .ok (.getfield 31, 3) := by decide +kernel
theorem dX7_between_35 : decode cX7_between 35 = .ok (.aload 7, 2) := by decide +kernel
theorem dX7_between_37 : decode cX7_between 37 = .ok (.aload_n 0, 1) := by decide +kernel
theorem dX7_between_38 : decode cX7_between 38 = .ok (.getfield 232, 3) := by decide +kernel
theorem dX7_between_41 : decode cX7_between 41 = .ok (.iconst 0, 1) := by decide +kernel
theorem dX7_between_42 : decode cX7_between 42 = .ok (.invokestatic 260, 3) := by decide +kernel
theorem dX7_between_45 : decode cX7_between 45 = .ok (.aload_n 0, 1) := by decide +kernel
theorem dX7_between_46 : decode cX7_between 46 = .ok (.getfield 31, 3) := by decide +kernel
theorem dX7_between_49 : decode cX7_between 49 = .ok (.iload 5, 2) := by decide +kernel
theorem dX7_between_51 : decode cX7_between 51 = .ok (.invokevirtual 252, 3) := by decide +kernel
theorem dX7_between_54 : decode cX7_between 54 = .ok (.l2i, 1) := by decide +kernel
theorem dX7_between_55 : decode cX7_between 55 = .ok (.ireturn, 1) := by decide +kernel
theorem dX0_side_0 : decode cX0_side 0 = .ok (.iload_n 1, 1) := by decide +kernel
theorem dX0_side_1 : decode cX0_side 1 = .ok (.tableswitch 42 0 2 #[27, 32, 37], 27) := by decide +kernel
theorem dX0_side_28 : decode cX0_side 28 = .ok (.aload_n 0, 1) := by decide +kernel
theorem dX0_side_29 : decode cX0_side 29 = .ok (.getfield 10, 3) := by decide +kernel
theorem dX0_side_32 : decode cX0_side 32 = .ok (.areturn, 1) := by decide +kernel
theorem dX0_side_33 : decode cX0_side 33 = .ok (.aload_n 0, 1) := by decide +kernel
theorem dX0_side_34 : decode cX0_side 34 = .ok (.getfield 16, 3) := by decide +kernel
theorem dX0_side_37 : decode cX0_side 37 = .ok (.areturn, 1) := by decide +kernel
theorem dX0_side_38 : decode cX0_side 38 = .ok (.aload_n 0, 1) := by decide +kernel
theorem dX0_side_39 : decode cX0_side 39 = .ok (.getfield 19, 3) := by decide +kernel
theorem dX0_side_42 : decode cX0_side 42 = .ok (.areturn, 1) := by decide +kernel
theorem dX0_side_43 : decode cX0_side 43 = .ok (.aload_n 0, 1) := by decide +kernel
theorem dX0_side_44 : decode cX0_side 44 = .ok (.getfield 22, 3) := by decide +kernel
theorem dX0_side_47 : decode cX0_side 47 = .ok (.areturn, 1) := by decide +kernel
theorem dX1_set_0 : decode cX1_set 0 = .ok (.lload_n 1, 1) := by decide +kernel
theorem dX1_set_1 : decode cX1_set 1 = .ok (.lload_n 3, 1) := by decide +kernel
theorem dX1_set_2 : decode cX1_set 2 = .ok (.invokestatic 7, 3) := by decide +kernel
theorem dX1_set_5 : decode cX1_set 5 = .ok (.lstore 5, 2) := by decide +kernel
theorem dX1_set_7 : decode cX1_set 7 = .ok (.aload_n 0, 1) := by decide +kernel
theorem dX1_set_8 : decode cX1_set 8 = .ok (.lload_n 1, 1) := by decide +kernel
theorem dX1_set_9 : decode cX1_set 9 = .ok (.lload 5, 2) := by decide +kernel
theorem dX1_set_11 : decode cX1_set 11 = .ok (.ldiv, 1) := by decide +kernel
theorem dX1_set_12 : decode cX1_set 12 = .ok (.putfield 13, 3) := by decide +kernel
theorem dX1_set_15 : decode cX1_set 15 = .ok (.aload_n 0, 1) := by decide +kernel
theorem dX1_set_16 : decode cX1_set 16 = .ok (.lload_n 3, 1) := by decide +kernel
theorem dX1_set_17 : decode cX1_set 17 = .ok (.lload 5, 2) := by decide +kernel
theorem dX1_set_19 : decode cX1_set 19 = .ok (.ldiv, 1) := by decide +kernel
theorem dX1_set_20 : decode cX1_set 20 = .ok (.putfield 19, 3) := by decide +kernel
theorem dX1_set_23 : decode cX1_set 23 = .ok (.return_, 1) := by decide +kernel
theorem dX0_clear_0 : decode cX0_clear 0 = .ok (.aload_n 0, 1) := by decide +kernel
theorem dX0_clear_1 : decode cX0_clear 1 = .ok (.getfield 10, 3) := by decide +kernel
theorem dX0_clear_4 : decode cX0_clear 4 = .ok (.lconst 0, 1) := by decide +kernel
theorem dX0_clear_5 : decode cX0_clear 5 = .ok (.lconst 0, 1) := by decide +kernel
theorem dX0_clear_6 : decode cX0_clear 6 = .ok (.invokevirtual 25, 3) := by decide +kernel
theorem dX0_clear_9 : decode cX0_clear 9 = .ok (.aload_n 0, 1) := by decide +kernel
theorem dX0_clear_10 : decode cX0_clear 10 = .ok (.getfield 16, 3) := by decide +kernel
theorem dX0_clear_13 : decode cX0_clear 13 = .ok (.lconst 0, 1) := by decide +kernel
theorem dX0_clear_14 : decode cX0_clear 14 = .ok (.lconst 0, 1) := by decide +kernel
theorem dX0_clear_15 : decode cX0_clear 15 = .ok (.invokevirtual 25, 3) := by decide +kernel
theorem dX0_clear_18 : decode cX0_clear 18 = .ok (.aload_n 0, 1) := by decide +kernel
theorem dX0_clear_19 : decode cX0_clear 19 = .ok (.getfield 19, 3) := by decide +kernel
theorem dX0_clear_22 : decode cX0_clear 22 = .ok (.lconst 0, 1) := by decide +kernel
theorem dX0_clear_23 : decode cX0_clear 23 = .ok (.lconst 0, 1) := by decide +kernel
theorem dX0_clear_24 : decode cX0_clear 24 = .ok (.invokevirtual 25, 3) := by decide +kernel
theorem dX0_clear_27 : decode cX0_clear 27 = .ok (.aload_n 0, 1) := by decide +kernel
theorem dX0_clear_28 : decode cX0_clear 28 = .ok (.getfield 22, 3) := by decide +kernel
theorem dX0_clear_31 : decode cX0_clear 31 = .ok (.lconst 0, 1) := by decide +kernel
theorem dX0_clear_32 : decode cX0_clear 32 = .ok (.lconst 0, 1) := by decide +kernel
theorem dX0_clear_33 : decode cX0_clear 33 = .ok (.invokevirtual 25, 3) := by decide +kernel
theorem dX0_clear_36 : decode cX0_clear 36 = .ok (.return_, 1) := by decide +kernel
noncomputable def f_L_below_L0 (a0 : Int32) (a1 : Int32) (h : fSt) : Option (Int32 × fSt) := (if a1 = 0 then none else some (((a0 &&& (2147483647 : Int32)) - (a0 &&& (2147483647 : Int32)) / a1 * a1), h))
noncomputable def f_L_below (p0 : Int32) (p1 : Int32) (h : fSt) : Option (Int32 × fSt) := f_L_below_L0 p0 p1 h
noncomputable def f_L_cell_L18 (s0 : Int32) (h : fSt) : Option (Int32 × fSt) := some (s0, h)
noncomputable def f_L_cell_L0 (a0 : Option Nat) (a1 : Int32) (h : fSt) : Option (Int32 × fSt) := (fxl h a0).bind fun x1 => (if x1 ≤ a1 then f_L_cell_L18 ((790386105 : Int32) * (a1 + (3 : Int32))) h else (fxI h a0 a1).bind fun x4 => f_L_cell_L18 x4 h)
noncomputable def f_L_cell (p0 : Option Nat) (p1 : Int32) (h : fSt) : Option (Int32 × fSt) := f_L_cell_L0 p0 p1 h
noncomputable def f_X7_commonDivisor_L80 (s0 : Int64) (h : fSt) : Option (Int64 × fSt) := some (s0, h)
noncomputable def f_X7_commonDivisor_L67 (a4 : Int64) (h : fSt) : Option (Int64 × fSt) := (if a4 ≤ (0 : Int64) then f_X7_commonDivisor_L80 (1 : Int64) h else f_X7_commonDivisor_L80 a4 h)
noncomputable def f_X7_commonDivisor_L31 (n : Nat) : Int64 → Int64 → Int32 → fSt → Option (Int64 × fSt) := Nat.rec (motive := fun _ => Int64 → Int64 → Int32 → fSt → Option (Int64 × fSt)) (fun _ _ _ _ => none) (fun _ k31 (a4 : Int64) (a6 : Int64) (a8 : Int32) (h : fSt) => (if (200 : Int32) ≤ a8 then f_X7_commonDivisor_L67 a4 h else (if a6 = (0 : Int64) then f_X7_commonDivisor_L67 a4 h else (if a6 = 0 then none else k31 a6 (a4 - a4 / a6 * a6) (a8 + (1 : Int32)) h)))) n
noncomputable def f_X7_commonDivisor_L26 (a4 : Int64) (s0 : Int64) (h : fSt) : Option (Int64 × fSt) := f_X7_commonDivisor_L31 4096 a4 s0 (0 : Int32) h
noncomputable def f_X7_commonDivisor_L12 (a2 : Int64) (s0 : Int64) (h : fSt) : Option (Int64 × fSt) := (if (0 : Int64) ≤ a2 then f_X7_commonDivisor_L26 s0 a2 h else f_X7_commonDivisor_L26 s0 (-a2) h)
noncomputable def f_X7_commonDivisor_L0 (a0 : Int64) (a2 : Int64) (h : fSt) : Option (Int64 × fSt) := (if (0 : Int64) ≤ a0 then f_X7_commonDivisor_L12 a2 a0 h else f_X7_commonDivisor_L12 a2 (-a0) h)
noncomputable def f_X7_commonDivisor (p0 : Int64) (p1 : Int64) (h : fSt) : Option (Int64 × fSt) := f_X7_commonDivisor_L0 p0 p1 h
noncomputable def f_X5_part_L41 (a4 : Int64) (s0 : Int64) (h : fSt) : Option (Int64 × fSt) := (if a4 = 0 then none else some ((s0 / a4), h))
noncomputable def f_X5_part_L16 (a0 : Option Nat) (a1 : Int32) (s0 : Int64) (h : fSt) : Option (Int64 × fSt) := (fgJ h a0 5 2).bind fun x2 => (f_X7_commonDivisor s0 x2 h).bind fun r4 => (if (a1 - a1 / (2 : Int32) * (2 : Int32)) = 0 then f_X5_part_L41 r4.1 s0 r4.2 else (fgJ r4.2 a0 5 2).bind fun x7 => f_X5_part_L41 r4.1 x7 r4.2)
noncomputable def f_X5_part_L0 (a0 : Option Nat) (a1 : Int32) (h : fSt) : Option (Int64 × fSt) := (if (2 : Int32) ≤ a1 then (fgJ h a0 5 1).bind fun x10 => f_X5_part_L16 a0 a1 x10 h else (fgJ h a0 5 0).bind fun x12 => f_X5_part_L16 a0 a1 x12 h)
noncomputable def f_X5_part (o : Nat) (p0 : Int32) (h : fSt) : Option (Int64 × fSt) := f_X5_part_L0 (some o) p0 h
noncomputable def f_X7_isFrom_L15 (s0 : Int32) (h : fSt) : Option (Int32 × fSt) := if s0 = 0 ∨ s0 = 1 then some (s0, h) else none
noncomputable def f_X7_isFrom_L14  (h : fSt) : Option (Int32 × fSt) := f_X7_isFrom_L15 (0 : Int32) h
noncomputable def f_X7_isFrom_L0 (a0 : Int32) (a1 : Int32) (a2 : Int32) (h : fSt) : Option (Int32 × fSt) := (if a0 < a1 then f_X7_isFrom_L14 h else (if a2 < a0 then f_X7_isFrom_L14 h else f_X7_isFrom_L15 (1 : Int32) h))
noncomputable def f_X7_isFrom (p0 : Int32) (p1 : Int32) (p2 : Int32) (h : fSt) : Option (Int32 × fSt) := f_X7_isFrom_L0 p0 p1 p2 h
noncomputable def f_X7_checkPoint_L26  (h : fSt) : Option ((Unit ⊕ Nat) × fSt) := (fthr h).bind fun h1 => some (.inr 1, h1)
noncomputable def f_X7_checkPoint_L0 (a0 : Int32) (a1 : Int32) (a2 : Int32) (h : fSt) : Option ((Unit ⊕ Nat) × fSt) := (f_X7_isFrom a0 (-1000 : Int32) (1000 : Int32) h).bind fun r3 => (if r3.1 = 0 then f_X7_checkPoint_L26 r3.2 else (f_X7_isFrom a1 (-1000 : Int32) (1000 : Int32) r3.2).bind fun r6 => (if r6.1 = 0 then f_X7_checkPoint_L26 r6.2 else (f_X7_isFrom a2 (0 : Int32) (3 : Int32) r6.2).bind fun r9 => (if r9.1 = 0 then (fthr r9.2).bind fun h12 => some (.inr 1, h12) else some (.inl (), r9.2))))
noncomputable def f_X7_checkPoint (p0 : Int32) (p1 : Int32) (p2 : Int32) (h : fSt) : Option ((Unit ⊕ Nat) × fSt) := f_X7_checkPoint_L0 p0 p1 p2 h
noncomputable def f_X7_nodeOrNull_L13  (h : fSt) : Option (Option Nat × fSt) := some (none, h)
noncomputable def f_X7_nodeOrNull_L38 (s0 : Option Nat) (h : fSt) : Option (Option Nat × fSt) := some (s0, h)
noncomputable def f_X7_nodeOrNull_L33  (h : fSt) : Option (Option Nat × fSt) := f_X7_nodeOrNull_L38 none h
noncomputable def f_X7_nodeOrNull_L0 (a0 : Option Nat) (a1 : Int32) (h : fSt) : Option (Option Nat × fSt) := (if a1 < 0 then f_X7_nodeOrNull_L13 h else (fgR h a0 7 0).bind fun x2 => (flen h x2 2).bind fun x4 => (if a1 < x4 then (fgR h a0 7 0).bind fun x7 => (faR h x7 2 a1).bind fun x9 => (if x9 = none then f_X7_nodeOrNull_L33 h else (fgI h x9 4 13).bind fun x12 => (if x12 = 0 then f_X7_nodeOrNull_L38 x9 h else f_X7_nodeOrNull_L33 h)) else f_X7_nodeOrNull_L13 h))
noncomputable def f_X7_nodeOrNull (o : Nat) (p0 : Int32) (h : fSt) : Option (Option Nat × fSt) := f_X7_nodeOrNull_L0 (some o) p0 h
noncomputable def f_X7_found_L0 (a0 : Option Nat) (a1 : Int32) (h : fSt) : Option ((Option Nat ⊕ Nat) × fSt) := (fobj h a0 7).bind fun b3 => (f_X7_nodeOrNull b3 a1 h).bind fun r1 => (if r1.1 = none then (fthr r1.2).bind fun h6 => some (.inr 0, h6) else some (.inl r1.1, r1.2))
noncomputable def f_X7_found (o : Nat) (p0 : Int32) (h : fSt) : Option ((Option Nat ⊕ Nat) × fSt) := f_X7_found_L0 (some o) p0 h
noncomputable def f_X5_turnQuarters_L2 (n : Nat) : Option Nat → Int32 → Int32 → fSt → Option (Unit × fSt) := Nat.rec (motive := fun _ => Option Nat → Int32 → Int32 → fSt → Option (Unit × fSt)) (fun _ _ _ _ => none) (fun _ k2 (a0 : Option Nat) (a1 : Int32) (a2 : Int32) (h : fSt) => (if a1 ≤ a2 then some ((), h) else (fgJ h a0 5 0).bind fun x2 => (fgJ h a0 5 1).bind fun x4 => (fput h a0 5 0 (.long (-x4))).bind fun h6 => (fput h6 a0 5 1 (.long x2)).bind fun h8 => k2 a0 a1 (a2 + (1 : Int32)) h8)) n
noncomputable def f_X5_turnQuarters_L0 (a0 : Option Nat) (a1 : Int32) (h : fSt) : Option (Unit × fSt) := f_X5_turnQuarters_L2 4096 a0 a1 (0 : Int32) h
noncomputable def f_X5_turnQuarters (o : Nat) (p0 : Int32) (h : fSt) : Option (Unit × fSt) := f_X5_turnQuarters_L0 (some o) p0 h
noncomputable def f_X6_countedTime_L23 (a1 : Int32) (h : fSt) : Option (Int32 × fSt) := some (a1, h)
noncomputable def f_X6_countedTime_L75 (s1 : Int32) (s0 : Int32) (h : fSt) : Option (Int32 × fSt) := some ((s0 + s1), h)
noncomputable def f_X6_countedTime_L0 (a0 : Option Nat) (a1 : Int32) (a2 : Int32) (a3 : Int32) (h : fSt) : Option (Int32 × fSt) := (fgI h a0 6 6).bind fun x1 => (if x1 = 0 then f_X6_countedTime_L23 a1 h else (if a1 ≤ a3 then f_X6_countedTime_L23 a1 h else (if (1 : Int32) ≤ (a3 - a2) then (fgI h a0 6 6).bind fun x6 => (if x6 = (1 : Int32) then (if (a3 - a2) = 0 then none else some ((a2 + ((a1 - a2) - (a1 - a2) / (a3 - a2) * (a3 - a2))), h)) else (if ((2 : Int32) * (a3 - a2)) = 0 then none else (if (a3 - a2) < ((a1 - a2) - (a1 - a2) / ((2 : Int32) * (a3 - a2)) * ((2 : Int32) * (a3 - a2))) then f_X6_countedTime_L75 (((2 : Int32) * (a3 - a2)) - ((a1 - a2) - (a1 - a2) / ((2 : Int32) * (a3 - a2)) * ((2 : Int32) * (a3 - a2)))) a2 h else f_X6_countedTime_L75 ((a1 - a2) - (a1 - a2) / ((2 : Int32) * (a3 - a2)) * ((2 : Int32) * (a3 - a2))) a2 h))) else f_X6_countedTime_L23 a1 h)))
noncomputable def f_X6_countedTime (o : Nat) (p0 : Int32) (p1 : Int32) (p2 : Int32) (h : fSt) : Option (Int32 × fSt) := f_X6_countedTime_L0 (some o) p0 p1 p2 h
noncomputable def f_X6_lastKeyUpTo_L29 (a2 : Option Nat) (h : fSt) : Option (Option Nat × fSt) := some (a2, h)
noncomputable def f_X6_lastKeyUpTo_L7 (n : Nat) : Int32 → Option Nat → Option Nat → fSt → Option (Option Nat × fSt) := Nat.rec (motive := fun _ => Int32 → Option Nat → Option Nat → fSt → Option (Option Nat × fSt)) (fun _ _ _ _ => none) (fun _ k7 (a1 : Int32) (a2 : Option Nat) (a3 : Option Nat) (h : fSt) => (if a3 = none then f_X6_lastKeyUpTo_L29 a2 h else (fgI h a3 3 0).bind fun x2 => (if a1 < x2 then f_X6_lastKeyUpTo_L29 a2 h else (fgR h a3 3 2).bind fun x5 => k7 a1 a3 x5 h))) n
noncomputable def f_X6_lastKeyUpTo_L0 (a0 : Option Nat) (a1 : Int32) (h : fSt) : Option (Option Nat × fSt) := (fgR h a0 6 7).bind fun x7 => f_X6_lastKeyUpTo_L7 4096 a1 none x7 h
noncomputable def f_X6_lastKeyUpTo (o : Nat) (p0 : Int32) (h : fSt) : Option (Option Nat × fSt) := f_X6_lastKeyUpTo_L0 (some o) p0 h
noncomputable def f_X6_valueFrom_L16 (a1 : Option Nat) (h : fSt) : Option (Int32 × fSt) := (fgI h a1 3 1).bind fun x1 => some (x1, h)
noncomputable def f_X6_valueFrom_L0 (a0 : Option Nat) (a1 : Option Nat) (a2 : Int32) (h : fSt) : Option (Int32 × fSt) := (fgR h a1 3 2).bind fun x3 => (if x3 = none then f_X6_valueFrom_L16 a1 h else (fgI h a0 6 5).bind fun x6 => (if x6 = 0 then f_X6_valueFrom_L16 a1 h else (fgI h a1 3 0).bind fun x9 => (fgI h x3 3 0).bind fun x11 => (fgI h a1 3 0).bind fun x13 => (if (1 : Int64) ≤ (Int32.toInt64 (x11 - x13)) then (fgI h x3 3 1).bind fun x16 => (fgI h a1 3 1).bind fun x18 => (fgI h a0 6 5).bind fun x20 => (if x20 = (1 : Int32) then (fgI h a1 3 1).bind fun x26 => (if (Int32.toInt64 (x11 - x13)) = 0 then none else some ((Int64.toInt32 ((Int32.toInt64 x26) + (((Int32.toInt64 (x16 - x18)) * (Int32.toInt64 (a2 - x9))) / (Int32.toInt64 (x11 - x13))))), h)) else (fgI h a1 3 1).bind fun x23 => (if (((Int32.toInt64 (x11 - x13)) * (Int32.toInt64 (x11 - x13))) * (Int32.toInt64 (x11 - x13))) = 0 then none else some ((Int64.toInt32 ((Int32.toInt64 x23) + (((((Int32.toInt64 (x16 - x18)) * (Int32.toInt64 (a2 - x9))) * (Int32.toInt64 (a2 - x9))) * (((3 : Int64) * (Int32.toInt64 (x11 - x13))) - ((2 : Int64) * (Int32.toInt64 (a2 - x9))))) / (((Int32.toInt64 (x11 - x13)) * (Int32.toInt64 (x11 - x13))) * (Int32.toInt64 (x11 - x13)))))), h))) else (fgI h a1 3 1).bind fun x29 => some (x29, h))))
noncomputable def f_X6_valueFrom (o : Nat) (p0 : Option Nat) (p1 : Int32) (h : fSt) : Option (Int32 × fSt) := f_X6_valueFrom_L0 (some o) p0 p1 h
noncomputable def f_X6_at_L74 (s0 : Int32) (h : fSt) : Option (Int32 × fSt) := some (s0, h)
noncomputable def f_X6_at_L54 (a0 : Option Nat) (a2 : Int32) (a3 : Option Nat) (h : fSt) : Option (Int32 × fSt) := (if a3 = none then (fgR h a0 6 7).bind fun x6 => (fgI h x6 3 1).bind fun x8 => f_X6_at_L74 x8 h else (fobj h a0 6).bind fun b4 => (f_X6_valueFrom b4 a3 a2 h).bind fun r2 => f_X6_at_L74 r2.1 r2.2)
noncomputable def f_X6_at_L0 (a0 : Option Nat) (a1 : Int32) (h : fSt) : Option (Int32 × fSt) := (fgR h a0 6 7).bind fun x10 => (if x10 = none then (fgI h a0 6 2).bind fun x35 => some (x35, h) else (fobj h a0 6).bind fun b15 => (f_X6_lastKeyUpTo b15 a1 h).bind fun r13 => (if r13.1 = none then f_X6_at_L54 a0 a1 r13.1 r13.2 else (fgR r13.2 r13.1 3 2).bind fun x18 => (if x18 = none then (fgR r13.2 a0 6 7).bind fun x21 => (fgI r13.2 x21 3 0).bind fun x23 => (fgI r13.2 r13.1 3 0).bind fun x25 => (fobj r13.2 a0 6).bind fun b29 => (f_X6_countedTime b29 a1 x23 x25 r13.2).bind fun r27 => (fobj r27.2 a0 6).bind fun b33 => (f_X6_lastKeyUpTo b33 r27.1 r27.2).bind fun r31 => f_X6_at_L54 a0 r27.1 r31.1 r31.2 else f_X6_at_L54 a0 a1 r13.1 r13.2)))
noncomputable def f_X6_at (o : Nat) (p0 : Int32) (h : fSt) : Option (Int32 × fSt) := f_X6_at_L0 (some o) p0 h
noncomputable def f_X5_leave_L58 (a0 : Option Nat) (a1 : Option Nat) (a2 : Int32) (h : fSt) : Option (Unit × fSt) := (fgR h a1 4 5).bind fun x1 => (fobj h x1 6).bind fun b5 => (f_X6_at b5 a2 h).bind fun r3 => (fobj r3.2 a0 5).bind fun b9 => (f_X5_turnQuarters b9 r3.1 r3.2).bind fun r7 => (fgJ r7.2 a0 5 0).bind fun x11 => (fgR r7.2 a1 4 3).bind fun x13 => (fobj r7.2 x13 6).bind fun b17 => (f_X6_at b17 a2 r7.2).bind fun r15 => (fgJ r15.2 a0 5 2).bind fun x19 => (fput r15.2 a0 5 0 (.long (x11 + ((Int32.toInt64 r15.1) * x19)))).bind fun h21 => (fgJ h21 a0 5 1).bind fun x23 => (fgR h21 a1 4 4).bind fun x25 => (fobj h21 x25 6).bind fun b29 => (f_X6_at b29 a2 h21).bind fun r27 => (fgJ r27.2 a0 5 2).bind fun x31 => (fput r27.2 a0 5 1 (.long (x23 + ((Int32.toInt64 r27.1) * x31)))).bind fun h33 => some ((), h33)
noncomputable def f_X5_leave_L0 (a0 : Option Nat) (a1 : Option Nat) (a2 : Int32) (h : fSt) : Option (Unit × fSt) := (fgJ h a0 5 0).bind fun x35 => (fgI h a1 4 7).bind fun x37 => (fput h a0 5 0 (.long (x35 * (Int32.toInt64 x37)))).bind fun h39 => (fgJ h39 a0 5 1).bind fun x41 => (fgI h39 a1 4 7).bind fun x43 => (fput h39 a0 5 1 (.long (x41 * (Int32.toInt64 x43)))).bind fun h45 => (fgJ h45 a0 5 2).bind fun x47 => (fgI h45 a1 4 8).bind fun x49 => (fput h45 a0 5 2 (.long (x47 * (Int32.toInt64 x49)))).bind fun h51 => (fgI h51 a1 4 9).bind fun x53 => (if x53 = 0 then f_X5_leave_L58 a0 a1 a2 h51 else (fgJ h51 a0 5 0).bind fun x56 => (fput h51 a0 5 0 (.long (-x56))).bind fun h58 => f_X5_leave_L58 a0 a1 a2 h58)
noncomputable def f_X5_leave (o : Nat) (p0 : Option Nat) (p1 : Int32) (h : fSt) : Option (Unit × fSt) := f_X5_leave_L0 (some o) p0 p1 h
noncomputable def f_X5_set_L0 (a0 : Option Nat) (a1 : Int64) (a3 : Int64) (a5 : Int64) (h : fSt) : Option (Unit × fSt) := (fput h a0 5 0 (.long a1)).bind fun h1 => (fput h1 a0 5 1 (.long a3)).bind fun h3 => (fput h3 a0 5 2 (.long a5)).bind fun h5 => (fputZ h5 a0 5 3 (0 : Int32)).bind fun h7 => some ((), h7)
noncomputable def f_X5_set (o : Nat) (p0 : Int64) (p1 : Int64) (p2 : Int64) (h : fSt) : Option (Unit × fSt) := f_X5_set_L0 (some o) p0 p1 p2 h
noncomputable def f_X7_raise_L15 (n : Nat) : Option Nat → Option Nat → fSt → Option (Unit × fSt) := Nat.rec (motive := fun _ => Option Nat → Option Nat → fSt → Option (Unit × fSt)) (fun _ _ _ => none) (fun _ k15 (a0 : Option Nat) (a4 : Option Nat) (h : fSt) => (if a4 = none then some ((), h) else (fgR h a0 7 3).bind fun x2 => (fgI h a0 7 7).bind fun x4 => (fobj h x2 5).bind fun b8 => (f_X5_leave b8 a4 x4 h).bind fun r6 => (fgR r6.2 a4 4 14).bind fun x10 => k15 a0 x10 r6.2)) n
noncomputable def f_X7_raise_L0 (a0 : Option Nat) (a1 : Option Nat) (a2 : Int32) (a3 : Int32) (h : fSt) : Option (Unit × fSt) := (fgR h a0 7 3).bind fun x12 => (fobj h x12 5).bind fun b16 => (f_X5_set b16 (Int32.toInt64 a2) (Int32.toInt64 a3) (1 : Int64) h).bind fun r14 => f_X7_raise_L15 4096 a0 a1 r14.2
noncomputable def f_X7_raise (o : Nat) (p0 : Option Nat) (p1 : Int32) (p2 : Int32) (h : fSt) : Option (Unit × fSt) := f_X7_raise_L0 (some o) p0 p1 p2 h
noncomputable def f_X2_holds_L77 (s0 : Int32) (h : fSt) : Option (Int32 × fSt) := if s0 = 0 ∨ s0 = 1 then some (s0, h) else none
noncomputable def f_X2_holds_L76  (h : fSt) : Option (Int32 × fSt) := f_X2_holds_L77 (0 : Int32) h
noncomputable def f_X2_holds_L0 (a0 : Option Nat) (a1 : Option Nat) (h : fSt) : Option (Int32 × fSt) := (fgJ h a1 5 0).bind fun x2 => (fgI h a0 2 0).bind fun x4 => (fgJ h a1 5 2).bind fun x6 => (if x2 < ((Int32.toInt64 x4) * x6) then f_X2_holds_L76 h else (fgJ h a1 5 0).bind fun x9 => (fgI h a0 2 2).bind fun x11 => (fgJ h a1 5 2).bind fun x13 => (if ((Int32.toInt64 x11) * x13) < x9 then f_X2_holds_L76 h else (fgJ h a1 5 1).bind fun x16 => (fgI h a0 2 1).bind fun x18 => (fgJ h a1 5 2).bind fun x20 => (if x16 < ((Int32.toInt64 x18) * x20) then f_X2_holds_L76 h else (fgJ h a1 5 1).bind fun x23 => (fgI h a0 2 3).bind fun x25 => (fgJ h a1 5 2).bind fun x27 => (if ((Int32.toInt64 x25) * x27) < x23 then f_X2_holds_L76 h else f_X2_holds_L77 (1 : Int32) h))))
noncomputable def f_X2_holds (o : Nat) (p0 : Option Nat) (h : fSt) : Option (Int32 × fSt) := f_X2_holds_L0 (some o) p0 h
noncomputable def f_X5_enter_L141  (h : fSt) : Option (Unit × fSt) := some ((), h)
noncomputable def f_X5_enter_L76 (a0 : Option Nat) (a1 : Option Nat) (h : fSt) : Option (Unit × fSt) := (fgJ h a0 5 0).bind fun x1 => (fgI h a1 4 8).bind fun x3 => (fput h a0 5 0 (.long (x1 * (Int32.toInt64 x3)))).bind fun h5 => (fgJ h5 a0 5 1).bind fun x7 => (fgI h5 a1 4 8).bind fun x9 => (fput h5 a0 5 1 (.long (x7 * (Int32.toInt64 x9)))).bind fun h11 => (fgJ h11 a0 5 2).bind fun x13 => (fgI h11 a1 4 7).bind fun x15 => (fput h11 a0 5 2 (.long (x13 * (Int32.toInt64 x15)))).bind fun h17 => (fgR h17 a1 4 12).bind fun x19 => (if x19 = none then f_X5_enter_L141 h17 else (fgR h17 a1 4 12).bind fun x22 => (fobj h17 x22 2).bind fun b26 => (f_X2_holds b26 a0 h17).bind fun r24 => (if r24.1 = 0 then (fputZ r24.2 a0 5 3 (1 : Int32)).bind fun h29 => f_X5_enter_L141 h29 else f_X5_enter_L141 r24.2))
noncomputable def f_X5_enter_L0 (a0 : Option Nat) (a1 : Option Nat) (a2 : Int32) (h : fSt) : Option (Unit × fSt) := (fgJ h a0 5 0).bind fun x32 => (fgR h a1 4 3).bind fun x34 => (fobj h x34 6).bind fun b38 => (f_X6_at b38 a2 h).bind fun r36 => (fgJ r36.2 a0 5 2).bind fun x40 => (fput r36.2 a0 5 0 (.long (x32 - ((Int32.toInt64 r36.1) * x40)))).bind fun h42 => (fgJ h42 a0 5 1).bind fun x44 => (fgR h42 a1 4 4).bind fun x46 => (fobj h42 x46 6).bind fun b50 => (f_X6_at b50 a2 h42).bind fun r48 => (fgJ r48.2 a0 5 2).bind fun x52 => (fput r48.2 a0 5 1 (.long (x44 - ((Int32.toInt64 r48.1) * x52)))).bind fun h54 => (fgR h54 a1 4 5).bind fun x56 => (fobj h54 x56 6).bind fun b60 => (f_X6_at b60 a2 h54).bind fun r58 => (fobj r58.2 a0 5).bind fun b64 => (f_X5_turnQuarters b64 ((4 : Int32) - r58.1) r58.2).bind fun r62 => (fgI r62.2 a1 4 9).bind fun x66 => (if x66 = 0 then f_X5_enter_L76 a0 a1 r62.2 else (fgJ r62.2 a0 5 0).bind fun x69 => (fput r62.2 a0 5 0 (.long (-x69))).bind fun h71 => f_X5_enter_L76 a0 a1 h71)
noncomputable def f_X5_enter (o : Nat) (p0 : Option Nat) (p1 : Int32) (h : fSt) : Option (Unit × fSt) := f_X5_enter_L0 (some o) p0 p1 h
noncomputable def f_X7_sink_L24 (self : Option Nat → Option Nat → Int32 → Int32 → fSt → Option (Unit × fSt)) (a0 : Option Nat) (a1 : Option Nat) (a2 : Int32) (h : fSt) : Option (Unit × fSt) := (fobj h a0 5).bind fun b3 => (f_X5_enter b3 a1 a2 h).bind fun r1 => some ((), r1.2)
noncomputable def f_X7_sink_L0 (self : Option Nat → Option Nat → Int32 → Int32 → fSt → Option (Unit × fSt)) (a0 : Option Nat) (a1 : Option Nat) (a2 : Int32) (a3 : Int32) (h : fSt) : Option (Unit × fSt) := (fgR h a1 4 14).bind fun x5 => (if x5 = none then f_X7_sink_L24 self a0 a1 a2 h else (if (4 : Int32) ≤ a3 then f_X7_sink_L24 self a0 a1 a2 h else (fgR h a1 4 14).bind fun x9 => (self a0 x9 a2 (a3 + (1 : Int32)) h).bind fun r11 => f_X7_sink_L24 self a0 a1 a2 r11.2))
noncomputable def f_X7_sink (d : Nat) : Option Nat → Option Nat → Int32 → Int32 → fSt → Option (Unit × fSt) := Nat.rec (motive := fun _ => Option Nat → Option Nat → Int32 → Int32 → fSt → Option (Unit × fSt)) (fun _ _ _ _ _ => none) (fun _ self (p0 : Option Nat) (p1 : Option Nat) (p2 : Int32) (p3 : Int32) (h : fSt) => f_X7_sink_L0 self p0 p1 p2 p3 h) d
noncomputable def f_X7_between_L0 (a0 : Option Nat) (a1 : Int32) (a2 : Int32) (a3 : Int32) (a4 : Int32) (a5 : Int32) (h : fSt) : Option ((Int32 ⊕ Nat) × fSt) := (fobj h a0 7).bind fun b3 => (f_X7_found b3 a1 h).bind fun r1 => Sum.elim (fun v5 => (fobj r1.2 a0 7).bind fun b10 => (f_X7_found b10 a2 r1.2).bind fun r8 => Sum.elim (fun v12 => (f_X7_checkPoint a3 a4 a5 r8.2).bind fun r15 => Sum.elim (fun v17 => (fobj r15.2 a0 7).bind fun b22 => (f_X7_raise b22 v5 a3 a4 r15.2).bind fun r20 => (fgR r20.2 a0 7 3).bind fun x24 => (fgI r20.2 a0 7 7).bind fun x26 => (f_X7_sink 8 x24 v12 x26 (0 : Int32) r20.2).bind fun r28 => (fgR r28.2 a0 7 3).bind fun x30 => (fobj r28.2 x30 5).bind fun b34 => (f_X5_part b34 a5 r28.2).bind fun r32 => some (.inl (Int64.toInt32 r32.1), r32.2)) (fun k18 => some (.inr k18, r15.2)) r15.1) (fun k13 => some (.inr k13, r8.2)) r8.1) (fun k6 => some (.inr k6, r1.2)) r1.1
noncomputable def f_X7_between (o : Nat) (p0 : Int32) (p1 : Int32) (p2 : Int32) (p3 : Int32) (p4 : Int32) (h : fSt) : Option ((Int32 ⊕ Nat) × fSt) := f_X7_between_L0 (some o) p0 p1 p2 p3 p4 h
noncomputable def f_X0_side_L0 (a0 : Option Nat) (a1 : Int32) (h : fSt) : Option (Option Nat × fSt) := (if a1 = (0 : Int32) then (fgR h a0 0 0).bind fun x2 => some (x2, h) else (if a1 = (1 : Int32) then (fgR h a0 0 1).bind fun x5 => some (x5, h) else (if a1 = (2 : Int32) then (fgR h a0 0 2).bind fun x8 => some (x8, h) else (fgR h a0 0 3).bind fun x10 => some (x10, h))))
noncomputable def f_X0_side (o : Nat) (p0 : Int32) (h : fSt) : Option (Option Nat × fSt) := f_X0_side_L0 (some o) p0 h
noncomputable def f_X1_set_L0 (a0 : Option Nat) (a1 : Int64) (a3 : Int64) (h : fSt) : Option (Unit × fSt) := (f_X7_commonDivisor a1 a3 h).bind fun r1 => (if r1.1 = 0 then none else (fput r1.2 a0 1 0 (.long (a1 / r1.1))).bind fun h4 => (if r1.1 = 0 then none else (fput h4 a0 1 1 (.long (a3 / r1.1))).bind fun h7 => some ((), h7)))
noncomputable def f_X1_set (o : Nat) (p0 : Int64) (p1 : Int64) (h : fSt) : Option (Unit × fSt) := f_X1_set_L0 (some o) p0 p1 h
noncomputable def f_X0_clear_L0 (a0 : Option Nat) (h : fSt) : Option (Unit × fSt) := (fgR h a0 0 0).bind fun x1 => (fobj h x1 1).bind fun b5 => (f_X1_set b5 (0 : Int64) (0 : Int64) h).bind fun r3 => (fgR r3.2 a0 0 1).bind fun x7 => (fobj r3.2 x7 1).bind fun b11 => (f_X1_set b11 (0 : Int64) (0 : Int64) r3.2).bind fun r9 => (fgR r9.2 a0 0 2).bind fun x13 => (fobj r9.2 x13 1).bind fun b17 => (f_X1_set b17 (0 : Int64) (0 : Int64) r9.2).bind fun r15 => (fgR r15.2 a0 0 3).bind fun x19 => (fobj r15.2 x19 1).bind fun b23 => (f_X1_set b23 (0 : Int64) (0 : Int64) r15.2).bind fun r21 => some ((), r21.2)
noncomputable def f_X0_clear (o : Nat) (h : fSt) : Option (Unit × fSt) := f_X0_clear_L0 (some o) h
set_option maxHeartbeats 4000000 in
set_option maxRecDepth 100000 in
theorem w_L_below_L0 {p : Program} {l : Launch} {e : Env} {s : State} {m : MethodId} {args : Array Value} {below : List Frame} {meth : Method} {c : Code} {D : va_G} {cA : Nat → ClassId} {h0 : fSt} {r : (Int32 × fSt)} (M : fM p s m args meth c D cA h0 { frames := 0, cells := fCB h0 - fZ h0, slots := fLB h0 - fL h0, locals := 0 } cL_below 2 (some (.int)) RL) (hfl : l.stackTraces = false) (a0 : Int32) (a1 : Int32) (h : fSt) (hf : f_L_below_L0 a0 a1 h = some r) : ∀ (H : Heap) (locs : List Loc) (cells slots : Nat) (ls : Array Slot), fCur D cA s h0 h H locs → lv_has ls 2 [(0, .int a0), (1, .int a1)] → W p l e { frames := 0, cells := fCB h0 - fZ h0, slots := fLB h0 - fL h0, locals := 0 } s m args below meth c H locs cells slots (MQ below (fQ D cA h0 r.2 (some (.int r.1))) args s (fCB h0 - fZ h0) (fLB h0 - fL h0) (fA h0)) (F0 m 0 ls []) := by
  obtain ⟨hx, hb, hml, hr, hlocks, hts, hown, K, hR⟩ := id M
  intro H locs cells slots ls hC hl
  refine lv_iload_n hx hb dL_below_0 rfl (lv_at hl 0 rfl) ?_
  refine fr_ldc (v := (2147483647 : Int32)) hx hb hts hown kw714 dL_below_1 ?_
  refine lv_iand hx hb dL_below_3 ?_
  refine lv_iload_n hx hb dL_below_4 rfl (lv_at hl 1 rfl) ?_
  by_cases c1 : a1 = 0
  · exact nomatch (opos c1 hf)
  replace hf := oneg c1 hf
  refine lv_irem hx hb dL_below_5 c1 ?_
  obtain rfl := Option.some.inj hf
  exact fr_iret hx hb hr hlocks hC dL_below_6
set_option maxRecDepth 100000 in
theorem c_L_below {l : Launch} (hfl : l.stackTraces = false) (D : va_G) (cA : Nat → ClassId) {p0 : Int32} {p1 : Int32} {h : fSt} {r : (Int32 × fSt)} (hf : f_L_below p0 p1 h = some r) : fMet l yL_below (wsC yL_below cL_below 2 (some (.int))) (0) (0) D cA [.int p0, .int p1] h r.2 (some (.int r.1)) := by
  exact fMet.of (own := RL) (by decide +kernel) rfl (lva1 rfl (lva1 rfl lva0)) (lgl1 rfl (lgl1 rfl lgl0)) (Nat.le_of_ble_eq_true rfl) (fun p e s m args below meth c ls hnm _ M hC hl => by
    have hl : lv_has ls 2 [(0, .int p0), (1, .int p1)] := hl
    exact w_L_below_L0 M hfl _ _ _ hf _ _ _ _ _ hC (lv_sub hl [0, 1] rfl))
set_option maxHeartbeats 4000000 in
set_option maxRecDepth 100000 in
theorem w_L_cell_L18 {p : Program} {l : Launch} {e : Env} {s : State} {m : MethodId} {args : Array Value} {below : List Frame} {meth : Method} {c : Code} {D : va_G} {cA : Nat → ClassId} {h0 : fSt} {r : (Int32 × fSt)} (M : fM p s m args meth c D cA h0 { frames := 0, cells := fCB h0 - fZ h0, slots := fLB h0 - fL h0, locals := 0 } cL_cell 2 (some (.int)) RL) (hfl : l.stackTraces = false) (s0 : Int32) (h : fSt) (hf : f_L_cell_L18 s0 h = some r) : ∀ (H : Heap) (locs : List Loc) (cells slots : Nat) (ls : Array Slot), fCur D cA s h0 h H locs → lv_has ls 2 [] → W p l e { frames := 0, cells := fCB h0 - fZ h0, slots := fLB h0 - fL h0, locals := 0 } s m args below meth c H locs cells slots (MQ below (fQ D cA h0 r.2 (some (.int r.1))) args s (fCB h0 - fZ h0) (fLB h0 - fL h0) (fA h0)) (F0 m 18 ls [.int s0]) := by
  obtain ⟨hx, hb, hml, hr, hlocks, hts, hown, K, hR⟩ := id M
  intro H locs cells slots ls hC hl
  obtain rfl := Option.some.inj hf
  exact fr_iret hx hb hr hlocks hC dL_cell_18
set_option maxHeartbeats 4000000 in
set_option maxRecDepth 100000 in
theorem w_L_cell_L0 {p : Program} {l : Launch} {e : Env} {s : State} {m : MethodId} {args : Array Value} {below : List Frame} {meth : Method} {c : Code} {D : va_G} {cA : Nat → ClassId} {h0 : fSt} {r : (Int32 × fSt)} (M : fM p s m args meth c D cA h0 { frames := 0, cells := fCB h0 - fZ h0, slots := fLB h0 - fL h0, locals := 0 } cL_cell 2 (some (.int)) RL) (hfl : l.stackTraces = false) (a0 : Option Nat) (a1 : Int32) (h : fSt) (hf : f_L_cell_L0 a0 a1 h = some r) : ∀ (H : Heap) (locs : List Loc) (cells slots : Nat) (ls : Array Slot), fCur D cA s h0 h H locs → lv_has ls 2 [(0, va_rf a0), (1, .int a1)] → W p l e { frames := 0, cells := fCB h0 - fZ h0, slots := fLB h0 - fL h0, locals := 0 } s m args below meth c H locs cells slots (MQ below (fQ D cA h0 r.2 (some (.int r.1))) args s (fCB h0 - fZ h0) (fLB h0 - fL h0) (fA h0)) (F0 m 0 ls []) := by
  obtain ⟨hx, hb, hml, hr, hlocks, hts, hown, K, hR⟩ := id M
  intro H locs cells slots ls hC hl
  refine lv_iload_n hx hb dL_cell_0 rfl (lv_at hl 1 rfl) ?_
  refine fr_aload_n hx hb dL_cell_1 rfl (lv_at hl 0 rfl) ?_
  obtain ⟨x1, g2, hf⟩ := obind hf
  refine fr_xlen hx hb K hC g2 dL_cell_2 ?_
  refine lv_icmp_ge (tgt := 12) hx hb dL_cell_3 (by decide) (fun c3 => ?_) (fun c3 => ?_)
  · replace hf := opos c3 hf
    refine fr_ldc (v := (790386105 : Int32)) hx hb hts hown kw710 dL_cell_12 ?_
    refine lv_iload_n hx hb dL_cell_14 rfl (lv_at hl 1 rfl) ?_
    refine lv_iconst (v := (3 : Int32)) hx hb dL_cell_15 (by decide) ?_
    refine lv_iadd hx hb dL_cell_16 ?_
    refine lv_imul hx hb dL_cell_17 ?_
    exact w_L_cell_L18 M hfl _ _ hf _ _ _ _ _ hC (lv_sub hl [] rfl)
  · replace hf := oneg c3 hf
    refine fr_aload_n hx hb dL_cell_6 rfl (lv_at hl 0 rfl) ?_
    refine lv_iload_n hx hb dL_cell_7 rfl (lv_at hl 1 rfl) ?_
    obtain ⟨x4, g5, hf⟩ := obind hf
    refine fr_xld hx hb K hC g5 dL_cell_8 ?_
    refine lv_goto (tgt := 18) hx hb dL_cell_9 (by decide) ?_
    exact w_L_cell_L18 M hfl _ _ hf _ _ _ _ _ hC (lv_sub hl [] rfl)
set_option maxRecDepth 100000 in
theorem c_L_cell {l : Launch} (hfl : l.stackTraces = false) (D : va_G) (cA : Nat → ClassId) {p0 : Option Nat} {p1 : Int32} {h : fSt} {r : (Int32 × fSt)} (hf : f_L_cell p0 p1 h = some r) : fMet l yL_cell (wsC yL_cell cL_cell 2 (some (.int))) (0) (0) D cA [va_rf p0, .int p1] h r.2 (some (.int r.1)) := by
  exact fMet.of (own := RL) (by decide +kernel) rfl (lva1 (va_rf_cat _) (lva1 rfl lva0)) (lgl1 (va_rf_cat _) (lgl1 rfl lgl0)) (Nat.le_of_ble_eq_true rfl) (fun p e s m args below meth c ls hnm _ M hC hl => by
    have hl : lv_has ls 2 [(0, va_rf p0), (1, .int p1)] := hl
    exact w_L_cell_L0 M hfl _ _ _ hf _ _ _ _ _ hC (lv_sub hl [0, 1] rfl))
set_option maxHeartbeats 4000000 in
set_option maxRecDepth 100000 in
theorem w_X7_commonDivisor_L80 {p : Program} {l : Launch} {e : Env} {s : State} {m : MethodId} {args : Array Value} {below : List Frame} {meth : Method} {c : Code} {D : va_G} {cA : Nat → ClassId} {h0 : fSt} {r : (Int64 × fSt)} (M : fM p s m args meth c D cA h0 { frames := 0, cells := fCB h0 - fZ h0, slots := fLB h0 - fL h0, locals := 0 } cX7_commonDivisor 11 (some (.long)) RX7) (hfl : l.stackTraces = false) (s0 : Int64) (h : fSt) (hf : f_X7_commonDivisor_L80 s0 h = some r) : ∀ (H : Heap) (locs : List Loc) (cells slots : Nat) (ls : Array Slot), fCur D cA s h0 h H locs → lv_has ls 11 [] → W p l e { frames := 0, cells := fCB h0 - fZ h0, slots := fLB h0 - fL h0, locals := 0 } s m args below meth c H locs cells slots (MQ below (fQ D cA h0 r.2 (some (.long r.1))) args s (fCB h0 - fZ h0) (fLB h0 - fL h0) (fA h0)) (F0 m 80 ls [.long s0]) := by
  obtain ⟨hx, hb, hml, hr, hlocks, hts, hown, K, hR⟩ := id M
  intro H locs cells slots ls hC hl
  obtain rfl := Option.some.inj hf
  exact fr_lret hx hb hr hlocks hC dX7_commonDivisor_80
set_option maxHeartbeats 4000000 in
set_option maxRecDepth 100000 in
theorem w_X7_commonDivisor_L67 {p : Program} {l : Launch} {e : Env} {s : State} {m : MethodId} {args : Array Value} {below : List Frame} {meth : Method} {c : Code} {D : va_G} {cA : Nat → ClassId} {h0 : fSt} {r : (Int64 × fSt)} (M : fM p s m args meth c D cA h0 { frames := 0, cells := fCB h0 - fZ h0, slots := fLB h0 - fL h0, locals := 0 } cX7_commonDivisor 11 (some (.long)) RX7) (hfl : l.stackTraces = false) (a4 : Int64) (h : fSt) (hf : f_X7_commonDivisor_L67 a4 h = some r) : ∀ (H : Heap) (locs : List Loc) (cells slots : Nat) (ls : Array Slot), fCur D cA s h0 h H locs → lv_has ls 11 [(4, .long a4)] → W p l e { frames := 0, cells := fCB h0 - fZ h0, slots := fLB h0 - fL h0, locals := 0 } s m args below meth c H locs cells slots (MQ below (fQ D cA h0 r.2 (some (.long r.1))) args s (fCB h0 - fZ h0) (fLB h0 - fL h0) (fA h0)) (F0 m 67 ls []) := by
  obtain ⟨hx, hb, hml, hr, hlocks, hts, hown, K, hR⟩ := id M
  intro H locs cells slots ls hC hl
  refine lv_lload hx hb dX7_commonDivisor_67 (lv_at hl 0 rfl) ?_
  refine lv_lconst (v := (0 : Int64)) hx hb dX7_commonDivisor_69 (by decide) ?_
  refine fr_lcmp_le (tgt := 79) hx hb dX7_commonDivisor_70 dX7_commonDivisor_71 (by decide) (fun c1 => ?_) (fun c1 => ?_)
  · replace hf := opos c1 hf
    refine lv_lconst (v := (1 : Int64)) hx hb dX7_commonDivisor_79 (by decide) ?_
    exact w_X7_commonDivisor_L80 M hfl _ _ hf _ _ _ _ _ hC (lv_sub hl [] rfl)
  · replace hf := oneg c1 hf
    refine lv_lload hx hb dX7_commonDivisor_74 (lv_at hl 0 rfl) ?_
    refine lv_goto (tgt := 80) hx hb dX7_commonDivisor_76 (by decide) ?_
    exact w_X7_commonDivisor_L80 M hfl _ _ hf _ _ _ _ _ hC (lv_sub hl [] rfl)
set_option maxHeartbeats 4000000 in
set_option maxRecDepth 100000 in
theorem w_X7_commonDivisor_L31 {p : Program} {l : Launch} {e : Env} {s : State} {m : MethodId} {args : Array Value} {below : List Frame} {meth : Method} {c : Code} {D : va_G} {cA : Nat → ClassId} {h0 : fSt} {r : (Int64 × fSt)} (M : fM p s m args meth c D cA h0 { frames := 0, cells := fCB h0 - fZ h0, slots := fLB h0 - fL h0, locals := 0 } cX7_commonDivisor 11 (some (.long)) RX7) (hfl : l.stackTraces = false) : ∀ (n : Nat) (a4 : Int64) (a6 : Int64) (a8 : Int32) (h : fSt), f_X7_commonDivisor_L31 n a4 a6 a8 h = some r → ∀ (H : Heap) (locs : List Loc) (cells slots : Nat) (ls : Array Slot), fCur D cA s h0 h H locs → lv_has ls 11 [(4, .long a4), (6, .long a6), (8, .int a8)] → W p l e { frames := 0, cells := fCB h0 - fZ h0, slots := fLB h0 - fL h0, locals := 0 } s m args below meth c H locs cells slots (MQ below (fQ D cA h0 r.2 (some (.long r.1))) args s (fCB h0 - fZ h0) (fLB h0 - fL h0) (fA h0)) (F0 m 31 ls []) := by
  obtain ⟨hx, hb, hml, hr, hlocks, hts, hown, K, hR⟩ := id M
  intro n
  induction n with
  | zero =>
    intro a4 a6 a8 h hf
    exact nomatch (show (none : Option (Int64 × fSt)) = some r from hf)
  | succ n hk31 =>
    intro a4 a6 a8 h hf H locs cells slots ls hC hl
    refine lv_iload hx hb dX7_commonDivisor_31 (lv_at hl 2 rfl) ?_
    refine lv_sipush (v := (200 : Int32)) hx hb dX7_commonDivisor_33 (by decide) ?_
    refine lv_icmp_ge (tgt := 67) hx hb dX7_commonDivisor_36 (by decide) (fun c2 => ?_) (fun c2 => ?_)
    · replace hf := opos c2 hf
      exact w_X7_commonDivisor_L67 M hfl _ _ hf _ _ _ _ _ hC (lv_sub hl [0] rfl)
    · replace hf := oneg c2 hf
      refine lv_lload hx hb dX7_commonDivisor_39 (lv_at hl 1 rfl) ?_
      refine lv_lconst (v := (0 : Int64)) hx hb dX7_commonDivisor_41 (by decide) ?_
      refine fr_lcmp_eq (tgt := 67) hx hb dX7_commonDivisor_42 dX7_commonDivisor_43 (by decide) (fun c3 => ?_) (fun c3 => ?_)
      · replace hf := opos c3 hf
        exact w_X7_commonDivisor_L67 M hfl _ _ hf _ _ _ _ _ hC (lv_sub hl [0] rfl)
      · replace hf := oneg c3 hf
        refine lv_lload hx hb dX7_commonDivisor_46 (lv_at hl 0 rfl) ?_
        refine lv_lload hx hb dX7_commonDivisor_48 (lv_at hl 1 rfl) ?_
        by_cases c4 : a6 = 0
        · exact nomatch (opos c4 hf)
        replace hf := oneg c4 hf
        refine lv_lrem hx hb dX7_commonDivisor_50 c4 ?_
        refine lv_lstore (lv' := [(9, .long (a4 - a4 / a6 * a6)), (4, .long a4), (6, .long a6), (8, .int a8)]) hx hb dX7_commonDivisor_51 hl (by decide) (congrArg (List.cons _) (flk rfl (flk rfl (flk rfl fln)))) (fun ls hl => ?_)
        refine lv_lload hx hb dX7_commonDivisor_53 (lv_at hl 2 rfl) ?_
        refine lv_lstore (lv' := [(4, .long a6), (9, .long (a4 - a4 / a6 * a6)), (6, .long a6), (8, .int a8)]) hx hb dX7_commonDivisor_55 hl (by decide) (congrArg (List.cons _) (flk rfl (fld rfl (flk rfl (flk rfl fln))))) (fun ls hl => ?_)
        refine lv_lload hx hb dX7_commonDivisor_57 (lv_at hl 1 rfl) ?_
        refine lv_lstore (lv' := [(6, .long (a4 - a4 / a6 * a6)), (4, .long a6), (9, .long (a4 - a4 / a6 * a6)), (8, .int a8)]) hx hb dX7_commonDivisor_59 hl (by decide) (congrArg (List.cons _) (flk rfl (flk rfl (fld rfl (flk rfl fln))))) (fun ls hl => ?_)
        refine lv_iinc (v := (a8 + (1 : Int32))) (lv' := [(8, .int (a8 + (1 : Int32))), (6, .long (a4 - a4 / a6 * a6)), (4, .long a6), (9, .long (a4 - a4 / a6 * a6))]) hx hb dX7_commonDivisor_61 hl (k := 3) rfl rfl (by decide) (congrArg (List.cons _) (flk rfl (flk rfl (flk rfl (fld rfl fln))))) (fun ls hl => ?_)
        refine lv_goto (tgt := 31) hx hb dX7_commonDivisor_64 (by decide) ?_
        exact hk31 _ _ _ _ hf _ _ _ _ _ hC (lv_sub hl [2, 1, 0] rfl)
set_option maxHeartbeats 4000000 in
set_option maxRecDepth 100000 in
theorem w_X7_commonDivisor_L26 {p : Program} {l : Launch} {e : Env} {s : State} {m : MethodId} {args : Array Value} {below : List Frame} {meth : Method} {c : Code} {D : va_G} {cA : Nat → ClassId} {h0 : fSt} {r : (Int64 × fSt)} (M : fM p s m args meth c D cA h0 { frames := 0, cells := fCB h0 - fZ h0, slots := fLB h0 - fL h0, locals := 0 } cX7_commonDivisor 11 (some (.long)) RX7) (hfl : l.stackTraces = false) (a4 : Int64) (s0 : Int64) (h : fSt) (hf : f_X7_commonDivisor_L26 a4 s0 h = some r) : ∀ (H : Heap) (locs : List Loc) (cells slots : Nat) (ls : Array Slot), fCur D cA s h0 h H locs → lv_has ls 11 [(4, .long a4)] → W p l e { frames := 0, cells := fCB h0 - fZ h0, slots := fLB h0 - fL h0, locals := 0 } s m args below meth c H locs cells slots (MQ below (fQ D cA h0 r.2 (some (.long r.1))) args s (fCB h0 - fZ h0) (fLB h0 - fL h0) (fA h0)) (F0 m 26 ls [.long s0]) := by
  obtain ⟨hx, hb, hml, hr, hlocks, hts, hown, K, hR⟩ := id M
  intro H locs cells slots ls hC hl
  refine lv_lstore (lv' := [(6, .long s0), (4, .long a4)]) hx hb dX7_commonDivisor_26 hl (by decide) (congrArg (List.cons _) (flk rfl fln)) (fun ls hl => ?_)
  refine lv_iconst (v := (0 : Int32)) hx hb dX7_commonDivisor_28 (by decide) ?_
  refine lv_istore (lv' := [(8, .int (0 : Int32)), (6, .long s0), (4, .long a4)]) hx hb dX7_commonDivisor_29 hl (by decide) (congrArg (List.cons _) (flk rfl (flk rfl fln))) (fun ls hl => ?_)
  exact w_X7_commonDivisor_L31 M hfl 4096 _ _ _ _ hf _ _ _ _ _ hC (lv_sub hl [2, 1, 0] rfl)
set_option maxHeartbeats 4000000 in
set_option maxRecDepth 100000 in
theorem w_X7_commonDivisor_L12 {p : Program} {l : Launch} {e : Env} {s : State} {m : MethodId} {args : Array Value} {below : List Frame} {meth : Method} {c : Code} {D : va_G} {cA : Nat → ClassId} {h0 : fSt} {r : (Int64 × fSt)} (M : fM p s m args meth c D cA h0 { frames := 0, cells := fCB h0 - fZ h0, slots := fLB h0 - fL h0, locals := 0 } cX7_commonDivisor 11 (some (.long)) RX7) (hfl : l.stackTraces = false) (a2 : Int64) (s0 : Int64) (h : fSt) (hf : f_X7_commonDivisor_L12 a2 s0 h = some r) : ∀ (H : Heap) (locs : List Loc) (cells slots : Nat) (ls : Array Slot), fCur D cA s h0 h H locs → lv_has ls 11 [(2, .long a2)] → W p l e { frames := 0, cells := fCB h0 - fZ h0, slots := fLB h0 - fL h0, locals := 0 } s m args below meth c H locs cells slots (MQ below (fQ D cA h0 r.2 (some (.long r.1))) args s (fCB h0 - fZ h0) (fLB h0 - fL h0) (fA h0)) (F0 m 12 ls [.long s0]) := by
  obtain ⟨hx, hb, hml, hr, hlocks, hts, hown, K, hR⟩ := id M
  intro H locs cells slots ls hC hl
  refine lv_lstore (lv' := [(4, .long s0), (2, .long a2)]) hx hb dX7_commonDivisor_12 hl (by decide) (congrArg (List.cons _) (flk rfl fln)) (fun ls hl => ?_)
  refine lv_lload_n hx hb dX7_commonDivisor_14 rfl (lv_at hl 1 rfl) ?_
  refine lv_lconst (v := (0 : Int64)) hx hb dX7_commonDivisor_15 (by decide) ?_
  refine fr_lcmp_ge (tgt := 25) hx hb dX7_commonDivisor_16 dX7_commonDivisor_17 (by decide) (fun c5 => ?_) (fun c5 => ?_)
  · replace hf := opos c5 hf
    refine lv_lload_n hx hb dX7_commonDivisor_25 rfl (lv_at hl 1 rfl) ?_
    exact w_X7_commonDivisor_L26 M hfl _ _ _ hf _ _ _ _ _ hC (lv_sub hl [0] rfl)
  · replace hf := oneg c5 hf
    refine lv_lload_n hx hb dX7_commonDivisor_20 rfl (lv_at hl 1 rfl) ?_
    refine lv_lneg hx hb dX7_commonDivisor_21 ?_
    refine lv_goto (tgt := 26) hx hb dX7_commonDivisor_22 (by decide) ?_
    exact w_X7_commonDivisor_L26 M hfl _ _ _ hf _ _ _ _ _ hC (lv_sub hl [0] rfl)
set_option maxHeartbeats 4000000 in
set_option maxRecDepth 100000 in
theorem w_X7_commonDivisor_L0 {p : Program} {l : Launch} {e : Env} {s : State} {m : MethodId} {args : Array Value} {below : List Frame} {meth : Method} {c : Code} {D : va_G} {cA : Nat → ClassId} {h0 : fSt} {r : (Int64 × fSt)} (M : fM p s m args meth c D cA h0 { frames := 0, cells := fCB h0 - fZ h0, slots := fLB h0 - fL h0, locals := 0 } cX7_commonDivisor 11 (some (.long)) RX7) (hfl : l.stackTraces = false) (a0 : Int64) (a2 : Int64) (h : fSt) (hf : f_X7_commonDivisor_L0 a0 a2 h = some r) : ∀ (H : Heap) (locs : List Loc) (cells slots : Nat) (ls : Array Slot), fCur D cA s h0 h H locs → lv_has ls 11 [(0, .long a0), (2, .long a2)] → W p l e { frames := 0, cells := fCB h0 - fZ h0, slots := fLB h0 - fL h0, locals := 0 } s m args below meth c H locs cells slots (MQ below (fQ D cA h0 r.2 (some (.long r.1))) args s (fCB h0 - fZ h0) (fLB h0 - fL h0) (fA h0)) (F0 m 0 ls []) := by
  obtain ⟨hx, hb, hml, hr, hlocks, hts, hown, K, hR⟩ := id M
  intro H locs cells slots ls hC hl
  refine lv_lload_n hx hb dX7_commonDivisor_0 rfl (lv_at hl 0 rfl) ?_
  refine lv_lconst (v := (0 : Int64)) hx hb dX7_commonDivisor_1 (by decide) ?_
  refine fr_lcmp_ge (tgt := 11) hx hb dX7_commonDivisor_2 dX7_commonDivisor_3 (by decide) (fun c6 => ?_) (fun c6 => ?_)
  · replace hf := opos c6 hf
    refine lv_lload_n hx hb dX7_commonDivisor_11 rfl (lv_at hl 0 rfl) ?_
    exact w_X7_commonDivisor_L12 M hfl _ _ _ hf _ _ _ _ _ hC (lv_sub hl [1] rfl)
  · replace hf := oneg c6 hf
    refine lv_lload_n hx hb dX7_commonDivisor_6 rfl (lv_at hl 0 rfl) ?_
    refine lv_lneg hx hb dX7_commonDivisor_7 ?_
    refine lv_goto (tgt := 12) hx hb dX7_commonDivisor_8 (by decide) ?_
    exact w_X7_commonDivisor_L12 M hfl _ _ _ hf _ _ _ _ _ hC (lv_sub hl [1] rfl)
set_option maxRecDepth 100000 in
theorem c_X7_commonDivisor {l : Launch} (hfl : l.stackTraces = false) (D : va_G) (cA : Nat → ClassId) {p0 : Int64} {p1 : Int64} {h : fSt} {r : (Int64 × fSt)} (hf : f_X7_commonDivisor p0 p1 h = some r) : fMet l yX7_commonDivisor (wsC yX7_commonDivisor cX7_commonDivisor 11 (some (.long))) (0) (0) D cA [.long p0, .long p1] h r.2 (some (.long r.1)) := by
  exact fMet.of (own := RX7) (by decide +kernel) rfl (lva2 rfl (lva2 rfl lva0)) (lgl2 rfl (lgl2 rfl lgl0)) (Nat.le_of_ble_eq_true rfl) (fun p e s m args below meth c ls hnm _ M hC hl => by
    have hl : lv_has ls 11 [(0, .long p0), (2, .long p1)] := hl
    exact w_X7_commonDivisor_L0 M hfl _ _ _ hf _ _ _ _ _ hC (lv_sub hl [0, 1] rfl))
set_option maxHeartbeats 4000000 in
set_option maxRecDepth 100000 in
theorem w_X5_part_L41 {p : Program} {l : Launch} {e : Env} {s : State} {m : MethodId} {args : Array Value} {below : List Frame} {meth : Method} {c : Code} {D : va_G} {cA : Nat → ClassId} {h0 : fSt} {r : (Int64 × fSt)} (M : fM p s m args meth c D cA h0 { frames := 1, cells := fCB h0 - fZ h0, slots := fLB h0 - fL h0, locals := 30 } cX5_part 6 (some (.long)) RX5) (hfl : l.stackTraces = false) (a4 : Int64) (s0 : Int64) (h : fSt) (hf : f_X5_part_L41 a4 s0 h = some r) : ∀ (H : Heap) (locs : List Loc) (cells slots : Nat) (ls : Array Slot), fCur D cA s h0 h H locs → lv_has ls 6 [(4, .long a4)] → W p l e { frames := 1, cells := fCB h0 - fZ h0, slots := fLB h0 - fL h0, locals := 30 } s m args below meth c H locs cells slots (MQ below (fQ D cA h0 r.2 (some (.long r.1))) args s (fCB h0 - fZ h0) (fLB h0 - fL h0) (fA h0)) (F0 m 41 ls [.long s0]) := by
  obtain ⟨hx, hb, hml, hr, hlocks, hts, hown, K, hR⟩ := id M
  intro H locs cells slots ls hC hl
  refine lv_lload hx hb dX5_part_41 (lv_at hl 0 rfl) ?_
  by_cases c1 : a4 = 0
  · exact nomatch (opos c1 hf)
  replace hf := oneg c1 hf
  refine lv_ldiv hx hb dX5_part_43 c1 ?_
  obtain rfl := Option.some.inj hf
  exact fr_lret hx hb hr hlocks hC dX5_part_44
set_option maxHeartbeats 4000000 in
set_option maxRecDepth 100000 in
theorem w_X5_part_L16 {p : Program} {l : Launch} {e : Env} {s : State} {m : MethodId} {args : Array Value} {below : List Frame} {meth : Method} {c : Code} {D : va_G} {cA : Nat → ClassId} {h0 : fSt} {r : (Int64 × fSt)} (M : fM p s m args meth c D cA h0 { frames := 1, cells := fCB h0 - fZ h0, slots := fLB h0 - fL h0, locals := 30 } cX5_part 6 (some (.long)) RX5) (hfl : l.stackTraces = false) (a0 : Option Nat) (a1 : Int32) (s0 : Int64) (h : fSt) (hf : f_X5_part_L16 a0 a1 s0 h = some r) : ∀ (H : Heap) (locs : List Loc) (cells slots : Nat) (ls : Array Slot), fCur D cA s h0 h H locs → lv_has ls 6 [(0, va_rf a0), (1, .int a1)] → W p l e { frames := 1, cells := fCB h0 - fZ h0, slots := fLB h0 - fL h0, locals := 30 } s m args below meth c H locs cells slots (MQ below (fQ D cA h0 r.2 (some (.long r.1))) args s (fCB h0 - fZ h0) (fLB h0 - fL h0) (fA h0)) (F0 m 16 ls [.long s0]) := by
  obtain ⟨hx, hb, hml, hr, hlocks, hts, hown, K, hR⟩ := id M
  intro H locs cells slots ls hC hl
  refine lv_lstore_n (lv' := [(2, .long s0), (0, va_rf a0), (1, .int a1)]) hx hb dX5_part_16 rfl hl (by decide) (congrArg (List.cons _) (flk rfl (flk rfl fln))) (fun ls hl => ?_)
  refine lv_lload_n hx hb dX5_part_17 rfl (lv_at hl 0 rfl) ?_
  refine fr_aload_n hx hb dX5_part_18 rfl (lv_at hl 1 rfl) ?_
  obtain ⟨x2, g3, hf⟩ := obind hf
  refine fr_get hx hb hts hown K hC ct_5 (fgJ_get g3) (by decide) kw569 rfl dX5_part_19 ?_
  obtain ⟨r4, g5, hf⟩ := obind hf
  refine fr_callSN hx hb hml hts hown K hC hR (c_X7_commonDivisor hfl D cA g5) 2 kw222 kn220 kw221 kw23 (by decide +kernel) ⟨by exact Nat.le_of_ble_eq_true rfl, by exact Nat.le_of_ble_eq_true rfl⟩ rfl hl.1 (cat8 _ (by exact Nat.le_of_ble_eq_true rfl)) dX5_part_22 rfl (fun H locs _ _ hC => ?_)
  refine lv_lstore (lv' := [(4, .long r4.1), (2, .long s0), (0, va_rf a0), (1, .int a1)]) hx hb dX5_part_25 hl (by decide) (congrArg (List.cons _) (flk rfl (flk rfl (flk rfl fln)))) (fun ls hl => ?_)
  refine lv_iload_n hx hb dX5_part_27 rfl (lv_at hl 3 rfl) ?_
  refine lv_iconst (v := (2 : Int32)) hx hb dX5_part_28 (by decide) ?_
  refine lv_irem hx hb dX5_part_29 (by decide) ?_
  refine lv_if_ne (tgt := 37) hx hb dX5_part_30 (by decide) (fun c6 => ?_) (fun c6 => ?_)
  · replace hf := oneg c6 hf
    refine fr_aload_n hx hb dX5_part_37 rfl (lv_at hl 2 rfl) ?_
    obtain ⟨x7, g8, hf⟩ := obind hf
    refine fr_get hx hb hts hown K hC ct_5 (fgJ_get g8) (by decide) kw569 rfl dX5_part_38 ?_
    exact w_X5_part_L41 M hfl _ _ _ hf _ _ _ _ _ hC (lv_sub hl [0] rfl)
  · replace hf := opos c6 hf
    refine lv_lload_n hx hb dX5_part_33 rfl (lv_at hl 1 rfl) ?_
    refine lv_goto (tgt := 41) hx hb dX5_part_34 (by decide) ?_
    exact w_X5_part_L41 M hfl _ _ _ hf _ _ _ _ _ hC (lv_sub hl [0] rfl)
set_option maxHeartbeats 4000000 in
set_option maxRecDepth 100000 in
theorem w_X5_part_L0 {p : Program} {l : Launch} {e : Env} {s : State} {m : MethodId} {args : Array Value} {below : List Frame} {meth : Method} {c : Code} {D : va_G} {cA : Nat → ClassId} {h0 : fSt} {r : (Int64 × fSt)} (M : fM p s m args meth c D cA h0 { frames := 1, cells := fCB h0 - fZ h0, slots := fLB h0 - fL h0, locals := 30 } cX5_part 6 (some (.long)) RX5) (hfl : l.stackTraces = false) (a0 : Option Nat) (a1 : Int32) (h : fSt) (hf : f_X5_part_L0 a0 a1 h = some r) : ∀ (H : Heap) (locs : List Loc) (cells slots : Nat) (ls : Array Slot), fCur D cA s h0 h H locs → lv_has ls 6 [(0, va_rf a0), (1, .int a1)] → W p l e { frames := 1, cells := fCB h0 - fZ h0, slots := fLB h0 - fL h0, locals := 30 } s m args below meth c H locs cells slots (MQ below (fQ D cA h0 r.2 (some (.long r.1))) args s (fCB h0 - fZ h0) (fLB h0 - fL h0) (fA h0)) (F0 m 0 ls []) := by
  obtain ⟨hx, hb, hml, hr, hlocks, hts, hown, K, hR⟩ := id M
  intro H locs cells slots ls hC hl
  refine lv_iload_n hx hb dX5_part_0 rfl (lv_at hl 1 rfl) ?_
  refine lv_iconst (v := (2 : Int32)) hx hb dX5_part_1 (by decide) ?_
  refine lv_icmp_ge (tgt := 12) hx hb dX5_part_2 (by decide) (fun c9 => ?_) (fun c9 => ?_)
  · replace hf := opos c9 hf
    refine fr_aload_n hx hb dX5_part_12 rfl (lv_at hl 0 rfl) ?_
    obtain ⟨x10, g11, hf⟩ := obind hf
    refine fr_get hx hb hts hown K hC ct_5 (fgJ_get g11) (by decide) kw566 rfl dX5_part_13 ?_
    exact w_X5_part_L16 M hfl _ _ _ _ hf _ _ _ _ _ hC (lv_sub hl [0, 1] rfl)
  · replace hf := oneg c9 hf
    refine fr_aload_n hx hb dX5_part_5 rfl (lv_at hl 0 rfl) ?_
    obtain ⟨x12, g13, hf⟩ := obind hf
    refine fr_get hx hb hts hown K hC ct_5 (fgJ_get g13) (by decide) kw564 rfl dX5_part_6 ?_
    refine lv_goto (tgt := 16) hx hb dX5_part_9 (by decide) ?_
    exact w_X5_part_L16 M hfl _ _ _ _ hf _ _ _ _ _ hC (lv_sub hl [0, 1] rfl)
set_option maxRecDepth 100000 in
theorem c_X5_part {l : Launch} (hfl : l.stackTraces = false) (D : va_G) (cA : Nat → ClassId) {o : Nat} {p0 : Int32} {h : fSt} {r : (Int64 × fSt)} (hf : f_X5_part o p0 h = some r) : fMet l yX5_part (wsC yX5_part cX5_part 6 (some (.long))) (1) (30) D cA [.ref o, .int p0] h r.2 (some (.long r.1)) := by
  exact fMet.of (own := RX5) (by decide +kernel) rfl (lva1 rfl (lva1 rfl lva0)) (lgl1 rfl (lgl1 rfl lgl0)) (Nat.le_of_ble_eq_true rfl) (fun p e s m args below meth c ls hnm _ M hC hl => by
    have hl : lv_has ls 6 [(0, va_rf (some o)), (1, .int p0)] := hl
    exact w_X5_part_L0 M hfl _ _ _ hf _ _ _ _ _ hC (lv_sub hl [0, 1] rfl))
set_option maxHeartbeats 4000000 in
set_option maxRecDepth 100000 in
theorem w_X7_isFrom_L15 {p : Program} {l : Launch} {e : Env} {s : State} {m : MethodId} {args : Array Value} {below : List Frame} {meth : Method} {c : Code} {D : va_G} {cA : Nat → ClassId} {h0 : fSt} {r : (Int32 × fSt)} (M : fM p s m args meth c D cA h0 { frames := 0, cells := fCB h0 - fZ h0, slots := fLB h0 - fL h0, locals := 0 } cX7_isFrom 3 (some (.boolean)) RX7) (hfl : l.stackTraces = false) (s0 : Int32) (h : fSt) (hf : f_X7_isFrom_L15 s0 h = some r) : ∀ (H : Heap) (locs : List Loc) (cells slots : Nat) (ls : Array Slot), fCur D cA s h0 h H locs → lv_has ls 3 [] → W p l e { frames := 0, cells := fCB h0 - fZ h0, slots := fLB h0 - fL h0, locals := 0 } s m args below meth c H locs cells slots (MQ below (fQ D cA h0 r.2 (some (.int r.1))) args s (fCB h0 - fZ h0) (fLB h0 - fL h0) (fA h0)) (F0 m 15 ls [.int s0]) := by
  obtain ⟨hx, hb, hml, hr, hlocks, hts, hown, K, hR⟩ := id M
  intro H locs cells slots ls hC hl
  by_cases c1 : s0 = 0 ∨ s0 = 1
  rotate_left
  · exact nomatch (oneg c1 hf)
  obtain rfl := Option.some.inj (opos c1 hf)
  exact fr_zret hx hb hr hlocks hC c1 dX7_isFrom_15
set_option maxHeartbeats 4000000 in
set_option maxRecDepth 100000 in
theorem w_X7_isFrom_L14 {p : Program} {l : Launch} {e : Env} {s : State} {m : MethodId} {args : Array Value} {below : List Frame} {meth : Method} {c : Code} {D : va_G} {cA : Nat → ClassId} {h0 : fSt} {r : (Int32 × fSt)} (M : fM p s m args meth c D cA h0 { frames := 0, cells := fCB h0 - fZ h0, slots := fLB h0 - fL h0, locals := 0 } cX7_isFrom 3 (some (.boolean)) RX7) (hfl : l.stackTraces = false)  (h : fSt) (hf : f_X7_isFrom_L14  h = some r) : ∀ (H : Heap) (locs : List Loc) (cells slots : Nat) (ls : Array Slot), fCur D cA s h0 h H locs → lv_has ls 3 [] → W p l e { frames := 0, cells := fCB h0 - fZ h0, slots := fLB h0 - fL h0, locals := 0 } s m args below meth c H locs cells slots (MQ below (fQ D cA h0 r.2 (some (.int r.1))) args s (fCB h0 - fZ h0) (fLB h0 - fL h0) (fA h0)) (F0 m 14 ls []) := by
  obtain ⟨hx, hb, hml, hr, hlocks, hts, hown, K, hR⟩ := id M
  intro H locs cells slots ls hC hl
  refine lv_iconst (v := (0 : Int32)) hx hb dX7_isFrom_14 (by decide) ?_
  exact w_X7_isFrom_L15 M hfl _ _ hf _ _ _ _ _ hC (lv_sub hl [] rfl)
set_option maxHeartbeats 4000000 in
set_option maxRecDepth 100000 in
theorem w_X7_isFrom_L0 {p : Program} {l : Launch} {e : Env} {s : State} {m : MethodId} {args : Array Value} {below : List Frame} {meth : Method} {c : Code} {D : va_G} {cA : Nat → ClassId} {h0 : fSt} {r : (Int32 × fSt)} (M : fM p s m args meth c D cA h0 { frames := 0, cells := fCB h0 - fZ h0, slots := fLB h0 - fL h0, locals := 0 } cX7_isFrom 3 (some (.boolean)) RX7) (hfl : l.stackTraces = false) (a0 : Int32) (a1 : Int32) (a2 : Int32) (h : fSt) (hf : f_X7_isFrom_L0 a0 a1 a2 h = some r) : ∀ (H : Heap) (locs : List Loc) (cells slots : Nat) (ls : Array Slot), fCur D cA s h0 h H locs → lv_has ls 3 [(0, .int a0), (1, .int a1), (2, .int a2)] → W p l e { frames := 0, cells := fCB h0 - fZ h0, slots := fLB h0 - fL h0, locals := 0 } s m args below meth c H locs cells slots (MQ below (fQ D cA h0 r.2 (some (.int r.1))) args s (fCB h0 - fZ h0) (fLB h0 - fL h0) (fA h0)) (F0 m 0 ls []) := by
  obtain ⟨hx, hb, hml, hr, hlocks, hts, hown, K, hR⟩ := id M
  intro H locs cells slots ls hC hl
  refine lv_iload_n hx hb dX7_isFrom_0 rfl (lv_at hl 0 rfl) ?_
  refine lv_iload_n hx hb dX7_isFrom_1 rfl (lv_at hl 1 rfl) ?_
  refine lv_icmp_lt (tgt := 14) hx hb dX7_isFrom_2 (by decide) (fun c2 => ?_) (fun c2 => ?_)
  · replace hf := opos c2 hf
    exact w_X7_isFrom_L14 M hfl _ hf _ _ _ _ _ hC (lv_sub hl [] rfl)
  · replace hf := oneg c2 hf
    refine lv_iload_n hx hb dX7_isFrom_5 rfl (lv_at hl 0 rfl) ?_
    refine lv_iload_n hx hb dX7_isFrom_6 rfl (lv_at hl 2 rfl) ?_
    refine lv_icmp_gt (tgt := 14) hx hb dX7_isFrom_7 (by decide) (fun c3 => ?_) (fun c3 => ?_)
    · replace hf := opos c3 hf
      exact w_X7_isFrom_L14 M hfl _ hf _ _ _ _ _ hC (lv_sub hl [] rfl)
    · replace hf := oneg c3 hf
      refine lv_iconst (v := (1 : Int32)) hx hb dX7_isFrom_10 (by decide) ?_
      refine lv_goto (tgt := 15) hx hb dX7_isFrom_11 (by decide) ?_
      exact w_X7_isFrom_L15 M hfl _ _ hf _ _ _ _ _ hC (lv_sub hl [] rfl)
set_option maxRecDepth 100000 in
theorem c_X7_isFrom {l : Launch} (hfl : l.stackTraces = false) (D : va_G) (cA : Nat → ClassId) {p0 : Int32} {p1 : Int32} {p2 : Int32} {h : fSt} {r : (Int32 × fSt)} (hf : f_X7_isFrom p0 p1 p2 h = some r) : fMet l yX7_isFrom (wsC yX7_isFrom cX7_isFrom 3 (some (.boolean))) (0) (0) D cA [.int p0, .int p1, .int p2] h r.2 (some (.int r.1)) := by
  exact fMet.of (own := RX7) (by decide +kernel) rfl (lva1 rfl (lva1 rfl (lva1 rfl lva0))) (lgl1 rfl (lgl1 rfl (lgl1 rfl lgl0))) (Nat.le_of_ble_eq_true rfl) (fun p e s m args below meth c ls hnm _ M hC hl => by
    have hl : lv_has ls 3 [(0, .int p0), (1, .int p1), (2, .int p2)] := hl
    exact w_X7_isFrom_L0 M hfl _ _ _ _ hf _ _ _ _ _ hC (lv_sub hl [0, 1, 2] rfl))
set_option maxHeartbeats 4000000 in
set_option maxRecDepth 100000 in
theorem w_X7_checkPoint_L26 {p : Program} {l : Launch} {e : Env} {s : State} {m : MethodId} {args : Array Value} {below : List Frame} {meth : Method} {c : Code} {D : va_G} {cA : Nat → ClassId} {h0 : fSt} {r : ((Unit ⊕ Nat) × fSt)} (M : fM p s m args meth c D cA h0 { frames := 6, cells := fCB h0 - fZ h0, slots := fLB h0 - fL h0, locals := 90 } cX7_checkPoint 3 none RX7) (hfl : l.stackTraces = false) (hno : ∀ x ∈ c.exceptionTable.toList, False)  (h : fSt) (hf : f_X7_checkPoint_L26  h = some r) : ∀ (H : Heap) (locs : List Loc) (cells slots : Nat) (ls : Array Slot), fCur D cA s h0 h H locs → lv_has ls 3 [] → W p l e { frames := 6, cells := fCB h0 - fZ h0, slots := fLB h0 - fL h0, locals := 90 } s m args below meth c H locs cells slots (vx_MQ below (fQX D cA h0 r.2 (rV r.1)) (fXC D cA h0 r.2 (rV r.1)) args s (fCB h0 - fZ h0) (fLB h0 - fL h0) (fA h0)) (F0 m 26 ls []) := by
  obtain ⟨hx, hb, hml, hr, hlocks, hts, hown, K, hR⟩ := id M
  intro H locs cells slots ls hC hl
  obtain ⟨h1, g2, hf⟩ := obind hf
  obtain rfl := Option.some.inj hf
  exact fr_throwSW hx hb hml hts hfl hown K hC hR th_RX7_60_64_1 st_RX7_351 hl.1 dX7_checkPoint_26 dX7_checkPoint_29 dX7_checkPoint_30 dX7_checkPoint_33 dX7_checkPoint_36 hno (by exact Nat.le_of_ble_eq_true rfl) (catL _ _ (by exact Nat.le_of_ble_eq_true rfl) (by exact Nat.le_of_ble_eq_true rfl)) hlocks g2
set_option maxHeartbeats 4000000 in
set_option maxRecDepth 100000 in
theorem w_X7_checkPoint_L0 {p : Program} {l : Launch} {e : Env} {s : State} {m : MethodId} {args : Array Value} {below : List Frame} {meth : Method} {c : Code} {D : va_G} {cA : Nat → ClassId} {h0 : fSt} {r : ((Unit ⊕ Nat) × fSt)} (M : fM p s m args meth c D cA h0 { frames := 6, cells := fCB h0 - fZ h0, slots := fLB h0 - fL h0, locals := 90 } cX7_checkPoint 3 none RX7) (hfl : l.stackTraces = false) (hno : ∀ x ∈ c.exceptionTable.toList, False) (a0 : Int32) (a1 : Int32) (a2 : Int32) (h : fSt) (hf : f_X7_checkPoint_L0 a0 a1 a2 h = some r) : ∀ (H : Heap) (locs : List Loc) (cells slots : Nat) (ls : Array Slot), fCur D cA s h0 h H locs → lv_has ls 3 [(0, .int a0), (1, .int a1), (2, .int a2)] → W p l e { frames := 6, cells := fCB h0 - fZ h0, slots := fLB h0 - fL h0, locals := 90 } s m args below meth c H locs cells slots (vx_MQ below (fQX D cA h0 r.2 (rV r.1)) (fXC D cA h0 r.2 (rV r.1)) args s (fCB h0 - fZ h0) (fLB h0 - fL h0) (fA h0)) (F0 m 0 ls []) := by
  obtain ⟨hx, hb, hml, hr, hlocks, hts, hown, K, hR⟩ := id M
  intro H locs cells slots ls hC hl
  refine lv_iload_n hx hb dX7_checkPoint_0 rfl (lv_at hl 0 rfl) ?_
  refine lv_sipush (v := (-1000 : Int32)) hx hb dX7_checkPoint_1 (by decide) ?_
  refine lv_sipush (v := (1000 : Int32)) hx hb dX7_checkPoint_4 (by decide) ?_
  obtain ⟨r3, g4, hf⟩ := obind hf
  refine fr_callS hx hb hml hts hown K hC hR (c_X7_isFrom hfl D cA g4) 3 kw154 kw152 kw153 kw23 (by decide +kernel) ⟨by exact Nat.le_of_ble_eq_true rfl, by exact Nat.le_of_ble_eq_true rfl⟩ rfl hl.1 (cat8 _ (by exact Nat.le_of_ble_eq_true rfl)) dX7_checkPoint_7 rfl (fun H locs _ _ hC => ?_)
  refine lv_if_eq (tgt := 26) hx hb dX7_checkPoint_10 (by decide) (fun c5 => ?_) (fun c5 => ?_)
  · replace hf := opos c5 hf
    exact w_X7_checkPoint_L26 M hfl hno _ hf _ _ _ _ _ hC (lv_sub hl [] rfl)
  · replace hf := oneg c5 hf
    refine lv_iload_n hx hb dX7_checkPoint_13 rfl (lv_at hl 1 rfl) ?_
    refine lv_sipush (v := (-1000 : Int32)) hx hb dX7_checkPoint_14 (by decide) ?_
    refine lv_sipush (v := (1000 : Int32)) hx hb dX7_checkPoint_17 (by decide) ?_
    obtain ⟨r6, g7, hf⟩ := obind hf
    refine fr_callS hx hb hml hts hown K hC hR (c_X7_isFrom hfl D cA g7) 3 kw154 kw152 kw153 kw23 (by decide +kernel) ⟨by exact Nat.le_of_ble_eq_true rfl, by exact Nat.le_of_ble_eq_true rfl⟩ rfl hl.1 (cat8 _ (by exact Nat.le_of_ble_eq_true rfl)) dX7_checkPoint_20 rfl (fun H locs _ _ hC => ?_)
    refine lv_if_ne (tgt := 37) hx hb dX7_checkPoint_23 (by decide) (fun c8 => ?_) (fun c8 => ?_)
    · replace hf := oneg c8 hf
      refine lv_iload_n hx hb dX7_checkPoint_37 rfl (lv_at hl 2 rfl) ?_
      refine lv_iconst (v := (0 : Int32)) hx hb dX7_checkPoint_38 (by decide) ?_
      refine lv_iconst (v := (3 : Int32)) hx hb dX7_checkPoint_39 (by decide) ?_
      obtain ⟨r9, g10, hf⟩ := obind hf
      refine fr_callS hx hb hml hts hown K hC hR (c_X7_isFrom hfl D cA g10) 3 kw154 kw152 kw153 kw23 (by decide +kernel) ⟨by exact Nat.le_of_ble_eq_true rfl, by exact Nat.le_of_ble_eq_true rfl⟩ rfl hl.1 (cat8 _ (by exact Nat.le_of_ble_eq_true rfl)) dX7_checkPoint_40 rfl (fun H locs _ _ hC => ?_)
      refine lv_if_ne (tgt := 57) hx hb dX7_checkPoint_43 (by decide) (fun c11 => ?_) (fun c11 => ?_)
      · replace hf := oneg c11 hf
        obtain rfl := Option.some.inj hf
        exact fr_retQ (fr_vret hx hb hr hlocks hC dX7_checkPoint_57)
      · replace hf := opos c11 hf
        obtain ⟨h12, g13, hf⟩ := obind hf
        obtain rfl := Option.some.inj hf
        exact fr_throwSW hx hb hml hts hfl hown K hC hR th_RX7_60_64_1 st_RX7_353 hl.1 dX7_checkPoint_46 dX7_checkPoint_49 dX7_checkPoint_50 dX7_checkPoint_53 dX7_checkPoint_56 hno (by exact Nat.le_of_ble_eq_true rfl) (catL _ _ (by exact Nat.le_of_ble_eq_true rfl) (by exact Nat.le_of_ble_eq_true rfl)) hlocks g13
    · replace hf := opos c8 hf
      exact w_X7_checkPoint_L26 M hfl hno _ hf _ _ _ _ _ hC (lv_sub hl [] rfl)
set_option maxRecDepth 100000 in
theorem c_X7_checkPoint {l : Launch} (hfl : l.stackTraces = false) (D : va_G) (cA : Nat → ClassId) {p0 : Int32} {p1 : Int32} {p2 : Int32} {h : fSt} {r : ((Unit ⊕ Nat) × fSt)} (hf : f_X7_checkPoint p0 p1 p2 h = some r) : fMetX l yX7_checkPoint (wsC yX7_checkPoint cX7_checkPoint 3 none) (6) (90) D cA [.int p0, .int p1, .int p2] h r.2 (rV r.1) := by
  exact fMetX.of (own := RX7) (by decide +kernel) rfl (lva1 rfl (lva1 rfl (lva1 rfl lva0))) (lgl1 rfl (lgl1 rfl (lgl1 rfl lgl0))) (Nat.le_of_ble_eq_true rfl) (fun p e s m args below meth c ls hno M hC hl => by
    have hl : lv_has ls 3 [(0, .int p0), (1, .int p1), (2, .int p2)] := hl
    exact w_X7_checkPoint_L0 M hfl hno _ _ _ _ hf _ _ _ _ _ hC (lv_sub hl [0, 1, 2] rfl))
set_option maxHeartbeats 4000000 in
set_option maxRecDepth 100000 in
theorem w_X7_nodeOrNull_L13 {p : Program} {l : Launch} {e : Env} {s : State} {m : MethodId} {args : Array Value} {below : List Frame} {meth : Method} {c : Code} {D : va_G} {cA : Nat → ClassId} {h0 : fSt} {r : (Option Nat × fSt)} (M : fM p s m args meth c D cA h0 { frames := 0, cells := fCB h0 - fZ h0, slots := fLB h0 - fL h0, locals := 0 } cX7_nodeOrNull 3 (some (.object "TapestryScene$Node")) RX7) (hfl : l.stackTraces = false)  (h : fSt) (hf : f_X7_nodeOrNull_L13  h = some r) : ∀ (H : Heap) (locs : List Loc) (cells slots : Nat) (ls : Array Slot), fCur D cA s h0 h H locs → lv_has ls 3 [] → W p l e { frames := 0, cells := fCB h0 - fZ h0, slots := fLB h0 - fL h0, locals := 0 } s m args below meth c H locs cells slots (MQ below (fQ D cA h0 r.2 (some (va_rf r.1))) args s (fCB h0 - fZ h0) (fLB h0 - fL h0) (fA h0)) (F0 m 13 ls []) := by
  obtain ⟨hx, hb, hml, hr, hlocks, hts, hown, K, hR⟩ := id M
  intro H locs cells slots ls hC hl
  refine fr_null hx hb dX7_nodeOrNull_13 ?_
  obtain rfl := Option.some.inj hf
  exact fr_aret hx hb hr (Or.inl ⟨_, rfl⟩) hlocks hC dX7_nodeOrNull_14
set_option maxHeartbeats 4000000 in
set_option maxRecDepth 100000 in
theorem w_X7_nodeOrNull_L38 {p : Program} {l : Launch} {e : Env} {s : State} {m : MethodId} {args : Array Value} {below : List Frame} {meth : Method} {c : Code} {D : va_G} {cA : Nat → ClassId} {h0 : fSt} {r : (Option Nat × fSt)} (M : fM p s m args meth c D cA h0 { frames := 0, cells := fCB h0 - fZ h0, slots := fLB h0 - fL h0, locals := 0 } cX7_nodeOrNull 3 (some (.object "TapestryScene$Node")) RX7) (hfl : l.stackTraces = false) (s0 : Option Nat) (h : fSt) (hf : f_X7_nodeOrNull_L38 s0 h = some r) : ∀ (H : Heap) (locs : List Loc) (cells slots : Nat) (ls : Array Slot), fCur D cA s h0 h H locs → lv_has ls 3 [] → W p l e { frames := 0, cells := fCB h0 - fZ h0, slots := fLB h0 - fL h0, locals := 0 } s m args below meth c H locs cells slots (MQ below (fQ D cA h0 r.2 (some (va_rf r.1))) args s (fCB h0 - fZ h0) (fLB h0 - fL h0) (fA h0)) (F0 m 38 ls [va_rf s0]) := by
  obtain ⟨hx, hb, hml, hr, hlocks, hts, hown, K, hR⟩ := id M
  intro H locs cells slots ls hC hl
  obtain rfl := Option.some.inj hf
  exact fr_aret hx hb hr (Or.inl ⟨_, rfl⟩) hlocks hC dX7_nodeOrNull_38
set_option maxHeartbeats 4000000 in
set_option maxRecDepth 100000 in
theorem w_X7_nodeOrNull_L33 {p : Program} {l : Launch} {e : Env} {s : State} {m : MethodId} {args : Array Value} {below : List Frame} {meth : Method} {c : Code} {D : va_G} {cA : Nat → ClassId} {h0 : fSt} {r : (Option Nat × fSt)} (M : fM p s m args meth c D cA h0 { frames := 0, cells := fCB h0 - fZ h0, slots := fLB h0 - fL h0, locals := 0 } cX7_nodeOrNull 3 (some (.object "TapestryScene$Node")) RX7) (hfl : l.stackTraces = false)  (h : fSt) (hf : f_X7_nodeOrNull_L33  h = some r) : ∀ (H : Heap) (locs : List Loc) (cells slots : Nat) (ls : Array Slot), fCur D cA s h0 h H locs → lv_has ls 3 [] → W p l e { frames := 0, cells := fCB h0 - fZ h0, slots := fLB h0 - fL h0, locals := 0 } s m args below meth c H locs cells slots (MQ below (fQ D cA h0 r.2 (some (va_rf r.1))) args s (fCB h0 - fZ h0) (fLB h0 - fL h0) (fA h0)) (F0 m 33 ls []) := by
  obtain ⟨hx, hb, hml, hr, hlocks, hts, hown, K, hR⟩ := id M
  intro H locs cells slots ls hC hl
  refine fr_null hx hb dX7_nodeOrNull_33 ?_
  refine lv_goto (tgt := 38) hx hb dX7_nodeOrNull_34 (by decide) ?_
  exact w_X7_nodeOrNull_L38 M hfl _ _ hf _ _ _ _ _ hC (lv_sub hl [] rfl)
set_option maxHeartbeats 4000000 in
set_option maxRecDepth 100000 in
theorem w_X7_nodeOrNull_L0 {p : Program} {l : Launch} {e : Env} {s : State} {m : MethodId} {args : Array Value} {below : List Frame} {meth : Method} {c : Code} {D : va_G} {cA : Nat → ClassId} {h0 : fSt} {r : (Option Nat × fSt)} (M : fM p s m args meth c D cA h0 { frames := 0, cells := fCB h0 - fZ h0, slots := fLB h0 - fL h0, locals := 0 } cX7_nodeOrNull 3 (some (.object "TapestryScene$Node")) RX7) (hfl : l.stackTraces = false) (a0 : Option Nat) (a1 : Int32) (h : fSt) (hf : f_X7_nodeOrNull_L0 a0 a1 h = some r) : ∀ (H : Heap) (locs : List Loc) (cells slots : Nat) (ls : Array Slot), fCur D cA s h0 h H locs → lv_has ls 3 [(0, va_rf a0), (1, .int a1)] → W p l e { frames := 0, cells := fCB h0 - fZ h0, slots := fLB h0 - fL h0, locals := 0 } s m args below meth c H locs cells slots (MQ below (fQ D cA h0 r.2 (some (va_rf r.1))) args s (fCB h0 - fZ h0) (fLB h0 - fL h0) (fA h0)) (F0 m 0 ls []) := by
  obtain ⟨hx, hb, hml, hr, hlocks, hts, hown, K, hR⟩ := id M
  intro H locs cells slots ls hC hl
  refine lv_iload_n hx hb dX7_nodeOrNull_0 rfl (lv_at hl 1 rfl) ?_
  refine lv_if_lt (tgt := 13) hx hb dX7_nodeOrNull_1 (by decide) (fun c1 => ?_) (fun c1 => ?_)
  · replace hf := opos c1 hf
    exact w_X7_nodeOrNull_L13 M hfl _ hf _ _ _ _ _ hC (lv_sub hl [] rfl)
  · replace hf := oneg c1 hf
    refine lv_iload_n hx hb dX7_nodeOrNull_4 rfl (lv_at hl 1 rfl) ?_
    refine fr_aload_n hx hb dX7_nodeOrNull_5 rfl (lv_at hl 0 rfl) ?_
    obtain ⟨x2, g3, hf⟩ := obind hf
    refine fr_get hx hb hts hown K hC ct_7 (fgR_get g3) (by decide) kw617 rfl dX7_nodeOrNull_6 ?_
    obtain ⟨x4, g5, hf⟩ := obind hf
    refine fr_alen hx hb K hC (t := 2) rfl g5 dX7_nodeOrNull_9 ?_
    refine lv_icmp_lt (tgt := 15) hx hb dX7_nodeOrNull_10 (by decide) (fun c6 => ?_) (fun c6 => ?_)
    · replace hf := opos c6 hf
      refine fr_aload_n hx hb dX7_nodeOrNull_15 rfl (lv_at hl 0 rfl) ?_
      obtain ⟨x7, g8, hf⟩ := obind hf
      refine fr_get hx hb hts hown K hC ct_7 (fgR_get g8) (by decide) kw617 rfl dX7_nodeOrNull_16 ?_
      refine lv_iload_n hx hb dX7_nodeOrNull_19 rfl (lv_at hl 1 rfl) ?_
      obtain ⟨x9, g10, hf⟩ := obind hf
      refine fr_aald hx hb K hC (t := 2) rfl g10 dX7_nodeOrNull_20 ?_
      refine fr_astore_n (lv' := [(2, va_rf x9), (0, va_rf a0), (1, .int a1)]) hx hb dX7_nodeOrNull_21 rfl hl (by decide) (congrArg (List.cons _) (flk rfl (flk rfl fln))) (fun ls hl => ?_)
      refine fr_aload_n hx hb dX7_nodeOrNull_22 rfl (lv_at hl 0 rfl) ?_
      refine fr_ifnull (tgt := 33) hx hb dX7_nodeOrNull_23 (by decide) (fun c11 => ?_) (fun c11 => ?_)
      · replace hf := opos c11 hf
        exact w_X7_nodeOrNull_L33 M hfl _ hf _ _ _ _ _ hC (lv_sub hl [] rfl)
      · replace hf := oneg c11 hf
        refine fr_aload_n hx hb dX7_nodeOrNull_26 rfl (lv_at hl 0 rfl) ?_
        obtain ⟨x12, g13, hf⟩ := obind hf
        refine fr_get hx hb hts hown K hC ct_4 (fgI_get g13) (by decide) kw510 rfl dX7_nodeOrNull_27 ?_
        refine lv_if_eq (tgt := 37) hx hb dX7_nodeOrNull_30 (by decide) (fun c14 => ?_) (fun c14 => ?_)
        · replace hf := opos c14 hf
          refine fr_aload_n hx hb dX7_nodeOrNull_37 rfl (lv_at hl 0 rfl) ?_
          exact w_X7_nodeOrNull_L38 M hfl _ _ hf _ _ _ _ _ hC (lv_sub hl [] rfl)
        · replace hf := oneg c14 hf
          exact w_X7_nodeOrNull_L33 M hfl _ hf _ _ _ _ _ hC (lv_sub hl [] rfl)
    · replace hf := oneg c6 hf
      exact w_X7_nodeOrNull_L13 M hfl _ hf _ _ _ _ _ hC (lv_sub hl [] rfl)
set_option maxRecDepth 100000 in
theorem c_X7_nodeOrNull {l : Launch} (hfl : l.stackTraces = false) (D : va_G) (cA : Nat → ClassId) {o : Nat} {p0 : Int32} {h : fSt} {r : (Option Nat × fSt)} (hf : f_X7_nodeOrNull o p0 h = some r) : fMet l yX7_nodeOrNull (wsC yX7_nodeOrNull cX7_nodeOrNull 3 (some (.object "TapestryScene$Node"))) (0) (0) D cA [.ref o, .int p0] h r.2 (some (va_rf r.1)) := by
  exact fMet.of (own := RX7) (by decide +kernel) rfl (lva1 rfl (lva1 rfl lva0)) (lgl1 rfl (lgl1 rfl lgl0)) (Nat.le_of_ble_eq_true rfl) (fun p e s m args below meth c ls hnm _ M hC hl => by
    have hl : lv_has ls 3 [(0, va_rf (some o)), (1, .int p0)] := hl
    exact w_X7_nodeOrNull_L0 M hfl _ _ _ hf _ _ _ _ _ hC (lv_sub hl [0, 1] rfl))
set_option maxHeartbeats 4000000 in
set_option maxRecDepth 100000 in
theorem w_X7_found_L0 {p : Program} {l : Launch} {e : Env} {s : State} {m : MethodId} {args : Array Value} {below : List Frame} {meth : Method} {c : Code} {D : va_G} {cA : Nat → ClassId} {h0 : fSt} {r : ((Option Nat ⊕ Nat) × fSt)} (M : fM p s m args meth c D cA h0 { frames := 6, cells := fCB h0 - fZ h0, slots := fLB h0 - fL h0, locals := 90 } cX7_found 3 (some (.object "TapestryScene$Node")) RX7) (hfl : l.stackTraces = false) (hno : ∀ x ∈ c.exceptionTable.toList, False) (a0 : Option Nat) (a1 : Int32) (h : fSt) (hf : f_X7_found_L0 a0 a1 h = some r) : ∀ (H : Heap) (locs : List Loc) (cells slots : Nat) (ls : Array Slot), fCur D cA s h0 h H locs → lv_has ls 3 [(0, va_rf a0), (1, .int a1)] → W p l e { frames := 6, cells := fCB h0 - fZ h0, slots := fLB h0 - fL h0, locals := 90 } s m args below meth c H locs cells slots (vx_MQ below (fQX D cA h0 r.2 (rR r.1)) (fXC D cA h0 r.2 (rR r.1)) args s (fCB h0 - fZ h0) (fLB h0 - fL h0) (fA h0)) (F0 m 0 ls []) := by
  obtain ⟨hx, hb, hml, hr, hlocks, hts, hown, K, hR⟩ := id M
  intro H locs cells slots ls hC hl
  refine fr_aload_n hx hb dX7_found_0 rfl (lv_at hl 0 rfl) ?_
  refine lv_iload_n hx hb dX7_found_1 rfl (lv_at hl 1 rfl) ?_
  obtain ⟨b3, q4, hf⟩ := obind hf
  obtain ⟨r1, g2, hf⟩ := obind hf
  refine fr_callV hx hb hml hts hown K hC hR ct_7 (c_X7_nodeOrNull hfl D cA g2) 1 q4 kw55 kw52 kw54 kw1 kw23 (by decide +kernel) ⟨by exact Nat.le_of_ble_eq_true rfl, by exact Nat.le_of_ble_eq_true rfl⟩ rfl hl.1 (cat8 _ (by exact Nat.le_of_ble_eq_true rfl)) dX7_found_2 rfl (fun H locs _ _ hC => ?_)
  refine fr_astore_n (lv' := [(2, va_rf r1.1), (0, va_rf a0), (1, .int a1)]) hx hb dX7_found_5 rfl hl (by decide) (congrArg (List.cons _) (flk rfl (flk rfl fln))) (fun ls hl => ?_)
  refine fr_aload_n hx hb dX7_found_6 rfl (lv_at hl 0 rfl) ?_
  refine fr_ifnonnull (tgt := 21) hx hb dX7_found_7 (by decide) (fun c5 => ?_) (fun c5 => ?_)
  · replace hf := oneg c5 hf
    refine fr_aload_n hx hb dX7_found_21 rfl (lv_at hl 0 rfl) ?_
    obtain rfl := Option.some.inj hf
    exact fr_retQ (fr_aret hx hb hr (Or.inl ⟨_, rfl⟩) hlocks hC dX7_found_22)
  · replace hf := opos c5 hf
    obtain ⟨h6, g7, hf⟩ := obind hf
    obtain rfl := Option.some.inj hf
    exact fr_throwSW hx hb hml hts hfl hown K hC hR th_RX7_290_294_0 st_RX7_343 hl.1 dX7_found_10 dX7_found_13 dX7_found_14 dX7_found_17 dX7_found_20 hno (by exact Nat.le_of_ble_eq_true rfl) (catL _ _ (by exact Nat.le_of_ble_eq_true rfl) (by exact Nat.le_of_ble_eq_true rfl)) hlocks g7
set_option maxRecDepth 100000 in
theorem c_X7_found {l : Launch} (hfl : l.stackTraces = false) (D : va_G) (cA : Nat → ClassId) {o : Nat} {p0 : Int32} {h : fSt} {r : ((Option Nat ⊕ Nat) × fSt)} (hf : f_X7_found o p0 h = some r) : fMetX l yX7_found (wsC yX7_found cX7_found 3 (some (.object "TapestryScene$Node"))) (6) (90) D cA [.ref o, .int p0] h r.2 (rR r.1) := by
  exact fMetX.of (own := RX7) (by decide +kernel) rfl (lva1 rfl (lva1 rfl lva0)) (lgl1 rfl (lgl1 rfl lgl0)) (Nat.le_of_ble_eq_true rfl) (fun p e s m args below meth c ls hno M hC hl => by
    have hl : lv_has ls 3 [(0, va_rf (some o)), (1, .int p0)] := hl
    exact w_X7_found_L0 M hfl hno _ _ _ hf _ _ _ _ _ hC (lv_sub hl [0, 1] rfl))
set_option maxHeartbeats 4000000 in
set_option maxRecDepth 100000 in
theorem w_X5_turnQuarters_L2 {p : Program} {l : Launch} {e : Env} {s : State} {m : MethodId} {args : Array Value} {below : List Frame} {meth : Method} {c : Code} {D : va_G} {cA : Nat → ClassId} {h0 : fSt} {r : (Unit × fSt)} (M : fM p s m args meth c D cA h0 { frames := 0, cells := fCB h0 - fZ h0, slots := fLB h0 - fL h0, locals := 0 } cX5_turnQuarters 5 none RX5) (hfl : l.stackTraces = false) : ∀ (n : Nat) (a0 : Option Nat) (a1 : Int32) (a2 : Int32) (h : fSt), f_X5_turnQuarters_L2 n a0 a1 a2 h = some r → ∀ (H : Heap) (locs : List Loc) (cells slots : Nat) (ls : Array Slot), fCur D cA s h0 h H locs → lv_has ls 5 [(0, va_rf a0), (1, .int a1), (2, .int a2)] → W p l e { frames := 0, cells := fCB h0 - fZ h0, slots := fLB h0 - fL h0, locals := 0 } s m args below meth c H locs cells slots (MQ below (fQ D cA h0 r.2 none) args s (fCB h0 - fZ h0) (fLB h0 - fL h0) (fA h0)) (F0 m 2 ls []) := by
  obtain ⟨hx, hb, hml, hr, hlocks, hts, hown, K, hR⟩ := id M
  intro n
  induction n with
  | zero =>
    intro a0 a1 a2 h hf
    exact nomatch (show (none : Option (Unit × fSt)) = some r from hf)
  | succ n hk2 =>
    intro a0 a1 a2 h hf H locs cells slots ls hC hl
    refine lv_iload_n hx hb dX5_turnQuarters_2 rfl (lv_at hl 2 rfl) ?_
    refine lv_iload_n hx hb dX5_turnQuarters_3 rfl (lv_at hl 1 rfl) ?_
    refine lv_icmp_ge (tgt := 32) hx hb dX5_turnQuarters_4 (by decide) (fun c1 => ?_) (fun c1 => ?_)
    · replace hf := opos c1 hf
      obtain rfl := Option.some.inj hf
      exact fr_vret hx hb hr hlocks hC dX5_turnQuarters_32
    · replace hf := oneg c1 hf
      refine fr_aload_n hx hb dX5_turnQuarters_7 rfl (lv_at hl 0 rfl) ?_
      obtain ⟨x2, g3, hf⟩ := obind hf
      refine fr_get hx hb hts hown K hC ct_5 (fgJ_get g3) (by decide) kw564 rfl dX5_turnQuarters_8 ?_
      refine lv_lstore_n (lv' := [(3, .long x2), (0, va_rf a0), (1, .int a1), (2, .int a2)]) hx hb dX5_turnQuarters_11 rfl hl (by decide) (congrArg (List.cons _) (flk rfl (flk rfl (flk rfl fln)))) (fun ls hl => ?_)
      refine fr_aload_n hx hb dX5_turnQuarters_12 rfl (lv_at hl 1 rfl) ?_
      refine fr_aload_n hx hb dX5_turnQuarters_13 rfl (lv_at hl 1 rfl) ?_
      obtain ⟨x4, g5, hf⟩ := obind hf
      refine fr_get hx hb hts hown K hC ct_5 (fgJ_get g5) (by decide) kw566 rfl dX5_turnQuarters_14 ?_
      refine lv_lneg hx hb dX5_turnQuarters_17 ?_
      obtain ⟨h6, g7, hf⟩ := obind hf
      refine fr_put hx hb hts hown K hC ct_5 g7 (by decide) kw564 rfl rfl rfl rfl dX5_turnQuarters_18 (fun H locs hC => ?_)
      refine fr_aload_n hx hb dX5_turnQuarters_21 rfl (lv_at hl 1 rfl) ?_
      refine lv_lload_n hx hb dX5_turnQuarters_22 rfl (lv_at hl 0 rfl) ?_
      obtain ⟨h8, g9, hf⟩ := obind hf
      refine fr_put hx hb hts hown K hC ct_5 g9 (by decide) kw566 rfl rfl rfl rfl dX5_turnQuarters_23 (fun H locs hC => ?_)
      refine lv_iinc (v := (a2 + (1 : Int32))) (lv' := [(2, .int (a2 + (1 : Int32))), (3, .long x2), (0, va_rf a0), (1, .int a1)]) hx hb dX5_turnQuarters_26 hl (k := 3) rfl rfl (by decide) (congrArg (List.cons _) (flk rfl (flk rfl (flk rfl (fld rfl fln))))) (fun ls hl => ?_)
      refine lv_goto (tgt := 2) hx hb dX5_turnQuarters_29 (by decide) ?_
      exact hk2 _ _ _ _ hf _ _ _ _ _ hC (lv_sub hl [2, 3, 0] rfl)
set_option maxHeartbeats 4000000 in
set_option maxRecDepth 100000 in
theorem w_X5_turnQuarters_L0 {p : Program} {l : Launch} {e : Env} {s : State} {m : MethodId} {args : Array Value} {below : List Frame} {meth : Method} {c : Code} {D : va_G} {cA : Nat → ClassId} {h0 : fSt} {r : (Unit × fSt)} (M : fM p s m args meth c D cA h0 { frames := 0, cells := fCB h0 - fZ h0, slots := fLB h0 - fL h0, locals := 0 } cX5_turnQuarters 5 none RX5) (hfl : l.stackTraces = false) (a0 : Option Nat) (a1 : Int32) (h : fSt) (hf : f_X5_turnQuarters_L0 a0 a1 h = some r) : ∀ (H : Heap) (locs : List Loc) (cells slots : Nat) (ls : Array Slot), fCur D cA s h0 h H locs → lv_has ls 5 [(0, va_rf a0), (1, .int a1)] → W p l e { frames := 0, cells := fCB h0 - fZ h0, slots := fLB h0 - fL h0, locals := 0 } s m args below meth c H locs cells slots (MQ below (fQ D cA h0 r.2 none) args s (fCB h0 - fZ h0) (fLB h0 - fL h0) (fA h0)) (F0 m 0 ls []) := by
  obtain ⟨hx, hb, hml, hr, hlocks, hts, hown, K, hR⟩ := id M
  intro H locs cells slots ls hC hl
  refine lv_iconst (v := (0 : Int32)) hx hb dX5_turnQuarters_0 (by decide) ?_
  refine lv_istore_n (lv' := [(2, .int (0 : Int32)), (0, va_rf a0), (1, .int a1)]) hx hb dX5_turnQuarters_1 rfl hl (by decide) (congrArg (List.cons _) (flk rfl (flk rfl fln))) (fun ls hl => ?_)
  exact w_X5_turnQuarters_L2 M hfl 4096 _ _ _ _ hf _ _ _ _ _ hC (lv_sub hl [1, 2, 0] rfl)
set_option maxRecDepth 100000 in
theorem c_X5_turnQuarters {l : Launch} (hfl : l.stackTraces = false) (D : va_G) (cA : Nat → ClassId) {o : Nat} {p0 : Int32} {h : fSt} {r : (Unit × fSt)} (hf : f_X5_turnQuarters o p0 h = some r) : fMet l yX5_turnQuarters (wsC yX5_turnQuarters cX5_turnQuarters 5 none) (0) (0) D cA [.ref o, .int p0] h r.2 none := by
  exact fMet.of (own := RX5) (by decide +kernel) rfl (lva1 rfl (lva1 rfl lva0)) (lgl1 rfl (lgl1 rfl lgl0)) (Nat.le_of_ble_eq_true rfl) (fun p e s m args below meth c ls hnm _ M hC hl => by
    have hl : lv_has ls 5 [(0, va_rf (some o)), (1, .int p0)] := hl
    exact w_X5_turnQuarters_L0 M hfl _ _ _ hf _ _ _ _ _ hC (lv_sub hl [0, 1] rfl))
set_option maxHeartbeats 4000000 in
set_option maxRecDepth 100000 in
theorem w_X6_countedTime_L23 {p : Program} {l : Launch} {e : Env} {s : State} {m : MethodId} {args : Array Value} {below : List Frame} {meth : Method} {c : Code} {D : va_G} {cA : Nat → ClassId} {h0 : fSt} {r : (Int32 × fSt)} (M : fM p s m args meth c D cA h0 { frames := 0, cells := fCB h0 - fZ h0, slots := fLB h0 - fL h0, locals := 0 } cX6_countedTime 7 (some (.int)) RX6) (hfl : l.stackTraces = false) (a1 : Int32) (h : fSt) (hf : f_X6_countedTime_L23 a1 h = some r) : ∀ (H : Heap) (locs : List Loc) (cells slots : Nat) (ls : Array Slot), fCur D cA s h0 h H locs → lv_has ls 7 [(1, .int a1)] → W p l e { frames := 0, cells := fCB h0 - fZ h0, slots := fLB h0 - fL h0, locals := 0 } s m args below meth c H locs cells slots (MQ below (fQ D cA h0 r.2 (some (.int r.1))) args s (fCB h0 - fZ h0) (fLB h0 - fL h0) (fA h0)) (F0 m 23 ls []) := by
  obtain ⟨hx, hb, hml, hr, hlocks, hts, hown, K, hR⟩ := id M
  intro H locs cells slots ls hC hl
  refine lv_iload_n hx hb dX6_countedTime_23 rfl (lv_at hl 0 rfl) ?_
  obtain rfl := Option.some.inj hf
  exact fr_iret hx hb hr hlocks hC dX6_countedTime_24
set_option maxHeartbeats 4000000 in
set_option maxRecDepth 100000 in
theorem w_X6_countedTime_L75 {p : Program} {l : Launch} {e : Env} {s : State} {m : MethodId} {args : Array Value} {below : List Frame} {meth : Method} {c : Code} {D : va_G} {cA : Nat → ClassId} {h0 : fSt} {r : (Int32 × fSt)} (M : fM p s m args meth c D cA h0 { frames := 0, cells := fCB h0 - fZ h0, slots := fLB h0 - fL h0, locals := 0 } cX6_countedTime 7 (some (.int)) RX6) (hfl : l.stackTraces = false) (s1 : Int32) (s0 : Int32) (h : fSt) (hf : f_X6_countedTime_L75 s1 s0 h = some r) : ∀ (H : Heap) (locs : List Loc) (cells slots : Nat) (ls : Array Slot), fCur D cA s h0 h H locs → lv_has ls 7 [] → W p l e { frames := 0, cells := fCB h0 - fZ h0, slots := fLB h0 - fL h0, locals := 0 } s m args below meth c H locs cells slots (MQ below (fQ D cA h0 r.2 (some (.int r.1))) args s (fCB h0 - fZ h0) (fLB h0 - fL h0) (fA h0)) (F0 m 75 ls [.int s1, .int s0]) := by
  obtain ⟨hx, hb, hml, hr, hlocks, hts, hown, K, hR⟩ := id M
  intro H locs cells slots ls hC hl
  refine lv_iadd hx hb dX6_countedTime_75 ?_
  obtain rfl := Option.some.inj hf
  exact fr_iret hx hb hr hlocks hC dX6_countedTime_76
set_option maxHeartbeats 4000000 in
set_option maxRecDepth 100000 in
theorem w_X6_countedTime_L0 {p : Program} {l : Launch} {e : Env} {s : State} {m : MethodId} {args : Array Value} {below : List Frame} {meth : Method} {c : Code} {D : va_G} {cA : Nat → ClassId} {h0 : fSt} {r : (Int32 × fSt)} (M : fM p s m args meth c D cA h0 { frames := 0, cells := fCB h0 - fZ h0, slots := fLB h0 - fL h0, locals := 0 } cX6_countedTime 7 (some (.int)) RX6) (hfl : l.stackTraces = false) (a0 : Option Nat) (a1 : Int32) (a2 : Int32) (a3 : Int32) (h : fSt) (hf : f_X6_countedTime_L0 a0 a1 a2 a3 h = some r) : ∀ (H : Heap) (locs : List Loc) (cells slots : Nat) (ls : Array Slot), fCur D cA s h0 h H locs → lv_has ls 7 [(0, va_rf a0), (1, .int a1), (2, .int a2), (3, .int a3)] → W p l e { frames := 0, cells := fCB h0 - fZ h0, slots := fLB h0 - fL h0, locals := 0 } s m args below meth c H locs cells slots (MQ below (fQ D cA h0 r.2 (some (.int r.1))) args s (fCB h0 - fZ h0) (fLB h0 - fL h0) (fA h0)) (F0 m 0 ls []) := by
  obtain ⟨hx, hb, hml, hr, hlocks, hts, hown, K, hR⟩ := id M
  intro H locs cells slots ls hC hl
  refine lv_iload_n hx hb dX6_countedTime_0 rfl (lv_at hl 3 rfl) ?_
  refine lv_iload_n hx hb dX6_countedTime_1 rfl (lv_at hl 2 rfl) ?_
  refine lv_isub hx hb dX6_countedTime_2 ?_
  refine lv_istore (lv' := [(4, .int (a3 - a2)), (0, va_rf a0), (1, .int a1), (2, .int a2), (3, .int a3)]) hx hb dX6_countedTime_3 hl (by decide) (congrArg (List.cons _) (flk rfl (flk rfl (flk rfl (flk rfl fln))))) (fun ls hl => ?_)
  refine fr_aload_n hx hb dX6_countedTime_5 rfl (lv_at hl 1 rfl) ?_
  obtain ⟨x1, g2, hf⟩ := obind hf
  refine fr_get hx hb hts hown K hC ct_6 (fgI_get g2) (by decide) kw432 rfl dX6_countedTime_6 ?_
  refine lv_if_eq (tgt := 23) hx hb dX6_countedTime_9 (by decide) (fun c3 => ?_) (fun c3 => ?_)
  · replace hf := opos c3 hf
    exact w_X6_countedTime_L23 M hfl _ _ hf _ _ _ _ _ hC (lv_sub hl [2] rfl)
  · replace hf := oneg c3 hf
    refine lv_iload_n hx hb dX6_countedTime_12 rfl (lv_at hl 2 rfl) ?_
    refine lv_iload_n hx hb dX6_countedTime_13 rfl (lv_at hl 4 rfl) ?_
    refine lv_icmp_le (tgt := 23) hx hb dX6_countedTime_14 (by decide) (fun c4 => ?_) (fun c4 => ?_)
    · replace hf := opos c4 hf
      exact w_X6_countedTime_L23 M hfl _ _ hf _ _ _ _ _ hC (lv_sub hl [2] rfl)
    · replace hf := oneg c4 hf
      refine lv_iload hx hb dX6_countedTime_17 (lv_at hl 0 rfl) ?_
      refine lv_iconst (v := (1 : Int32)) hx hb dX6_countedTime_19 (by decide) ?_
      refine lv_icmp_ge (tgt := 25) hx hb dX6_countedTime_20 (by decide) (fun c5 => ?_) (fun c5 => ?_)
      · replace hf := opos c5 hf
        refine lv_iload_n hx hb dX6_countedTime_25 rfl (lv_at hl 2 rfl) ?_
        refine lv_iload_n hx hb dX6_countedTime_26 rfl (lv_at hl 3 rfl) ?_
        refine lv_isub hx hb dX6_countedTime_27 ?_
        refine lv_istore (lv' := [(5, .int (a1 - a2)), (4, .int (a3 - a2)), (0, va_rf a0), (1, .int a1), (2, .int a2), (3, .int a3)]) hx hb dX6_countedTime_28 hl (by decide) (congrArg (List.cons _) (flk rfl (flk rfl (flk rfl (flk rfl (flk rfl fln)))))) (fun ls hl => ?_)
        refine fr_aload_n hx hb dX6_countedTime_30 rfl (lv_at hl 2 rfl) ?_
        obtain ⟨x6, g7, hf⟩ := obind hf
        refine fr_get hx hb hts hown K hC ct_6 (fgI_get g7) (by decide) kw432 rfl dX6_countedTime_31 ?_
        refine lv_iconst (v := (1 : Int32)) hx hb dX6_countedTime_34 (by decide) ?_
        refine lv_icmp_ne (tgt := 46) hx hb dX6_countedTime_35 (by decide) (fun c8 => ?_) (fun c8 => ?_)
        · replace hf := oneg c8 hf
          refine lv_iload hx hb dX6_countedTime_46 (lv_at hl 0 rfl) ?_
          refine lv_iconst (v := (2 : Int32)) hx hb dX6_countedTime_48 (by decide) ?_
          refine lv_iload hx hb dX6_countedTime_49 (lv_at hl 1 rfl) ?_
          refine lv_imul hx hb dX6_countedTime_51 ?_
          by_cases c9 : ((2 : Int32) * (a3 - a2)) = 0
          · exact nomatch (opos c9 hf)
          replace hf := oneg c9 hf
          refine lv_irem hx hb dX6_countedTime_52 c9 ?_
          refine lv_istore (lv' := [(6, .int ((a1 - a2) - (a1 - a2) / ((2 : Int32) * (a3 - a2)) * ((2 : Int32) * (a3 - a2)))), (5, .int (a1 - a2)), (4, .int (a3 - a2)), (0, va_rf a0), (1, .int a1), (2, .int a2), (3, .int a3)]) hx hb dX6_countedTime_53 hl (by decide) (congrArg (List.cons _) (flk rfl (flk rfl (flk rfl (flk rfl (flk rfl (flk rfl fln))))))) (fun ls hl => ?_)
          refine lv_iload_n hx hb dX6_countedTime_55 rfl (lv_at hl 5 rfl) ?_
          refine lv_iload hx hb dX6_countedTime_56 (lv_at hl 0 rfl) ?_
          refine lv_iload hx hb dX6_countedTime_58 (lv_at hl 2 rfl) ?_
          refine lv_icmp_gt (tgt := 68) hx hb dX6_countedTime_60 (by decide) (fun c10 => ?_) (fun c10 => ?_)
          · replace hf := opos c10 hf
            refine lv_iconst (v := (2 : Int32)) hx hb dX6_countedTime_68 (by decide) ?_
            refine lv_iload hx hb dX6_countedTime_69 (lv_at hl 2 rfl) ?_
            refine lv_imul hx hb dX6_countedTime_71 ?_
            refine lv_iload hx hb dX6_countedTime_72 (lv_at hl 0 rfl) ?_
            refine lv_isub hx hb dX6_countedTime_74 ?_
            exact w_X6_countedTime_L75 M hfl _ _ _ hf _ _ _ _ _ hC (lv_sub hl [] rfl)
          · replace hf := oneg c10 hf
            refine lv_iload hx hb dX6_countedTime_63 (lv_at hl 0 rfl) ?_
            refine lv_goto (tgt := 75) hx hb dX6_countedTime_65 (by decide) ?_
            exact w_X6_countedTime_L75 M hfl _ _ _ hf _ _ _ _ _ hC (lv_sub hl [] rfl)
        · replace hf := opos c8 hf
          refine lv_iload_n hx hb dX6_countedTime_38 rfl (lv_at hl 4 rfl) ?_
          refine lv_iload hx hb dX6_countedTime_39 (lv_at hl 0 rfl) ?_
          refine lv_iload hx hb dX6_countedTime_41 (lv_at hl 1 rfl) ?_
          by_cases c11 : (a3 - a2) = 0
          · exact nomatch (opos c11 hf)
          replace hf := oneg c11 hf
          refine lv_irem hx hb dX6_countedTime_43 c11 ?_
          refine lv_iadd hx hb dX6_countedTime_44 ?_
          obtain rfl := Option.some.inj hf
          exact fr_iret hx hb hr hlocks hC dX6_countedTime_45
      · replace hf := oneg c5 hf
        exact w_X6_countedTime_L23 M hfl _ _ hf _ _ _ _ _ hC (lv_sub hl [2] rfl)
set_option maxRecDepth 100000 in
theorem c_X6_countedTime {l : Launch} (hfl : l.stackTraces = false) (D : va_G) (cA : Nat → ClassId) {o : Nat} {p0 : Int32} {p1 : Int32} {p2 : Int32} {h : fSt} {r : (Int32 × fSt)} (hf : f_X6_countedTime o p0 p1 p2 h = some r) : fMet l yX6_countedTime (wsC yX6_countedTime cX6_countedTime 7 (some (.int))) (0) (0) D cA [.ref o, .int p0, .int p1, .int p2] h r.2 (some (.int r.1)) := by
  exact fMet.of (own := RX6) (by decide +kernel) rfl (lva1 rfl (lva1 rfl (lva1 rfl (lva1 rfl lva0)))) (lgl1 rfl (lgl1 rfl (lgl1 rfl (lgl1 rfl lgl0)))) (Nat.le_of_ble_eq_true rfl) (fun p e s m args below meth c ls hnm _ M hC hl => by
    have hl : lv_has ls 7 [(0, va_rf (some o)), (1, .int p0), (2, .int p1), (3, .int p2)] := hl
    exact w_X6_countedTime_L0 M hfl _ _ _ _ _ hf _ _ _ _ _ hC (lv_sub hl [0, 1, 2, 3] rfl))
set_option maxHeartbeats 4000000 in
set_option maxRecDepth 100000 in
theorem w_X6_lastKeyUpTo_L29 {p : Program} {l : Launch} {e : Env} {s : State} {m : MethodId} {args : Array Value} {below : List Frame} {meth : Method} {c : Code} {D : va_G} {cA : Nat → ClassId} {h0 : fSt} {r : (Option Nat × fSt)} (M : fM p s m args meth c D cA h0 { frames := 0, cells := fCB h0 - fZ h0, slots := fLB h0 - fL h0, locals := 0 } cX6_lastKeyUpTo 4 (some (.object "TapestryScene$Key")) RX6) (hfl : l.stackTraces = false) (a2 : Option Nat) (h : fSt) (hf : f_X6_lastKeyUpTo_L29 a2 h = some r) : ∀ (H : Heap) (locs : List Loc) (cells slots : Nat) (ls : Array Slot), fCur D cA s h0 h H locs → lv_has ls 4 [(2, va_rf a2)] → W p l e { frames := 0, cells := fCB h0 - fZ h0, slots := fLB h0 - fL h0, locals := 0 } s m args below meth c H locs cells slots (MQ below (fQ D cA h0 r.2 (some (va_rf r.1))) args s (fCB h0 - fZ h0) (fLB h0 - fL h0) (fA h0)) (F0 m 29 ls []) := by
  obtain ⟨hx, hb, hml, hr, hlocks, hts, hown, K, hR⟩ := id M
  intro H locs cells slots ls hC hl
  refine fr_aload_n hx hb dX6_lastKeyUpTo_29 rfl (lv_at hl 0 rfl) ?_
  obtain rfl := Option.some.inj hf
  exact fr_aret hx hb hr (Or.inl ⟨_, rfl⟩) hlocks hC dX6_lastKeyUpTo_30
set_option maxHeartbeats 4000000 in
set_option maxRecDepth 100000 in
theorem w_X6_lastKeyUpTo_L7 {p : Program} {l : Launch} {e : Env} {s : State} {m : MethodId} {args : Array Value} {below : List Frame} {meth : Method} {c : Code} {D : va_G} {cA : Nat → ClassId} {h0 : fSt} {r : (Option Nat × fSt)} (M : fM p s m args meth c D cA h0 { frames := 0, cells := fCB h0 - fZ h0, slots := fLB h0 - fL h0, locals := 0 } cX6_lastKeyUpTo 4 (some (.object "TapestryScene$Key")) RX6) (hfl : l.stackTraces = false) : ∀ (n : Nat) (a1 : Int32) (a2 : Option Nat) (a3 : Option Nat) (h : fSt), f_X6_lastKeyUpTo_L7 n a1 a2 a3 h = some r → ∀ (H : Heap) (locs : List Loc) (cells slots : Nat) (ls : Array Slot), fCur D cA s h0 h H locs → lv_has ls 4 [(1, .int a1), (2, va_rf a2), (3, va_rf a3)] → W p l e { frames := 0, cells := fCB h0 - fZ h0, slots := fLB h0 - fL h0, locals := 0 } s m args below meth c H locs cells slots (MQ below (fQ D cA h0 r.2 (some (va_rf r.1))) args s (fCB h0 - fZ h0) (fLB h0 - fL h0) (fA h0)) (F0 m 7 ls []) := by
  obtain ⟨hx, hb, hml, hr, hlocks, hts, hown, K, hR⟩ := id M
  intro n
  induction n with
  | zero =>
    intro a1 a2 a3 h hf
    exact nomatch (show (none : Option (Option Nat × fSt)) = some r from hf)
  | succ n hk7 =>
    intro a1 a2 a3 h hf H locs cells slots ls hC hl
    refine fr_aload_n hx hb dX6_lastKeyUpTo_7 rfl (lv_at hl 2 rfl) ?_
    refine fr_ifnull (tgt := 29) hx hb dX6_lastKeyUpTo_8 (by decide) (fun c1 => ?_) (fun c1 => ?_)
    · replace hf := opos c1 hf
      exact w_X6_lastKeyUpTo_L29 M hfl _ _ hf _ _ _ _ _ hC (lv_sub hl [1] rfl)
    · replace hf := oneg c1 hf
      refine fr_aload_n hx hb dX6_lastKeyUpTo_11 rfl (lv_at hl 2 rfl) ?_
      obtain ⟨x2, g3, hf⟩ := obind hf
      refine fr_get hx hb hts hown K hC ct_3 (fgI_get g3) (by decide) kw912 rfl dX6_lastKeyUpTo_12 ?_
      refine lv_iload_n hx hb dX6_lastKeyUpTo_15 rfl (lv_at hl 0 rfl) ?_
      refine lv_icmp_gt (tgt := 29) hx hb dX6_lastKeyUpTo_16 (by decide) (fun c4 => ?_) (fun c4 => ?_)
      · replace hf := opos c4 hf
        exact w_X6_lastKeyUpTo_L29 M hfl _ _ hf _ _ _ _ _ hC (lv_sub hl [1] rfl)
      · replace hf := oneg c4 hf
        refine fr_aload_n hx hb dX6_lastKeyUpTo_19 rfl (lv_at hl 2 rfl) ?_
        refine fr_astore_n (lv' := [(2, va_rf a3), (1, .int a1), (3, va_rf a3)]) hx hb dX6_lastKeyUpTo_20 rfl hl (by decide) (congrArg (List.cons _) (flk rfl (fld rfl (flk rfl fln)))) (fun ls hl => ?_)
        refine fr_aload_n hx hb dX6_lastKeyUpTo_21 rfl (lv_at hl 2 rfl) ?_
        obtain ⟨x5, g6, hf⟩ := obind hf
        refine fr_get hx hb hts hown K hC ct_3 (fgR_get g6) (by decide) kw915 rfl dX6_lastKeyUpTo_22 ?_
        refine fr_astore_n (lv' := [(3, va_rf x5), (2, va_rf a3), (1, .int a1)]) hx hb dX6_lastKeyUpTo_25 rfl hl (by decide) (congrArg (List.cons _) (flk (adj1 _ _) (flk rfl (fld rfl fln)))) (fun ls hl => ?_)
        refine lv_goto (tgt := 7) hx hb dX6_lastKeyUpTo_26 (by decide) ?_
        exact hk7 _ _ _ _ hf _ _ _ _ _ hC (lv_sub hl [2, 1, 0] rfl)
set_option maxHeartbeats 4000000 in
set_option maxRecDepth 100000 in
theorem w_X6_lastKeyUpTo_L0 {p : Program} {l : Launch} {e : Env} {s : State} {m : MethodId} {args : Array Value} {below : List Frame} {meth : Method} {c : Code} {D : va_G} {cA : Nat → ClassId} {h0 : fSt} {r : (Option Nat × fSt)} (M : fM p s m args meth c D cA h0 { frames := 0, cells := fCB h0 - fZ h0, slots := fLB h0 - fL h0, locals := 0 } cX6_lastKeyUpTo 4 (some (.object "TapestryScene$Key")) RX6) (hfl : l.stackTraces = false) (a0 : Option Nat) (a1 : Int32) (h : fSt) (hf : f_X6_lastKeyUpTo_L0 a0 a1 h = some r) : ∀ (H : Heap) (locs : List Loc) (cells slots : Nat) (ls : Array Slot), fCur D cA s h0 h H locs → lv_has ls 4 [(0, va_rf a0), (1, .int a1)] → W p l e { frames := 0, cells := fCB h0 - fZ h0, slots := fLB h0 - fL h0, locals := 0 } s m args below meth c H locs cells slots (MQ below (fQ D cA h0 r.2 (some (va_rf r.1))) args s (fCB h0 - fZ h0) (fLB h0 - fL h0) (fA h0)) (F0 m 0 ls []) := by
  obtain ⟨hx, hb, hml, hr, hlocks, hts, hown, K, hR⟩ := id M
  intro H locs cells slots ls hC hl
  refine fr_null hx hb dX6_lastKeyUpTo_0 ?_
  refine fr_astore_n (lv' := [(2, va_rf none), (0, va_rf a0), (1, .int a1)]) hx hb dX6_lastKeyUpTo_1 rfl hl (by decide) (congrArg (List.cons _) (flk rfl (flk rfl fln))) (fun ls hl => ?_)
  refine fr_aload_n hx hb dX6_lastKeyUpTo_2 rfl (lv_at hl 1 rfl) ?_
  obtain ⟨x7, g8, hf⟩ := obind hf
  refine fr_get hx hb hts hown K hC ct_6 (fgR_get g8) (by decide) kw434 rfl dX6_lastKeyUpTo_3 ?_
  refine fr_astore_n (lv' := [(3, va_rf x7), (2, va_rf none), (0, va_rf a0), (1, .int a1)]) hx hb dX6_lastKeyUpTo_6 rfl hl (by decide) (congrArg (List.cons _) (flk (adj1 _ _) (flk rfl (flk rfl fln)))) (fun ls hl => ?_)
  exact w_X6_lastKeyUpTo_L7 M hfl 4096 _ _ _ _ hf _ _ _ _ _ hC (lv_sub hl [3, 1, 0] rfl)
set_option maxRecDepth 100000 in
theorem c_X6_lastKeyUpTo {l : Launch} (hfl : l.stackTraces = false) (D : va_G) (cA : Nat → ClassId) {o : Nat} {p0 : Int32} {h : fSt} {r : (Option Nat × fSt)} (hf : f_X6_lastKeyUpTo o p0 h = some r) : fMet l yX6_lastKeyUpTo (wsC yX6_lastKeyUpTo cX6_lastKeyUpTo 4 (some (.object "TapestryScene$Key"))) (0) (0) D cA [.ref o, .int p0] h r.2 (some (va_rf r.1)) := by
  exact fMet.of (own := RX6) (by decide +kernel) rfl (lva1 rfl (lva1 rfl lva0)) (lgl1 rfl (lgl1 rfl lgl0)) (Nat.le_of_ble_eq_true rfl) (fun p e s m args below meth c ls hnm _ M hC hl => by
    have hl : lv_has ls 4 [(0, va_rf (some o)), (1, .int p0)] := hl
    exact w_X6_lastKeyUpTo_L0 M hfl _ _ _ hf _ _ _ _ _ hC (lv_sub hl [0, 1] rfl))
set_option maxHeartbeats 4000000 in
set_option maxRecDepth 100000 in
theorem w_X6_valueFrom_L16 {p : Program} {l : Launch} {e : Env} {s : State} {m : MethodId} {args : Array Value} {below : List Frame} {meth : Method} {c : Code} {D : va_G} {cA : Nat → ClassId} {h0 : fSt} {r : (Int32 × fSt)} (M : fM p s m args meth c D cA h0 { frames := 0, cells := fCB h0 - fZ h0, slots := fLB h0 - fL h0, locals := 0 } cX6_valueFrom 10 (some (.int)) RX6) (hfl : l.stackTraces = false) (a1 : Option Nat) (h : fSt) (hf : f_X6_valueFrom_L16 a1 h = some r) : ∀ (H : Heap) (locs : List Loc) (cells slots : Nat) (ls : Array Slot), fCur D cA s h0 h H locs → lv_has ls 10 [(1, va_rf a1)] → W p l e { frames := 0, cells := fCB h0 - fZ h0, slots := fLB h0 - fL h0, locals := 0 } s m args below meth c H locs cells slots (MQ below (fQ D cA h0 r.2 (some (.int r.1))) args s (fCB h0 - fZ h0) (fLB h0 - fL h0) (fA h0)) (F0 m 16 ls []) := by
  obtain ⟨hx, hb, hml, hr, hlocks, hts, hown, K, hR⟩ := id M
  intro H locs cells slots ls hC hl
  refine fr_aload_n hx hb dX6_valueFrom_16 rfl (lv_at hl 0 rfl) ?_
  obtain ⟨x1, g2, hf⟩ := obind hf
  refine fr_get hx hb hts hown K hC ct_3 (fgI_get g2) (by decide) kw914 rfl dX6_valueFrom_17 ?_
  obtain rfl := Option.some.inj hf
  exact fr_iret hx hb hr hlocks hC dX6_valueFrom_20
set_option maxHeartbeats 4000000 in
set_option maxRecDepth 100000 in
theorem w_X6_valueFrom_L0 {p : Program} {l : Launch} {e : Env} {s : State} {m : MethodId} {args : Array Value} {below : List Frame} {meth : Method} {c : Code} {D : va_G} {cA : Nat → ClassId} {h0 : fSt} {r : (Int32 × fSt)} (M : fM p s m args meth c D cA h0 { frames := 0, cells := fCB h0 - fZ h0, slots := fLB h0 - fL h0, locals := 0 } cX6_valueFrom 10 (some (.int)) RX6) (hfl : l.stackTraces = false) (a0 : Option Nat) (a1 : Option Nat) (a2 : Int32) (h : fSt) (hf : f_X6_valueFrom_L0 a0 a1 a2 h = some r) : ∀ (H : Heap) (locs : List Loc) (cells slots : Nat) (ls : Array Slot), fCur D cA s h0 h H locs → lv_has ls 10 [(0, va_rf a0), (1, va_rf a1), (2, .int a2)] → W p l e { frames := 0, cells := fCB h0 - fZ h0, slots := fLB h0 - fL h0, locals := 0 } s m args below meth c H locs cells slots (MQ below (fQ D cA h0 r.2 (some (.int r.1))) args s (fCB h0 - fZ h0) (fLB h0 - fL h0) (fA h0)) (F0 m 0 ls []) := by
  obtain ⟨hx, hb, hml, hr, hlocks, hts, hown, K, hR⟩ := id M
  intro H locs cells slots ls hC hl
  refine fr_aload_n hx hb dX6_valueFrom_0 rfl (lv_at hl 1 rfl) ?_
  obtain ⟨x3, g4, hf⟩ := obind hf
  refine fr_get hx hb hts hown K hC ct_3 (fgR_get g4) (by decide) kw915 rfl dX6_valueFrom_1 ?_
  refine fr_astore_n (lv' := [(3, va_rf x3), (0, va_rf a0), (1, va_rf a1), (2, .int a2)]) hx hb dX6_valueFrom_4 rfl hl (by decide) (congrArg (List.cons _) (flk rfl (flk rfl (flk rfl fln)))) (fun ls hl => ?_)
  refine fr_aload_n hx hb dX6_valueFrom_5 rfl (lv_at hl 0 rfl) ?_
  refine fr_ifnull (tgt := 16) hx hb dX6_valueFrom_6 (by decide) (fun c5 => ?_) (fun c5 => ?_)
  · replace hf := opos c5 hf
    exact w_X6_valueFrom_L16 M hfl _ _ hf _ _ _ _ _ hC (lv_sub hl [2] rfl)
  · replace hf := oneg c5 hf
    refine fr_aload_n hx hb dX6_valueFrom_9 rfl (lv_at hl 1 rfl) ?_
    obtain ⟨x6, g7, hf⟩ := obind hf
    refine fr_get hx hb hts hown K hC ct_6 (fgI_get g7) (by decide) kw430 rfl dX6_valueFrom_10 ?_
    refine lv_if_ne (tgt := 21) hx hb dX6_valueFrom_13 (by decide) (fun c8 => ?_) (fun c8 => ?_)
    · replace hf := oneg c8 hf
      refine lv_iload_n hx hb dX6_valueFrom_21 rfl (lv_at hl 3 rfl) ?_
      refine fr_aload_n hx hb dX6_valueFrom_22 rfl (lv_at hl 2 rfl) ?_
      obtain ⟨x9, g10, hf⟩ := obind hf
      refine fr_get hx hb hts hown K hC ct_3 (fgI_get g10) (by decide) kw912 rfl dX6_valueFrom_23 ?_
      refine lv_isub hx hb dX6_valueFrom_26 ?_
      refine lv_i2l (v := (Int32.toInt64 (a2 - x9))) hx hb dX6_valueFrom_27 rfl ?_
      refine lv_lstore (lv' := [(4, .long (Int32.toInt64 (a2 - x9))), (3, va_rf x3), (0, va_rf a0), (1, va_rf a1), (2, .int a2)]) hx hb dX6_valueFrom_28 hl (by decide) (congrArg (List.cons _) (flk (adj2 _ _) (flk rfl (flk rfl (flk rfl fln))))) (fun ls hl => ?_)
      refine fr_aload_n hx hb dX6_valueFrom_30 rfl (lv_at hl 1 rfl) ?_
      obtain ⟨x11, g12, hf⟩ := obind hf
      refine fr_get hx hb hts hown K hC ct_3 (fgI_get g12) (by decide) kw912 rfl dX6_valueFrom_31 ?_
      refine fr_aload_n hx hb dX6_valueFrom_34 rfl (lv_at hl 3 rfl) ?_
      obtain ⟨x13, g14, hf⟩ := obind hf
      refine fr_get hx hb hts hown K hC ct_3 (fgI_get g14) (by decide) kw912 rfl dX6_valueFrom_35 ?_
      refine lv_isub hx hb dX6_valueFrom_38 ?_
      refine lv_i2l (v := (Int32.toInt64 (x11 - x13))) hx hb dX6_valueFrom_39 rfl ?_
      refine lv_lstore (lv' := [(6, .long (Int32.toInt64 (x11 - x13))), (4, .long (Int32.toInt64 (a2 - x9))), (3, va_rf x3), (0, va_rf a0), (1, va_rf a1), (2, .int a2)]) hx hb dX6_valueFrom_40 hl (by decide) (congrArg (List.cons _) (flk rfl (flk rfl (flk rfl (flk rfl (flk rfl fln)))))) (fun ls hl => ?_)
      refine lv_lload hx hb dX6_valueFrom_42 (lv_at hl 0 rfl) ?_
      refine lv_lconst (v := (1 : Int64)) hx hb dX6_valueFrom_44 (by decide) ?_
      refine fr_lcmp_ge (tgt := 54) hx hb dX6_valueFrom_45 dX6_valueFrom_46 (by decide) (fun c15 => ?_) (fun c15 => ?_)
      · replace hf := opos c15 hf
        refine fr_aload_n hx hb dX6_valueFrom_54 rfl (lv_at hl 2 rfl) ?_
        obtain ⟨x16, g17, hf⟩ := obind hf
        refine fr_get hx hb hts hown K hC ct_3 (fgI_get g17) (by decide) kw914 rfl dX6_valueFrom_55 ?_
        refine fr_aload_n hx hb dX6_valueFrom_58 rfl (lv_at hl 4 rfl) ?_
        obtain ⟨x18, g19, hf⟩ := obind hf
        refine fr_get hx hb hts hown K hC ct_3 (fgI_get g19) (by decide) kw914 rfl dX6_valueFrom_59 ?_
        refine lv_isub hx hb dX6_valueFrom_62 ?_
        refine lv_i2l (v := (Int32.toInt64 (x16 - x18))) hx hb dX6_valueFrom_63 rfl ?_
        refine lv_lstore (lv' := [(8, .long (Int32.toInt64 (x16 - x18))), (6, .long (Int32.toInt64 (x11 - x13))), (4, .long (Int32.toInt64 (a2 - x9))), (3, va_rf x3), (0, va_rf a0), (1, va_rf a1), (2, .int a2)]) hx hb dX6_valueFrom_64 hl (by decide) (congrArg (List.cons _) (flk rfl (flk rfl (flk rfl (flk rfl (flk rfl (flk rfl fln))))))) (fun ls hl => ?_)
        refine fr_aload_n hx hb dX6_valueFrom_66 rfl (lv_at hl 4 rfl) ?_
        obtain ⟨x20, g21, hf⟩ := obind hf
        refine fr_get hx hb hts hown K hC ct_6 (fgI_get g21) (by decide) kw430 rfl dX6_valueFrom_67 ?_
        refine lv_iconst (v := (1 : Int32)) hx hb dX6_valueFrom_70 (by decide) ?_
        refine lv_icmp_ne (tgt := 90) hx hb dX6_valueFrom_71 (by decide) (fun c22 => ?_) (fun c22 => ?_)
        · replace hf := oneg c22 hf
          refine fr_aload_n hx hb dX6_valueFrom_90 rfl (lv_at hl 5 rfl) ?_
          obtain ⟨x23, g24, hf⟩ := obind hf
          refine fr_get hx hb hts hown K hC ct_3 (fgI_get g24) (by decide) kw914 rfl dX6_valueFrom_91 ?_
          refine lv_i2l (v := (Int32.toInt64 x23)) hx hb dX6_valueFrom_94 rfl ?_
          refine lv_lload hx hb dX6_valueFrom_95 (lv_at hl 0 rfl) ?_
          refine lv_lload hx hb dX6_valueFrom_97 (lv_at hl 2 rfl) ?_
          refine lv_lmul hx hb dX6_valueFrom_99 ?_
          refine lv_lload hx hb dX6_valueFrom_100 (lv_at hl 2 rfl) ?_
          refine lv_lmul hx hb dX6_valueFrom_102 ?_
          refine fr_ldc2 (v := (3 : Int64)) hx hb hts hown kw209 dX6_valueFrom_103 ?_
          refine lv_lload hx hb dX6_valueFrom_106 (lv_at hl 1 rfl) ?_
          refine lv_lmul hx hb dX6_valueFrom_108 ?_
          refine fr_ldc2 (v := (2 : Int64)) hx hb hts hown kw210 dX6_valueFrom_109 ?_
          refine lv_lload hx hb dX6_valueFrom_112 (lv_at hl 2 rfl) ?_
          refine lv_lmul hx hb dX6_valueFrom_114 ?_
          refine lv_lsub hx hb dX6_valueFrom_115 ?_
          refine lv_lmul hx hb dX6_valueFrom_116 ?_
          refine lv_lload hx hb dX6_valueFrom_117 (lv_at hl 1 rfl) ?_
          refine lv_lload hx hb dX6_valueFrom_119 (lv_at hl 1 rfl) ?_
          refine lv_lmul hx hb dX6_valueFrom_121 ?_
          refine lv_lload hx hb dX6_valueFrom_122 (lv_at hl 1 rfl) ?_
          refine lv_lmul hx hb dX6_valueFrom_124 ?_
          by_cases c25 : (((Int32.toInt64 (x11 - x13)) * (Int32.toInt64 (x11 - x13))) * (Int32.toInt64 (x11 - x13))) = 0
          · exact nomatch (opos c25 hf)
          replace hf := oneg c25 hf
          refine lv_ldiv hx hb dX6_valueFrom_125 c25 ?_
          refine lv_ladd hx hb dX6_valueFrom_126 ?_
          refine lv_l2i (v := (Int64.toInt32 ((Int32.toInt64 x23) + (((((Int32.toInt64 (x16 - x18)) * (Int32.toInt64 (a2 - x9))) * (Int32.toInt64 (a2 - x9))) * (((3 : Int64) * (Int32.toInt64 (x11 - x13))) - ((2 : Int64) * (Int32.toInt64 (a2 - x9))))) / (((Int32.toInt64 (x11 - x13)) * (Int32.toInt64 (x11 - x13))) * (Int32.toInt64 (x11 - x13))))))) hx hb dX6_valueFrom_127 rfl ?_
          obtain rfl := Option.some.inj hf
          exact fr_iret hx hb hr hlocks hC dX6_valueFrom_128
        · replace hf := opos c22 hf
          refine fr_aload_n hx hb dX6_valueFrom_74 rfl (lv_at hl 5 rfl) ?_
          obtain ⟨x26, g27, hf⟩ := obind hf
          refine fr_get hx hb hts hown K hC ct_3 (fgI_get g27) (by decide) kw914 rfl dX6_valueFrom_75 ?_
          refine lv_i2l (v := (Int32.toInt64 x26)) hx hb dX6_valueFrom_78 rfl ?_
          refine lv_lload hx hb dX6_valueFrom_79 (lv_at hl 0 rfl) ?_
          refine lv_lload hx hb dX6_valueFrom_81 (lv_at hl 2 rfl) ?_
          refine lv_lmul hx hb dX6_valueFrom_83 ?_
          refine lv_lload hx hb dX6_valueFrom_84 (lv_at hl 1 rfl) ?_
          by_cases c28 : (Int32.toInt64 (x11 - x13)) = 0
          · exact nomatch (opos c28 hf)
          replace hf := oneg c28 hf
          refine lv_ldiv hx hb dX6_valueFrom_86 c28 ?_
          refine lv_ladd hx hb dX6_valueFrom_87 ?_
          refine lv_l2i (v := (Int64.toInt32 ((Int32.toInt64 x26) + (((Int32.toInt64 (x16 - x18)) * (Int32.toInt64 (a2 - x9))) / (Int32.toInt64 (x11 - x13)))))) hx hb dX6_valueFrom_88 rfl ?_
          obtain rfl := Option.some.inj hf
          exact fr_iret hx hb hr hlocks hC dX6_valueFrom_89
      · replace hf := oneg c15 hf
        refine fr_aload_n hx hb dX6_valueFrom_49 rfl (lv_at hl 4 rfl) ?_
        obtain ⟨x29, g30, hf⟩ := obind hf
        refine fr_get hx hb hts hown K hC ct_3 (fgI_get g30) (by decide) kw914 rfl dX6_valueFrom_50 ?_
        obtain rfl := Option.some.inj hf
        exact fr_iret hx hb hr hlocks hC dX6_valueFrom_53
    · replace hf := opos c8 hf
      exact w_X6_valueFrom_L16 M hfl _ _ hf _ _ _ _ _ hC (lv_sub hl [2] rfl)
set_option maxRecDepth 100000 in
theorem c_X6_valueFrom {l : Launch} (hfl : l.stackTraces = false) (D : va_G) (cA : Nat → ClassId) {o : Nat} {p0 : Option Nat} {p1 : Int32} {h : fSt} {r : (Int32 × fSt)} (hf : f_X6_valueFrom o p0 p1 h = some r) : fMet l yX6_valueFrom (wsC yX6_valueFrom cX6_valueFrom 10 (some (.int))) (0) (0) D cA [.ref o, va_rf p0, .int p1] h r.2 (some (.int r.1)) := by
  exact fMet.of (own := RX6) (by decide +kernel) rfl (lva1 rfl (lva1 (va_rf_cat _) (lva1 rfl lva0))) (lgl1 rfl (lgl1 (va_rf_cat _) (lgl1 rfl lgl0))) (Nat.le_of_ble_eq_true rfl) (fun p e s m args below meth c ls hnm _ M hC hl => by
    have hl : lv_has ls 10 [(0, va_rf (some o)), (1, va_rf p0), (2, .int p1)] := hl
    exact w_X6_valueFrom_L0 M hfl _ _ _ _ hf _ _ _ _ _ hC (lv_sub hl [0, 1, 2] rfl))
set_option maxHeartbeats 4000000 in
set_option maxRecDepth 100000 in
theorem w_X6_at_L74 {p : Program} {l : Launch} {e : Env} {s : State} {m : MethodId} {args : Array Value} {below : List Frame} {meth : Method} {c : Code} {D : va_G} {cA : Nat → ClassId} {h0 : fSt} {r : (Int32 × fSt)} (M : fM p s m args meth c D cA h0 { frames := 1, cells := fCB h0 - fZ h0, slots := fLB h0 - fL h0, locals := 29 } cX6_at 4 (some (.int)) RX6) (hfl : l.stackTraces = false) (s0 : Int32) (h : fSt) (hf : f_X6_at_L74 s0 h = some r) : ∀ (H : Heap) (locs : List Loc) (cells slots : Nat) (ls : Array Slot), fCur D cA s h0 h H locs → lv_has ls 4 [] → W p l e { frames := 1, cells := fCB h0 - fZ h0, slots := fLB h0 - fL h0, locals := 29 } s m args below meth c H locs cells slots (MQ below (fQ D cA h0 r.2 (some (.int r.1))) args s (fCB h0 - fZ h0) (fLB h0 - fL h0) (fA h0)) (F0 m 74 ls [.int s0]) := by
  obtain ⟨hx, hb, hml, hr, hlocks, hts, hown, K, hR⟩ := id M
  intro H locs cells slots ls hC hl
  obtain rfl := Option.some.inj hf
  exact fr_iret hx hb hr hlocks hC dX6_at_74
set_option maxHeartbeats 4000000 in
set_option maxRecDepth 100000 in
theorem w_X6_at_L54 {p : Program} {l : Launch} {e : Env} {s : State} {m : MethodId} {args : Array Value} {below : List Frame} {meth : Method} {c : Code} {D : va_G} {cA : Nat → ClassId} {h0 : fSt} {r : (Int32 × fSt)} (M : fM p s m args meth c D cA h0 { frames := 1, cells := fCB h0 - fZ h0, slots := fLB h0 - fL h0, locals := 29 } cX6_at 4 (some (.int)) RX6) (hfl : l.stackTraces = false) (a0 : Option Nat) (a2 : Int32) (a3 : Option Nat) (h : fSt) (hf : f_X6_at_L54 a0 a2 a3 h = some r) : ∀ (H : Heap) (locs : List Loc) (cells slots : Nat) (ls : Array Slot), fCur D cA s h0 h H locs → lv_has ls 4 [(0, va_rf a0), (2, .int a2), (3, va_rf a3)] → W p l e { frames := 1, cells := fCB h0 - fZ h0, slots := fLB h0 - fL h0, locals := 29 } s m args below meth c H locs cells slots (MQ below (fQ D cA h0 r.2 (some (.int r.1))) args s (fCB h0 - fZ h0) (fLB h0 - fL h0) (fA h0)) (F0 m 54 ls []) := by
  obtain ⟨hx, hb, hml, hr, hlocks, hts, hown, K, hR⟩ := id M
  intro H locs cells slots ls hC hl
  refine fr_aload_n hx hb dX6_at_54 rfl (lv_at hl 2 rfl) ?_
  refine fr_ifnonnull (tgt := 68) hx hb dX6_at_55 (by decide) (fun c1 => ?_) (fun c1 => ?_)
  · replace hf := oneg c1 hf
    refine fr_aload_n hx hb dX6_at_68 rfl (lv_at hl 0 rfl) ?_
    refine fr_aload_n hx hb dX6_at_69 rfl (lv_at hl 2 rfl) ?_
    refine lv_iload_n hx hb dX6_at_70 rfl (lv_at hl 1 rfl) ?_
    obtain ⟨b4, q5, hf⟩ := obind hf
    obtain ⟨r2, g3, hf⟩ := obind hf
    refine fr_callV hx hb hml hts hown K hC hR ct_6 (c_X6_valueFrom hfl D cA g3) 2 q5 kw208 kw205 kw207 kw6 kw25 (by decide +kernel) ⟨by exact Nat.le_of_ble_eq_true rfl, by exact Nat.le_of_ble_eq_true rfl⟩ rfl hl.1 (cat8 _ (by exact Nat.le_of_ble_eq_true rfl)) dX6_at_71 rfl (fun H locs _ _ hC => ?_)
    exact w_X6_at_L74 M hfl _ _ hf _ _ _ _ _ hC (lv_sub hl [] rfl)
  · replace hf := opos c1 hf
    refine fr_aload_n hx hb dX6_at_58 rfl (lv_at hl 0 rfl) ?_
    obtain ⟨x6, g7, hf⟩ := obind hf
    refine fr_get hx hb hts hown K hC ct_6 (fgR_get g7) (by decide) kw434 rfl dX6_at_59 ?_
    obtain ⟨x8, g9, hf⟩ := obind hf
    refine fr_get hx hb hts hown K hC ct_3 (fgI_get g9) (by decide) kw914 rfl dX6_at_62 ?_
    refine lv_goto (tgt := 74) hx hb dX6_at_65 (by decide) ?_
    exact w_X6_at_L74 M hfl _ _ hf _ _ _ _ _ hC (lv_sub hl [] rfl)
set_option maxHeartbeats 4000000 in
set_option maxRecDepth 100000 in
theorem w_X6_at_L0 {p : Program} {l : Launch} {e : Env} {s : State} {m : MethodId} {args : Array Value} {below : List Frame} {meth : Method} {c : Code} {D : va_G} {cA : Nat → ClassId} {h0 : fSt} {r : (Int32 × fSt)} (M : fM p s m args meth c D cA h0 { frames := 1, cells := fCB h0 - fZ h0, slots := fLB h0 - fL h0, locals := 29 } cX6_at 4 (some (.int)) RX6) (hfl : l.stackTraces = false) (a0 : Option Nat) (a1 : Int32) (h : fSt) (hf : f_X6_at_L0 a0 a1 h = some r) : ∀ (H : Heap) (locs : List Loc) (cells slots : Nat) (ls : Array Slot), fCur D cA s h0 h H locs → lv_has ls 4 [(0, va_rf a0), (1, .int a1)] → W p l e { frames := 1, cells := fCB h0 - fZ h0, slots := fLB h0 - fL h0, locals := 29 } s m args below meth c H locs cells slots (MQ below (fQ D cA h0 r.2 (some (.int r.1))) args s (fCB h0 - fZ h0) (fLB h0 - fL h0) (fA h0)) (F0 m 0 ls []) := by
  obtain ⟨hx, hb, hml, hr, hlocks, hts, hown, K, hR⟩ := id M
  intro H locs cells slots ls hC hl
  refine fr_aload_n hx hb dX6_at_0 rfl (lv_at hl 0 rfl) ?_
  obtain ⟨x10, g11, hf⟩ := obind hf
  refine fr_get hx hb hts hown K hC ct_6 (fgR_get g11) (by decide) kw434 rfl dX6_at_1 ?_
  refine fr_ifnonnull (tgt := 12) hx hb dX6_at_4 (by decide) (fun c12 => ?_) (fun c12 => ?_)
  · replace hf := oneg c12 hf
    refine lv_iload_n hx hb dX6_at_12 rfl (lv_at hl 1 rfl) ?_
    refine lv_istore_n (lv' := [(2, .int a1), (0, va_rf a0), (1, .int a1)]) hx hb dX6_at_13 rfl hl (by decide) (congrArg (List.cons _) (flk rfl (flk rfl fln))) (fun ls hl => ?_)
    refine fr_aload_n hx hb dX6_at_14 rfl (lv_at hl 1 rfl) ?_
    refine lv_iload_n hx hb dX6_at_15 rfl (lv_at hl 2 rfl) ?_
    obtain ⟨b15, q16, hf⟩ := obind hf
    obtain ⟨r13, g14, hf⟩ := obind hf
    refine fr_callV hx hb hml hts hown K hC hR ct_6 (c_X6_lastKeyUpTo hfl D cA g14) 1 q16 kw200 kw196 kw198 kw4 kw25 (by decide +kernel) ⟨by exact Nat.le_of_ble_eq_true rfl, by exact Nat.le_of_ble_eq_true rfl⟩ rfl hl.1 (cat8 _ (by exact Nat.le_of_ble_eq_true rfl)) dX6_at_16 rfl (fun H locs _ _ hC => ?_)
    refine fr_astore_n (lv' := [(3, va_rf r13.1), (2, .int a1), (0, va_rf a0), (1, .int a1)]) hx hb dX6_at_19 rfl hl (by decide) (congrArg (List.cons _) (flk rfl (flk rfl (flk rfl fln)))) (fun ls hl => ?_)
    refine fr_aload_n hx hb dX6_at_20 rfl (lv_at hl 0 rfl) ?_
    refine fr_ifnull (tgt := 54) hx hb dX6_at_21 (by decide) (fun c17 => ?_) (fun c17 => ?_)
    · replace hf := opos c17 hf
      exact w_X6_at_L54 M hfl _ _ _ _ hf _ _ _ _ _ hC (lv_sub hl [2, 1, 0] rfl)
    · replace hf := oneg c17 hf
      refine fr_aload_n hx hb dX6_at_24 rfl (lv_at hl 0 rfl) ?_
      obtain ⟨x18, g19, hf⟩ := obind hf
      refine fr_get hx hb hts hown K hC ct_3 (fgR_get g19) (by decide) kw915 rfl dX6_at_25 ?_
      refine fr_ifnonnull (tgt := 54) hx hb dX6_at_28 (by decide) (fun c20 => ?_) (fun c20 => ?_)
      · replace hf := oneg c20 hf
        exact w_X6_at_L54 M hfl _ _ _ _ hf _ _ _ _ _ hC (lv_sub hl [2, 1, 0] rfl)
      · replace hf := opos c20 hf
        refine fr_aload_n hx hb dX6_at_31 rfl (lv_at hl 2 rfl) ?_
        refine lv_iload_n hx hb dX6_at_32 rfl (lv_at hl 3 rfl) ?_
        refine fr_aload_n hx hb dX6_at_33 rfl (lv_at hl 2 rfl) ?_
        obtain ⟨x21, g22, hf⟩ := obind hf
        refine fr_get hx hb hts hown K hC ct_6 (fgR_get g22) (by decide) kw434 rfl dX6_at_34 ?_
        obtain ⟨x23, g24, hf⟩ := obind hf
        refine fr_get hx hb hts hown K hC ct_3 (fgI_get g24) (by decide) kw912 rfl dX6_at_37 ?_
        refine fr_aload_n hx hb dX6_at_40 rfl (lv_at hl 0 rfl) ?_
        obtain ⟨x25, g26, hf⟩ := obind hf
        refine fr_get hx hb hts hown K hC ct_3 (fgI_get g26) (by decide) kw912 rfl dX6_at_41 ?_
        obtain ⟨b29, q30, hf⟩ := obind hf
        obtain ⟨r27, g28, hf⟩ := obind hf
        refine fr_callV hx hb hml hts hown K hC hR ct_6 (c_X6_countedTime hfl D cA g28) 3 q30 kw204 kw201 kw203 kw5 kw25 (by decide +kernel) ⟨by exact Nat.le_of_ble_eq_true rfl, by exact Nat.le_of_ble_eq_true rfl⟩ rfl hl.1 (cat8 _ (by exact Nat.le_of_ble_eq_true rfl)) dX6_at_44 rfl (fun H locs _ _ hC => ?_)
        refine lv_istore_n (lv' := [(2, .int r27.1), (3, va_rf r13.1), (0, va_rf a0), (1, .int a1)]) hx hb dX6_at_47 rfl hl (by decide) (congrArg (List.cons _) (flk rfl (fld rfl (flk rfl (flk rfl fln))))) (fun ls hl => ?_)
        refine fr_aload_n hx hb dX6_at_48 rfl (lv_at hl 2 rfl) ?_
        refine lv_iload_n hx hb dX6_at_49 rfl (lv_at hl 0 rfl) ?_
        obtain ⟨b33, q34, hf⟩ := obind hf
        obtain ⟨r31, g32, hf⟩ := obind hf
        refine fr_callV hx hb hml hts hown K hC hR ct_6 (c_X6_lastKeyUpTo hfl D cA g32) 1 q34 kw200 kw196 kw198 kw4 kw25 (by decide +kernel) ⟨by exact Nat.le_of_ble_eq_true rfl, by exact Nat.le_of_ble_eq_true rfl⟩ rfl hl.1 (cat8 _ (by exact Nat.le_of_ble_eq_true rfl)) dX6_at_50 rfl (fun H locs _ _ hC => ?_)
        refine fr_astore_n (lv' := [(3, va_rf r31.1), (2, .int r27.1), (0, va_rf a0), (1, .int a1)]) hx hb dX6_at_53 rfl hl (by decide) (congrArg (List.cons _) (flk rfl (fld rfl (flk rfl (flk rfl fln))))) (fun ls hl => ?_)
        exact w_X6_at_L54 M hfl _ _ _ _ hf _ _ _ _ _ hC (lv_sub hl [2, 1, 0] rfl)
  · replace hf := opos c12 hf
    refine fr_aload_n hx hb dX6_at_7 rfl (lv_at hl 0 rfl) ?_
    obtain ⟨x35, g36, hf⟩ := obind hf
    refine fr_get hx hb hts hown K hC ct_6 (fgI_get g36) (by decide) kw425 rfl dX6_at_8 ?_
    obtain rfl := Option.some.inj hf
    exact fr_iret hx hb hr hlocks hC dX6_at_11
set_option maxRecDepth 100000 in
theorem c_X6_at {l : Launch} (hfl : l.stackTraces = false) (D : va_G) (cA : Nat → ClassId) {o : Nat} {p0 : Int32} {h : fSt} {r : (Int32 × fSt)} (hf : f_X6_at o p0 h = some r) : fMet l yX6_at (wsC yX6_at cX6_at 4 (some (.int))) (1) (29) D cA [.ref o, .int p0] h r.2 (some (.int r.1)) := by
  exact fMet.of (own := RX6) (by decide +kernel) rfl (lva1 rfl (lva1 rfl lva0)) (lgl1 rfl (lgl1 rfl lgl0)) (Nat.le_of_ble_eq_true rfl) (fun p e s m args below meth c ls hnm _ M hC hl => by
    have hl : lv_has ls 4 [(0, va_rf (some o)), (1, .int p0)] := hl
    exact w_X6_at_L0 M hfl _ _ _ hf _ _ _ _ _ hC (lv_sub hl [0, 1] rfl))
set_option maxHeartbeats 4000000 in
set_option maxRecDepth 100000 in
theorem w_X5_leave_L58 {p : Program} {l : Launch} {e : Env} {s : State} {m : MethodId} {args : Array Value} {below : List Frame} {meth : Method} {c : Code} {D : va_G} {cA : Nat → ClassId} {h0 : fSt} {r : (Unit × fSt)} (M : fM p s m args meth c D cA h0 { frames := 2, cells := fCB h0 - fZ h0, slots := fLB h0 - fL h0, locals := 52 } cX5_leave 3 none RX5) (hfl : l.stackTraces = false) (a0 : Option Nat) (a1 : Option Nat) (a2 : Int32) (h : fSt) (hf : f_X5_leave_L58 a0 a1 a2 h = some r) : ∀ (H : Heap) (locs : List Loc) (cells slots : Nat) (ls : Array Slot), fCur D cA s h0 h H locs → lv_has ls 3 [(0, va_rf a0), (1, va_rf a1), (2, .int a2)] → W p l e { frames := 2, cells := fCB h0 - fZ h0, slots := fLB h0 - fL h0, locals := 52 } s m args below meth c H locs cells slots (MQ below (fQ D cA h0 r.2 none) args s (fCB h0 - fZ h0) (fLB h0 - fL h0) (fA h0)) (F0 m 58 ls []) := by
  obtain ⟨hx, hb, hml, hr, hlocks, hts, hown, K, hR⟩ := id M
  intro H locs cells slots ls hC hl
  refine fr_aload_n hx hb dX5_leave_58 rfl (lv_at hl 0 rfl) ?_
  refine fr_aload_n hx hb dX5_leave_59 rfl (lv_at hl 1 rfl) ?_
  obtain ⟨x1, g2, hf⟩ := obind hf
  refine fr_get hx hb hts hown K hC ct_4 (fgR_get g2) (by decide) kw492 rfl dX5_leave_60 ?_
  refine lv_iload_n hx hb dX5_leave_63 rfl (lv_at hl 2 rfl) ?_
  obtain ⟨b5, q6, hf⟩ := obind hf
  obtain ⟨r3, g4, hf⟩ := obind hf
  refine fr_callV hx hb hml hts hown K hC hR ct_6 (c_X6_at hfl D cA g4) 1 q6 kw195 kw192 kw193 kw194 kw25 (by decide +kernel) ⟨by exact Nat.le_of_ble_eq_true rfl, by exact Nat.le_of_ble_eq_true rfl⟩ rfl hl.1 (cat8 _ (by exact Nat.le_of_ble_eq_true rfl)) dX5_leave_64 rfl (fun H locs _ _ hC => ?_)
  obtain ⟨b9, q10, hf⟩ := obind hf
  obtain ⟨r7, g8, hf⟩ := obind hf
  refine fr_callV hx hb hml hts hown K hC hR ct_5 (c_X5_turnQuarters hfl D cA g8) 1 q10 kw215 kw211 kw213 kw7 kw27 (by decide +kernel) ⟨by exact Nat.le_of_ble_eq_true rfl, by exact Nat.le_of_ble_eq_true rfl⟩ rfl hl.1 (cat8 _ (by exact Nat.le_of_ble_eq_true rfl)) dX5_leave_67 rfl (fun H locs _ _ hC => ?_)
  refine fr_aload_n hx hb dX5_leave_70 rfl (lv_at hl 0 rfl) ?_
  refine lv_dup hx hb dX5_leave_71 (va_rf_cat _) ?_
  obtain ⟨x11, g12, hf⟩ := obind hf
  refine fr_get hx hb hts hown K hC ct_5 (fgJ_get g12) (by decide) kw564 rfl dX5_leave_72 ?_
  refine fr_aload_n hx hb dX5_leave_75 rfl (lv_at hl 1 rfl) ?_
  obtain ⟨x13, g14, hf⟩ := obind hf
  refine fr_get hx hb hts hown K hC ct_4 (fgR_get g14) (by decide) kw486 rfl dX5_leave_76 ?_
  refine lv_iload_n hx hb dX5_leave_79 rfl (lv_at hl 2 rfl) ?_
  obtain ⟨b17, q18, hf⟩ := obind hf
  obtain ⟨r15, g16, hf⟩ := obind hf
  refine fr_callV hx hb hml hts hown K hC hR ct_6 (c_X6_at hfl D cA g16) 1 q18 kw195 kw192 kw193 kw194 kw25 (by decide +kernel) ⟨by exact Nat.le_of_ble_eq_true rfl, by exact Nat.le_of_ble_eq_true rfl⟩ rfl hl.1 (cat8 _ (by exact Nat.le_of_ble_eq_true rfl)) dX5_leave_80 rfl (fun H locs _ _ hC => ?_)
  refine lv_i2l (v := (Int32.toInt64 r15.1)) hx hb dX5_leave_83 rfl ?_
  refine fr_aload_n hx hb dX5_leave_84 rfl (lv_at hl 0 rfl) ?_
  obtain ⟨x19, g20, hf⟩ := obind hf
  refine fr_get hx hb hts hown K hC ct_5 (fgJ_get g20) (by decide) kw569 rfl dX5_leave_85 ?_
  refine lv_lmul hx hb dX5_leave_88 ?_
  refine lv_ladd hx hb dX5_leave_89 ?_
  obtain ⟨h21, g22, hf⟩ := obind hf
  refine fr_put hx hb hts hown K hC ct_5 g22 (by decide) kw564 rfl rfl rfl rfl dX5_leave_90 (fun H locs hC => ?_)
  refine fr_aload_n hx hb dX5_leave_93 rfl (lv_at hl 0 rfl) ?_
  refine lv_dup hx hb dX5_leave_94 (va_rf_cat _) ?_
  obtain ⟨x23, g24, hf⟩ := obind hf
  refine fr_get hx hb hts hown K hC ct_5 (fgJ_get g24) (by decide) kw566 rfl dX5_leave_95 ?_
  refine fr_aload_n hx hb dX5_leave_98 rfl (lv_at hl 1 rfl) ?_
  obtain ⟨x25, g26, hf⟩ := obind hf
  refine fr_get hx hb hts hown K hC ct_4 (fgR_get g26) (by decide) kw489 rfl dX5_leave_99 ?_
  refine lv_iload_n hx hb dX5_leave_102 rfl (lv_at hl 2 rfl) ?_
  obtain ⟨b29, q30, hf⟩ := obind hf
  obtain ⟨r27, g28, hf⟩ := obind hf
  refine fr_callV hx hb hml hts hown K hC hR ct_6 (c_X6_at hfl D cA g28) 1 q30 kw195 kw192 kw193 kw194 kw25 (by decide +kernel) ⟨by exact Nat.le_of_ble_eq_true rfl, by exact Nat.le_of_ble_eq_true rfl⟩ rfl hl.1 (cat8 _ (by exact Nat.le_of_ble_eq_true rfl)) dX5_leave_103 rfl (fun H locs _ _ hC => ?_)
  refine lv_i2l (v := (Int32.toInt64 r27.1)) hx hb dX5_leave_106 rfl ?_
  refine fr_aload_n hx hb dX5_leave_107 rfl (lv_at hl 0 rfl) ?_
  obtain ⟨x31, g32, hf⟩ := obind hf
  refine fr_get hx hb hts hown K hC ct_5 (fgJ_get g32) (by decide) kw569 rfl dX5_leave_108 ?_
  refine lv_lmul hx hb dX5_leave_111 ?_
  refine lv_ladd hx hb dX5_leave_112 ?_
  obtain ⟨h33, g34, hf⟩ := obind hf
  refine fr_put hx hb hts hown K hC ct_5 g34 (by decide) kw566 rfl rfl rfl rfl dX5_leave_113 (fun H locs hC => ?_)
  obtain rfl := Option.some.inj hf
  exact fr_vret hx hb hr hlocks hC dX5_leave_116
set_option maxHeartbeats 4000000 in
set_option maxRecDepth 100000 in
theorem w_X5_leave_L0 {p : Program} {l : Launch} {e : Env} {s : State} {m : MethodId} {args : Array Value} {below : List Frame} {meth : Method} {c : Code} {D : va_G} {cA : Nat → ClassId} {h0 : fSt} {r : (Unit × fSt)} (M : fM p s m args meth c D cA h0 { frames := 2, cells := fCB h0 - fZ h0, slots := fLB h0 - fL h0, locals := 52 } cX5_leave 3 none RX5) (hfl : l.stackTraces = false) (a0 : Option Nat) (a1 : Option Nat) (a2 : Int32) (h : fSt) (hf : f_X5_leave_L0 a0 a1 a2 h = some r) : ∀ (H : Heap) (locs : List Loc) (cells slots : Nat) (ls : Array Slot), fCur D cA s h0 h H locs → lv_has ls 3 [(0, va_rf a0), (1, va_rf a1), (2, .int a2)] → W p l e { frames := 2, cells := fCB h0 - fZ h0, slots := fLB h0 - fL h0, locals := 52 } s m args below meth c H locs cells slots (MQ below (fQ D cA h0 r.2 none) args s (fCB h0 - fZ h0) (fLB h0 - fL h0) (fA h0)) (F0 m 0 ls []) := by
  obtain ⟨hx, hb, hml, hr, hlocks, hts, hown, K, hR⟩ := id M
  intro H locs cells slots ls hC hl
  refine fr_aload_n hx hb dX5_leave_0 rfl (lv_at hl 0 rfl) ?_
  refine lv_dup hx hb dX5_leave_1 (va_rf_cat _) ?_
  obtain ⟨x35, g36, hf⟩ := obind hf
  refine fr_get hx hb hts hown K hC ct_5 (fgJ_get g36) (by decide) kw564 rfl dX5_leave_2 ?_
  refine fr_aload_n hx hb dX5_leave_5 rfl (lv_at hl 1 rfl) ?_
  obtain ⟨x37, g38, hf⟩ := obind hf
  refine fr_get hx hb hts hown K hC ct_4 (fgI_get g38) (by decide) kw497 rfl dX5_leave_6 ?_
  refine lv_i2l (v := (Int32.toInt64 x37)) hx hb dX5_leave_9 rfl ?_
  refine lv_lmul hx hb dX5_leave_10 ?_
  obtain ⟨h39, g40, hf⟩ := obind hf
  refine fr_put hx hb hts hown K hC ct_5 g40 (by decide) kw564 rfl rfl rfl rfl dX5_leave_11 (fun H locs hC => ?_)
  refine fr_aload_n hx hb dX5_leave_14 rfl (lv_at hl 0 rfl) ?_
  refine lv_dup hx hb dX5_leave_15 (va_rf_cat _) ?_
  obtain ⟨x41, g42, hf⟩ := obind hf
  refine fr_get hx hb hts hown K hC ct_5 (fgJ_get g42) (by decide) kw566 rfl dX5_leave_16 ?_
  refine fr_aload_n hx hb dX5_leave_19 rfl (lv_at hl 1 rfl) ?_
  obtain ⟨x43, g44, hf⟩ := obind hf
  refine fr_get hx hb hts hown K hC ct_4 (fgI_get g44) (by decide) kw497 rfl dX5_leave_20 ?_
  refine lv_i2l (v := (Int32.toInt64 x43)) hx hb dX5_leave_23 rfl ?_
  refine lv_lmul hx hb dX5_leave_24 ?_
  obtain ⟨h45, g46, hf⟩ := obind hf
  refine fr_put hx hb hts hown K hC ct_5 g46 (by decide) kw566 rfl rfl rfl rfl dX5_leave_25 (fun H locs hC => ?_)
  refine fr_aload_n hx hb dX5_leave_28 rfl (lv_at hl 0 rfl) ?_
  refine lv_dup hx hb dX5_leave_29 (va_rf_cat _) ?_
  obtain ⟨x47, g48, hf⟩ := obind hf
  refine fr_get hx hb hts hown K hC ct_5 (fgJ_get g48) (by decide) kw569 rfl dX5_leave_30 ?_
  refine fr_aload_n hx hb dX5_leave_33 rfl (lv_at hl 1 rfl) ?_
  obtain ⟨x49, g50, hf⟩ := obind hf
  refine fr_get hx hb hts hown K hC ct_4 (fgI_get g50) (by decide) kw500 rfl dX5_leave_34 ?_
  refine lv_i2l (v := (Int32.toInt64 x49)) hx hb dX5_leave_37 rfl ?_
  refine lv_lmul hx hb dX5_leave_38 ?_
  obtain ⟨h51, g52, hf⟩ := obind hf
  refine fr_put hx hb hts hown K hC ct_5 g52 (by decide) kw569 rfl rfl rfl rfl dX5_leave_39 (fun H locs hC => ?_)
  refine fr_aload_n hx hb dX5_leave_42 rfl (lv_at hl 1 rfl) ?_
  obtain ⟨x53, g54, hf⟩ := obind hf
  refine fr_get hx hb hts hown K hC ct_4 (fgI_get g54) (by decide) kw502 rfl dX5_leave_43 ?_
  refine lv_if_eq (tgt := 58) hx hb dX5_leave_46 (by decide) (fun c55 => ?_) (fun c55 => ?_)
  · replace hf := opos c55 hf
    exact w_X5_leave_L58 M hfl _ _ _ _ hf _ _ _ _ _ hC (lv_sub hl [0, 1, 2] rfl)
  · replace hf := oneg c55 hf
    refine fr_aload_n hx hb dX5_leave_49 rfl (lv_at hl 0 rfl) ?_
    refine fr_aload_n hx hb dX5_leave_50 rfl (lv_at hl 0 rfl) ?_
    obtain ⟨x56, g57, hf⟩ := obind hf
    refine fr_get hx hb hts hown K hC ct_5 (fgJ_get g57) (by decide) kw564 rfl dX5_leave_51 ?_
    refine lv_lneg hx hb dX5_leave_54 ?_
    obtain ⟨h58, g59, hf⟩ := obind hf
    refine fr_put hx hb hts hown K hC ct_5 g59 (by decide) kw564 rfl rfl rfl rfl dX5_leave_55 (fun H locs hC => ?_)
    exact w_X5_leave_L58 M hfl _ _ _ _ hf _ _ _ _ _ hC (lv_sub hl [0, 1, 2] rfl)
set_option maxRecDepth 100000 in
theorem c_X5_leave {l : Launch} (hfl : l.stackTraces = false) (D : va_G) (cA : Nat → ClassId) {o : Nat} {p0 : Option Nat} {p1 : Int32} {h : fSt} {r : (Unit × fSt)} (hf : f_X5_leave o p0 p1 h = some r) : fMet l yX5_leave (wsC yX5_leave cX5_leave 3 none) (2) (52) D cA [.ref o, va_rf p0, .int p1] h r.2 none := by
  exact fMet.of (own := RX5) (by decide +kernel) rfl (lva1 rfl (lva1 (va_rf_cat _) (lva1 rfl lva0))) (lgl1 rfl (lgl1 (va_rf_cat _) (lgl1 rfl lgl0))) (Nat.le_of_ble_eq_true rfl) (fun p e s m args below meth c ls hnm _ M hC hl => by
    have hl : lv_has ls 3 [(0, va_rf (some o)), (1, va_rf p0), (2, .int p1)] := hl
    exact w_X5_leave_L0 M hfl _ _ _ _ hf _ _ _ _ _ hC (lv_sub hl [0, 1, 2] rfl))
set_option maxHeartbeats 4000000 in
set_option maxRecDepth 100000 in
theorem w_X5_set_L0 {p : Program} {l : Launch} {e : Env} {s : State} {m : MethodId} {args : Array Value} {below : List Frame} {meth : Method} {c : Code} {D : va_G} {cA : Nat → ClassId} {h0 : fSt} {r : (Unit × fSt)} (M : fM p s m args meth c D cA h0 { frames := 0, cells := fCB h0 - fZ h0, slots := fLB h0 - fL h0, locals := 0 } cX5_set 7 none RX5) (hfl : l.stackTraces = false) (a0 : Option Nat) (a1 : Int64) (a3 : Int64) (a5 : Int64) (h : fSt) (hf : f_X5_set_L0 a0 a1 a3 a5 h = some r) : ∀ (H : Heap) (locs : List Loc) (cells slots : Nat) (ls : Array Slot), fCur D cA s h0 h H locs → lv_has ls 7 [(0, va_rf a0), (1, .long a1), (3, .long a3), (5, .long a5)] → W p l e { frames := 0, cells := fCB h0 - fZ h0, slots := fLB h0 - fL h0, locals := 0 } s m args below meth c H locs cells slots (MQ below (fQ D cA h0 r.2 none) args s (fCB h0 - fZ h0) (fLB h0 - fL h0) (fA h0)) (F0 m 0 ls []) := by
  obtain ⟨hx, hb, hml, hr, hlocks, hts, hown, K, hR⟩ := id M
  intro H locs cells slots ls hC hl
  refine fr_aload_n hx hb dX5_set_0 rfl (lv_at hl 0 rfl) ?_
  refine lv_lload_n hx hb dX5_set_1 rfl (lv_at hl 1 rfl) ?_
  obtain ⟨h1, g2, hf⟩ := obind hf
  refine fr_put hx hb hts hown K hC ct_5 g2 (by decide) kw564 rfl rfl rfl rfl dX5_set_2 (fun H locs hC => ?_)
  refine fr_aload_n hx hb dX5_set_5 rfl (lv_at hl 0 rfl) ?_
  refine lv_lload_n hx hb dX5_set_6 rfl (lv_at hl 2 rfl) ?_
  obtain ⟨h3, g4, hf⟩ := obind hf
  refine fr_put hx hb hts hown K hC ct_5 g4 (by decide) kw566 rfl rfl rfl rfl dX5_set_7 (fun H locs hC => ?_)
  refine fr_aload_n hx hb dX5_set_10 rfl (lv_at hl 0 rfl) ?_
  refine lv_lload hx hb dX5_set_11 (lv_at hl 3 rfl) ?_
  obtain ⟨h5, g6, hf⟩ := obind hf
  refine fr_put hx hb hts hown K hC ct_5 g6 (by decide) kw569 rfl rfl rfl rfl dX5_set_13 (fun H locs hC => ?_)
  refine fr_aload_n hx hb dX5_set_16 rfl (lv_at hl 0 rfl) ?_
  refine lv_iconst (v := (0 : Int32)) hx hb dX5_set_17 (by decide) ?_
  obtain ⟨h7, g8, hf⟩ := obind hf
  obtain ⟨z9, g8⟩ := fputZ_inv g8
  refine fr_put hx hb hts hown K hC ct_5 g8 (by decide) kw572 rfl rfl (nZ z9) (fZ9 z9) dX5_set_18 (fun H locs hC => ?_)
  obtain rfl := Option.some.inj hf
  exact fr_vret hx hb hr hlocks hC dX5_set_21
set_option maxRecDepth 100000 in
theorem c_X5_set {l : Launch} (hfl : l.stackTraces = false) (D : va_G) (cA : Nat → ClassId) {o : Nat} {p0 : Int64} {p1 : Int64} {p2 : Int64} {h : fSt} {r : (Unit × fSt)} (hf : f_X5_set o p0 p1 p2 h = some r) : fMet l yX5_set (wsC yX5_set cX5_set 7 none) (0) (0) D cA [.ref o, .long p0, .long p1, .long p2] h r.2 none := by
  exact fMet.of (own := RX5) (by decide +kernel) rfl (lva1 rfl (lva2 rfl (lva2 rfl (lva2 rfl lva0)))) (lgl1 rfl (lgl2 rfl (lgl2 rfl (lgl2 rfl lgl0)))) (Nat.le_of_ble_eq_true rfl) (fun p e s m args below meth c ls hnm _ M hC hl => by
    have hl : lv_has ls 7 [(0, va_rf (some o)), (1, .long p0), (3, .long p1), (5, .long p2)] := hl
    exact w_X5_set_L0 M hfl _ _ _ _ _ hf _ _ _ _ _ hC (lv_sub hl [0, 1, 2, 3] rfl))
set_option maxHeartbeats 4000000 in
set_option maxRecDepth 100000 in
theorem w_X7_raise_L15 {p : Program} {l : Launch} {e : Env} {s : State} {m : MethodId} {args : Array Value} {below : List Frame} {meth : Method} {c : Code} {D : va_G} {cA : Nat → ClassId} {h0 : fSt} {r : (Unit × fSt)} (M : fM p s m args meth c D cA h0 { frames := 3, cells := fCB h0 - fZ h0, slots := fLB h0 - fL h0, locals := 74 } cX7_raise 5 none RX7) (hfl : l.stackTraces = false) : ∀ (n : Nat) (a0 : Option Nat) (a4 : Option Nat) (h : fSt), f_X7_raise_L15 n a0 a4 h = some r → ∀ (H : Heap) (locs : List Loc) (cells slots : Nat) (ls : Array Slot), fCur D cA s h0 h H locs → lv_has ls 5 [(0, va_rf a0), (4, va_rf a4)] → W p l e { frames := 3, cells := fCB h0 - fZ h0, slots := fLB h0 - fL h0, locals := 74 } s m args below meth c H locs cells slots (MQ below (fQ D cA h0 r.2 none) args s (fCB h0 - fZ h0) (fLB h0 - fL h0) (fA h0)) (F0 m 15 ls []) := by
  obtain ⟨hx, hb, hml, hr, hlocks, hts, hown, K, hR⟩ := id M
  intro n
  induction n with
  | zero =>
    intro a0 a4 h hf
    exact nomatch (show (none : Option (Unit × fSt)) = some r from hf)
  | succ n hk15 =>
    intro a0 a4 h hf H locs cells slots ls hC hl
    refine fr_aload hx hb dX7_raise_15 (lv_at hl 1 rfl) ?_
    refine fr_ifnull (tgt := 43) hx hb dX7_raise_17 (by decide) (fun c1 => ?_) (fun c1 => ?_)
    · replace hf := opos c1 hf
      obtain rfl := Option.some.inj hf
      exact fr_vret hx hb hr hlocks hC dX7_raise_43
    · replace hf := oneg c1 hf
      refine fr_aload_n hx hb dX7_raise_20 rfl (lv_at hl 0 rfl) ?_
      obtain ⟨x2, g3, hf⟩ := obind hf
      refine fr_get hx hb hts hown K hC ct_7 (fgR_get g3) (by decide) kw620 rfl dX7_raise_21 ?_
      refine fr_aload hx hb dX7_raise_24 (lv_at hl 1 rfl) ?_
      refine fr_aload_n hx hb dX7_raise_26 rfl (lv_at hl 0 rfl) ?_
      obtain ⟨x4, g5, hf⟩ := obind hf
      refine fr_get hx hb hts hown K hC ct_7 (fgI_get g5) (by decide) kw624 rfl dX7_raise_27 ?_
      obtain ⟨b8, q9, hf⟩ := obind hf
      obtain ⟨r6, g7, hf⟩ := obind hf
      refine fr_callV hx hb hml hts hown K hC hR ct_5 (c_X5_leave hfl D cA g7) 2 q9 kw191 kw188 kw189 kw190 kw27 (by decide +kernel) ⟨by exact Nat.le_of_ble_eq_true rfl, by exact Nat.le_of_ble_eq_true rfl⟩ rfl hl.1 (cat8 _ (by exact Nat.le_of_ble_eq_true rfl)) dX7_raise_30 rfl (fun H locs _ _ hC => ?_)
      refine fr_aload hx hb dX7_raise_33 (lv_at hl 1 rfl) ?_
      obtain ⟨x10, g11, hf⟩ := obind hf
      refine fr_get hx hb hts hown K hC ct_4 (fgR_get g11) (by decide) kw512 rfl dX7_raise_35 ?_
      refine fr_astore (lv' := [(4, va_rf x10), (0, va_rf a0)]) hx hb dX7_raise_38 hl (by decide) (congrArg (List.cons _) (flk rfl (fld rfl fln))) (fun ls hl => ?_)
      refine lv_goto (tgt := 15) hx hb dX7_raise_40 (by decide) ?_
      exact hk15 _ _ _ hf _ _ _ _ _ hC (lv_sub hl [1, 0] rfl)
set_option maxHeartbeats 4000000 in
set_option maxRecDepth 100000 in
theorem w_X7_raise_L0 {p : Program} {l : Launch} {e : Env} {s : State} {m : MethodId} {args : Array Value} {below : List Frame} {meth : Method} {c : Code} {D : va_G} {cA : Nat → ClassId} {h0 : fSt} {r : (Unit × fSt)} (M : fM p s m args meth c D cA h0 { frames := 3, cells := fCB h0 - fZ h0, slots := fLB h0 - fL h0, locals := 74 } cX7_raise 5 none RX7) (hfl : l.stackTraces = false) (a0 : Option Nat) (a1 : Option Nat) (a2 : Int32) (a3 : Int32) (h : fSt) (hf : f_X7_raise_L0 a0 a1 a2 a3 h = some r) : ∀ (H : Heap) (locs : List Loc) (cells slots : Nat) (ls : Array Slot), fCur D cA s h0 h H locs → lv_has ls 5 [(0, va_rf a0), (1, va_rf a1), (2, .int a2), (3, .int a3)] → W p l e { frames := 3, cells := fCB h0 - fZ h0, slots := fLB h0 - fL h0, locals := 74 } s m args below meth c H locs cells slots (MQ below (fQ D cA h0 r.2 none) args s (fCB h0 - fZ h0) (fLB h0 - fL h0) (fA h0)) (F0 m 0 ls []) := by
  obtain ⟨hx, hb, hml, hr, hlocks, hts, hown, K, hR⟩ := id M
  intro H locs cells slots ls hC hl
  refine fr_aload_n hx hb dX7_raise_0 rfl (lv_at hl 0 rfl) ?_
  obtain ⟨x12, g13, hf⟩ := obind hf
  refine fr_get hx hb hts hown K hC ct_7 (fgR_get g13) (by decide) kw620 rfl dX7_raise_1 ?_
  refine lv_iload_n hx hb dX7_raise_4 rfl (lv_at hl 2 rfl) ?_
  refine lv_i2l (v := (Int32.toInt64 a2)) hx hb dX7_raise_5 rfl ?_
  refine lv_iload_n hx hb dX7_raise_6 rfl (lv_at hl 3 rfl) ?_
  refine lv_i2l (v := (Int32.toInt64 a3)) hx hb dX7_raise_7 rfl ?_
  refine lv_lconst (v := (1 : Int64)) hx hb dX7_raise_8 (by decide) ?_
  obtain ⟨b16, q17, hf⟩ := obind hf
  obtain ⟨r14, g15, hf⟩ := obind hf
  refine fr_callV hx hb hml hts hown K hC hR ct_5 (c_X5_set hfl D cA g15) 3 q17 kw187 kw184 kw185 kw186 kw27 (by decide +kernel) ⟨by exact Nat.le_of_ble_eq_true rfl, by exact Nat.le_of_ble_eq_true rfl⟩ rfl hl.1 (cat8 _ (by exact Nat.le_of_ble_eq_true rfl)) dX7_raise_9 rfl (fun H locs _ _ hC => ?_)
  refine fr_aload_n hx hb dX7_raise_12 rfl (lv_at hl 1 rfl) ?_
  refine fr_astore (lv' := [(4, va_rf a1), (0, va_rf a0), (1, va_rf a1), (2, .int a2), (3, .int a3)]) hx hb dX7_raise_13 hl (by decide) (congrArg (List.cons _) (flk rfl (flk rfl (flk rfl (flk rfl fln))))) (fun ls hl => ?_)
  exact w_X7_raise_L15 M hfl 4096 _ _ _ hf _ _ _ _ _ hC (lv_sub hl [1, 0] rfl)
set_option maxRecDepth 100000 in
theorem c_X7_raise {l : Launch} (hfl : l.stackTraces = false) (D : va_G) (cA : Nat → ClassId) {o : Nat} {p0 : Option Nat} {p1 : Int32} {p2 : Int32} {h : fSt} {r : (Unit × fSt)} (hf : f_X7_raise o p0 p1 p2 h = some r) : fMet l yX7_raise (wsC yX7_raise cX7_raise 5 none) (3) (74) D cA [.ref o, va_rf p0, .int p1, .int p2] h r.2 none := by
  exact fMet.of (own := RX7) (by decide +kernel) rfl (lva1 rfl (lva1 (va_rf_cat _) (lva1 rfl (lva1 rfl lva0)))) (lgl1 rfl (lgl1 (va_rf_cat _) (lgl1 rfl (lgl1 rfl lgl0)))) (Nat.le_of_ble_eq_true rfl) (fun p e s m args below meth c ls hnm _ M hC hl => by
    have hl : lv_has ls 5 [(0, va_rf (some o)), (1, va_rf p0), (2, .int p1), (3, .int p2)] := hl
    exact w_X7_raise_L0 M hfl _ _ _ _ _ hf _ _ _ _ _ hC (lv_sub hl [0, 1, 2, 3] rfl))
set_option maxHeartbeats 4000000 in
set_option maxRecDepth 100000 in
theorem w_X2_holds_L77 {p : Program} {l : Launch} {e : Env} {s : State} {m : MethodId} {args : Array Value} {below : List Frame} {meth : Method} {c : Code} {D : va_G} {cA : Nat → ClassId} {h0 : fSt} {r : (Int32 × fSt)} (M : fM p s m args meth c D cA h0 { frames := 0, cells := fCB h0 - fZ h0, slots := fLB h0 - fL h0, locals := 0 } cX2_holds 2 (some (.boolean)) RX2) (hfl : l.stackTraces = false) (s0 : Int32) (h : fSt) (hf : f_X2_holds_L77 s0 h = some r) : ∀ (H : Heap) (locs : List Loc) (cells slots : Nat) (ls : Array Slot), fCur D cA s h0 h H locs → lv_has ls 2 [] → W p l e { frames := 0, cells := fCB h0 - fZ h0, slots := fLB h0 - fL h0, locals := 0 } s m args below meth c H locs cells slots (MQ below (fQ D cA h0 r.2 (some (.int r.1))) args s (fCB h0 - fZ h0) (fLB h0 - fL h0) (fA h0)) (F0 m 77 ls [.int s0]) := by
  obtain ⟨hx, hb, hml, hr, hlocks, hts, hown, K, hR⟩ := id M
  intro H locs cells slots ls hC hl
  by_cases c1 : s0 = 0 ∨ s0 = 1
  rotate_left
  · exact nomatch (oneg c1 hf)
  obtain rfl := Option.some.inj (opos c1 hf)
  exact fr_zret hx hb hr hlocks hC c1 dX2_holds_77
set_option maxHeartbeats 4000000 in
set_option maxRecDepth 100000 in
theorem w_X2_holds_L76 {p : Program} {l : Launch} {e : Env} {s : State} {m : MethodId} {args : Array Value} {below : List Frame} {meth : Method} {c : Code} {D : va_G} {cA : Nat → ClassId} {h0 : fSt} {r : (Int32 × fSt)} (M : fM p s m args meth c D cA h0 { frames := 0, cells := fCB h0 - fZ h0, slots := fLB h0 - fL h0, locals := 0 } cX2_holds 2 (some (.boolean)) RX2) (hfl : l.stackTraces = false)  (h : fSt) (hf : f_X2_holds_L76  h = some r) : ∀ (H : Heap) (locs : List Loc) (cells slots : Nat) (ls : Array Slot), fCur D cA s h0 h H locs → lv_has ls 2 [] → W p l e { frames := 0, cells := fCB h0 - fZ h0, slots := fLB h0 - fL h0, locals := 0 } s m args below meth c H locs cells slots (MQ below (fQ D cA h0 r.2 (some (.int r.1))) args s (fCB h0 - fZ h0) (fLB h0 - fL h0) (fA h0)) (F0 m 76 ls []) := by
  obtain ⟨hx, hb, hml, hr, hlocks, hts, hown, K, hR⟩ := id M
  intro H locs cells slots ls hC hl
  refine lv_iconst (v := (0 : Int32)) hx hb dX2_holds_76 (by decide) ?_
  exact w_X2_holds_L77 M hfl _ _ hf _ _ _ _ _ hC (lv_sub hl [] rfl)
set_option maxHeartbeats 4000000 in
set_option maxRecDepth 100000 in
theorem w_X2_holds_L0 {p : Program} {l : Launch} {e : Env} {s : State} {m : MethodId} {args : Array Value} {below : List Frame} {meth : Method} {c : Code} {D : va_G} {cA : Nat → ClassId} {h0 : fSt} {r : (Int32 × fSt)} (M : fM p s m args meth c D cA h0 { frames := 0, cells := fCB h0 - fZ h0, slots := fLB h0 - fL h0, locals := 0 } cX2_holds 2 (some (.boolean)) RX2) (hfl : l.stackTraces = false) (a0 : Option Nat) (a1 : Option Nat) (h : fSt) (hf : f_X2_holds_L0 a0 a1 h = some r) : ∀ (H : Heap) (locs : List Loc) (cells slots : Nat) (ls : Array Slot), fCur D cA s h0 h H locs → lv_has ls 2 [(0, va_rf a0), (1, va_rf a1)] → W p l e { frames := 0, cells := fCB h0 - fZ h0, slots := fLB h0 - fL h0, locals := 0 } s m args below meth c H locs cells slots (MQ below (fQ D cA h0 r.2 (some (.int r.1))) args s (fCB h0 - fZ h0) (fLB h0 - fL h0) (fA h0)) (F0 m 0 ls []) := by
  obtain ⟨hx, hb, hml, hr, hlocks, hts, hown, K, hR⟩ := id M
  intro H locs cells slots ls hC hl
  refine fr_aload_n hx hb dX2_holds_0 rfl (lv_at hl 1 rfl) ?_
  obtain ⟨x2, g3, hf⟩ := obind hf
  refine fr_get hx hb hts hown K hC ct_5 (fgJ_get g3) (by decide) kw563 rfl dX2_holds_1 ?_
  refine fr_aload_n hx hb dX2_holds_4 rfl (lv_at hl 0 rfl) ?_
  obtain ⟨x4, g5, hf⟩ := obind hf
  refine fr_get hx hb hts hown K hC ct_2 (fgI_get g5) (by decide) kw462 rfl dX2_holds_5 ?_
  refine lv_i2l (v := (Int32.toInt64 x4)) hx hb dX2_holds_8 rfl ?_
  refine fr_aload_n hx hb dX2_holds_9 rfl (lv_at hl 1 rfl) ?_
  obtain ⟨x6, g7, hf⟩ := obind hf
  refine fr_get hx hb hts hown K hC ct_5 (fgJ_get g7) (by decide) kw570 rfl dX2_holds_10 ?_
  refine lv_lmul hx hb dX2_holds_13 ?_
  refine fr_lcmp_lt (tgt := 76) hx hb dX2_holds_14 dX2_holds_15 (by decide) (fun c8 => ?_) (fun c8 => ?_)
  · replace hf := opos c8 hf
    exact w_X2_holds_L76 M hfl _ hf _ _ _ _ _ hC (lv_sub hl [] rfl)
  · replace hf := oneg c8 hf
    refine fr_aload_n hx hb dX2_holds_18 rfl (lv_at hl 1 rfl) ?_
    obtain ⟨x9, g10, hf⟩ := obind hf
    refine fr_get hx hb hts hown K hC ct_5 (fgJ_get g10) (by decide) kw563 rfl dX2_holds_19 ?_
    refine fr_aload_n hx hb dX2_holds_22 rfl (lv_at hl 0 rfl) ?_
    obtain ⟨x11, g12, hf⟩ := obind hf
    refine fr_get hx hb hts hown K hC ct_2 (fgI_get g12) (by decide) kw466 rfl dX2_holds_23 ?_
    refine lv_i2l (v := (Int32.toInt64 x11)) hx hb dX2_holds_26 rfl ?_
    refine fr_aload_n hx hb dX2_holds_27 rfl (lv_at hl 1 rfl) ?_
    obtain ⟨x13, g14, hf⟩ := obind hf
    refine fr_get hx hb hts hown K hC ct_5 (fgJ_get g14) (by decide) kw570 rfl dX2_holds_28 ?_
    refine lv_lmul hx hb dX2_holds_31 ?_
    refine fr_lcmp_gt (tgt := 76) hx hb dX2_holds_32 dX2_holds_33 (by decide) (fun c15 => ?_) (fun c15 => ?_)
    · replace hf := opos c15 hf
      exact w_X2_holds_L76 M hfl _ hf _ _ _ _ _ hC (lv_sub hl [] rfl)
    · replace hf := oneg c15 hf
      refine fr_aload_n hx hb dX2_holds_36 rfl (lv_at hl 1 rfl) ?_
      obtain ⟨x16, g17, hf⟩ := obind hf
      refine fr_get hx hb hts hown K hC ct_5 (fgJ_get g17) (by decide) kw567 rfl dX2_holds_37 ?_
      refine fr_aload_n hx hb dX2_holds_40 rfl (lv_at hl 0 rfl) ?_
      obtain ⟨x18, g19, hf⟩ := obind hf
      refine fr_get hx hb hts hown K hC ct_2 (fgI_get g19) (by decide) kw464 rfl dX2_holds_41 ?_
      refine lv_i2l (v := (Int32.toInt64 x18)) hx hb dX2_holds_44 rfl ?_
      refine fr_aload_n hx hb dX2_holds_45 rfl (lv_at hl 1 rfl) ?_
      obtain ⟨x20, g21, hf⟩ := obind hf
      refine fr_get hx hb hts hown K hC ct_5 (fgJ_get g21) (by decide) kw570 rfl dX2_holds_46 ?_
      refine lv_lmul hx hb dX2_holds_49 ?_
      refine fr_lcmp_lt (tgt := 76) hx hb dX2_holds_50 dX2_holds_51 (by decide) (fun c22 => ?_) (fun c22 => ?_)
      · replace hf := opos c22 hf
        exact w_X2_holds_L76 M hfl _ hf _ _ _ _ _ hC (lv_sub hl [] rfl)
      · replace hf := oneg c22 hf
        refine fr_aload_n hx hb dX2_holds_54 rfl (lv_at hl 1 rfl) ?_
        obtain ⟨x23, g24, hf⟩ := obind hf
        refine fr_get hx hb hts hown K hC ct_5 (fgJ_get g24) (by decide) kw567 rfl dX2_holds_55 ?_
        refine fr_aload_n hx hb dX2_holds_58 rfl (lv_at hl 0 rfl) ?_
        obtain ⟨x25, g26, hf⟩ := obind hf
        refine fr_get hx hb hts hown K hC ct_2 (fgI_get g26) (by decide) kw468 rfl dX2_holds_59 ?_
        refine lv_i2l (v := (Int32.toInt64 x25)) hx hb dX2_holds_62 rfl ?_
        refine fr_aload_n hx hb dX2_holds_63 rfl (lv_at hl 1 rfl) ?_
        obtain ⟨x27, g28, hf⟩ := obind hf
        refine fr_get hx hb hts hown K hC ct_5 (fgJ_get g28) (by decide) kw570 rfl dX2_holds_64 ?_
        refine lv_lmul hx hb dX2_holds_67 ?_
        refine fr_lcmp_gt (tgt := 76) hx hb dX2_holds_68 dX2_holds_69 (by decide) (fun c29 => ?_) (fun c29 => ?_)
        · replace hf := opos c29 hf
          exact w_X2_holds_L76 M hfl _ hf _ _ _ _ _ hC (lv_sub hl [] rfl)
        · replace hf := oneg c29 hf
          refine lv_iconst (v := (1 : Int32)) hx hb dX2_holds_72 (by decide) ?_
          refine lv_goto (tgt := 77) hx hb dX2_holds_73 (by decide) ?_
          exact w_X2_holds_L77 M hfl _ _ hf _ _ _ _ _ hC (lv_sub hl [] rfl)
set_option maxRecDepth 100000 in
theorem c_X2_holds {l : Launch} (hfl : l.stackTraces = false) (D : va_G) (cA : Nat → ClassId) {o : Nat} {p0 : Option Nat} {h : fSt} {r : (Int32 × fSt)} (hf : f_X2_holds o p0 h = some r) : fMet l yX2_holds (wsC yX2_holds cX2_holds 2 (some (.boolean))) (0) (0) D cA [.ref o, va_rf p0] h r.2 (some (.int r.1)) := by
  exact fMet.of (own := RX2) (by decide +kernel) rfl (lva1 rfl (lva1 (va_rf_cat _) lva0)) (lgl1 rfl (lgl1 (va_rf_cat _) lgl0)) (Nat.le_of_ble_eq_true rfl) (fun p e s m args below meth c ls hnm _ M hC hl => by
    have hl : lv_has ls 2 [(0, va_rf (some o)), (1, va_rf p0)] := hl
    exact w_X2_holds_L0 M hfl _ _ _ hf _ _ _ _ _ hC (lv_sub hl [0, 1] rfl))
set_option maxHeartbeats 4000000 in
set_option maxRecDepth 100000 in
theorem w_X5_enter_L141 {p : Program} {l : Launch} {e : Env} {s : State} {m : MethodId} {args : Array Value} {below : List Frame} {meth : Method} {c : Code} {D : va_G} {cA : Nat → ClassId} {h0 : fSt} {r : (Unit × fSt)} (M : fM p s m args meth c D cA h0 { frames := 2, cells := fCB h0 - fZ h0, slots := fLB h0 - fL h0, locals := 52 } cX5_enter 3 none RX5) (hfl : l.stackTraces = false)  (h : fSt) (hf : f_X5_enter_L141  h = some r) : ∀ (H : Heap) (locs : List Loc) (cells slots : Nat) (ls : Array Slot), fCur D cA s h0 h H locs → lv_has ls 3 [] → W p l e { frames := 2, cells := fCB h0 - fZ h0, slots := fLB h0 - fL h0, locals := 52 } s m args below meth c H locs cells slots (MQ below (fQ D cA h0 r.2 none) args s (fCB h0 - fZ h0) (fLB h0 - fL h0) (fA h0)) (F0 m 141 ls []) := by
  obtain ⟨hx, hb, hml, hr, hlocks, hts, hown, K, hR⟩ := id M
  intro H locs cells slots ls hC hl
  obtain rfl := Option.some.inj hf
  exact fr_vret hx hb hr hlocks hC dX5_enter_141
set_option maxHeartbeats 4000000 in
set_option maxRecDepth 100000 in
theorem w_X5_enter_L76 {p : Program} {l : Launch} {e : Env} {s : State} {m : MethodId} {args : Array Value} {below : List Frame} {meth : Method} {c : Code} {D : va_G} {cA : Nat → ClassId} {h0 : fSt} {r : (Unit × fSt)} (M : fM p s m args meth c D cA h0 { frames := 2, cells := fCB h0 - fZ h0, slots := fLB h0 - fL h0, locals := 52 } cX5_enter 3 none RX5) (hfl : l.stackTraces = false) (a0 : Option Nat) (a1 : Option Nat) (h : fSt) (hf : f_X5_enter_L76 a0 a1 h = some r) : ∀ (H : Heap) (locs : List Loc) (cells slots : Nat) (ls : Array Slot), fCur D cA s h0 h H locs → lv_has ls 3 [(0, va_rf a0), (1, va_rf a1)] → W p l e { frames := 2, cells := fCB h0 - fZ h0, slots := fLB h0 - fL h0, locals := 52 } s m args below meth c H locs cells slots (MQ below (fQ D cA h0 r.2 none) args s (fCB h0 - fZ h0) (fLB h0 - fL h0) (fA h0)) (F0 m 76 ls []) := by
  obtain ⟨hx, hb, hml, hr, hlocks, hts, hown, K, hR⟩ := id M
  intro H locs cells slots ls hC hl
  refine fr_aload_n hx hb dX5_enter_76 rfl (lv_at hl 0 rfl) ?_
  refine lv_dup hx hb dX5_enter_77 (va_rf_cat _) ?_
  obtain ⟨x1, g2, hf⟩ := obind hf
  refine fr_get hx hb hts hown K hC ct_5 (fgJ_get g2) (by decide) kw564 rfl dX5_enter_78 ?_
  refine fr_aload_n hx hb dX5_enter_81 rfl (lv_at hl 1 rfl) ?_
  obtain ⟨x3, g4, hf⟩ := obind hf
  refine fr_get hx hb hts hown K hC ct_4 (fgI_get g4) (by decide) kw500 rfl dX5_enter_82 ?_
  refine lv_i2l (v := (Int32.toInt64 x3)) hx hb dX5_enter_85 rfl ?_
  refine lv_lmul hx hb dX5_enter_86 ?_
  obtain ⟨h5, g6, hf⟩ := obind hf
  refine fr_put hx hb hts hown K hC ct_5 g6 (by decide) kw564 rfl rfl rfl rfl dX5_enter_87 (fun H locs hC => ?_)
  refine fr_aload_n hx hb dX5_enter_90 rfl (lv_at hl 0 rfl) ?_
  refine lv_dup hx hb dX5_enter_91 (va_rf_cat _) ?_
  obtain ⟨x7, g8, hf⟩ := obind hf
  refine fr_get hx hb hts hown K hC ct_5 (fgJ_get g8) (by decide) kw566 rfl dX5_enter_92 ?_
  refine fr_aload_n hx hb dX5_enter_95 rfl (lv_at hl 1 rfl) ?_
  obtain ⟨x9, g10, hf⟩ := obind hf
  refine fr_get hx hb hts hown K hC ct_4 (fgI_get g10) (by decide) kw500 rfl dX5_enter_96 ?_
  refine lv_i2l (v := (Int32.toInt64 x9)) hx hb dX5_enter_99 rfl ?_
  refine lv_lmul hx hb dX5_enter_100 ?_
  obtain ⟨h11, g12, hf⟩ := obind hf
  refine fr_put hx hb hts hown K hC ct_5 g12 (by decide) kw566 rfl rfl rfl rfl dX5_enter_101 (fun H locs hC => ?_)
  refine fr_aload_n hx hb dX5_enter_104 rfl (lv_at hl 0 rfl) ?_
  refine lv_dup hx hb dX5_enter_105 (va_rf_cat _) ?_
  obtain ⟨x13, g14, hf⟩ := obind hf
  refine fr_get hx hb hts hown K hC ct_5 (fgJ_get g14) (by decide) kw569 rfl dX5_enter_106 ?_
  refine fr_aload_n hx hb dX5_enter_109 rfl (lv_at hl 1 rfl) ?_
  obtain ⟨x15, g16, hf⟩ := obind hf
  refine fr_get hx hb hts hown K hC ct_4 (fgI_get g16) (by decide) kw497 rfl dX5_enter_110 ?_
  refine lv_i2l (v := (Int32.toInt64 x15)) hx hb dX5_enter_113 rfl ?_
  refine lv_lmul hx hb dX5_enter_114 ?_
  obtain ⟨h17, g18, hf⟩ := obind hf
  refine fr_put hx hb hts hown K hC ct_5 g18 (by decide) kw569 rfl rfl rfl rfl dX5_enter_115 (fun H locs hC => ?_)
  refine fr_aload_n hx hb dX5_enter_118 rfl (lv_at hl 1 rfl) ?_
  obtain ⟨x19, g20, hf⟩ := obind hf
  refine fr_get hx hb hts hown K hC ct_4 (fgR_get g20) (by decide) kw507 rfl dX5_enter_119 ?_
  refine fr_ifnull (tgt := 141) hx hb dX5_enter_122 (by decide) (fun c21 => ?_) (fun c21 => ?_)
  · replace hf := opos c21 hf
    exact w_X5_enter_L141 M hfl _ hf _ _ _ _ _ hC (lv_sub hl [] rfl)
  · replace hf := oneg c21 hf
    refine fr_aload_n hx hb dX5_enter_125 rfl (lv_at hl 1 rfl) ?_
    obtain ⟨x22, g23, hf⟩ := obind hf
    refine fr_get hx hb hts hown K hC ct_4 (fgR_get g23) (by decide) kw507 rfl dX5_enter_126 ?_
    refine fr_aload_n hx hb dX5_enter_129 rfl (lv_at hl 0 rfl) ?_
    obtain ⟨b26, q27, hf⟩ := obind hf
    obtain ⟨r24, g25, hf⟩ := obind hf
    refine fr_callV hx hb hml hts hown K hC hR ct_2 (c_X2_holds hfl D cA g25) 1 q27 kw237 kw234 kw235 kw236 kw26 (by decide +kernel) ⟨by exact Nat.le_of_ble_eq_true rfl, by exact Nat.le_of_ble_eq_true rfl⟩ rfl hl.1 (cat8 _ (by exact Nat.le_of_ble_eq_true rfl)) dX5_enter_130 rfl (fun H locs _ _ hC => ?_)
    refine lv_if_ne (tgt := 141) hx hb dX5_enter_133 (by decide) (fun c28 => ?_) (fun c28 => ?_)
    · replace hf := oneg c28 hf
      exact w_X5_enter_L141 M hfl _ hf _ _ _ _ _ hC (lv_sub hl [] rfl)
    · replace hf := opos c28 hf
      refine fr_aload_n hx hb dX5_enter_136 rfl (lv_at hl 0 rfl) ?_
      refine lv_iconst (v := (1 : Int32)) hx hb dX5_enter_137 (by decide) ?_
      obtain ⟨h29, g30, hf⟩ := obind hf
      obtain ⟨z31, g30⟩ := fputZ_inv g30
      refine fr_put hx hb hts hown K hC ct_5 g30 (by decide) kw572 rfl rfl (nZ z31) (fZ9 z31) dX5_enter_138 (fun H locs hC => ?_)
      exact w_X5_enter_L141 M hfl _ hf _ _ _ _ _ hC (lv_sub hl [] rfl)
set_option maxHeartbeats 4000000 in
set_option maxRecDepth 100000 in
theorem w_X5_enter_L0 {p : Program} {l : Launch} {e : Env} {s : State} {m : MethodId} {args : Array Value} {below : List Frame} {meth : Method} {c : Code} {D : va_G} {cA : Nat → ClassId} {h0 : fSt} {r : (Unit × fSt)} (M : fM p s m args meth c D cA h0 { frames := 2, cells := fCB h0 - fZ h0, slots := fLB h0 - fL h0, locals := 52 } cX5_enter 3 none RX5) (hfl : l.stackTraces = false) (a0 : Option Nat) (a1 : Option Nat) (a2 : Int32) (h : fSt) (hf : f_X5_enter_L0 a0 a1 a2 h = some r) : ∀ (H : Heap) (locs : List Loc) (cells slots : Nat) (ls : Array Slot), fCur D cA s h0 h H locs → lv_has ls 3 [(0, va_rf a0), (1, va_rf a1), (2, .int a2)] → W p l e { frames := 2, cells := fCB h0 - fZ h0, slots := fLB h0 - fL h0, locals := 52 } s m args below meth c H locs cells slots (MQ below (fQ D cA h0 r.2 none) args s (fCB h0 - fZ h0) (fLB h0 - fL h0) (fA h0)) (F0 m 0 ls []) := by
  obtain ⟨hx, hb, hml, hr, hlocks, hts, hown, K, hR⟩ := id M
  intro H locs cells slots ls hC hl
  refine fr_aload_n hx hb dX5_enter_0 rfl (lv_at hl 0 rfl) ?_
  refine lv_dup hx hb dX5_enter_1 (va_rf_cat _) ?_
  obtain ⟨x32, g33, hf⟩ := obind hf
  refine fr_get hx hb hts hown K hC ct_5 (fgJ_get g33) (by decide) kw564 rfl dX5_enter_2 ?_
  refine fr_aload_n hx hb dX5_enter_5 rfl (lv_at hl 1 rfl) ?_
  obtain ⟨x34, g35, hf⟩ := obind hf
  refine fr_get hx hb hts hown K hC ct_4 (fgR_get g35) (by decide) kw486 rfl dX5_enter_6 ?_
  refine lv_iload_n hx hb dX5_enter_9 rfl (lv_at hl 2 rfl) ?_
  obtain ⟨b38, q39, hf⟩ := obind hf
  obtain ⟨r36, g37, hf⟩ := obind hf
  refine fr_callV hx hb hml hts hown K hC hR ct_6 (c_X6_at hfl D cA g37) 1 q39 kw195 kw192 kw193 kw194 kw25 (by decide +kernel) ⟨by exact Nat.le_of_ble_eq_true rfl, by exact Nat.le_of_ble_eq_true rfl⟩ rfl hl.1 (cat8 _ (by exact Nat.le_of_ble_eq_true rfl)) dX5_enter_10 rfl (fun H locs _ _ hC => ?_)
  refine lv_i2l (v := (Int32.toInt64 r36.1)) hx hb dX5_enter_13 rfl ?_
  refine fr_aload_n hx hb dX5_enter_14 rfl (lv_at hl 0 rfl) ?_
  obtain ⟨x40, g41, hf⟩ := obind hf
  refine fr_get hx hb hts hown K hC ct_5 (fgJ_get g41) (by decide) kw569 rfl dX5_enter_15 ?_
  refine lv_lmul hx hb dX5_enter_18 ?_
  refine lv_lsub hx hb dX5_enter_19 ?_
  obtain ⟨h42, g43, hf⟩ := obind hf
  refine fr_put hx hb hts hown K hC ct_5 g43 (by decide) kw564 rfl rfl rfl rfl dX5_enter_20 (fun H locs hC => ?_)
  refine fr_aload_n hx hb dX5_enter_23 rfl (lv_at hl 0 rfl) ?_
  refine lv_dup hx hb dX5_enter_24 (va_rf_cat _) ?_
  obtain ⟨x44, g45, hf⟩ := obind hf
  refine fr_get hx hb hts hown K hC ct_5 (fgJ_get g45) (by decide) kw566 rfl dX5_enter_25 ?_
  refine fr_aload_n hx hb dX5_enter_28 rfl (lv_at hl 1 rfl) ?_
  obtain ⟨x46, g47, hf⟩ := obind hf
  refine fr_get hx hb hts hown K hC ct_4 (fgR_get g47) (by decide) kw489 rfl dX5_enter_29 ?_
  refine lv_iload_n hx hb dX5_enter_32 rfl (lv_at hl 2 rfl) ?_
  obtain ⟨b50, q51, hf⟩ := obind hf
  obtain ⟨r48, g49, hf⟩ := obind hf
  refine fr_callV hx hb hml hts hown K hC hR ct_6 (c_X6_at hfl D cA g49) 1 q51 kw195 kw192 kw193 kw194 kw25 (by decide +kernel) ⟨by exact Nat.le_of_ble_eq_true rfl, by exact Nat.le_of_ble_eq_true rfl⟩ rfl hl.1 (cat8 _ (by exact Nat.le_of_ble_eq_true rfl)) dX5_enter_33 rfl (fun H locs _ _ hC => ?_)
  refine lv_i2l (v := (Int32.toInt64 r48.1)) hx hb dX5_enter_36 rfl ?_
  refine fr_aload_n hx hb dX5_enter_37 rfl (lv_at hl 0 rfl) ?_
  obtain ⟨x52, g53, hf⟩ := obind hf
  refine fr_get hx hb hts hown K hC ct_5 (fgJ_get g53) (by decide) kw569 rfl dX5_enter_38 ?_
  refine lv_lmul hx hb dX5_enter_41 ?_
  refine lv_lsub hx hb dX5_enter_42 ?_
  obtain ⟨h54, g55, hf⟩ := obind hf
  refine fr_put hx hb hts hown K hC ct_5 g55 (by decide) kw566 rfl rfl rfl rfl dX5_enter_43 (fun H locs hC => ?_)
  refine fr_aload_n hx hb dX5_enter_46 rfl (lv_at hl 0 rfl) ?_
  refine lv_iconst (v := (4 : Int32)) hx hb dX5_enter_47 (by decide) ?_
  refine fr_aload_n hx hb dX5_enter_48 rfl (lv_at hl 1 rfl) ?_
  obtain ⟨x56, g57, hf⟩ := obind hf
  refine fr_get hx hb hts hown K hC ct_4 (fgR_get g57) (by decide) kw492 rfl dX5_enter_49 ?_
  refine lv_iload_n hx hb dX5_enter_52 rfl (lv_at hl 2 rfl) ?_
  obtain ⟨b60, q61, hf⟩ := obind hf
  obtain ⟨r58, g59, hf⟩ := obind hf
  refine fr_callV hx hb hml hts hown K hC hR ct_6 (c_X6_at hfl D cA g59) 1 q61 kw195 kw192 kw193 kw194 kw25 (by decide +kernel) ⟨by exact Nat.le_of_ble_eq_true rfl, by exact Nat.le_of_ble_eq_true rfl⟩ rfl hl.1 (cat8 _ (by exact Nat.le_of_ble_eq_true rfl)) dX5_enter_53 rfl (fun H locs _ _ hC => ?_)
  refine lv_isub hx hb dX5_enter_56 ?_
  obtain ⟨b64, q65, hf⟩ := obind hf
  obtain ⟨r62, g63, hf⟩ := obind hf
  refine fr_callV hx hb hml hts hown K hC hR ct_5 (c_X5_turnQuarters hfl D cA g63) 1 q65 kw215 kw211 kw213 kw7 kw27 (by decide +kernel) ⟨by exact Nat.le_of_ble_eq_true rfl, by exact Nat.le_of_ble_eq_true rfl⟩ rfl hl.1 (cat8 _ (by exact Nat.le_of_ble_eq_true rfl)) dX5_enter_57 rfl (fun H locs _ _ hC => ?_)
  refine fr_aload_n hx hb dX5_enter_60 rfl (lv_at hl 1 rfl) ?_
  obtain ⟨x66, g67, hf⟩ := obind hf
  refine fr_get hx hb hts hown K hC ct_4 (fgI_get g67) (by decide) kw502 rfl dX5_enter_61 ?_
  refine lv_if_eq (tgt := 76) hx hb dX5_enter_64 (by decide) (fun c68 => ?_) (fun c68 => ?_)
  · replace hf := opos c68 hf
    exact w_X5_enter_L76 M hfl _ _ _ hf _ _ _ _ _ hC (lv_sub hl [0, 1] rfl)
  · replace hf := oneg c68 hf
    refine fr_aload_n hx hb dX5_enter_67 rfl (lv_at hl 0 rfl) ?_
    refine fr_aload_n hx hb dX5_enter_68 rfl (lv_at hl 0 rfl) ?_
    obtain ⟨x69, g70, hf⟩ := obind hf
    refine fr_get hx hb hts hown K hC ct_5 (fgJ_get g70) (by decide) kw564 rfl dX5_enter_69 ?_
    refine lv_lneg hx hb dX5_enter_72 ?_
    obtain ⟨h71, g72, hf⟩ := obind hf
    refine fr_put hx hb hts hown K hC ct_5 g72 (by decide) kw564 rfl rfl rfl rfl dX5_enter_73 (fun H locs hC => ?_)
    exact w_X5_enter_L76 M hfl _ _ _ hf _ _ _ _ _ hC (lv_sub hl [0, 1] rfl)
set_option maxRecDepth 100000 in
theorem c_X5_enter {l : Launch} (hfl : l.stackTraces = false) (D : va_G) (cA : Nat → ClassId) {o : Nat} {p0 : Option Nat} {p1 : Int32} {h : fSt} {r : (Unit × fSt)} (hf : f_X5_enter o p0 p1 h = some r) : fMet l yX5_enter (wsC yX5_enter cX5_enter 3 none) (2) (52) D cA [.ref o, va_rf p0, .int p1] h r.2 none := by
  exact fMet.of (own := RX5) (by decide +kernel) rfl (lva1 rfl (lva1 (va_rf_cat _) (lva1 rfl lva0))) (lgl1 rfl (lgl1 (va_rf_cat _) (lgl1 rfl lgl0))) (Nat.le_of_ble_eq_true rfl) (fun p e s m args below meth c ls hnm _ M hC hl => by
    have hl : lv_has ls 3 [(0, va_rf (some o)), (1, va_rf p0), (2, .int p1)] := hl
    exact w_X5_enter_L0 M hfl _ _ _ _ hf _ _ _ _ _ hC (lv_sub hl [0, 1, 2] rfl))
set_option maxHeartbeats 4000000 in
set_option maxRecDepth 100000 in
theorem w_X7_sink_L24 {p : Program} {l : Launch} {e : Env} {s : State} {m : MethodId} {args : Array Value} {below : List Frame} {meth : Method} {c : Code} {D : va_G} {cA : Nat → ClassId} {h0 : fSt} {self : Option Nat → Option Nat → Int32 → Int32 → fSt → Option (Unit × fSt)} {fd ld : Nat} {r : (Unit × fSt)} (hself : ∀ {p0 : Option Nat} {p1 : Option Nat} {p2 : Int32} {p3 : Int32} {h : fSt} {r : (Unit × fSt)}, self p0 p1 p2 p3 h = some r → fMet l yX7_sink (wsC yX7_sink cX7_sink 4 none) fd ld D cA [va_rf p0, va_rf p1, .int p2, .int p3] h r.2 none) (M : fM p s m args meth c D cA h0 { frames := fd + 3, cells := fCB h0 - fZ h0, slots := fLB h0 - fL h0, locals := ld + 74 } cX7_sink 4 none RX7) (hfl : l.stackTraces = false) (a0 : Option Nat) (a1 : Option Nat) (a2 : Int32) (h : fSt) (hf : f_X7_sink_L24 self a0 a1 a2 h = some r) : ∀ (H : Heap) (locs : List Loc) (cells slots : Nat) (ls : Array Slot), fCur D cA s h0 h H locs → lv_has ls 4 [(0, va_rf a0), (1, va_rf a1), (2, .int a2)] → W p l e { frames := fd + 3, cells := fCB h0 - fZ h0, slots := fLB h0 - fL h0, locals := ld + 74 } s m args below meth c H locs cells slots (MQ below (fQ D cA h0 r.2 none) args s (fCB h0 - fZ h0) (fLB h0 - fL h0) (fA h0)) (F0 m 24 ls []) := by
  obtain ⟨hx, hb, hml, hr, hlocks, hts, hown, K, hR⟩ := id M
  intro H locs cells slots ls hC hl
  refine fr_aload_n hx hb dX7_sink_24 rfl (lv_at hl 0 rfl) ?_
  refine fr_aload_n hx hb dX7_sink_25 rfl (lv_at hl 1 rfl) ?_
  refine lv_iload_n hx hb dX7_sink_26 rfl (lv_at hl 2 rfl) ?_
  obtain ⟨b3, q4, hf⟩ := obind hf
  obtain ⟨r1, g2, hf⟩ := obind hf
  refine fr_callV hx hb hml hts hown K hC hR ct_5 (c_X5_enter hfl D cA g2) 2 q4 kw233 kw230 kw231 kw232 kw27 (by decide +kernel) ⟨by dsimp only; omega, by dsimp only; omega⟩ rfl hl.1 (cat8 _ (by exact Nat.le_of_ble_eq_true rfl)) dX7_sink_27 rfl (fun H locs _ _ hC => ?_)
  obtain rfl := Option.some.inj hf
  exact fr_vret hx hb hr hlocks hC dX7_sink_30
set_option maxHeartbeats 4000000 in
set_option maxRecDepth 100000 in
theorem w_X7_sink_L0 {p : Program} {l : Launch} {e : Env} {s : State} {m : MethodId} {args : Array Value} {below : List Frame} {meth : Method} {c : Code} {D : va_G} {cA : Nat → ClassId} {h0 : fSt} {self : Option Nat → Option Nat → Int32 → Int32 → fSt → Option (Unit × fSt)} {fd ld : Nat} {r : (Unit × fSt)} (hself : ∀ {p0 : Option Nat} {p1 : Option Nat} {p2 : Int32} {p3 : Int32} {h : fSt} {r : (Unit × fSt)}, self p0 p1 p2 p3 h = some r → fMet l yX7_sink (wsC yX7_sink cX7_sink 4 none) fd ld D cA [va_rf p0, va_rf p1, .int p2, .int p3] h r.2 none) (M : fM p s m args meth c D cA h0 { frames := fd + 3, cells := fCB h0 - fZ h0, slots := fLB h0 - fL h0, locals := ld + 74 } cX7_sink 4 none RX7) (hfl : l.stackTraces = false) (a0 : Option Nat) (a1 : Option Nat) (a2 : Int32) (a3 : Int32) (h : fSt) (hf : f_X7_sink_L0 self a0 a1 a2 a3 h = some r) : ∀ (H : Heap) (locs : List Loc) (cells slots : Nat) (ls : Array Slot), fCur D cA s h0 h H locs → lv_has ls 4 [(0, va_rf a0), (1, va_rf a1), (2, .int a2), (3, .int a3)] → W p l e { frames := fd + 3, cells := fCB h0 - fZ h0, slots := fLB h0 - fL h0, locals := ld + 74 } s m args below meth c H locs cells slots (MQ below (fQ D cA h0 r.2 none) args s (fCB h0 - fZ h0) (fLB h0 - fL h0) (fA h0)) (F0 m 0 ls []) := by
  obtain ⟨hx, hb, hml, hr, hlocks, hts, hown, K, hR⟩ := id M
  intro H locs cells slots ls hC hl
  refine fr_aload_n hx hb dX7_sink_0 rfl (lv_at hl 1 rfl) ?_
  obtain ⟨x5, g6, hf⟩ := obind hf
  refine fr_get hx hb hts hown K hC ct_4 (fgR_get g6) (by decide) kw512 rfl dX7_sink_1 ?_
  refine fr_ifnull (tgt := 24) hx hb dX7_sink_4 (by decide) (fun c7 => ?_) (fun c7 => ?_)
  · replace hf := opos c7 hf
    exact w_X7_sink_L24 @hself M hfl _ _ _ _ hf _ _ _ _ _ hC (lv_sub hl [0, 1, 2] rfl)
  · replace hf := oneg c7 hf
    refine lv_iload_n hx hb dX7_sink_7 rfl (lv_at hl 3 rfl) ?_
    refine lv_iconst (v := (4 : Int32)) hx hb dX7_sink_8 (by decide) ?_
    refine lv_icmp_ge (tgt := 24) hx hb dX7_sink_9 (by decide) (fun c8 => ?_) (fun c8 => ?_)
    · replace hf := opos c8 hf
      exact w_X7_sink_L24 @hself M hfl _ _ _ _ hf _ _ _ _ _ hC (lv_sub hl [0, 1, 2] rfl)
    · replace hf := oneg c8 hf
      refine fr_aload_n hx hb dX7_sink_12 rfl (lv_at hl 0 rfl) ?_
      refine fr_aload_n hx hb dX7_sink_13 rfl (lv_at hl 1 rfl) ?_
      obtain ⟨x9, g10, hf⟩ := obind hf
      refine fr_get hx hb hts hown K hC ct_4 (fgR_get g10) (by decide) kw512 rfl dX7_sink_14 ?_
      refine lv_iload_n hx hb dX7_sink_17 rfl (lv_at hl 2 rfl) ?_
      refine lv_iload_n hx hb dX7_sink_18 rfl (lv_at hl 3 rfl) ?_
      refine lv_iconst (v := (1 : Int32)) hx hb dX7_sink_19 (by decide) ?_
      refine lv_iadd hx hb dX7_sink_20 ?_
      obtain ⟨r11, g12, hf⟩ := obind hf
      refine fr_callS hx hb hml hts hown K hC hR (hself g12) 4 kw229 kw227 kw228 kw23 (by decide +kernel) ⟨by dsimp only; omega, by dsimp only; omega⟩ rfl hl.1 (cat8 _ (by exact Nat.le_of_ble_eq_true rfl)) dX7_sink_21 rfl (fun H locs _ _ hC => ?_)
      exact w_X7_sink_L24 @hself M hfl _ _ _ _ hf _ _ _ _ _ hC (lv_sub hl [0, 1, 2] rfl)
set_option maxRecDepth 100000 in
theorem c_X7_sink {l : Launch} (hfl : l.stackTraces = false) (D : va_G) (cA : Nat → ClassId) (d : Nat) : ∀ {p0 : Option Nat} {p1 : Option Nat} {p2 : Int32} {p3 : Int32} {h : fSt} {r : (Unit × fSt)}, f_X7_sink d p0 p1 p2 p3 h = some r → fMet l yX7_sink (wsC yX7_sink cX7_sink 4 none) (3 * d) (74 * d) D cA [va_rf p0, va_rf p1, .int p2, .int p3] h r.2 none := by
  induction d with
  | zero =>
    intro p0 p1 p2 p3 h r hf
    exact nomatch (show (none : Option (Unit × fSt)) = some r from hf)
  | succ d hself =>
    intro p0 p1 p2 p3 h r hf
    have hf : f_X7_sink_L0 (f_X7_sink d) p0 p1 p2 p3 h = some r := hf
    exact fMet.of (own := RX7) (by decide +kernel) rfl (lva1 (va_rf_cat _) (lva1 (va_rf_cat _) (lva1 rfl (lva1 rfl lva0)))) (lgl1 (va_rf_cat _) (lgl1 (va_rf_cat _) (lgl1 rfl (lgl1 rfl lgl0)))) (Nat.le_of_ble_eq_true rfl) (fun p e s m args below meth c ls hnm _ M hC hl => by
    have hl : lv_has ls 4 [(0, va_rf p0), (1, va_rf p1), (2, .int p2), (3, .int p3)] := hl
    exact w_X7_sink_L0 @hself M hfl _ _ _ _ _ hf _ _ _ _ _ hC (lv_sub hl [0, 1, 2, 3] rfl))
set_option maxHeartbeats 4000000 in
set_option maxRecDepth 100000 in
theorem w_X7_between_L0 {p : Program} {l : Launch} {e : Env} {s : State} {m : MethodId} {args : Array Value} {below : List Frame} {meth : Method} {c : Code} {D : va_G} {cA : Nat → ClassId} {h0 : fSt} {r : ((Int32 ⊕ Nat) × fSt)} (M : fM p s m args meth c D cA h0 { frames := 25, cells := fCB h0 - fZ h0, slots := fLB h0 - fL h0, locals := 615 } cX7_between 8 (some (.int)) RX7) (hfl : l.stackTraces = false) (hno : ∀ x ∈ c.exceptionTable.toList, False) (a0 : Option Nat) (a1 : Int32) (a2 : Int32) (a3 : Int32) (a4 : Int32) (a5 : Int32) (h : fSt) (hf : f_X7_between_L0 a0 a1 a2 a3 a4 a5 h = some r) : ∀ (H : Heap) (locs : List Loc) (cells slots : Nat) (ls : Array Slot), fCur D cA s h0 h H locs → lv_has ls 8 [(0, va_rf a0), (1, .int a1), (2, .int a2), (3, .int a3), (4, .int a4), (5, .int a5)] → W p l e { frames := 25, cells := fCB h0 - fZ h0, slots := fLB h0 - fL h0, locals := 615 } s m args below meth c H locs cells slots (vx_MQ below (fQX D cA h0 r.2 (rI r.1)) (fXC D cA h0 r.2 (rI r.1)) args s (fCB h0 - fZ h0) (fLB h0 - fL h0) (fA h0)) (F0 m 0 ls []) := by
  obtain ⟨hx, hb, hml, hr, hlocks, hts, hown, K, hR⟩ := id M
  intro H locs cells slots ls hC hl
  refine fr_aload_n hx hb dX7_between_0 rfl (lv_at hl 0 rfl) ?_
  refine lv_iload_n hx hb dX7_between_1 rfl (lv_at hl 1 rfl) ?_
  obtain ⟨b3, q4, hf⟩ := obind hf
  obtain ⟨⟨v5 | k6, h7⟩, g2, hf⟩ := obind hf
  · refine fr_callVX hx hb hml hts hown K hC hR ct_7 (c_X7_found hfl D cA g2) 1 q4 kw51 kw47 kw49 kw0 kw23 (by decide +kernel) ⟨by exact Nat.le_of_ble_eq_true rfl, by exact Nat.le_of_ble_eq_true rfl⟩ rfl hl.1 (cat8 _ (by exact Nat.le_of_ble_eq_true rfl)) dX7_between_2 rfl (fun H locs _ _ hC => ?_)
    refine fr_astore (lv' := [(6, va_rf v5), (0, va_rf a0), (1, .int a1), (2, .int a2), (3, .int a3), (4, .int a4), (5, .int a5)]) hx hb dX7_between_5 hl (by decide) (congrArg (List.cons _) (flk rfl (flk rfl (flk rfl (flk rfl (flk rfl (flk rfl fln))))))) (fun ls hl => ?_)
    refine fr_aload_n hx hb dX7_between_7 rfl (lv_at hl 1 rfl) ?_
    refine lv_iload_n hx hb dX7_between_8 rfl (lv_at hl 3 rfl) ?_
    obtain ⟨b10, q11, hf⟩ := obind hf
    obtain ⟨⟨v12 | k13, h14⟩, g9, hf⟩ := obind hf
    · refine fr_callVX hx hb hml hts hown K hC hR ct_7 (c_X7_found hfl D cA g9) 1 q11 kw51 kw47 kw49 kw0 kw23 (by decide +kernel) ⟨by exact Nat.le_of_ble_eq_true rfl, by exact Nat.le_of_ble_eq_true rfl⟩ rfl hl.1 (cat8 _ (by exact Nat.le_of_ble_eq_true rfl)) dX7_between_9 rfl (fun H locs _ _ hC => ?_)
      refine fr_astore (lv' := [(7, va_rf v12), (6, va_rf v5), (0, va_rf a0), (1, .int a1), (2, .int a2), (3, .int a3), (4, .int a4), (5, .int a5)]) hx hb dX7_between_12 hl (by decide) (congrArg (List.cons _) (flk (adj1 _ _) (flk rfl (flk rfl (flk rfl (flk rfl (flk rfl (flk rfl fln)))))))) (fun ls hl => ?_)
      refine lv_iload_n hx hb dX7_between_14 rfl (lv_at hl 5 rfl) ?_
      refine lv_iload hx hb dX7_between_15 (lv_at hl 6 rfl) ?_
      refine lv_iload hx hb dX7_between_17 (lv_at hl 7 rfl) ?_
      obtain ⟨⟨v17 | k18, h19⟩, g16, hf⟩ := obind hf
      · refine fr_callSX hx hb hml hts hown K hC hR (c_X7_checkPoint hfl D cA g16) 3 kw177 kw175 kw176 kw23 (by decide +kernel) ⟨by exact Nat.le_of_ble_eq_true rfl, by exact Nat.le_of_ble_eq_true rfl⟩ rfl hl.1 (cat8 _ (by exact Nat.le_of_ble_eq_true rfl)) dX7_between_19 rfl (fun H locs _ _ hC => ?_)
        refine fr_aload_n hx hb dX7_between_22 rfl (lv_at hl 2 rfl) ?_
        refine fr_aload hx hb dX7_between_23 (lv_at hl 1 rfl) ?_
        refine lv_iload_n hx hb dX7_between_25 rfl (lv_at hl 5 rfl) ?_
        refine lv_iload hx hb dX7_between_26 (lv_at hl 6 rfl) ?_
        obtain ⟨b22, q23, hf⟩ := obind hf
        obtain ⟨r20, g21, hf⟩ := obind hf
        refine fr_callV hx hb hml hts hown K hC hR ct_7 (c_X7_raise hfl D cA g21) 3 q23 kw183 kw180 kw182 kw3 kw23 (by decide +kernel) ⟨by exact Nat.le_of_ble_eq_true rfl, by exact Nat.le_of_ble_eq_true rfl⟩ rfl hl.1 (cat8 _ (by exact Nat.le_of_ble_eq_true rfl)) dX7_between_28 rfl (fun H locs _ _ hC => ?_)
        refine fr_aload_n hx hb dX7_between_31 rfl (lv_at hl 2 rfl) ?_
        obtain ⟨x24, g25, hf⟩ := obind hf
        refine fr_get hx hb hts hown K hC ct_7 (fgR_get g25) (by decide) kw620 rfl dX7_between_32 ?_
        refine fr_aload hx hb dX7_between_35 (lv_at hl 0 rfl) ?_
        refine fr_aload_n hx hb dX7_between_37 rfl (lv_at hl 2 rfl) ?_
        obtain ⟨x26, g27, hf⟩ := obind hf
        refine fr_get hx hb hts hown K hC ct_7 (fgI_get g27) (by decide) kw624 rfl dX7_between_38 ?_
        refine lv_iconst (v := (0 : Int32)) hx hb dX7_between_41 (by decide) ?_
        obtain ⟨r28, g29, hf⟩ := obind hf
        refine fr_callS hx hb hml hts hown K hC hR (c_X7_sink hfl D cA 8 g29) 4 kw229 kw227 kw228 kw23 (by decide +kernel) ⟨by exact Nat.le_of_ble_eq_true rfl, by exact Nat.le_of_ble_eq_true rfl⟩ rfl hl.1 (cat8 _ (by exact Nat.le_of_ble_eq_true rfl)) dX7_between_42 rfl (fun H locs _ _ hC => ?_)
        refine fr_aload_n hx hb dX7_between_45 rfl (lv_at hl 2 rfl) ?_
        obtain ⟨x30, g31, hf⟩ := obind hf
        refine fr_get hx hb hts hown K hC ct_7 (fgR_get g31) (by decide) kw620 rfl dX7_between_46 ?_
        refine lv_iload hx hb dX7_between_49 (lv_at hl 7 rfl) ?_
        obtain ⟨b34, q35, hf⟩ := obind hf
        obtain ⟨r32, g33, hf⟩ := obind hf
        refine fr_callV hx hb hml hts hown K hC hR ct_5 (c_X5_part hfl D cA g33) 1 q35 kw219 kw216 kw217 kw218 kw27 (by decide +kernel) ⟨by exact Nat.le_of_ble_eq_true rfl, by exact Nat.le_of_ble_eq_true rfl⟩ rfl hl.1 (cat8 _ (by exact Nat.le_of_ble_eq_true rfl)) dX7_between_51 rfl (fun H locs _ _ hC => ?_)
        refine lv_l2i (v := (Int64.toInt32 r32.1)) hx hb dX7_between_54 rfl ?_
        obtain rfl := Option.some.inj hf
        exact fr_retQ (fr_iret hx hb hr hlocks hC dX7_between_55)
      · obtain rfl := Option.some.inj hf
        refine fr_callST hx hb hml hts hown K hC hR (c_X7_checkPoint hfl D cA g16) 3 kw177 kw175 kw176 kw23 (by decide +kernel) ⟨by exact Nat.le_of_ble_eq_true rfl, by exact Nat.le_of_ble_eq_true rfl⟩ rfl hl.1 (cat8 _ (by exact Nat.le_of_ble_eq_true rfl)) dX7_between_19 rfl (fun H locs _ _ q ce hC e1 e2 e3 => ?_)
        exact fr_out (fun x hx9 => (hno x hx9).elim) hlocks hC e1 e2 e3
    · obtain rfl := Option.some.inj hf
      refine fr_callVT hx hb hml hts hown K hC hR ct_7 (c_X7_found hfl D cA g9) 1 q11 kw51 kw47 kw49 kw0 kw23 (by decide +kernel) ⟨by exact Nat.le_of_ble_eq_true rfl, by exact Nat.le_of_ble_eq_true rfl⟩ rfl hl.1 (cat8 _ (by exact Nat.le_of_ble_eq_true rfl)) dX7_between_9 rfl (fun H locs _ _ q ce hC e1 e2 e3 => ?_)
      exact fr_out (fun x hx9 => (hno x hx9).elim) hlocks hC e1 e2 e3
  · obtain rfl := Option.some.inj hf
    refine fr_callVT hx hb hml hts hown K hC hR ct_7 (c_X7_found hfl D cA g2) 1 q4 kw51 kw47 kw49 kw0 kw23 (by decide +kernel) ⟨by exact Nat.le_of_ble_eq_true rfl, by exact Nat.le_of_ble_eq_true rfl⟩ rfl hl.1 (cat8 _ (by exact Nat.le_of_ble_eq_true rfl)) dX7_between_2 rfl (fun H locs _ _ q ce hC e1 e2 e3 => ?_)
    exact fr_out (fun x hx9 => (hno x hx9).elim) hlocks hC e1 e2 e3
set_option maxRecDepth 100000 in
theorem c_X7_between {l : Launch} (hfl : l.stackTraces = false) (D : va_G) (cA : Nat → ClassId) {o : Nat} {p0 : Int32} {p1 : Int32} {p2 : Int32} {p3 : Int32} {p4 : Int32} {h : fSt} {r : ((Int32 ⊕ Nat) × fSt)} (hf : f_X7_between o p0 p1 p2 p3 p4 h = some r) : fMetX l yX7_between (wsC yX7_between cX7_between 8 (some (.int))) (25) (615) D cA [.ref o, .int p0, .int p1, .int p2, .int p3, .int p4] h r.2 (rI r.1) := by
  exact fMetX.of (own := RX7) (by decide +kernel) rfl (lva1 rfl (lva1 rfl (lva1 rfl (lva1 rfl (lva1 rfl (lva1 rfl lva0)))))) (lgl1 rfl (lgl1 rfl (lgl1 rfl (lgl1 rfl (lgl1 rfl (lgl1 rfl lgl0)))))) (Nat.le_of_ble_eq_true rfl) (fun p e s m args below meth c ls hno M hC hl => by
    have hl : lv_has ls 8 [(0, va_rf (some o)), (1, .int p0), (2, .int p1), (3, .int p2), (4, .int p3), (5, .int p4)] := hl
    exact w_X7_between_L0 M hfl hno _ _ _ _ _ _ _ hf _ _ _ _ _ hC (lv_sub hl [0, 1, 2, 3, 4, 5] rfl))
set_option maxHeartbeats 4000000 in
set_option maxRecDepth 100000 in
theorem w_X0_side_L0 {p : Program} {l : Launch} {e : Env} {s : State} {m : MethodId} {args : Array Value} {below : List Frame} {meth : Method} {c : Code} {D : va_G} {cA : Nat → ClassId} {h0 : fSt} {r : (Option Nat × fSt)} (M : fM p s m args meth c D cA h0 { frames := 0, cells := fCB h0 - fZ h0, slots := fLB h0 - fL h0, locals := 0 } cX0_side 2 (some (.object "TapestryScene$Fraction")) RX0) (hfl : l.stackTraces = false) (a0 : Option Nat) (a1 : Int32) (h : fSt) (hf : f_X0_side_L0 a0 a1 h = some r) : ∀ (H : Heap) (locs : List Loc) (cells slots : Nat) (ls : Array Slot), fCur D cA s h0 h H locs → lv_has ls 2 [(0, va_rf a0), (1, .int a1)] → W p l e { frames := 0, cells := fCB h0 - fZ h0, slots := fLB h0 - fL h0, locals := 0 } s m args below meth c H locs cells slots (MQ below (fQ D cA h0 r.2 (some (va_rf r.1))) args s (fCB h0 - fZ h0) (fLB h0 - fL h0) (fA h0)) (F0 m 0 ls []) := by
  obtain ⟨hx, hb, hml, hr, hlocks, hts, hown, K, hR⟩ := id M
  intro H locs cells slots ls hC hl
  refine lv_iload_n hx hb dX0_side_0 rfl (lv_at hl 1 rfl) ?_
  by_cases c1 : a1 = (0 : Int32)
  · replace hf := opos c1 hf
    refine lv_tableIn (off := 27) (tgt := 28) hx hb dX0_side_1 (by rw [c1]; decide) (by rw [c1]; decide) (by rw [c1]; rfl) (by decide) ?_
    refine fr_aload_n hx hb dX0_side_28 rfl (lv_at hl 0 rfl) ?_
    obtain ⟨x2, g3, hf⟩ := obind hf
    refine fr_get hx hb hts hown K hC ct_0 (fgR_get g3) (by decide) kw604 rfl dX0_side_29 ?_
    obtain rfl := Option.some.inj hf
    exact fr_aret hx hb hr (Or.inl ⟨_, rfl⟩) hlocks hC dX0_side_32
  replace hf := oneg c1 hf
  by_cases c4 : a1 = (1 : Int32)
  · replace hf := opos c4 hf
    refine lv_tableIn (off := 32) (tgt := 33) hx hb dX0_side_1 (by rw [c4]; decide) (by rw [c4]; decide) (by rw [c4]; rfl) (by decide) ?_
    refine fr_aload_n hx hb dX0_side_33 rfl (lv_at hl 0 rfl) ?_
    obtain ⟨x5, g6, hf⟩ := obind hf
    refine fr_get hx hb hts hown K hC ct_0 (fgR_get g6) (by decide) kw605 rfl dX0_side_34 ?_
    obtain rfl := Option.some.inj hf
    exact fr_aret hx hb hr (Or.inl ⟨_, rfl⟩) hlocks hC dX0_side_37
  replace hf := oneg c4 hf
  by_cases c7 : a1 = (2 : Int32)
  · replace hf := opos c7 hf
    refine lv_tableIn (off := 37) (tgt := 38) hx hb dX0_side_1 (by rw [c7]; decide) (by rw [c7]; decide) (by rw [c7]; rfl) (by decide) ?_
    refine fr_aload_n hx hb dX0_side_38 rfl (lv_at hl 0 rfl) ?_
    obtain ⟨x8, g9, hf⟩ := obind hf
    refine fr_get hx hb hts hown K hC ct_0 (fgR_get g9) (by decide) kw606 rfl dX0_side_39 ?_
    obtain rfl := Option.some.inj hf
    exact fr_aret hx hb hr (Or.inl ⟨_, rfl⟩) hlocks hC dX0_side_42
  replace hf := oneg c7 hf
  refine lv_tableOut (tgt := 43) hx hb dX0_side_1 (swOut3 c1 c4 c7) (by decide) ?_
  refine fr_aload_n hx hb dX0_side_43 rfl (lv_at hl 0 rfl) ?_
  obtain ⟨x10, g11, hf⟩ := obind hf
  refine fr_get hx hb hts hown K hC ct_0 (fgR_get g11) (by decide) kw607 rfl dX0_side_44 ?_
  obtain rfl := Option.some.inj hf
  exact fr_aret hx hb hr (Or.inl ⟨_, rfl⟩) hlocks hC dX0_side_47
set_option maxRecDepth 100000 in
theorem c_X0_side {l : Launch} (hfl : l.stackTraces = false) (D : va_G) (cA : Nat → ClassId) {o : Nat} {p0 : Int32} {h : fSt} {r : (Option Nat × fSt)} (hf : f_X0_side o p0 h = some r) : fMet l yX0_side (wsC yX0_side cX0_side 2 (some (.object "TapestryScene$Fraction"))) (0) (0) D cA [.ref o, .int p0] h r.2 (some (va_rf r.1)) := by
  exact fMet.of (own := RX0) (by decide +kernel) rfl (lva1 rfl (lva1 rfl lva0)) (lgl1 rfl (lgl1 rfl lgl0)) (Nat.le_of_ble_eq_true rfl) (fun p e s m args below meth c ls hnm _ M hC hl => by
    have hl : lv_has ls 2 [(0, va_rf (some o)), (1, .int p0)] := hl
    exact w_X0_side_L0 M hfl _ _ _ hf _ _ _ _ _ hC (lv_sub hl [0, 1] rfl))
set_option maxHeartbeats 4000000 in
set_option maxRecDepth 100000 in
theorem w_X1_set_L0 {p : Program} {l : Launch} {e : Env} {s : State} {m : MethodId} {args : Array Value} {below : List Frame} {meth : Method} {c : Code} {D : va_G} {cA : Nat → ClassId} {h0 : fSt} {r : (Unit × fSt)} (M : fM p s m args meth c D cA h0 { frames := 1, cells := fCB h0 - fZ h0, slots := fLB h0 - fL h0, locals := 30 } cX1_set 7 none RX1) (hfl : l.stackTraces = false) (a0 : Option Nat) (a1 : Int64) (a3 : Int64) (h : fSt) (hf : f_X1_set_L0 a0 a1 a3 h = some r) : ∀ (H : Heap) (locs : List Loc) (cells slots : Nat) (ls : Array Slot), fCur D cA s h0 h H locs → lv_has ls 7 [(0, va_rf a0), (1, .long a1), (3, .long a3)] → W p l e { frames := 1, cells := fCB h0 - fZ h0, slots := fLB h0 - fL h0, locals := 30 } s m args below meth c H locs cells slots (MQ below (fQ D cA h0 r.2 none) args s (fCB h0 - fZ h0) (fLB h0 - fL h0) (fA h0)) (F0 m 0 ls []) := by
  obtain ⟨hx, hb, hml, hr, hlocks, hts, hown, K, hR⟩ := id M
  intro H locs cells slots ls hC hl
  refine lv_lload_n hx hb dX1_set_0 rfl (lv_at hl 1 rfl) ?_
  refine lv_lload_n hx hb dX1_set_1 rfl (lv_at hl 2 rfl) ?_
  obtain ⟨r1, g2, hf⟩ := obind hf
  refine fr_callSN hx hb hml hts hown K hC hR (c_X7_commonDivisor hfl D cA g2) 2 kw222 kn259 kw221 kw23 (by decide +kernel) ⟨by exact Nat.le_of_ble_eq_true rfl, by exact Nat.le_of_ble_eq_true rfl⟩ rfl hl.1 (cat8 _ (by exact Nat.le_of_ble_eq_true rfl)) dX1_set_2 rfl (fun H locs _ _ hC => ?_)
  refine lv_lstore (lv' := [(5, .long r1.1), (0, va_rf a0), (1, .long a1), (3, .long a3)]) hx hb dX1_set_5 hl (by decide) (congrArg (List.cons _) (flk rfl (flk rfl (flk rfl fln)))) (fun ls hl => ?_)
  refine fr_aload_n hx hb dX1_set_7 rfl (lv_at hl 1 rfl) ?_
  refine lv_lload_n hx hb dX1_set_8 rfl (lv_at hl 2 rfl) ?_
  refine lv_lload hx hb dX1_set_9 (lv_at hl 0 rfl) ?_
  by_cases c3 : r1.1 = 0
  · exact nomatch (opos c3 hf)
  replace hf := oneg c3 hf
  refine lv_ldiv hx hb dX1_set_11 c3 ?_
  obtain ⟨h4, g5, hf⟩ := obind hf
  refine fr_put hx hb hts hown K hC ct_1 g5 (by decide) kw595 rfl rfl rfl rfl dX1_set_12 (fun H locs hC => ?_)
  refine fr_aload_n hx hb dX1_set_15 rfl (lv_at hl 1 rfl) ?_
  refine lv_lload_n hx hb dX1_set_16 rfl (lv_at hl 3 rfl) ?_
  refine lv_lload hx hb dX1_set_17 (lv_at hl 0 rfl) ?_
  by_cases c6 : r1.1 = 0
  · exact nomatch (opos c6 hf)
  replace hf := oneg c6 hf
  refine lv_ldiv hx hb dX1_set_19 c6 ?_
  obtain ⟨h7, g8, hf⟩ := obind hf
  refine fr_put hx hb hts hown K hC ct_1 g8 (by decide) kw597 rfl rfl rfl rfl dX1_set_20 (fun H locs hC => ?_)
  obtain rfl := Option.some.inj hf
  exact fr_vret hx hb hr hlocks hC dX1_set_23
set_option maxRecDepth 100000 in
theorem c_X1_set {l : Launch} (hfl : l.stackTraces = false) (D : va_G) (cA : Nat → ClassId) {o : Nat} {p0 : Int64} {p1 : Int64} {h : fSt} {r : (Unit × fSt)} (hf : f_X1_set o p0 p1 h = some r) : fMet l yX1_set (wsC yX1_set cX1_set 7 none) (1) (30) D cA [.ref o, .long p0, .long p1] h r.2 none := by
  exact fMet.of (own := RX1) (by decide +kernel) rfl (lva1 rfl (lva2 rfl (lva2 rfl lva0))) (lgl1 rfl (lgl2 rfl (lgl2 rfl lgl0))) (Nat.le_of_ble_eq_true rfl) (fun p e s m args below meth c ls hnm _ M hC hl => by
    have hl : lv_has ls 7 [(0, va_rf (some o)), (1, .long p0), (3, .long p1)] := hl
    exact w_X1_set_L0 M hfl _ _ _ _ hf _ _ _ _ _ hC (lv_sub hl [0, 1, 2] rfl))
set_option maxHeartbeats 4000000 in
set_option maxRecDepth 100000 in
theorem w_X0_clear_L0 {p : Program} {l : Launch} {e : Env} {s : State} {m : MethodId} {args : Array Value} {below : List Frame} {meth : Method} {c : Code} {D : va_G} {cA : Nat → ClassId} {h0 : fSt} {r : (Unit × fSt)} (M : fM p s m args meth c D cA h0 { frames := 2, cells := fCB h0 - fZ h0, slots := fLB h0 - fL h0, locals := 56 } cX0_clear 1 none RX0) (hfl : l.stackTraces = false) (a0 : Option Nat) (h : fSt) (hf : f_X0_clear_L0 a0 h = some r) : ∀ (H : Heap) (locs : List Loc) (cells slots : Nat) (ls : Array Slot), fCur D cA s h0 h H locs → lv_has ls 1 [(0, va_rf a0)] → W p l e { frames := 2, cells := fCB h0 - fZ h0, slots := fLB h0 - fL h0, locals := 56 } s m args below meth c H locs cells slots (MQ below (fQ D cA h0 r.2 none) args s (fCB h0 - fZ h0) (fLB h0 - fL h0) (fA h0)) (F0 m 0 ls []) := by
  obtain ⟨hx, hb, hml, hr, hlocks, hts, hown, K, hR⟩ := id M
  intro H locs cells slots ls hC hl
  refine fr_aload_n hx hb dX0_clear_0 rfl (lv_at hl 0 rfl) ?_
  obtain ⟨x1, g2, hf⟩ := obind hf
  refine fr_get hx hb hts hown K hC ct_0 (fgR_get g2) (by decide) kw604 rfl dX0_clear_1 ?_
  refine lv_lconst (v := (0 : Int64)) hx hb dX0_clear_4 (by decide) ?_
  refine lv_lconst (v := (0 : Int64)) hx hb dX0_clear_5 (by decide) ?_
  obtain ⟨b5, q6, hf⟩ := obind hf
  obtain ⟨r3, g4, hf⟩ := obind hf
  refine fr_callV hx hb hml hts hown K hC hR ct_1 (c_X1_set hfl D cA g4) 2 q6 kw258 kw255 kw256 kw257 kw29 (by decide +kernel) ⟨by exact Nat.le_of_ble_eq_true rfl, by exact Nat.le_of_ble_eq_true rfl⟩ rfl hl.1 (cat8 _ (by exact Nat.le_of_ble_eq_true rfl)) dX0_clear_6 rfl (fun H locs _ _ hC => ?_)
  refine fr_aload_n hx hb dX0_clear_9 rfl (lv_at hl 0 rfl) ?_
  obtain ⟨x7, g8, hf⟩ := obind hf
  refine fr_get hx hb hts hown K hC ct_0 (fgR_get g8) (by decide) kw605 rfl dX0_clear_10 ?_
  refine lv_lconst (v := (0 : Int64)) hx hb dX0_clear_13 (by decide) ?_
  refine lv_lconst (v := (0 : Int64)) hx hb dX0_clear_14 (by decide) ?_
  obtain ⟨b11, q12, hf⟩ := obind hf
  obtain ⟨r9, g10, hf⟩ := obind hf
  refine fr_callV hx hb hml hts hown K hC hR ct_1 (c_X1_set hfl D cA g10) 2 q12 kw258 kw255 kw256 kw257 kw29 (by decide +kernel) ⟨by exact Nat.le_of_ble_eq_true rfl, by exact Nat.le_of_ble_eq_true rfl⟩ rfl hl.1 (cat8 _ (by exact Nat.le_of_ble_eq_true rfl)) dX0_clear_15 rfl (fun H locs _ _ hC => ?_)
  refine fr_aload_n hx hb dX0_clear_18 rfl (lv_at hl 0 rfl) ?_
  obtain ⟨x13, g14, hf⟩ := obind hf
  refine fr_get hx hb hts hown K hC ct_0 (fgR_get g14) (by decide) kw606 rfl dX0_clear_19 ?_
  refine lv_lconst (v := (0 : Int64)) hx hb dX0_clear_22 (by decide) ?_
  refine lv_lconst (v := (0 : Int64)) hx hb dX0_clear_23 (by decide) ?_
  obtain ⟨b17, q18, hf⟩ := obind hf
  obtain ⟨r15, g16, hf⟩ := obind hf
  refine fr_callV hx hb hml hts hown K hC hR ct_1 (c_X1_set hfl D cA g16) 2 q18 kw258 kw255 kw256 kw257 kw29 (by decide +kernel) ⟨by exact Nat.le_of_ble_eq_true rfl, by exact Nat.le_of_ble_eq_true rfl⟩ rfl hl.1 (cat8 _ (by exact Nat.le_of_ble_eq_true rfl)) dX0_clear_24 rfl (fun H locs _ _ hC => ?_)
  refine fr_aload_n hx hb dX0_clear_27 rfl (lv_at hl 0 rfl) ?_
  obtain ⟨x19, g20, hf⟩ := obind hf
  refine fr_get hx hb hts hown K hC ct_0 (fgR_get g20) (by decide) kw607 rfl dX0_clear_28 ?_
  refine lv_lconst (v := (0 : Int64)) hx hb dX0_clear_31 (by decide) ?_
  refine lv_lconst (v := (0 : Int64)) hx hb dX0_clear_32 (by decide) ?_
  obtain ⟨b23, q24, hf⟩ := obind hf
  obtain ⟨r21, g22, hf⟩ := obind hf
  refine fr_callV hx hb hml hts hown K hC hR ct_1 (c_X1_set hfl D cA g22) 2 q24 kw258 kw255 kw256 kw257 kw29 (by decide +kernel) ⟨by exact Nat.le_of_ble_eq_true rfl, by exact Nat.le_of_ble_eq_true rfl⟩ rfl hl.1 (cat8 _ (by exact Nat.le_of_ble_eq_true rfl)) dX0_clear_33 rfl (fun H locs _ _ hC => ?_)
  obtain rfl := Option.some.inj hf
  exact fr_vret hx hb hr hlocks hC dX0_clear_36
set_option maxRecDepth 100000 in
theorem c_X0_clear {l : Launch} (hfl : l.stackTraces = false) (D : va_G) (cA : Nat → ClassId) {o : Nat} {h : fSt} {r : (Unit × fSt)} (hf : f_X0_clear o h = some r) : fMet l yX0_clear (wsC yX0_clear cX0_clear 1 none) (2) (56) D cA [.ref o] h r.2 none := by
  exact fMet.of (own := RX0) (by decide +kernel) rfl (lva1 rfl lva0) (lgl1 rfl lgl0) (Nat.le_of_ble_eq_true rfl) (fun p e s m args below meth c ls hnm _ M hC hl => by
    have hl : lv_has ls 1 [(0, va_rf (some o))] := hl
    exact w_X0_clear_L0 M hfl _ _ hf _ _ _ _ _ hC (lv_sub hl [0] rfl))
