theorem dX7_checkSpot_0 : decode cX7_checkSpot 0 = .ok (.iload_n 0, 1) := by decide +kernel
theorem dX7_checkSpot_1 : decode cX7_checkSpot 1 = .ok (.sipush (-10000), 3) := by decide +kernel
theorem dX7_checkSpot_4 : decode cX7_checkSpot 4 = .ok (.sipush 10000, 3) := by decide +kernel
theorem dX7_checkSpot_7 : decode cX7_checkSpot 7 = .ok (.invokestatic 56, 3) := by decide +kernel
theorem dX7_checkSpot_10 : decode cX7_checkSpot 10 = .ok (.ifCond .eq 16, 3) := by decide +kernel
theorem dX7_checkSpot_13 : decode cX7_checkSpot 13 = .ok (.iload_n 1, 1) := by decide +kernel
theorem dX7_checkSpot_14 : decode cX7_checkSpot 14 = .ok (.sipush (-10000), 3) := by decide +kernel
theorem dX7_checkSpot_17 : decode cX7_checkSpot 17 = .ok (.sipush 10000, 3) := by decide +kernel
theorem dX7_checkSpot_20 : decode cX7_checkSpot 20 = .ok (.invokestatic 56, 3) := by decide +kernel
theorem dX7_checkSpot_23 : decode cX7_checkSpot 23 = .ok (.ifCond .ne 14, 3) := by decide +kernel
theorem dX7_checkSpot_26 : decode cX7_checkSpot 26 = .ok (.new 60, 3) := by decide +kernel
theorem dX7_checkSpot_29 : decode cX7_checkSpot 29 = .ok (.dup, 1) := by decide +kernel
theorem dX7_checkSpot_30 : decode cX7_checkSpot 30 = .ok (.ldc_w 355, 3) := by decide +kernel
theorem dX7_checkSpot_33 : decode cX7_checkSpot 33 = .ok (.invokespecial 64, 3) := by decide +kernel
theorem dX7_checkSpot_36 : decode cX7_checkSpot 36 = .ok (.athrow, 1) := by decide +kernel
theorem dX7_checkSpot_37 : decode cX7_checkSpot 37 = .ok (.iload_n 2, 1) := by decide +kernel
theorem dX7_checkSpot_38 : decode cX7_checkSpot 38 = .ok (.iconst 1, 1) := by decide +kernel
theorem dX7_checkSpot_39 : decode cX7_checkSpot 39 = .ok (.bipush 60, 2) := by decide +kernel
theorem dX7_checkSpot_41 : decode cX7_checkSpot 41 = .ok (.invokestatic 56, 3) := by decide +kernel
theorem dX7_checkSpot_44 : decode cX7_checkSpot 44 = .ok (.ifCond .ne 14, 3) := by decide +kernel
theorem dX7_checkSpot_47 : decode cX7_checkSpot 47 = .ok (.new 60, 3) := by decide +kernel
theorem dX7_checkSpot_50 : decode cX7_checkSpot 50 = .ok (.dup, 1) := by decide +kernel
theorem dX7_checkSpot_51 : decode cX7_checkSpot 51 = .ok (.ldc_w 357, 3) := by decide +kernel
theorem dX7_checkSpot_54 : decode cX7_checkSpot 54 = .ok (.invokespecial 64, 3) := by decide +kernel
theorem dX7_checkSpot_57 : decode cX7_checkSpot 57 = .ok (.athrow, 1) := by decide +kernel
theorem dX7_checkSpot_58 : decode cX7_checkSpot 58 = .ok (.return_, 1) := by decide +kernel
theorem dX2_isAheadOfSlope_0 : decode cX2_isAheadOfSlope 0 = .ok (.aload_n 1, 1) := by decide +kernel
theorem dX2_isAheadOfSlope_1 : decode cX2_isAheadOfSlope 1 = .ok (.getfield 22, 3) := by decide +kernel
theorem dX2_isAheadOfSlope_4 : decode cX2_isAheadOfSlope 4 = .ok (.aload_n 0, 1) := by decide +kernel
theorem dX2_isAheadOfSlope_5 : decode cX2_isAheadOfSlope 5 = .ok (.getfield 19, 3) := by decide +kernel
theorem dX2_isAheadOfSlope_8 : decode cX2_isAheadOfSlope 8 = .ok (.i2l, 1) := by decide +kernel
theorem dX2_isAheadOfSlope_9 : decode cX2_isAheadOfSlope 9 = .ok (.lmul, 1) := by decide +kernel
theorem dX2_isAheadOfSlope_10 : decode cX2_isAheadOfSlope 10 = .ok (.aload_n 1, 1) := by decide +kernel
theorem dX2_isAheadOfSlope_11 : decode cX2_isAheadOfSlope 11 = .ok (.getfield 31, 3) := by decide +kernel
theorem dX2_isAheadOfSlope_14 : decode cX2_isAheadOfSlope 14 = .ok (.aload_n 0, 1) := by decide +kernel
theorem dX2_isAheadOfSlope_15 : decode cX2_isAheadOfSlope 15 = .ok (.getfield 16, 3) := by decide +kernel
theorem dX2_isAheadOfSlope_18 : decode cX2_isAheadOfSlope 18 = .ok (.i2l, 1) := by decide +kernel
theorem dX2_isAheadOfSlope_19 : decode cX2_isAheadOfSlope 19 = .ok (.lmul, 1) := by decide +kernel
theorem dX2_isAheadOfSlope_20 : decode cX2_isAheadOfSlope 20 = .ok (.ladd, 1) := by decide +kernel
theorem dX2_isAheadOfSlope_21 : decode cX2_isAheadOfSlope 21 = .ok (.aload_n 1, 1) := by decide +kernel
theorem dX2_isAheadOfSlope_22 : decode cX2_isAheadOfSlope 22 = .ok (.getfield 28, 3) := by decide +kernel
theorem dX2_isAheadOfSlope_25 : decode cX2_isAheadOfSlope 25 = .ok (.aload_n 0, 1) := by decide +kernel
theorem dX2_isAheadOfSlope_26 : decode cX2_isAheadOfSlope 26 = .ok (.getfield 16, 3) := by decide +kernel
theorem dX2_isAheadOfSlope_29 : decode cX2_isAheadOfSlope 29 = .ok (.i2l, 1) := by decide +kernel
theorem dX2_isAheadOfSlope_30 : decode cX2_isAheadOfSlope 30 = .ok (.lmul, 1) := by decide +kernel
theorem dX2_isAheadOfSlope_31 : decode cX2_isAheadOfSlope 31 = .ok (.aload_n 0, 1) := by decide +kernel
theorem dX2_isAheadOfSlope_32 : decode cX2_isAheadOfSlope 32 = .ok (.getfield 19, 3) := by decide +kernel
theorem dX2_isAheadOfSlope_35 : decode cX2_isAheadOfSlope 35 = .ok (.i2l, 1) := by decide +kernel
theorem dX2_isAheadOfSlope_36 : decode cX2_isAheadOfSlope 36 = .ok (.lmul, 1) := by decide +kernel
theorem dX2_isAheadOfSlope_37 : decode cX2_isAheadOfSlope 37 = .ok (.lcmp, 1) := by decide +kernel
theorem dX2_isAheadOfSlope_38 : decode cX2_isAheadOfSlope 38 = .ok (.ifCond .gt 7, 3) := by decide +kernel
theorem dX2_isAheadOfSlope_41 : decode cX2_isAheadOfSlope 41 = .ok (.iconst 1, 1) := by decide +kernel
theorem dX2_isAheadOfSlope_42 : decode cX2_isAheadOfSlope 42 = .ok (.goto 4, 3) := by decide +kernel
theorem dX2_isAheadOfSlope_45 : decode cX2_isAheadOfSlope 45 = .ok (.iconst 0, 1) := by decide +kernel
theorem dX2_isAheadOfSlope_46 : decode cX2_isAheadOfSlope 46 = .ok (.ireturn, 1) := by decide +kernel
theorem dX4_owns_0 : decode cX4_owns 0 = .ok (.aload_n 0, 1) := by decide +kernel
theorem dX4_owns_1 : decode cX4_owns 1 = .ok (.getfield 39, 3) := by decide +kernel
theorem dX4_owns_4 : decode cX4_owns 4 = .ok (.ifCond .eq 37, 3) := by decide +kernel
theorem dX4_owns_7 : decode cX4_owns 7 = .ok (.aload_n 0, 1) := by decide +kernel
theorem dX4_owns_8 : decode cX4_owns 8 = .ok (.getfield 47, 3) := by decide +kernel
theorem dX4_owns_11 : decode cX4_owns 11 = .ok (.aload_n 1, 1) := by decide +kernel
theorem dX4_owns_12 : decode cX4_owns 12 = .ok (.invokevirtual 79, 3) := by decide +kernel
theorem dX4_owns_15 : decode cX4_owns 15 = .ok (.ifCond .eq 26, 3) := by decide +kernel
theorem dX4_owns_18 : decode cX4_owns 18 = .ok (.aload_n 0, 1) := by decide +kernel
theorem dX4_owns_19 : decode cX4_owns 19 = .ok (.getfield 39, 3) := by decide +kernel
theorem dX4_owns_22 : decode cX4_owns 22 = .ok (.iconst 1, 1) := by decide +kernel
theorem dX4_owns_23 : decode cX4_owns 23 = .ok (.if_icmp .eq 14, 3) := by decide +kernel
theorem dX4_owns_26 : decode cX4_owns 26 = .ok (.aload_n 0, 1) := by decide +kernel
theorem dX4_owns_27 : decode cX4_owns 27 = .ok (.getfield 47, 3) := by decide +kernel
theorem dX4_owns_30 : decode cX4_owns 30 = .ok (.aload_n 1, 1) := by decide +kernel
theorem dX4_owns_31 : decode cX4_owns 31 = .ok (.invokevirtual 83, 3) := by decide +kernel
theorem dX4_owns_34 : decode cX4_owns 34 = .ok (.ifCond .eq 7, 3) := by decide +kernel
theorem dX4_owns_37 : decode cX4_owns 37 = .ok (.iconst 1, 1) := by decide +kernel
theorem dX4_owns_38 : decode cX4_owns 38 = .ok (.goto 4, 3) := by decide +kernel
theorem dX4_owns_41 : decode cX4_owns 41 = .ok (.iconst 0, 1) := by decide +kernel
theorem dX4_owns_42 : decode cX4_owns 42 = .ok (.ireturn, 1) := by decide +kernel
theorem dX7_coversAt_0 : decode cX7_coversAt 0 = .ok (.aload_n 1, 1) := by decide +kernel
theorem dX7_coversAt_1 : decode cX7_coversAt 1 = .ok (.getfield 385, 3) := by decide +kernel
theorem dX7_coversAt_4 : decode cX7_coversAt 4 = .ok (.ifCond .eq 12, 3) := by decide +kernel
theorem dX7_coversAt_7 : decode cX7_coversAt 7 = .ok (.aload_n 1, 1) := by decide +kernel
theorem dX7_coversAt_8 : decode cX7_coversAt 8 = .ok (.iload 5, 2) := by decide +kernel
theorem dX7_coversAt_10 : decode cX7_coversAt 10 = .ok (.invokevirtual 280, 3) := by decide +kernel
theorem dX7_coversAt_13 : decode cX7_coversAt 13 = .ok (.ifCond .ne 5, 3) := by decide +kernel
theorem dX7_coversAt_16 : decode cX7_coversAt 16 = .ok (.iconst 0, 1) := by decide +kernel
theorem dX7_coversAt_17 : decode cX7_coversAt 17 = .ok (.ireturn, 1) := by decide +kernel
theorem dX7_coversAt_18 : decode cX7_coversAt 18 = .ok (.aload_n 0, 1) := by decide +kernel
theorem dX7_coversAt_19 : decode cX7_coversAt 19 = .ok (.getfield 31, 3) := by decide +kernel
theorem dX7_coversAt_22 : decode cX7_coversAt 22 = .ok (.iload_n 2, 1) := by decide +kernel
theorem dX7_coversAt_23 : decode cX7_coversAt 23 = .ok (.i2l, 1) := by decide +kernel
theorem dX7_coversAt_24 : decode cX7_coversAt 24 = .ok (.iload_n 3, 1) := by decide +kernel
theorem dX7_coversAt_25 : decode cX7_coversAt 25 = .ok (.i2l, 1) := by decide +kernel
theorem dX7_coversAt_26 : decode cX7_coversAt 26 = .ok (.iload 4, 2) := by decide +kernel
theorem dX7_coversAt_28 : decode cX7_coversAt 28 = .ok (.i2l, 1) := by decide +kernel
theorem dX7_coversAt_29 : decode cX7_coversAt 29 = .ok (.invokevirtual 256, 3) := by decide +kernel
theorem dX7_coversAt_32 : decode cX7_coversAt 32 = .ok (.aload_n 0, 1) := by decide +kernel
theorem dX7_coversAt_33 : decode cX7_coversAt 33 = .ok (.getfield 31, 3) := by decide +kernel
theorem dX7_coversAt_36 : decode cX7_coversAt 36 = .ok (.aload_n 1, 1) := by decide +kernel
theorem dX7_coversAt_37 : decode cX7_coversAt 37 = .ok (.iload 5, 2) := by decide +kernel
theorem dX7_coversAt_39 : decode cX7_coversAt 39 = .ok (.iconst 0, 1) := by decide +kernel
theorem dX7_coversAt_40 : decode cX7_coversAt 40 = .ok (.invokestatic 260, 3) := by decide +kernel
theorem dX7_coversAt_43 : decode cX7_coversAt 43 = .ok (.aload_n 0, 1) := by decide +kernel
theorem dX7_coversAt_44 : decode cX7_coversAt 44 = .ok (.getfield 31, 3) := by decide +kernel
theorem dX7_coversAt_47 : decode cX7_coversAt 47 = .ok (.getfield 407, 3) := by decide +kernel
theorem dX7_coversAt_50 : decode cX7_coversAt 50 = .ok (.ifCond .ne 18, 3) := by decide +kernel
theorem dX7_coversAt_53 : decode cX7_coversAt 53 = .ok (.aload_n 1, 1) := by decide +kernel
theorem dX7_coversAt_54 : decode cX7_coversAt 54 = .ok (.aload_n 0, 1) := by decide +kernel
theorem dX7_coversAt_55 : decode cX7_coversAt 55 = .ok (.getfield 31, 3) := by decide +kernel
theorem dX7_coversAt_58 : decode cX7_coversAt 58 = .ok (.invokevirtual 410, 3) := by decide +kernel
theorem dX7_coversAt_61 : decode cX7_coversAt 61 = .ok (.ifCond .eq 7, 3) := by decide +kernel
theorem dX7_coversAt_64 : decode cX7_coversAt 64 = .ok (.iconst 1, 1) := by decide +kernel
theorem dX7_coversAt_65 : decode cX7_coversAt 65 = .ok (.goto 4, 3) := by decide +kernel
theorem dX7_coversAt_68 : decode cX7_coversAt 68 = .ok (.iconst 0, 1) := by decide +kernel
theorem dX7_coversAt_69 : decode cX7_coversAt 69 = .ok (.ireturn, 1) := by decide +kernel
theorem dX7_covers_0 : decode cX7_covers 0 = .ok (.aload_n 0, 1) := by decide +kernel
theorem dX7_covers_1 : decode cX7_covers 1 = .ok (.iload_n 1, 1) := by decide +kernel
theorem dX7_covers_2 : decode cX7_covers 2 = .ok (.invokevirtual 52, 3) := by decide +kernel
theorem dX7_covers_5 : decode cX7_covers 5 = .ok (.astore 5, 2) := by decide +kernel
theorem dX7_covers_7 : decode cX7_covers 7 = .ok (.iload_n 2, 1) := by decide +kernel
theorem dX7_covers_8 : decode cX7_covers 8 = .ok (.iload_n 3, 1) := by decide +kernel
theorem dX7_covers_9 : decode cX7_covers 9 = .ok (.iload 4, 2) := by decide +kernel
theorem dX7_covers_11 : decode cX7_covers 11 = .ok (.invokestatic 295, 3) := by decide +kernel
theorem dX7_covers_14 : decode cX7_covers 14 = .ok (.aload_n 0, 1) := by decide +kernel
theorem dX7_covers_15 : decode cX7_covers 15 = .ok (.aload 5, 2) := by decide +kernel
theorem dX7_covers_17 : decode cX7_covers 17 = .ok (.iload_n 2, 1) := by decide +kernel
theorem dX7_covers_18 : decode cX7_covers 18 = .ok (.iload_n 3, 1) := by decide +kernel
theorem dX7_covers_19 : decode cX7_covers 19 = .ok (.iload 4, 2) := by decide +kernel
theorem dX7_covers_21 : decode cX7_covers 21 = .ok (.aload_n 0, 1) := by decide +kernel
theorem dX7_covers_22 : decode cX7_covers 22 = .ok (.getfield 232, 3) := by decide +kernel
theorem dX7_covers_25 : decode cX7_covers 25 = .ok (.invokevirtual 298, 3) := by decide +kernel
theorem dX7_covers_28 : decode cX7_covers 28 = .ok (.ireturn, 1) := by decide +kernel
theorem dL_covers_0 : decode cL_covers 0 = .ok (.aload 5, 2) := by decide +kernel
theorem dL_covers_2 : decode cL_covers 2 = .ok (.iconst 0, 1) := by decide +kernel
theorem dL_covers_3 : decode cL_covers 3 = .ok (.aload_n 0, 1) := by decide +kernel
theorem dL_covers_4 : decode cL_covers 4 = .ok (.iload_n 1, 1) := by decide +kernel
theorem dL_covers_5 : decode cL_covers 5 = .ok (.iload_n 2, 1) := by decide +kernel
theorem dL_covers_6 : decode cL_covers 6 = .ok (.iload_n 3, 1) := by decide +kernel
theorem dL_covers_7 : decode cL_covers 7 = .ok (.iload 4, 2) := by decide +kernel
theorem dL_covers_9 : decode cL_covers 9 = .ok (.invokevirtual 99, 3) := by decide +kernel
theorem dL_covers_12 : decode cL_covers 12 = .ok (.ifCond .eq 7, 3) := by decide +kernel
theorem dL_covers_15 : decode cL_covers 15 = .ok (.lconst 1, 1) := by decide +kernel
theorem dL_covers_16 : decode cL_covers 16 = .ok (.goto 4, 3) := by decide +kernel
theorem dL_covers_19 : decode cL_covers 19 = .ok (.lconst 0, 1) := by decide +kernel
theorem dL_covers_20 : decode cL_covers 20 = .ok (.lastore, 1) := by decide +kernel
theorem dL_covers_21 : decode cL_covers 21 = .ok (.goto 11, 3) := by decide +kernel
theorem dL_covers_24 : decode cL_covers 24 = .ok (.astore 6, 2) := by decide +kernel
theorem dL_covers_26 : decode cL_covers 26 = .ok (.iconst 1, 1) := by decide +kernel
theorem dL_covers_27 : decode cL_covers 27 = .ok (.ireturn, 1) := by decide +kernel
theorem dL_covers_28 : decode cL_covers 28 = .ok (.astore 6, 2) := by decide +kernel
theorem dL_covers_30 : decode cL_covers 30 = .ok (.iconst 2, 1) := by decide +kernel
theorem dL_covers_31 : decode cL_covers 31 = .ok (.ireturn, 1) := by decide +kernel
theorem dL_covers_32 : decode cL_covers 32 = .ok (.iconst 0, 1) := by decide +kernel
theorem dL_covers_33 : decode cL_covers 33 = .ok (.ireturn, 1) := by decide +kernel
theorem dX7_foundBelowWhole_0 : decode cX7_foundBelowWhole 0 = .ok (.aload_n 0, 1) := by decide +kernel
theorem dX7_foundBelowWhole_1 : decode cX7_foundBelowWhole 1 = .ok (.iload_n 1, 1) := by decide +kernel
theorem dX7_foundBelowWhole_2 : decode cX7_foundBelowWhole 2 = .ok (.invokevirtual 52, 3) := by decide +kernel
theorem dX7_foundBelowWhole_5 : decode cX7_foundBelowWhole 5 = .ok (.astore_n 2, 1) := by decide +kernel
theorem dX7_foundBelowWhole_6 : decode cX7_foundBelowWhole 6 = .ok (.aload_n 2, 1) := by decide +kernel
theorem dX7_foundBelowWhole_7 : decode cX7_foundBelowWhole 7 = .ok (.aload_n 0, 1) := by decide +kernel
theorem dX7_foundBelowWhole_8 : decode cX7_foundBelowWhole 8 = .ok (.getfield 24, 3) := by decide +kernel
theorem dX7_foundBelowWhole_11 : decode cX7_foundBelowWhole 11 = .ok (.if_acmp .ne 14, 3) := by decide +kernel
theorem dX7_foundBelowWhole_14 : decode cX7_foundBelowWhole 14 = .ok (.new 73, 3) := by decide +kernel
theorem dX7_foundBelowWhole_17 : decode cX7_foundBelowWhole 17 = .ok (.dup, 1) := by decide +kernel
theorem dX7_foundBelowWhole_18 : decode cX7_foundBelowWhole 18 = .ok (.ldc_w 345, 3) := by decide +kernel
theorem dX7_foundBelowWhole_21 : decode cX7_foundBelowWhole 21 = .ok (.invokespecial 77, 3) := by decide +kernel
theorem dX7_foundBelowWhole_24 : decode cX7_foundBelowWhole 24 = .ok (.athrow, 1) := by decide +kernel
theorem dX7_foundBelowWhole_25 : decode cX7_foundBelowWhole 25 = .ok (.aload_n 2, 1) := by decide +kernel
theorem dX7_foundBelowWhole_26 : decode cX7_foundBelowWhole 26 = .ok (.areturn, 1) := by decide +kernel
theorem dX7_cut_0 : decode cX7_cut 0 = .ok (.aload_n 0, 1) := by decide +kernel
theorem dX7_cut_1 : decode cX7_cut 1 = .ok (.iload_n 1, 1) := by decide +kernel
theorem dX7_cut_2 : decode cX7_cut 2 = .ok (.invokevirtual 88, 3) := by decide +kernel
theorem dX7_cut_5 : decode cX7_cut 5 = .ok (.astore 6, 2) := by decide +kernel
theorem dX7_cut_7 : decode cX7_cut 7 = .ok (.iload_n 2, 1) := by decide +kernel
theorem dX7_cut_8 : decode cX7_cut 8 = .ok (.sipush (-200), 3) := by decide +kernel
theorem dX7_cut_11 : decode cX7_cut 11 = .ok (.if_icmp .lt 17, 3) := by decide +kernel
theorem dX7_cut_14 : decode cX7_cut 14 = .ok (.iload 4, 2) := by decide +kernel
theorem dX7_cut_16 : decode cX7_cut 16 = .ok (.sipush 200, 3) := by decide +kernel
theorem dX7_cut_19 : decode cX7_cut 19 = .ok (.if_icmp .gt 9, 3) := by decide +kernel
theorem dX7_cut_22 : decode cX7_cut 22 = .ok (.iload_n 2, 1) := by decide +kernel
theorem dX7_cut_23 : decode cX7_cut 23 = .ok (.iload 4, 2) := by decide +kernel
theorem dX7_cut_25 : decode cX7_cut 25 = .ok (.if_icmp .le 13, 3) := by decide +kernel
theorem dX7_cut_28 : decode cX7_cut 28 = .ok (.new 60, 3) := by decide +kernel
theorem dX7_cut_31 : decode cX7_cut 31 = .ok (.dup, 1) := by decide +kernel
theorem dX7_cut_32 : decode cX7_cut 32 = .ok (.ldc 159, 2) := by decide +kernel
theorem dX7_cut_34 : decode cX7_cut 34 = .ok (.invokespecial 64, 3) := by decide +kernel
theorem dX7_cut_37 : decode cX7_cut 37 = .ok (.athrow, 1) := by decide +kernel
theorem dX7_cut_38 : decode cX7_cut 38 = .ok (.iload_n 3, 1) := by decide +kernel
theorem dX7_cut_39 : decode cX7_cut 39 = .ok (.sipush (-200), 3) := by decide +kernel
theorem dX7_cut_42 : decode cX7_cut 42 = .ok (.if_icmp .lt 17, 3) := by decide +kernel
theorem dX7_cut_45 : decode cX7_cut 45 = .ok (.iload 5, 2) := by decide +kernel
theorem dX7_cut_47 : decode cX7_cut 47 = .ok (.sipush 200, 3) := by decide +kernel
theorem dX7_cut_50 : decode cX7_cut 50 = .ok (.if_icmp .gt 9, 3) := by decide +kernel
theorem dX7_cut_53 : decode cX7_cut 53 = .ok (.iload_n 3, 1) := by decide +kernel
theorem dX7_cut_54 : decode cX7_cut 54 = .ok (.iload 5, 2) := by decide +kernel
theorem dX7_cut_56 : decode cX7_cut 56 = .ok (.if_icmp .le 13, 3) := by decide +kernel
theorem dX7_cut_59 : decode cX7_cut 59 = .ok (.new 60, 3) := by decide +kernel
theorem dX7_cut_62 : decode cX7_cut 62 = .ok (.dup, 1) := by decide +kernel
theorem dX7_cut_63 : decode cX7_cut 63 = .ok (.ldc 161, 2) := by decide +kernel
theorem dX7_cut_65 : decode cX7_cut 65 = .ok (.invokespecial 64, 3) := by decide +kernel
theorem dX7_cut_68 : decode cX7_cut 68 = .ok (.athrow, 1) := by decide +kernel
theorem dX7_cut_69 : decode cX7_cut 69 = .ok (.aload 6, 2) := by decide +kernel
theorem dX7_cut_71 : decode cX7_cut 71 = .ok (.getfield 163, 3) := by decide +kernel
theorem dX7_cut_74 : decode cX7_cut 74 = .ok (.ifnull 7, 3) := by decide +kernel
theorem dX7_cut_77 : decode cX7_cut 77 = .ok (.iconst 1, 1) := by decide +kernel
theorem dX7_cut_78 : decode cX7_cut 78 = .ok (.goto 4, 3) := by decide +kernel
theorem dX7_cut_81 : decode cX7_cut 81 = .ok (.iconst 0, 1) := by decide +kernel
theorem dX7_cut_82 : decode cX7_cut 82 = .ok (.istore 7, 2) := by decide +kernel
theorem dX7_cut_84 : decode cX7_cut 84 = .ok (.aload 6, 2) := by decide +kernel
theorem dX7_cut_86 : decode cX7_cut 86 = .ok (.new 167, 3) := by decide +kernel
theorem dX7_cut_89 : decode cX7_cut 89 = .ok (.dup, 1) := by decide +kernel
theorem dX7_cut_90 : decode cX7_cut 90 = .ok (.iload_n 2, 1) := by decide +kernel
theorem dX7_cut_91 : decode cX7_cut 91 = .ok (.iload_n 3, 1) := by decide +kernel
theorem dX7_cut_92 : decode cX7_cut 92 = .ok (.iload 4, 2) := by decide +kernel
theorem dX7_cut_94 : decode cX7_cut 94 = .ok (.iload 5, 2) := by decide +kernel
theorem dX7_cut_96 : decode cX7_cut 96 = .ok (.invokespecial 169, 3) := by decide +kernel
theorem dX7_cut_99 : decode cX7_cut 99 = .ok (.putfield 163, 3) := by decide +kernel
theorem dX7_cut_102 : decode cX7_cut 102 = .ok (.iload 7, 2) := by decide +kernel
theorem dX7_cut_104 : decode cX7_cut 104 = .ok (.ireturn, 1) := by decide +kernel
theorem dL_cut_0 : decode cL_cut 0 = .ok (.aload 6, 2) := by decide +kernel
theorem dL_cut_2 : decode cL_cut 2 = .ok (.iconst 0, 1) := by decide +kernel
theorem dL_cut_3 : decode cL_cut 3 = .ok (.aload_n 0, 1) := by decide +kernel
theorem dL_cut_4 : decode cL_cut 4 = .ok (.iload_n 1, 1) := by decide +kernel
theorem dL_cut_5 : decode cL_cut 5 = .ok (.iload_n 2, 1) := by decide +kernel
theorem dL_cut_6 : decode cL_cut 6 = .ok (.iload_n 3, 1) := by decide +kernel
theorem dL_cut_7 : decode cL_cut 7 = .ok (.iload 4, 2) := by decide +kernel
theorem dL_cut_9 : decode cL_cut 9 = .ok (.iload 5, 2) := by decide +kernel
theorem dL_cut_11 : decode cL_cut 11 = .ok (.invokevirtual 42, 3) := by decide +kernel
theorem dL_cut_14 : decode cL_cut 14 = .ok (.ifCond .eq 7, 3) := by decide +kernel
theorem dL_cut_17 : decode cL_cut 17 = .ok (.lconst 1, 1) := by decide +kernel
theorem dL_cut_18 : decode cL_cut 18 = .ok (.goto 4, 3) := by decide +kernel
theorem dL_cut_21 : decode cL_cut 21 = .ok (.lconst 0, 1) := by decide +kernel
theorem dL_cut_22 : decode cL_cut 22 = .ok (.lastore, 1) := by decide +kernel
theorem dL_cut_23 : decode cL_cut 23 = .ok (.goto 15, 3) := by decide +kernel
theorem dL_cut_26 : decode cL_cut 26 = .ok (.astore 7, 2) := by decide +kernel
theorem dL_cut_28 : decode cL_cut 28 = .ok (.iconst 1, 1) := by decide +kernel
theorem dL_cut_29 : decode cL_cut 29 = .ok (.ireturn, 1) := by decide +kernel
theorem dL_cut_30 : decode cL_cut 30 = .ok (.astore 7, 2) := by decide +kernel
theorem dL_cut_32 : decode cL_cut 32 = .ok (.iconst 2, 1) := by decide +kernel
theorem dL_cut_33 : decode cL_cut 33 = .ok (.ireturn, 1) := by decide +kernel
theorem dL_cut_34 : decode cL_cut 34 = .ok (.astore 7, 2) := by decide +kernel
theorem dL_cut_36 : decode cL_cut 36 = .ok (.iconst 3, 1) := by decide +kernel
theorem dL_cut_37 : decode cL_cut 37 = .ok (.ireturn, 1) := by decide +kernel
theorem dL_cut_38 : decode cL_cut 38 = .ok (.iconst 0, 1) := by decide +kernel
theorem dL_cut_39 : decode cL_cut 39 = .ok (.ireturn, 1) := by decide +kernel
theorem dX7_fromWhole_0 : decode cX7_fromWhole 0 = .ok (.aload_n 0, 1) := by decide +kernel
theorem dX7_fromWhole_1 : decode cX7_fromWhole 1 = .ok (.iload_n 1, 1) := by decide +kernel
theorem dX7_fromWhole_2 : decode cX7_fromWhole 2 = .ok (.invokevirtual 52, 3) := by decide +kernel
theorem dX7_fromWhole_5 : decode cX7_fromWhole 5 = .ok (.astore 5, 2) := by decide +kernel
theorem dX7_fromWhole_7 : decode cX7_fromWhole 7 = .ok (.iload_n 2, 1) := by decide +kernel
theorem dX7_fromWhole_8 : decode cX7_fromWhole 8 = .ok (.iload_n 3, 1) := by decide +kernel
theorem dX7_fromWhole_9 : decode cX7_fromWhole 9 = .ok (.iload 4, 2) := by decide +kernel
theorem dX7_fromWhole_11 : decode cX7_fromWhole 11 = .ok (.invokestatic 244, 3) := by decide +kernel
theorem dX7_fromWhole_14 : decode cX7_fromWhole 14 = .ok (.aload_n 0, 1) := by decide +kernel
theorem dX7_fromWhole_15 : decode cX7_fromWhole 15 = .ok (.getfield 31, 3) := by decide +kernel
theorem dX7_fromWhole_18 : decode cX7_fromWhole 18 = .ok (.iload_n 2, 1) := by decide +kernel
theorem dX7_fromWhole_19 : decode cX7_fromWhole 19 = .ok (.i2l, 1) := by decide +kernel
theorem dX7_fromWhole_20 : decode cX7_fromWhole 20 = .ok (.iload_n 3, 1) := by decide +kernel
theorem dX7_fromWhole_21 : decode cX7_fromWhole 21 = .ok (.i2l, 1) := by decide +kernel
theorem dX7_fromWhole_22 : decode cX7_fromWhole 22 = .ok (.lconst 1, 1) := by decide +kernel
theorem dX7_fromWhole_23 : decode cX7_fromWhole 23 = .ok (.invokevirtual 256, 3) := by decide +kernel
theorem dX7_fromWhole_26 : decode cX7_fromWhole 26 = .ok (.aload_n 0, 1) := by decide +kernel
theorem dX7_fromWhole_27 : decode cX7_fromWhole 27 = .ok (.getfield 31, 3) := by decide +kernel
theorem dX7_fromWhole_30 : decode cX7_fromWhole 30 = .ok (.aload 5, 2) := by decide +kernel
theorem dX7_fromWhole_32 : decode cX7_fromWhole 32 = .ok (.aload_n 0, 1) := by decide +kernel
theorem dX7_fromWhole_33 : decode cX7_fromWhole 33 = .ok (.getfield 232, 3) := by decide +kernel
theorem dX7_fromWhole_36 : decode cX7_fromWhole 36 = .ok (.iconst 0, 1) := by decide +kernel
theorem dX7_fromWhole_37 : decode cX7_fromWhole 37 = .ok (.invokestatic 260, 3) := by decide +kernel
theorem dX7_fromWhole_40 : decode cX7_fromWhole 40 = .ok (.aload_n 0, 1) := by decide +kernel
theorem dX7_fromWhole_41 : decode cX7_fromWhole 41 = .ok (.getfield 31, 3) := by decide +kernel
theorem dX7_fromWhole_44 : decode cX7_fromWhole 44 = .ok (.iload 4, 2) := by decide +kernel
theorem dX7_fromWhole_46 : decode cX7_fromWhole 46 = .ok (.invokevirtual 252, 3) := by decide +kernel
theorem dX7_fromWhole_49 : decode cX7_fromWhole 49 = .ok (.l2i, 1) := by decide +kernel
theorem dX7_fromWhole_50 : decode cX7_fromWhole 50 = .ok (.ireturn, 1) := by decide +kernel
theorem dL_fromWhole_0 : decode cL_fromWhole 0 = .ok (.aload 5, 2) := by decide +kernel
theorem dL_fromWhole_2 : decode cL_fromWhole 2 = .ok (.iconst 0, 1) := by decide +kernel
theorem dL_fromWhole_3 : decode cL_fromWhole 3 = .ok (.aload_n 0, 1) := by decide +kernel
theorem dL_fromWhole_4 : decode cL_fromWhole 4 = .ok (.iload_n 1, 1) := by decide +kernel
theorem dL_fromWhole_5 : decode cL_fromWhole 5 = .ok (.iload_n 2, 1) := by decide +kernel
theorem dL_fromWhole_6 : decode cL_fromWhole 6 = .ok (.iload_n 3, 1) := by decide +kernel
theorem dL_fromWhole_7 : decode cL_fromWhole 7 = .ok (.iload 4, 2) := by decide +kernel
theorem dL_fromWhole_9 : decode cL_fromWhole 9 = .ok (.invokevirtual 77, 3) := by decide +kernel
theorem dL_fromWhole_12 : decode cL_fromWhole 12 = .ok (.i2l, 1) := by decide +kernel
theorem dL_fromWhole_13 : decode cL_fromWhole 13 = .ok (.lastore, 1) := by decide +kernel
theorem dL_fromWhole_14 : decode cL_fromWhole 14 = .ok (.goto 11, 3) := by decide +kernel
theorem dL_fromWhole_17 : decode cL_fromWhole 17 = .ok (.astore 6, 2) := by decide +kernel
theorem dL_fromWhole_19 : decode cL_fromWhole 19 = .ok (.iconst 1, 1) := by decide +kernel
theorem dL_fromWhole_20 : decode cL_fromWhole 20 = .ok (.ireturn, 1) := by decide +kernel
theorem dL_fromWhole_21 : decode cL_fromWhole 21 = .ok (.astore 6, 2) := by decide +kernel
theorem dL_fromWhole_23 : decode cL_fromWhole 23 = .ok (.iconst 2, 1) := by decide +kernel
theorem dL_fromWhole_24 : decode cL_fromWhole 24 = .ok (.ireturn, 1) := by decide +kernel
theorem dL_fromWhole_25 : decode cL_fromWhole 25 = .ok (.iconst 0, 1) := by decide +kernel
theorem dL_fromWhole_26 : decode cL_fromWhole 26 = .ok (.ireturn, 1) := by decide +kernel
theorem dX4_countHanging_0 : decode cX4_countHanging 0 = .ok (.iconst 0, 1) := by decide +kernel
theorem dX4_countHanging_1 : decode cX4_countHanging 1 = .ok (.istore_n 1, 1) := by decide +kernel
theorem dX4_countHanging_2 : decode cX4_countHanging 2 = .ok (.aload_n 0, 1) := by decide +kernel
theorem dX4_countHanging_3 : decode cX4_countHanging 3 = .ok (.getfield 55, 3) := by decide +kernel
theorem dX4_countHanging_6 : decode cX4_countHanging 6 = .ok (.astore_n 2, 1) := by decide +kernel
theorem dX4_countHanging_7 : decode cX4_countHanging 7 = .ok (.aload_n 2, 1) := by decide +kernel
theorem dX4_countHanging_8 : decode cX4_countHanging 8 = .ok (.ifnull 14, 3) := by decide +kernel
theorem dX4_countHanging_11 : decode cX4_countHanging 11 = .ok (.iinc 1 1, 3) := by decide +kernel
theorem dX4_countHanging_14 : decode cX4_countHanging 14 = .ok (.aload_n 2, 1) := by decide +kernel
theorem dX4_countHanging_15 : decode cX4_countHanging 15 = .ok (.getfield 58, 3) := by decide +kernel
theorem dX4_countHanging_18 : decode cX4_countHanging 18 = .ok (.astore_n 2, 1) := by decide +kernel
theorem dX4_countHanging_19 : decode cX4_countHanging 19 = .ok (.goto (-12), 3) := by decide +kernel
theorem dX4_countHanging_22 : decode cX4_countHanging 22 = .ok (.iload_n 1, 1) := by decide +kernel
theorem dX4_countHanging_23 : decode cX4_countHanging 23 = .ok (.ireturn, 1) := by decide +kernel
theorem dX4_leaveParent_0 : decode cX4_leaveParent 0 = .ok (.aload_n 0, 1) := by decide +kernel
theorem dX4_leaveParent_1 : decode cX4_leaveParent 1 = .ok (.getfield 51, 3) := by decide +kernel
theorem dX4_leaveParent_4 : decode cX4_leaveParent 4 = .ok (.ifnonnull 4, 3) := by decide +kernel
theorem dX4_leaveParent_7 : decode cX4_leaveParent 7 = .ok (.return_, 1) := by decide +kernel
theorem dX4_leaveParent_8 : decode cX4_leaveParent 8 = .ok (.aload_n 0, 1) := by decide +kernel
theorem dX4_leaveParent_9 : decode cX4_leaveParent 9 = .ok (.getfield 51, 3) := by decide +kernel
theorem dX4_leaveParent_12 : decode cX4_leaveParent 12 = .ok (.getfield 55, 3) := by decide +kernel
theorem dX4_leaveParent_15 : decode cX4_leaveParent 15 = .ok (.aload_n 0, 1) := by decide +kernel
theorem dX4_leaveParent_16 : decode cX4_leaveParent 16 = .ok (.if_acmp .ne 14, 3) := by decide +kernel
theorem dX4_leaveParent_19 : decode cX4_leaveParent 19 = .ok (.aload_n 0, 1) := by decide +kernel
theorem dX4_leaveParent_20 : decode cX4_leaveParent 20 = .ok (.getfield 51, 3) := by decide +kernel
theorem dX4_leaveParent_23 : decode cX4_leaveParent 23 = .ok (.aload_n 0, 1) := by decide +kernel
theorem dX4_leaveParent_24 : decode cX4_leaveParent 24 = .ok (.getfield 58, 3) := by decide +kernel
theorem dX4_leaveParent_27 : decode cX4_leaveParent 27 = .ok (.putfield 55, 3) := by decide +kernel
theorem dX4_leaveParent_30 : decode cX4_leaveParent 30 = .ok (.aload_n 0, 1) := by decide +kernel
theorem dX4_leaveParent_31 : decode cX4_leaveParent 31 = .ok (.getfield 51, 3) := by decide +kernel
theorem dX4_leaveParent_34 : decode cX4_leaveParent 34 = .ok (.getfield 55, 3) := by decide +kernel
theorem dX4_leaveParent_37 : decode cX4_leaveParent 37 = .ok (.astore_n 1, 1) := by decide +kernel
theorem dX4_leaveParent_38 : decode cX4_leaveParent 38 = .ok (.aload_n 1, 1) := by decide +kernel
theorem dX4_leaveParent_39 : decode cX4_leaveParent 39 = .ok (.ifnull 27, 3) := by decide +kernel
theorem dX4_leaveParent_42 : decode cX4_leaveParent 42 = .ok (.aload_n 1, 1) := by decide +kernel
theorem dX4_leaveParent_43 : decode cX4_leaveParent 43 = .ok (.getfield 58, 3) := by decide +kernel
theorem dX4_leaveParent_46 : decode cX4_leaveParent 46 = .ok (.aload_n 0, 1) := by decide +kernel
theorem dX4_leaveParent_47 : decode cX4_leaveParent 47 = .ok (.if_acmp .ne 11, 3) := by decide +kernel
theorem dX4_leaveParent_50 : decode cX4_leaveParent 50 = .ok (.aload_n 1, 1) := by decide +kernel
theorem dX4_leaveParent_51 : decode cX4_leaveParent 51 = .ok (.aload_n 0, 1) := by decide +kernel
theorem dX4_leaveParent_52 : decode cX4_leaveParent 52 = .ok (.getfield 58, 3) := by decide +kernel
theorem dX4_leaveParent_55 : decode cX4_leaveParent 55 = .ok (.putfield 58, 3) := by decide +kernel
theorem dX4_leaveParent_58 : decode cX4_leaveParent 58 = .ok (.aload_n 1, 1) := by decide +kernel
theorem dX4_leaveParent_59 : decode cX4_leaveParent 59 = .ok (.getfield 58, 3) := by decide +kernel
theorem dX4_leaveParent_62 : decode cX4_leaveParent 62 = .ok (.astore_n 1, 1) := by decide +kernel
theorem dX4_leaveParent_63 : decode cX4_leaveParent 63 = .ok (.goto (-25), 3) := by decide +kernel
theorem dX4_leaveParent_66 : decode cX4_leaveParent 66 = .ok (.aload_n 0, 1) := by decide +kernel
theorem dX4_leaveParent_67 : decode cX4_leaveParent 67 = .ok (.aconst_null, 1) := by decide +kernel
theorem dX4_leaveParent_68 : decode cX4_leaveParent 68 = .ok (.putfield 58, 3) := by decide +kernel
theorem dX4_leaveParent_71 : decode cX4_leaveParent 71 = .ok (.return_, 1) := by decide +kernel
theorem dX7_depthUnder_0 : decode cX7_depthUnder 0 = .ok (.aload_n 1, 1) := by decide +kernel
theorem dX7_depthUnder_1 : decode cX7_depthUnder 1 = .ok (.invokevirtual 69, 3) := by decide +kernel
theorem dX7_depthUnder_4 : decode cX7_depthUnder 4 = .ok (.istore_n 2, 1) := by decide +kernel
theorem dX7_depthUnder_5 : decode cX7_depthUnder 5 = .ok (.aload_n 0, 1) := by decide +kernel
theorem dX7_depthUnder_6 : decode cX7_depthUnder 6 = .ok (.getfield 46, 3) := by decide +kernel
theorem dX7_depthUnder_9 : decode cX7_depthUnder 9 = .ok (.astore_n 3, 1) := by decide +kernel
theorem dX7_depthUnder_10 : decode cX7_depthUnder 10 = .ok (.aload_n 3, 1) := by decide +kernel
theorem dX7_depthUnder_11 : decode cX7_depthUnder 11 = .ok (.ifnull 28, 3) := by decide +kernel
theorem dX7_depthUnder_14 : decode cX7_depthUnder 14 = .ok (.aload_n 3, 1) := by decide +kernel
theorem dX7_depthUnder_15 : decode cX7_depthUnder 15 = .ok (.aload_n 1, 1) := by decide +kernel
theorem dX7_depthUnder_16 : decode cX7_depthUnder 16 = .ok (.invokevirtual 91, 3) := by decide +kernel
theorem dX7_depthUnder_19 : decode cX7_depthUnder 19 = .ok (.ifCond .eq 12, 3) := by decide +kernel
theorem dX7_depthUnder_22 : decode cX7_depthUnder 22 = .ok (.iload_n 2, 1) := by decide +kernel
theorem dX7_depthUnder_23 : decode cX7_depthUnder 23 = .ok (.aload_n 3, 1) := by decide +kernel
theorem dX7_depthUnder_24 : decode cX7_depthUnder 24 = .ok (.invokevirtual 69, 3) := by decide +kernel
theorem dX7_depthUnder_27 : decode cX7_depthUnder 27 = .ok (.invokestatic 359, 3) := by decide +kernel
theorem dX7_depthUnder_30 : decode cX7_depthUnder 30 = .ok (.istore_n 2, 1) := by decide +kernel
theorem dX7_depthUnder_31 : decode cX7_depthUnder 31 = .ok (.aload_n 3, 1) := by decide +kernel
theorem dX7_depthUnder_32 : decode cX7_depthUnder 32 = .ok (.getfield 98, 3) := by decide +kernel
theorem dX7_depthUnder_35 : decode cX7_depthUnder 35 = .ok (.astore_n 3, 1) := by decide +kernel
theorem dX7_depthUnder_36 : decode cX7_depthUnder 36 = .ok (.goto (-26), 3) := by decide +kernel
theorem dX7_depthUnder_39 : decode cX7_depthUnder 39 = .ok (.iload_n 2, 1) := by decide +kernel
theorem dX7_depthUnder_40 : decode cX7_depthUnder 40 = .ok (.aload_n 1, 1) := by decide +kernel
theorem dX7_depthUnder_41 : decode cX7_depthUnder 41 = .ok (.invokevirtual 69, 3) := by decide +kernel
theorem dX7_depthUnder_44 : decode cX7_depthUnder 44 = .ok (.isub, 1) := by decide +kernel
theorem dX7_depthUnder_45 : decode cX7_depthUnder 45 = .ok (.ireturn, 1) := by decide +kernel
theorem dX7_hang_0 : decode cX7_hang 0 = .ok (.aload_n 0, 1) := by decide +kernel
theorem dX7_hang_1 : decode cX7_hang 1 = .ok (.iload_n 1, 1) := by decide +kernel
theorem dX7_hang_2 : decode cX7_hang 2 = .ok (.invokevirtual 52, 3) := by decide +kernel
theorem dX7_hang_5 : decode cX7_hang 5 = .ok (.astore_n 3, 1) := by decide +kernel
theorem dX7_hang_6 : decode cX7_hang 6 = .ok (.aload_n 0, 1) := by decide +kernel
theorem dX7_hang_7 : decode cX7_hang 7 = .ok (.iload_n 2, 1) := by decide +kernel
theorem dX7_hang_8 : decode cX7_hang 8 = .ok (.invokevirtual 52, 3) := by decide +kernel
theorem dX7_hang_11 : decode cX7_hang 11 = .ok (.astore 4, 2) := by decide +kernel
theorem dX7_hang_13 : decode cX7_hang 13 = .ok (.aload_n 3, 1) := by decide +kernel
theorem dX7_hang_14 : decode cX7_hang 14 = .ok (.aload_n 0, 1) := by decide +kernel
theorem dX7_hang_15 : decode cX7_hang 15 = .ok (.getfield 24, 3) := by decide +kernel
theorem dX7_hang_18 : decode cX7_hang 18 = .ok (.if_acmp .eq 12, 3) := by decide +kernel
theorem dX7_hang_21 : decode cX7_hang 21 = .ok (.aload 4, 2) := by decide +kernel
theorem dX7_hang_23 : decode cX7_hang 23 = .ok (.aload_n 3, 1) := by decide +kernel
theorem dX7_hang_24 : decode cX7_hang 24 = .ok (.invokevirtual 91, 3) := by decide +kernel
theorem dX7_hang_27 : decode cX7_hang 27 = .ok (.ifCond .eq 13, 3) := by decide +kernel
theorem dX7_hang_30 : decode cX7_hang 30 = .ok (.new 73, 3) := by decide +kernel
theorem dX7_hang_33 : decode cX7_hang 33 = .ok (.dup, 1) := by decide +kernel
theorem dX7_hang_34 : decode cX7_hang 34 = .ok (.ldc 104, 2) := by decide +kernel
theorem dX7_hang_36 : decode cX7_hang 36 = .ok (.invokespecial 77, 3) := by decide +kernel
theorem dX7_hang_39 : decode cX7_hang 39 = .ok (.athrow, 1) := by decide +kernel
theorem dX7_hang_40 : decode cX7_hang 40 = .ok (.aload 4, 2) := by decide +kernel
theorem dX7_hang_42 : decode cX7_hang 42 = .ok (.invokevirtual 69, 3) := by decide +kernel
theorem dX7_hang_45 : decode cX7_hang 45 = .ok (.iconst 1, 1) := by decide +kernel
theorem dX7_hang_46 : decode cX7_hang 46 = .ok (.iadd, 1) := by decide +kernel
theorem dX7_hang_47 : decode cX7_hang 47 = .ok (.aload_n 0, 1) := by decide +kernel
theorem dX7_hang_48 : decode cX7_hang 48 = .ok (.aload_n 3, 1) := by decide +kernel
theorem dX7_hang_49 : decode cX7_hang 49 = .ok (.invokevirtual 106, 3) := by decide +kernel
theorem dX7_hang_52 : decode cX7_hang 52 = .ok (.iadd, 1) := by decide +kernel
theorem dX7_hang_53 : decode cX7_hang 53 = .ok (.iconst 4, 1) := by decide +kernel
theorem dX7_hang_54 : decode cX7_hang 54 = .ok (.if_icmp .le 13, 3) := by decide +kernel
theorem dX7_hang_57 : decode cX7_hang 57 = .ok (.new 73, 3) := by decide +kernel
theorem dX7_hang_60 : decode cX7_hang 60 = .ok (.dup, 1) := by decide +kernel
theorem dX7_hang_61 : decode cX7_hang 61 = .ok (.ldc 110, 2) := by decide +kernel
theorem dX7_hang_63 : decode cX7_hang 63 = .ok (.invokespecial 77, 3) := by decide +kernel
theorem dX7_hang_66 : decode cX7_hang 66 = .ok (.athrow, 1) := by decide +kernel
theorem dX7_hang_67 : decode cX7_hang 67 = .ok (.aload_n 3, 1) := by decide +kernel
theorem dX7_hang_68 : decode cX7_hang 68 = .ok (.invokevirtual 101, 3) := by decide +kernel
theorem dX7_hang_71 : decode cX7_hang 71 = .ok (.aload 4, 2) := by decide +kernel
theorem dX7_hang_73 : decode cX7_hang 73 = .ok (.aload_n 3, 1) := by decide +kernel
theorem dX7_hang_74 : decode cX7_hang 74 = .ok (.invokevirtual 78, 3) := by decide +kernel
theorem dX7_hang_77 : decode cX7_hang 77 = .ok (.aload_n 0, 1) := by decide +kernel
theorem dX7_hang_78 : decode cX7_hang 78 = .ok (.invokevirtual 82, 3) := by decide +kernel
theorem dX7_hang_81 : decode cX7_hang 81 = .ok (.aload 4, 2) := by decide +kernel
theorem dX7_hang_83 : decode cX7_hang 83 = .ok (.invokevirtual 112, 3) := by decide +kernel
theorem dX7_hang_86 : decode cX7_hang 86 = .ok (.ireturn, 1) := by decide +kernel
theorem dL_hang_0 : decode cL_hang 0 = .ok (.aload_n 3, 1) := by decide +kernel
theorem dL_hang_1 : decode cL_hang 1 = .ok (.iconst 0, 1) := by decide +kernel
theorem dL_hang_2 : decode cL_hang 2 = .ok (.aload_n 0, 1) := by decide +kernel
theorem dL_hang_3 : decode cL_hang 3 = .ok (.iload_n 1, 1) := by decide +kernel
theorem dL_hang_4 : decode cL_hang 4 = .ok (.iload_n 2, 1) := by decide +kernel
theorem dL_hang_5 : decode cL_hang 5 = .ok (.invokevirtual 23, 3) := by decide +kernel
theorem dL_hang_8 : decode cL_hang 8 = .ok (.i2l, 1) := by decide +kernel
theorem dL_hang_9 : decode cL_hang 9 = .ok (.lastore, 1) := by decide +kernel
theorem dL_hang_10 : decode cL_hang 10 = .ok (.goto 11, 3) := by decide +kernel
theorem dL_hang_13 : decode cL_hang 13 = .ok (.astore 4, 2) := by decide +kernel
theorem dL_hang_15 : decode cL_hang 15 = .ok (.iconst 1, 1) := by decide +kernel
theorem dL_hang_16 : decode cL_hang 16 = .ok (.ireturn, 1) := by decide +kernel
theorem dL_hang_17 : decode cL_hang 17 = .ok (.astore 4, 2) := by decide +kernel
theorem dL_hang_19 : decode cL_hang 19 = .ok (.iconst 2, 1) := by decide +kernel
theorem dL_hang_20 : decode cL_hang 20 = .ok (.ireturn, 1) := by decide +kernel
theorem dL_hang_21 : decode cL_hang 21 = .ok (.iconst 0, 1) := by decide +kernel
theorem dL_hang_22 : decode cL_hang 22 = .ok (.ireturn, 1) := by decide +kernel
theorem dX7_isShown_0 : decode cX7_isShown 0 = .ok (.aload_n 0, 1) := by decide +kernel
theorem dX7_isShown_1 : decode cX7_isShown 1 = .ok (.iload_n 1, 1) := by decide +kernel
theorem dX7_isShown_2 : decode cX7_isShown 2 = .ok (.invokevirtual 52, 3) := by decide +kernel
theorem dX7_isShown_5 : decode cX7_isShown 5 = .ok (.aload_n 0, 1) := by decide +kernel
theorem dX7_isShown_6 : decode cX7_isShown 6 = .ok (.getfield 232, 3) := by decide +kernel
theorem dX7_isShown_9 : decode cX7_isShown 9 = .ok (.invokevirtual 280, 3) := by decide +kernel
theorem dX7_isShown_12 : decode cX7_isShown 12 = .ok (.ireturn, 1) := by decide +kernel
theorem dL_isShown_0 : decode cL_isShown 0 = .ok (.aload_n 2, 1) := by decide +kernel
theorem dL_isShown_1 : decode cL_isShown 1 = .ok (.iconst 0, 1) := by decide +kernel
theorem dL_isShown_2 : decode cL_isShown 2 = .ok (.aload_n 0, 1) := by decide +kernel
theorem dL_isShown_3 : decode cL_isShown 3 = .ok (.iload_n 1, 1) := by decide +kernel
theorem dL_isShown_4 : decode cL_isShown 4 = .ok (.invokevirtual 87, 3) := by decide +kernel
theorem dL_isShown_7 : decode cL_isShown 7 = .ok (.ifCond .eq 7, 3) := by decide +kernel
theorem dL_isShown_10 : decode cL_isShown 10 = .ok (.lconst 1, 1) := by decide +kernel
theorem dL_isShown_11 : decode cL_isShown 11 = .ok (.goto 4, 3) := by decide +kernel
theorem dL_isShown_14 : decode cL_isShown 14 = .ok (.lconst 0, 1) := by decide +kernel
theorem dL_isShown_15 : decode cL_isShown 15 = .ok (.lastore, 1) := by decide +kernel
theorem dL_isShown_16 : decode cL_isShown 16 = .ok (.goto 6, 3) := by decide +kernel
theorem dL_isShown_19 : decode cL_isShown 19 = .ok (.astore_n 3, 1) := by decide +kernel
theorem dL_isShown_20 : decode cL_isShown 20 = .ok (.iconst 1, 1) := by decide +kernel
theorem dL_isShown_21 : decode cL_isShown 21 = .ok (.ireturn, 1) := by decide +kernel
theorem dL_isShown_22 : decode cL_isShown 22 = .ok (.iconst 0, 1) := by decide +kernel
theorem dL_isShown_23 : decode cL_isShown 23 = .ok (.ireturn, 1) := by decide +kernel
theorem dX6_allows_0 : decode cX6_allows 0 = .ok (.iload_n 1, 1) := by decide +kernel
theorem dX6_allows_1 : decode cX6_allows 1 = .ok (.aload_n 0, 1) := by decide +kernel
theorem dX6_allows_2 : decode cX6_allows 2 = .ok (.getfield 15, 3) := by decide +kernel
theorem dX6_allows_5 : decode cX6_allows 5 = .ok (.aload_n 0, 1) := by decide +kernel
theorem dX6_allows_6 : decode cX6_allows 6 = .ok (.getfield 18, 3) := by decide +kernel
theorem dX6_allows_9 : decode cX6_allows 9 = .ok (.invokestatic 21, 3) := by decide +kernel
theorem dX6_allows_12 : decode cX6_allows 12 = .ok (.ireturn, 1) := by decide +kernel
theorem dX6_keyAt_0 : decode cX6_keyAt 0 = .ok (.aload_n 0, 1) := by decide +kernel
theorem dX6_keyAt_1 : decode cX6_keyAt 1 = .ok (.iload_n 1, 1) := by decide +kernel
theorem dX6_keyAt_2 : decode cX6_keyAt 2 = .ok (.invokevirtual 25, 3) := by decide +kernel
theorem dX6_keyAt_5 : decode cX6_keyAt 5 = .ok (.astore_n 2, 1) := by decide +kernel
theorem dX6_keyAt_6 : decode cX6_keyAt 6 = .ok (.aload_n 2, 1) := by decide +kernel
theorem dX6_keyAt_7 : decode cX6_keyAt 7 = .ok (.ifnull 11, 3) := by decide +kernel
theorem dX6_keyAt_10 : decode cX6_keyAt 10 = .ok (.aload_n 2, 1) := by decide +kernel
theorem dX6_keyAt_11 : decode cX6_keyAt 11 = .ok (.getfield 29, 3) := by decide +kernel
theorem dX6_keyAt_14 : decode cX6_keyAt 14 = .ok (.iload_n 1, 1) := by decide +kernel
theorem dX6_keyAt_15 : decode cX6_keyAt 15 = .ok (.if_icmp .eq 7, 3) := by decide +kernel
theorem dX6_keyAt_18 : decode cX6_keyAt 18 = .ok (.aconst_null, 1) := by decide +kernel
theorem dX6_keyAt_19 : decode cX6_keyAt 19 = .ok (.goto 4, 3) := by decide +kernel
theorem dX6_keyAt_22 : decode cX6_keyAt 22 = .ok (.aload_n 2, 1) := by decide +kernel
theorem dX6_keyAt_23 : decode cX6_keyAt 23 = .ok (.areturn, 1) := by decide +kernel
theorem dX3_init_0 : decode cX3_init 0 = .ok (.aload_n 0, 1) := by decide +kernel
theorem dX3_init_1 : decode cX3_init 1 = .ok (.invokespecial 1, 3) := by decide +kernel
theorem dX3_init_4 : decode cX3_init 4 = .ok (.aload_n 0, 1) := by decide +kernel
theorem dX3_init_5 : decode cX3_init 5 = .ok (.iload_n 1, 1) := by decide +kernel
theorem dX3_init_6 : decode cX3_init 6 = .ok (.putfield 7, 3) := by decide +kernel
theorem dX3_init_9 : decode cX3_init 9 = .ok (.aload_n 0, 1) := by decide +kernel
theorem dX3_init_10 : decode cX3_init 10 = .ok (.iload_n 2, 1) := by decide +kernel
theorem dX3_init_11 : decode cX3_init 11 = .ok (.putfield 13, 3) := by decide +kernel
theorem dX3_init_14 : decode cX3_init 14 = .ok (.return_, 1) := by decide +kernel
theorem dX6_putKey_0 : decode cX6_putKey 0 = .ok (.aload_n 0, 1) := by decide +kernel
theorem dX6_putKey_1 : decode cX6_putKey 1 = .ok (.iload_n 1, 1) := by decide +kernel
theorem dX6_putKey_2 : decode cX6_putKey 2 = .ok (.invokevirtual 25, 3) := by decide +kernel
theorem dX6_putKey_5 : decode cX6_putKey 5 = .ok (.astore_n 3, 1) := by decide +kernel
theorem dX6_putKey_6 : decode cX6_putKey 6 = .ok (.aload_n 3, 1) := by decide +kernel
theorem dX6_putKey_7 : decode cX6_putKey 7 = .ok (.ifnull 17, 3) := by decide +kernel
theorem dX6_putKey_10 : decode cX6_putKey 10 = .ok (.aload_n 3, 1) := by decide +kernel
theorem dX6_putKey_11 : decode cX6_putKey 11 = .ok (.getfield 29, 3) := by decide +kernel
theorem dX6_putKey_14 : decode cX6_putKey 14 = .ok (.iload_n 1, 1) := by decide +kernel
theorem dX6_putKey_15 : decode cX6_putKey 15 = .ok (.if_icmp .ne 9, 3) := by decide +kernel
theorem dX6_putKey_18 : decode cX6_putKey 18 = .ok (.aload_n 3, 1) := by decide +kernel
theorem dX6_putKey_19 : decode cX6_putKey 19 = .ok (.iload_n 2, 1) := by decide +kernel
theorem dX6_putKey_20 : decode cX6_putKey 20 = .ok (.putfield 34, 3) := by decide +kernel
theorem dX6_putKey_23 : decode cX6_putKey 23 = .ok (.return_, 1) := by decide +kernel
theorem dX6_putKey_24 : decode cX6_putKey 24 = .ok (.new 30, 3) := by decide +kernel
theorem dX6_putKey_27 : decode cX6_putKey 27 = .ok (.dup, 1) := by decide +kernel
theorem dX6_putKey_28 : decode cX6_putKey 28 = .ok (.iload_n 1, 1) := by decide +kernel
theorem dX6_putKey_29 : decode cX6_putKey 29 = .ok (.iload_n 2, 1) := by decide +kernel
theorem dX6_putKey_30 : decode cX6_putKey 30 = .ok (.invokespecial 37, 3) := by decide +kernel
theorem dX6_putKey_33 : decode cX6_putKey 33 = .ok (.astore 4, 2) := by decide +kernel
theorem dX6_putKey_35 : decode cX6_putKey 35 = .ok (.aload_n 3, 1) := by decide +kernel
theorem dX6_putKey_36 : decode cX6_putKey 36 = .ok (.ifnonnull 21, 3) := by decide +kernel
theorem dX6_putKey_39 : decode cX6_putKey 39 = .ok (.aload 4, 2) := by decide +kernel
theorem dX6_putKey_41 : decode cX6_putKey 41 = .ok (.aload_n 0, 1) := by decide +kernel
theorem dX6_putKey_42 : decode cX6_putKey 42 = .ok (.getfield 40, 3) := by decide +kernel
theorem dX6_putKey_45 : decode cX6_putKey 45 = .ok (.putfield 44, 3) := by decide +kernel
theorem dX6_putKey_48 : decode cX6_putKey 48 = .ok (.aload_n 0, 1) := by decide +kernel
theorem dX6_putKey_49 : decode cX6_putKey 49 = .ok (.aload 4, 2) := by decide +kernel
theorem dX6_putKey_51 : decode cX6_putKey 51 = .ok (.putfield 40, 3) := by decide +kernel
theorem dX6_putKey_54 : decode cX6_putKey 54 = .ok (.goto 18, 3) := by decide +kernel
theorem dX6_putKey_57 : decode cX6_putKey 57 = .ok (.aload 4, 2) := by decide +kernel
theorem dX6_putKey_59 : decode cX6_putKey 59 = .ok (.aload_n 3, 1) := by decide +kernel
theorem dX6_putKey_60 : decode cX6_putKey 60 = .ok (.getfield 44, 3) := by decide +kernel
theorem dX6_putKey_63 : decode cX6_putKey 63 = .ok (.putfield 44, 3) := by decide +kernel
theorem dX6_putKey_66 : decode cX6_putKey 66 = .ok (.aload_n 3, 1) := by decide +kernel
theorem dX6_putKey_67 : decode cX6_putKey 67 = .ok (.aload 4, 2) := by decide +kernel
theorem dX6_putKey_69 : decode cX6_putKey 69 = .ok (.putfield 44, 3) := by decide +kernel
theorem dX6_putKey_72 : decode cX6_putKey 72 = .ok (.aload_n 0, 1) := by decide +kernel
theorem dX6_putKey_73 : decode cX6_putKey 73 = .ok (.dup, 1) := by decide +kernel
theorem dX6_putKey_74 : decode cX6_putKey 74 = .ok (.getfield 47, 3) := by decide +kernel
theorem dX6_putKey_77 : decode cX6_putKey 77 = .ok (.iconst 1, 1) := by decide +kernel
theorem dX6_putKey_78 : decode cX6_putKey 78 = .ok (.iadd, 1) := by decide +kernel
theorem dX6_putKey_79 : decode cX6_putKey 79 = .ok (.putfield 47, 3) := by decide +kernel
theorem dX6_putKey_82 : decode cX6_putKey 82 = .ok (.return_, 1) := by decide +kernel
theorem dX7_foundTrack_0 : decode cX7_foundTrack 0 = .ok (.iload_n 1, 1) := by decide +kernel
theorem dX7_foundTrack_1 : decode cX7_foundTrack 1 = .ok (.ifCond .lt 12, 3) := by decide +kernel
theorem dX7_foundTrack_4 : decode cX7_foundTrack 4 = .ok (.iload_n 1, 1) := by decide +kernel
theorem dX7_foundTrack_5 : decode cX7_foundTrack 5 = .ok (.aload_n 0, 1) := by decide +kernel
theorem dX7_foundTrack_6 : decode cX7_foundTrack 6 = .ok (.getfield 17, 3) := by decide +kernel
theorem dX7_foundTrack_9 : decode cX7_foundTrack 9 = .ok (.arraylength, 1) := by decide +kernel
theorem dX7_foundTrack_10 : decode cX7_foundTrack 10 = .ok (.if_icmp .lt 7, 3) := by decide +kernel
theorem dX7_foundTrack_13 : decode cX7_foundTrack 13 = .ok (.aconst_null, 1) := by decide +kernel
theorem dX7_foundTrack_14 : decode cX7_foundTrack 14 = .ok (.goto 9, 3) := by decide +kernel
theorem dX7_foundTrack_17 : decode cX7_foundTrack 17 = .ok (.aload_n 0, 1) := by decide +kernel
theorem dX7_foundTrack_18 : decode cX7_foundTrack 18 = .ok (.getfield 17, 3) := by decide +kernel
theorem dX7_foundTrack_21 : decode cX7_foundTrack 21 = .ok (.iload_n 1, 1) := by decide +kernel
theorem dX7_foundTrack_22 : decode cX7_foundTrack 22 = .ok (.aaload, 1) := by decide +kernel
theorem dX7_foundTrack_23 : decode cX7_foundTrack 23 = .ok (.astore_n 2, 1) := by decide +kernel
theorem dX7_foundTrack_24 : decode cX7_foundTrack 24 = .ok (.aload_n 2, 1) := by decide +kernel
theorem dX7_foundTrack_25 : decode cX7_foundTrack 25 = .ok (.ifnonnull 14, 3) := by decide +kernel
theorem dX7_foundTrack_28 : decode cX7_foundTrack 28 = .ok (.new 290, 3) := by decide +kernel
theorem dX7_foundTrack_31 : decode cX7_foundTrack 31 = .ok (.dup, 1) := by decide +kernel
theorem dX7_foundTrack_32 : decode cX7_foundTrack 32 = .ok (.ldc_w 347, 3) := by decide +kernel
theorem dX7_foundTrack_35 : decode cX7_foundTrack 35 = .ok (.invokespecial 294, 3) := by decide +kernel
theorem dX7_foundTrack_38 : decode cX7_foundTrack 38 = .ok (.athrow, 1) := by decide +kernel
theorem dX7_foundTrack_39 : decode cX7_foundTrack 39 = .ok (.aload_n 2, 1) := by decide +kernel
theorem dX7_foundTrack_40 : decode cX7_foundTrack 40 = .ok (.areturn, 1) := by decide +kernel
theorem dX7_key_0 : decode cX7_key 0 = .ok (.aload_n 0, 1) := by decide +kernel
theorem dX7_key_1 : decode cX7_key 1 = .ok (.iload_n 1, 1) := by decide +kernel
theorem dX7_key_2 : decode cX7_key 2 = .ok (.invokevirtual 196, 3) := by decide +kernel
theorem dX7_key_5 : decode cX7_key 5 = .ok (.astore 4, 2) := by decide +kernel
theorem dX7_key_7 : decode cX7_key 7 = .ok (.iload_n 2, 1) := by decide +kernel
theorem dX7_key_8 : decode cX7_key 8 = .ok (.iconst 0, 1) := by decide +kernel
theorem dX7_key_9 : decode cX7_key 9 = .ok (.sipush 999, 3) := by decide +kernel
theorem dX7_key_12 : decode cX7_key 12 = .ok (.invokestatic 56, 3) := by decide +kernel
theorem dX7_key_15 : decode cX7_key 15 = .ok (.ifCond .eq 12, 3) := by decide +kernel
theorem dX7_key_18 : decode cX7_key 18 = .ok (.aload 4, 2) := by decide +kernel
theorem dX7_key_20 : decode cX7_key 20 = .ok (.iload_n 3, 1) := by decide +kernel
theorem dX7_key_21 : decode cX7_key 21 = .ok (.invokevirtual 119, 3) := by decide +kernel
theorem dX7_key_24 : decode cX7_key 24 = .ok (.ifCond .ne 13, 3) := by decide +kernel
theorem dX7_key_27 : decode cX7_key 27 = .ok (.new 60, 3) := by decide +kernel
theorem dX7_key_30 : decode cX7_key 30 = .ok (.dup, 1) := by decide +kernel
theorem dX7_key_31 : decode cX7_key 31 = .ok (.ldc 199, 2) := by decide +kernel
theorem dX7_key_33 : decode cX7_key 33 = .ok (.invokespecial 64, 3) := by decide +kernel
theorem dX7_key_36 : decode cX7_key 36 = .ok (.athrow, 1) := by decide +kernel
theorem dX7_key_37 : decode cX7_key 37 = .ok (.aload 4, 2) := by decide +kernel
theorem dX7_key_39 : decode cX7_key 39 = .ok (.getfield 201, 3) := by decide +kernel
theorem dX7_key_42 : decode cX7_key 42 = .ok (.ifCond .ne 22, 3) := by decide +kernel
theorem dX7_key_45 : decode cX7_key 45 = .ok (.aload 4, 2) := by decide +kernel
theorem dX7_key_47 : decode cX7_key 47 = .ok (.getfield 204, 3) := by decide +kernel
theorem dX7_key_50 : decode cX7_key 50 = .ok (.bipush 8, 2) := by decide +kernel
theorem dX7_key_52 : decode cX7_key 52 = .ok (.if_icmp .lt 22, 3) := by decide +kernel
theorem dX7_key_55 : decode cX7_key 55 = .ok (.aload 4, 2) := by decide +kernel
theorem dX7_key_57 : decode cX7_key 57 = .ok (.iload_n 2, 1) := by decide +kernel
theorem dX7_key_58 : decode cX7_key 58 = .ok (.invokevirtual 207, 3) := by decide +kernel
theorem dX7_key_61 : decode cX7_key 61 = .ok (.ifnonnull 13, 3) := by decide +kernel
theorem dX7_key_64 : decode cX7_key 64 = .ok (.new 73, 3) := by decide +kernel
theorem dX7_key_67 : decode cX7_key 67 = .ok (.dup, 1) := by decide +kernel
theorem dX7_key_68 : decode cX7_key 68 = .ok (.ldc 211, 2) := by decide +kernel
theorem dX7_key_70 : decode cX7_key 70 = .ok (.invokespecial 77, 3) := by decide +kernel
theorem dX7_key_73 : decode cX7_key 73 = .ok (.athrow, 1) := by decide +kernel
theorem dX7_key_74 : decode cX7_key 74 = .ok (.aload 4, 2) := by decide +kernel
theorem dX7_key_76 : decode cX7_key 76 = .ok (.iload_n 2, 1) := by decide +kernel
theorem dX7_key_77 : decode cX7_key 77 = .ok (.iload_n 3, 1) := by decide +kernel
theorem dX7_key_78 : decode cX7_key 78 = .ok (.invokevirtual 213, 3) := by decide +kernel
theorem dX7_key_81 : decode cX7_key 81 = .ok (.aload 4, 2) := by decide +kernel
theorem dX7_key_83 : decode cX7_key 83 = .ok (.getfield 204, 3) := by decide +kernel
theorem dX7_key_86 : decode cX7_key 86 = .ok (.ireturn, 1) := by decide +kernel
theorem dL_key_0 : decode cL_key 0 = .ok (.aload 4, 2) := by decide +kernel
theorem dL_key_2 : decode cL_key 2 = .ok (.iconst 0, 1) := by decide +kernel
theorem dL_key_3 : decode cL_key 3 = .ok (.aload_n 0, 1) := by decide +kernel
theorem dL_key_4 : decode cL_key 4 = .ok (.iload_n 1, 1) := by decide +kernel
theorem dL_key_5 : decode cL_key 5 = .ok (.iload_n 2, 1) := by decide +kernel
theorem dL_key_6 : decode cL_key 6 = .ok (.iload_n 3, 1) := by decide +kernel
theorem dL_key_7 : decode cL_key 7 = .ok (.invokevirtual 62, 3) := by decide +kernel
theorem dL_key_10 : decode cL_key 10 = .ok (.i2l, 1) := by decide +kernel
theorem dL_key_11 : decode cL_key 11 = .ok (.lastore, 1) := by decide +kernel
theorem dL_key_12 : decode cL_key 12 = .ok (.goto 15, 3) := by decide +kernel
theorem dL_key_15 : decode cL_key 15 = .ok (.astore 5, 2) := by decide +kernel
theorem dL_key_17 : decode cL_key 17 = .ok (.iconst 1, 1) := by decide +kernel
theorem dL_key_18 : decode cL_key 18 = .ok (.ireturn, 1) := by decide +kernel
theorem dL_key_19 : decode cL_key 19 = .ok (.astore 5, 2) := by decide +kernel
theorem dL_key_21 : decode cL_key 21 = .ok (.iconst 2, 1) := by decide +kernel
theorem dL_key_22 : decode cL_key 22 = .ok (.ireturn, 1) := by decide +kernel
theorem dL_key_23 : decode cL_key 23 = .ok (.astore 5, 2) := by decide +kernel
theorem dL_key_25 : decode cL_key 25 = .ok (.iconst 3, 1) := by decide +kernel
theorem dL_key_26 : decode cL_key 26 = .ok (.ireturn, 1) := by decide +kernel
theorem dL_key_27 : decode cL_key 27 = .ok (.iconst 0, 1) := by decide +kernel
theorem dL_key_28 : decode cL_key 28 = .ok (.ireturn, 1) := by decide +kernel
theorem dX7_level_0 : decode cX7_level 0 = .ok (.aload_n 0, 1) := by decide +kernel
theorem dX7_level_1 : decode cX7_level 1 = .ok (.iload_n 1, 1) := by decide +kernel
theorem dX7_level_2 : decode cX7_level 2 = .ok (.invokevirtual 52, 3) := by decide +kernel
theorem dX7_level_5 : decode cX7_level 5 = .ok (.invokevirtual 69, 3) := by decide +kernel
theorem dX7_level_8 : decode cX7_level 8 = .ok (.ireturn, 1) := by decide +kernel
theorem dL_level_0 : decode cL_level 0 = .ok (.aload_n 2, 1) := by decide +kernel
theorem dL_level_1 : decode cL_level 1 = .ok (.iconst 0, 1) := by decide +kernel
theorem dL_level_2 : decode cL_level 2 = .ok (.aload_n 0, 1) := by decide +kernel
theorem dL_level_3 : decode cL_level 3 = .ok (.iload_n 1, 1) := by decide +kernel
theorem dL_level_4 : decode cL_level 4 = .ok (.invokevirtual 53, 3) := by decide +kernel
theorem dL_level_7 : decode cL_level 7 = .ok (.i2l, 1) := by decide +kernel
theorem dL_level_8 : decode cL_level 8 = .ok (.lastore, 1) := by decide +kernel
theorem dL_level_9 : decode cL_level 9 = .ok (.goto 6, 3) := by decide +kernel
theorem dL_level_12 : decode cL_level 12 = .ok (.astore_n 3, 1) := by decide +kernel
theorem dL_level_13 : decode cL_level 13 = .ok (.iconst 1, 1) := by decide +kernel
theorem dL_level_14 : decode cL_level 14 = .ok (.ireturn, 1) := by decide +kernel
theorem dL_level_15 : decode cL_level 15 = .ok (.iconst 0, 1) := by decide +kernel
theorem dL_level_16 : decode cL_level 16 = .ok (.ireturn, 1) := by decide +kernel
theorem dX7_look_0 : decode cX7_look 0 = .ok (.aload_n 0, 1) := by decide +kernel
theorem dX7_look_1 : decode cX7_look 1 = .ok (.iload_n 1, 1) := by decide +kernel
theorem dX7_look_2 : decode cX7_look 2 = .ok (.invokevirtual 88, 3) := by decide +kernel
theorem dX7_look_5 : decode cX7_look 5 = .ok (.astore 5, 2) := by decide +kernel
theorem dX7_look_7 : decode cX7_look 7 = .ok (.iload_n 2, 1) := by decide +kernel
theorem dX7_look_8 : decode cX7_look 8 = .ok (.bipush (-9), 2) := by decide +kernel
theorem dX7_look_10 : decode cX7_look 10 = .ok (.bipush 9, 2) := by decide +kernel
theorem dX7_look_12 : decode cX7_look 12 = .ok (.invokestatic 56, 3) := by decide +kernel
theorem dX7_look_15 : decode cX7_look 15 = .ok (.ifCond .eq 15, 3) := by decide +kernel
theorem dX7_look_18 : decode cX7_look 18 = .ok (.aload 5, 2) := by decide +kernel
theorem dX7_look_20 : decode cX7_look 20 = .ok (.getfield 148, 3) := by decide +kernel
theorem dX7_look_23 : decode cX7_look 23 = .ok (.iload_n 3, 1) := by decide +kernel
theorem dX7_look_24 : decode cX7_look 24 = .ok (.invokevirtual 119, 3) := by decide +kernel
theorem dX7_look_27 : decode cX7_look 27 = .ok (.ifCond .ne 13, 3) := by decide +kernel
theorem dX7_look_30 : decode cX7_look 30 = .ok (.new 60, 3) := by decide +kernel
theorem dX7_look_33 : decode cX7_look 33 = .ok (.dup, 1) := by decide +kernel
theorem dX7_look_34 : decode cX7_look 34 = .ok (.ldc 151, 2) := by decide +kernel
theorem dX7_look_36 : decode cX7_look 36 = .ok (.invokespecial 64, 3) := by decide +kernel
theorem dX7_look_39 : decode cX7_look 39 = .ok (.athrow, 1) := by decide +kernel
theorem dX7_look_40 : decode cX7_look 40 = .ok (.aload 5, 2) := by decide +kernel
theorem dX7_look_42 : decode cX7_look 42 = .ok (.getfield 148, 3) := by decide +kernel
theorem dX7_look_45 : decode cX7_look 45 = .ok (.getfield 128, 3) := by decide +kernel
theorem dX7_look_48 : decode cX7_look 48 = .ok (.istore 6, 2) := by decide +kernel
theorem dX7_look_50 : decode cX7_look 50 = .ok (.aload 5, 2) := by decide +kernel
theorem dX7_look_52 : decode cX7_look 52 = .ok (.iload_n 2, 1) := by decide +kernel
theorem dX7_look_53 : decode cX7_look 53 = .ok (.putfield 153, 3) := by decide +kernel
theorem dX7_look_56 : decode cX7_look 56 = .ok (.aload 5, 2) := by decide +kernel
theorem dX7_look_58 : decode cX7_look 58 = .ok (.getfield 148, 3) := by decide +kernel
theorem dX7_look_61 : decode cX7_look 61 = .ok (.iload_n 3, 1) := by decide +kernel
theorem dX7_look_62 : decode cX7_look 62 = .ok (.putfield 128, 3) := by decide +kernel
theorem dX7_look_65 : decode cX7_look 65 = .ok (.aload 5, 2) := by decide +kernel
theorem dX7_look_67 : decode cX7_look 67 = .ok (.iload 4, 2) := by decide +kernel
theorem dX7_look_69 : decode cX7_look 69 = .ok (.putfield 156, 3) := by decide +kernel
theorem dX7_look_72 : decode cX7_look 72 = .ok (.aload_n 0, 1) := by decide +kernel
theorem dX7_look_73 : decode cX7_look 73 = .ok (.invokevirtual 82, 3) := by decide +kernel
theorem dX7_look_76 : decode cX7_look 76 = .ok (.iload 6, 2) := by decide +kernel
theorem dX7_look_78 : decode cX7_look 78 = .ok (.ireturn, 1) := by decide +kernel
theorem dL_look_0 : decode cL_look 0 = .ok (.aload 5, 2) := by decide +kernel
theorem dL_look_2 : decode cL_look 2 = .ok (.iconst 0, 1) := by decide +kernel
theorem dL_look_3 : decode cL_look 3 = .ok (.aload_n 0, 1) := by decide +kernel
theorem dL_look_4 : decode cL_look 4 = .ok (.iload_n 1, 1) := by decide +kernel
theorem dL_look_5 : decode cL_look 5 = .ok (.iload_n 2, 1) := by decide +kernel
theorem dL_look_6 : decode cL_look 6 = .ok (.iload_n 3, 1) := by decide +kernel
theorem dL_look_7 : decode cL_look 7 = .ok (.iload 4, 2) := by decide +kernel
theorem dL_look_9 : decode cL_look 9 = .ok (.invokevirtual 38, 3) := by decide +kernel
theorem dL_look_12 : decode cL_look 12 = .ok (.i2l, 1) := by decide +kernel
theorem dL_look_13 : decode cL_look 13 = .ok (.lastore, 1) := by decide +kernel
theorem dL_look_14 : decode cL_look 14 = .ok (.goto 15, 3) := by decide +kernel
theorem dL_look_17 : decode cL_look 17 = .ok (.astore 6, 2) := by decide +kernel
theorem dL_look_19 : decode cL_look 19 = .ok (.iconst 1, 1) := by decide +kernel
theorem dL_look_20 : decode cL_look 20 = .ok (.ireturn, 1) := by decide +kernel
theorem dL_look_21 : decode cL_look 21 = .ok (.astore 6, 2) := by decide +kernel
theorem dL_look_23 : decode cL_look 23 = .ok (.iconst 2, 1) := by decide +kernel
theorem dL_look_24 : decode cL_look 24 = .ok (.ireturn, 1) := by decide +kernel
theorem dL_look_25 : decode cL_look 25 = .ok (.astore 6, 2) := by decide +kernel
theorem dL_look_27 : decode cL_look 27 = .ok (.iconst 3, 1) := by decide +kernel
theorem dL_look_28 : decode cL_look 28 = .ok (.ireturn, 1) := by decide +kernel
theorem dL_look_29 : decode cL_look 29 = .ok (.iconst 0, 1) := by decide +kernel
theorem dL_look_30 : decode cL_look 30 = .ok (.ireturn, 1) := by decide +kernel
noncomputable def f_X7_checkSpot_L26  (h : fSt) : Option ((Unit ⊕ Nat) × fSt) := (fthr h).bind fun h1 => some (.inr 1, h1)
noncomputable def f_X7_checkSpot_L0 (a0 : Int32) (a1 : Int32) (a2 : Int32) (h : fSt) : Option ((Unit ⊕ Nat) × fSt) := (f_X7_isFrom a0 (-10000 : Int32) (10000 : Int32) h).bind fun r3 => (if r3.1 = 0 then f_X7_checkSpot_L26 r3.2 else (f_X7_isFrom a1 (-10000 : Int32) (10000 : Int32) r3.2).bind fun r6 => (if r6.1 = 0 then f_X7_checkSpot_L26 r6.2 else (f_X7_isFrom a2 (1 : Int32) (60 : Int32) r6.2).bind fun r9 => (if r9.1 = 0 then (fthr r9.2).bind fun h12 => some (.inr 1, h12) else some (.inl (), r9.2))))
noncomputable def f_X7_checkSpot (p0 : Int32) (p1 : Int32) (p2 : Int32) (h : fSt) : Option ((Unit ⊕ Nat) × fSt) := f_X7_checkSpot_L0 p0 p1 p2 h
noncomputable def f_X2_isAheadOfSlope_L46 (s0 : Int32) (h : fSt) : Option (Int32 × fSt) := if s0 = 0 ∨ s0 = 1 then some (s0, h) else none
noncomputable def f_X2_isAheadOfSlope_L0 (a0 : Option Nat) (a1 : Option Nat) (h : fSt) : Option (Int32 × fSt) := (fgJ h a1 5 0).bind fun x2 => (fgI h a0 2 3).bind fun x4 => (fgJ h a1 5 1).bind fun x6 => (fgI h a0 2 2).bind fun x8 => (fgJ h a1 5 2).bind fun x10 => (fgI h a0 2 2).bind fun x12 => (fgI h a0 2 3).bind fun x14 => (if ((x10 * (Int32.toInt64 x12)) * (Int32.toInt64 x14)) < ((x2 * (Int32.toInt64 x4)) + (x6 * (Int32.toInt64 x8))) then f_X2_isAheadOfSlope_L46 (0 : Int32) h else f_X2_isAheadOfSlope_L46 (1 : Int32) h)
noncomputable def f_X2_isAheadOfSlope (o : Nat) (p0 : Option Nat) (h : fSt) : Option (Int32 × fSt) := f_X2_isAheadOfSlope_L0 (some o) p0 h
noncomputable def f_X4_owns_L42 (s0 : Int32) (h : fSt) : Option (Int32 × fSt) := if s0 = 0 ∨ s0 = 1 then some (s0, h) else none
noncomputable def f_X4_owns_L37  (h : fSt) : Option (Int32 × fSt) := f_X4_owns_L42 (1 : Int32) h
noncomputable def f_X4_owns_L41  (h : fSt) : Option (Int32 × fSt) := f_X4_owns_L42 (0 : Int32) h
noncomputable def f_X4_owns_L0 (a0 : Option Nat) (a1 : Option Nat) (h : fSt) : Option (Int32 × fSt) := (fgI h a0 4 1).bind fun x2 => (if x2 = 0 then f_X4_owns_L41 h else (fgR h a0 4 2).bind fun x5 => (fobj h x5 2).bind fun b9 => (f_X2_holds b9 a1 h).bind fun r7 => (if r7.1 = 0 then f_X4_owns_L41 r7.2 else (fgI r7.2 a0 4 1).bind fun x12 => (if x12 = (1 : Int32) then f_X4_owns_L37 r7.2 else (fgR r7.2 a0 4 2).bind fun x15 => (fobj r7.2 x15 2).bind fun b19 => (f_X2_isAheadOfSlope b19 a1 r7.2).bind fun r17 => (if r17.1 = 0 then f_X4_owns_L41 r17.2 else f_X4_owns_L37 r17.2))))
noncomputable def f_X4_owns (o : Nat) (p0 : Option Nat) (h : fSt) : Option (Int32 × fSt) := f_X4_owns_L0 (some o) p0 h
noncomputable def f_X7_coversAt_L16  (h : fSt) : Option (Int32 × fSt) := some ((0 : Int32), h)
noncomputable def f_X7_coversAt_L69 (s0 : Int32) (h : fSt) : Option (Int32 × fSt) := if s0 = 0 ∨ s0 = 1 then some (s0, h) else none
noncomputable def f_X7_coversAt_L68  (h : fSt) : Option (Int32 × fSt) := f_X7_coversAt_L69 (0 : Int32) h
noncomputable def f_X7_coversAt_L0 (a0 : Option Nat) (a1 : Option Nat) (a2 : Int32) (a3 : Int32) (a4 : Int32) (a5 : Int32) (h : fSt) : Option (Int32 × fSt) := (fgI h a1 4 1).bind fun x2 => (if x2 = 0 then f_X7_coversAt_L16 h else (fobj h a1 4).bind fun b7 => (f_X4_isShownAt b7 a5 h).bind fun r5 => (if r5.1 = 0 then f_X7_coversAt_L16 r5.2 else (fgR r5.2 a0 7 3).bind fun x10 => (fobj r5.2 x10 5).bind fun b14 => (f_X5_set b14 (Int32.toInt64 a2) (Int32.toInt64 a3) (Int32.toInt64 a4) r5.2).bind fun r12 => (fgR r12.2 a0 7 3).bind fun x16 => (f_X7_sink 8 x16 a1 a5 (0 : Int32) r12.2).bind fun r18 => (fgR r18.2 a0 7 3).bind fun x20 => (fgI r18.2 x20 5 3).bind fun x22 => (if x22 = 0 then (fgR r18.2 a0 7 3).bind fun x25 => (fobj r18.2 a1 4).bind fun b29 => (f_X4_owns b29 x25 r18.2).bind fun r27 => (if r27.1 = 0 then f_X7_coversAt_L68 r27.2 else f_X7_coversAt_L69 (1 : Int32) r27.2) else f_X7_coversAt_L68 r18.2)))
noncomputable def f_X7_coversAt (o : Nat) (p0 : Option Nat) (p1 : Int32) (p2 : Int32) (p3 : Int32) (p4 : Int32) (h : fSt) : Option (Int32 × fSt) := f_X7_coversAt_L0 (some o) p0 p1 p2 p3 p4 h
noncomputable def f_X7_covers_L0 (a0 : Option Nat) (a1 : Int32) (a2 : Int32) (a3 : Int32) (a4 : Int32) (h : fSt) : Option ((Int32 ⊕ Nat) × fSt) := (fobj h a0 7).bind fun b3 => (f_X7_found b3 a1 h).bind fun r1 => Sum.elim (fun v5 => (f_X7_checkSpot a2 a3 a4 r1.2).bind fun r8 => Sum.elim (fun v10 => (fgI r8.2 a0 7 7).bind fun x13 => (fobj r8.2 a0 7).bind fun b17 => (f_X7_coversAt b17 v5 a2 a3 a4 x13 r8.2).bind fun r15 => if r15.1 = 0 ∨ r15.1 = 1 then some (.inl r15.1, r15.2) else none) (fun k11 => some (.inr k11, r8.2)) r8.1) (fun k6 => some (.inr k6, r1.2)) r1.1
noncomputable def f_X7_covers (o : Nat) (p0 : Int32) (p1 : Int32) (p2 : Int32) (p3 : Int32) (h : fSt) : Option ((Int32 ⊕ Nat) × fSt) := f_X7_covers_L0 (some o) p0 p1 p2 p3 h
noncomputable def f_L_covers_L20 (s2 : Int64) (s1 : Int32) (s0 : Option Nat) (h : fSt) : Option ((Int32 ⊕ Nat) × fSt) := (fsJ h s0 1 s1 s2).bind fun h1 => some (.inl (0 : Int32), h1)
noncomputable def f_L_covers_L0 (a0 : Option Nat) (a1 : Int32) (a2 : Int32) (a3 : Int32) (a4 : Int32) (a5 : Option Nat) (h : fSt) : Option ((Int32 ⊕ Nat) × fSt) := (fobj h a0 7).bind fun b5 => (f_X7_covers b5 a1 a2 a3 a4 h).bind fun r3 => Sum.elim (fun v7 => (if v7 = 0 then f_L_covers_L20 (0 : Int64) (0 : Int32) a5 r3.2 else f_L_covers_L20 (1 : Int64) (0 : Int32) a5 r3.2)) (fun k8 => (if k8 = 0 then some (.inl (1 : Int32), r3.2) else (if k8 = 1 then some (.inl (2 : Int32), r3.2) else none))) r3.1
noncomputable def f_L_covers (p0 : Option Nat) (p1 : Int32) (p2 : Int32) (p3 : Int32) (p4 : Int32) (p5 : Option Nat) (h : fSt) : Option ((Int32 ⊕ Nat) × fSt) := f_L_covers_L0 p0 p1 p2 p3 p4 p5 h
noncomputable def f_X7_foundBelowWhole_L0 (a0 : Option Nat) (a1 : Int32) (h : fSt) : Option ((Option Nat ⊕ Nat) × fSt) := (fobj h a0 7).bind fun b3 => (f_X7_found b3 a1 h).bind fun r1 => Sum.elim (fun v5 => (fgR r1.2 a0 7 2).bind fun x8 => (if v5 = x8 then (fthr r1.2).bind fun h11 => some (.inr 2, h11) else some (.inl v5, r1.2))) (fun k6 => some (.inr k6, r1.2)) r1.1
noncomputable def f_X7_foundBelowWhole (o : Nat) (p0 : Int32) (h : fSt) : Option ((Option Nat ⊕ Nat) × fSt) := f_X7_foundBelowWhole_L0 (some o) p0 h
noncomputable def f_X7_cut_L28  (h : fSt) : Option ((Int32 ⊕ Nat) × fSt) := (fthr h).bind fun h1 => some (.inr 1, h1)
noncomputable def f_X7_cut_L59  (h : fSt) : Option ((Int32 ⊕ Nat) × fSt) := (fthr h).bind fun h3 => some (.inr 1, h3)
noncomputable def f_X7_cut_L82 (a2 : Int32) (a3 : Int32) (a4 : Int32) (a5 : Int32) (a6 : Option Nat) (s0 : Int32) (h : fSt) : Option ((Int32 ⊕ Nat) × fSt) := (fnew h (.inl (2, [.int 0, .int 0, .int 0, .int 0])) 4).bind fun r5 => (f_X2_init r5.1 a2 a3 a4 a5 r5.2).bind fun r7 => (fput r7.2 a6 4 12 (va_rf (some r5.1))).bind fun h9 => if s0 = 0 ∨ s0 = 1 then some (.inl s0, h9) else none
noncomputable def f_X7_cut_L0 (a0 : Option Nat) (a1 : Int32) (a2 : Int32) (a3 : Int32) (a4 : Int32) (a5 : Int32) (h : fSt) : Option ((Int32 ⊕ Nat) × fSt) := (fobj h a0 7).bind fun b14 => (f_X7_foundBelowWhole b14 a1 h).bind fun r12 => Sum.elim (fun v16 => (if a2 < (-200 : Int32) then f_X7_cut_L28 r12.2 else (if (200 : Int32) < a4 then f_X7_cut_L28 r12.2 else (if a2 ≤ a4 then (if a3 < (-200 : Int32) then f_X7_cut_L59 r12.2 else (if (200 : Int32) < a5 then f_X7_cut_L59 r12.2 else (if a3 ≤ a5 then (fgR r12.2 v16 4 12).bind fun x25 => (if x25 = none then f_X7_cut_L82 a2 a3 a4 a5 v16 (0 : Int32) r12.2 else f_X7_cut_L82 a2 a3 a4 a5 v16 (1 : Int32) r12.2) else f_X7_cut_L59 r12.2))) else f_X7_cut_L28 r12.2)))) (fun k17 => some (.inr k17, r12.2)) r12.1
noncomputable def f_X7_cut (o : Nat) (p0 : Int32) (p1 : Int32) (p2 : Int32) (p3 : Int32) (p4 : Int32) (h : fSt) : Option ((Int32 ⊕ Nat) × fSt) := f_X7_cut_L0 (some o) p0 p1 p2 p3 p4 h
noncomputable def f_L_cut_L22 (s2 : Int64) (s1 : Int32) (s0 : Option Nat) (h : fSt) : Option ((Int32 ⊕ Nat) × fSt) := (fsJ h s0 1 s1 s2).bind fun h1 => some (.inl (0 : Int32), h1)
noncomputable def f_L_cut_L0 (a0 : Option Nat) (a1 : Int32) (a2 : Int32) (a3 : Int32) (a4 : Int32) (a5 : Int32) (a6 : Option Nat) (h : fSt) : Option ((Int32 ⊕ Nat) × fSt) := (fobj h a0 7).bind fun b5 => (f_X7_cut b5 a1 a2 a3 a4 a5 h).bind fun r3 => Sum.elim (fun v7 => (if v7 = 0 then f_L_cut_L22 (0 : Int64) (0 : Int32) a6 r3.2 else f_L_cut_L22 (1 : Int64) (0 : Int32) a6 r3.2)) (fun k8 => (if k8 = 0 then some (.inl (1 : Int32), r3.2) else (if k8 = 2 then some (.inl (2 : Int32), r3.2) else (if k8 = 1 then some (.inl (3 : Int32), r3.2) else none)))) r3.1
noncomputable def f_L_cut (p0 : Option Nat) (p1 : Int32) (p2 : Int32) (p3 : Int32) (p4 : Int32) (p5 : Int32) (p6 : Option Nat) (h : fSt) : Option ((Int32 ⊕ Nat) × fSt) := f_L_cut_L0 p0 p1 p2 p3 p4 p5 p6 h
noncomputable def f_X7_fromWhole_L0 (a0 : Option Nat) (a1 : Int32) (a2 : Int32) (a3 : Int32) (a4 : Int32) (h : fSt) : Option ((Int32 ⊕ Nat) × fSt) := (fobj h a0 7).bind fun b3 => (f_X7_found b3 a1 h).bind fun r1 => Sum.elim (fun v5 => (f_X7_checkPoint a2 a3 a4 r1.2).bind fun r8 => Sum.elim (fun v10 => (fgR r8.2 a0 7 3).bind fun x13 => (fobj r8.2 x13 5).bind fun b17 => (f_X5_set b17 (Int32.toInt64 a2) (Int32.toInt64 a3) (1 : Int64) r8.2).bind fun r15 => (fgR r15.2 a0 7 3).bind fun x19 => (fgI r15.2 a0 7 7).bind fun x21 => (f_X7_sink 8 x19 v5 x21 (0 : Int32) r15.2).bind fun r23 => (fgR r23.2 a0 7 3).bind fun x25 => (fobj r23.2 x25 5).bind fun b29 => (f_X5_part b29 a4 r23.2).bind fun r27 => some (.inl (Int64.toInt32 r27.1), r27.2)) (fun k11 => some (.inr k11, r8.2)) r8.1) (fun k6 => some (.inr k6, r1.2)) r1.1
noncomputable def f_X7_fromWhole (o : Nat) (p0 : Int32) (p1 : Int32) (p2 : Int32) (p3 : Int32) (h : fSt) : Option ((Int32 ⊕ Nat) × fSt) := f_X7_fromWhole_L0 (some o) p0 p1 p2 p3 h
noncomputable def f_L_fromWhole_L0 (a0 : Option Nat) (a1 : Int32) (a2 : Int32) (a3 : Int32) (a4 : Int32) (a5 : Option Nat) (h : fSt) : Option ((Int32 ⊕ Nat) × fSt) := (fobj h a0 7).bind fun b3 => (f_X7_fromWhole b3 a1 a2 a3 a4 h).bind fun r1 => Sum.elim (fun v5 => (fsJ r1.2 a5 1 (0 : Int32) (Int32.toInt64 v5)).bind fun h8 => some (.inl (0 : Int32), h8)) (fun k6 => (if k6 = 0 then some (.inl (1 : Int32), r1.2) else (if k6 = 1 then some (.inl (2 : Int32), r1.2) else none))) r1.1
noncomputable def f_L_fromWhole (p0 : Option Nat) (p1 : Int32) (p2 : Int32) (p3 : Int32) (p4 : Int32) (p5 : Option Nat) (h : fSt) : Option ((Int32 ⊕ Nat) × fSt) := f_L_fromWhole_L0 p0 p1 p2 p3 p4 p5 h
noncomputable def f_X4_countHanging_L7 (n : Nat) : Int32 → Option Nat → fSt → Option (Int32 × fSt) := Nat.rec (motive := fun _ => Int32 → Option Nat → fSt → Option (Int32 × fSt)) (fun _ _ _ => none) (fun _ k7 (a1 : Int32) (a2 : Option Nat) (h : fSt) => (if a2 = none then some (a1, h) else (fgR h a2 4 16).bind fun x2 => k7 (a1 + (1 : Int32)) x2 h)) n
noncomputable def f_X4_countHanging_L0 (a0 : Option Nat) (h : fSt) : Option (Int32 × fSt) := (fgR h a0 4 15).bind fun x4 => f_X4_countHanging_L7 4096 (0 : Int32) x4 h
noncomputable def f_X4_countHanging (o : Nat) (h : fSt) : Option (Int32 × fSt) := f_X4_countHanging_L0 (some o) h
noncomputable def f_X4_leaveParent_L58 (k38 : Option Nat → Option Nat → fSt → Option (Unit × fSt)) (a0 : Option Nat) (a1 : Option Nat) (h : fSt) : Option (Unit × fSt) := (fgR h a1 4 16).bind fun x1 => k38 a0 x1 h
noncomputable def f_X4_leaveParent_L38 (n : Nat) : Option Nat → Option Nat → fSt → Option (Unit × fSt) := Nat.rec (motive := fun _ => Option Nat → Option Nat → fSt → Option (Unit × fSt)) (fun _ _ _ => none) (fun _ k38 (a0 : Option Nat) (a1 : Option Nat) (h : fSt) => (if a1 = none then (fput h a0 4 16 (va_rf none)).bind fun h4 => some ((), h4) else (fgR h a1 4 16).bind fun x6 => (if x6 = a0 then (fgR h a0 4 16).bind fun x9 => (fput h a1 4 16 (va_rf x9)).bind fun h11 => f_X4_leaveParent_L58 k38 a0 a1 h11 else f_X4_leaveParent_L58 k38 a0 a1 h))) n
noncomputable def f_X4_leaveParent_L30 (a0 : Option Nat) (h : fSt) : Option (Unit × fSt) := (fgR h a0 4 14).bind fun x13 => (fgR h x13 4 15).bind fun x15 => f_X4_leaveParent_L38 4096 a0 x15 h
noncomputable def f_X4_leaveParent_L0 (a0 : Option Nat) (h : fSt) : Option (Unit × fSt) := (fgR h a0 4 14).bind fun x17 => (if x17 = none then some ((), h) else (fgR h a0 4 14).bind fun x20 => (fgR h x20 4 15).bind fun x22 => (if x22 = a0 then (fgR h a0 4 14).bind fun x25 => (fgR h a0 4 16).bind fun x27 => (fput h x25 4 15 (va_rf x27)).bind fun h29 => f_X4_leaveParent_L30 a0 h29 else f_X4_leaveParent_L30 a0 h))
noncomputable def f_X4_leaveParent (o : Nat) (h : fSt) : Option (Unit × fSt) := f_X4_leaveParent_L0 (some o) h
noncomputable def f_X7_depthUnder_L31 (k10 : Option Nat → Int32 → Option Nat → fSt → Option (Int32 × fSt)) (a1 : Option Nat) (a2 : Int32) (a3 : Option Nat) (h : fSt) : Option (Int32 × fSt) := (fgR h a3 4 17).bind fun x1 => k10 a1 a2 x1 h
noncomputable def f_X7_depthUnder_L10 (n : Nat) : Option Nat → Int32 → Option Nat → fSt → Option (Int32 × fSt) := Nat.rec (motive := fun _ => Option Nat → Int32 → Option Nat → fSt → Option (Int32 × fSt)) (fun _ _ _ _ => none) (fun _ k10 (a1 : Option Nat) (a2 : Int32) (a3 : Option Nat) (h : fSt) => (if a3 = none then (fobj h a1 4).bind fun b6 => (f_X4_depth b6 h).bind fun r4 => some ((a2 - r4.1), r4.2) else (fobj h a3 4).bind fun b10 => (f_X4_isWithin b10 a1 h).bind fun r8 => (if r8.1 = 0 then f_X7_depthUnder_L31 k10 a1 a2 a3 r8.2 else (fobj r8.2 a3 4).bind fun b15 => (f_X4_depth b15 r8.2).bind fun r13 => f_X7_depthUnder_L31 k10 a1 (if a2 < r13.1 then r13.1 else a2) a3 r13.2))) n
noncomputable def f_X7_depthUnder_L0 (a0 : Option Nat) (a1 : Option Nat) (h : fSt) : Option (Int32 × fSt) := (fobj h a1 4).bind fun b19 => (f_X4_depth b19 h).bind fun r17 => (fgR r17.2 a0 7 8).bind fun x21 => f_X7_depthUnder_L10 4096 a1 r17.1 x21 r17.2
noncomputable def f_X7_depthUnder (o : Nat) (p0 : Option Nat) (h : fSt) : Option (Int32 × fSt) := f_X7_depthUnder_L0 (some o) p0 h
noncomputable def f_X7_hang_L30  (h : fSt) : Option ((Int32 ⊕ Nat) × fSt) := (fthr h).bind fun h1 => some (.inr 2, h1)
noncomputable def f_X7_hang_L0 (a0 : Option Nat) (a1 : Int32) (a2 : Int32) (h : fSt) : Option ((Int32 ⊕ Nat) × fSt) := (fobj h a0 7).bind fun b5 => (f_X7_found b5 a1 h).bind fun r3 => Sum.elim (fun v7 => (fobj r3.2 a0 7).bind fun b12 => (f_X7_found b12 a2 r3.2).bind fun r10 => Sum.elim (fun v14 => (fgR r10.2 a0 7 2).bind fun x17 => (if v7 = x17 then f_X7_hang_L30 r10.2 else (fobj r10.2 v14 4).bind fun b22 => (f_X4_isWithin b22 v7 r10.2).bind fun r20 => (if r20.1 = 0 then (fobj r20.2 v14 4).bind fun b27 => (f_X4_depth b27 r20.2).bind fun r25 => (fobj r25.2 a0 7).bind fun b31 => (f_X7_depthUnder b31 v7 r25.2).bind fun r29 => (if ((r25.1 + (1 : Int32)) + r29.1) ≤ (4 : Int32) then (fobj r29.2 v7 4).bind fun b36 => (f_X4_leaveParent b36 r29.2).bind fun r34 => (fobj r34.2 v14 4).bind fun b40 => (f_X4_takeIn b40 v7 r34.2).bind fun r38 => (fobj r38.2 a0 7).bind fun b44 => (f_X7_layOrder b44 r38.2).bind fun r42 => (fobj r42.2 v14 4).bind fun b48 => (f_X4_countHanging b48 r42.2).bind fun r46 => some (.inl r46.1, r46.2) else (fthr r29.2).bind fun h50 => some (.inr 2, h50)) else f_X7_hang_L30 r20.2))) (fun k15 => some (.inr k15, r10.2)) r10.1) (fun k8 => some (.inr k8, r3.2)) r3.1
noncomputable def f_X7_hang (o : Nat) (p0 : Int32) (p1 : Int32) (h : fSt) : Option ((Int32 ⊕ Nat) × fSt) := f_X7_hang_L0 (some o) p0 p1 h
noncomputable def f_L_hang_L0 (a0 : Option Nat) (a1 : Int32) (a2 : Int32) (a3 : Option Nat) (h : fSt) : Option ((Int32 ⊕ Nat) × fSt) := (fobj h a0 7).bind fun b3 => (f_X7_hang b3 a1 a2 h).bind fun r1 => Sum.elim (fun v5 => (fsJ r1.2 a3 1 (0 : Int32) (Int32.toInt64 v5)).bind fun h8 => some (.inl (0 : Int32), h8)) (fun k6 => (if k6 = 0 then some (.inl (1 : Int32), r1.2) else (if k6 = 2 then some (.inl (2 : Int32), r1.2) else none))) r1.1
noncomputable def f_L_hang (p0 : Option Nat) (p1 : Int32) (p2 : Int32) (p3 : Option Nat) (h : fSt) : Option ((Int32 ⊕ Nat) × fSt) := f_L_hang_L0 p0 p1 p2 p3 h
noncomputable def f_X7_isShown_L0 (a0 : Option Nat) (a1 : Int32) (h : fSt) : Option ((Int32 ⊕ Nat) × fSt) := (fobj h a0 7).bind fun b3 => (f_X7_found b3 a1 h).bind fun r1 => Sum.elim (fun v5 => (fgI r1.2 a0 7 7).bind fun x8 => (fobj r1.2 v5 4).bind fun b12 => (f_X4_isShownAt b12 x8 r1.2).bind fun r10 => if r10.1 = 0 ∨ r10.1 = 1 then some (.inl r10.1, r10.2) else none) (fun k6 => some (.inr k6, r1.2)) r1.1
noncomputable def f_X7_isShown (o : Nat) (p0 : Int32) (h : fSt) : Option ((Int32 ⊕ Nat) × fSt) := f_X7_isShown_L0 (some o) p0 h
noncomputable def f_L_isShown_L15 (s2 : Int64) (s1 : Int32) (s0 : Option Nat) (h : fSt) : Option ((Int32 ⊕ Nat) × fSt) := (fsJ h s0 1 s1 s2).bind fun h1 => some (.inl (0 : Int32), h1)
noncomputable def f_L_isShown_L0 (a0 : Option Nat) (a1 : Int32) (a2 : Option Nat) (h : fSt) : Option ((Int32 ⊕ Nat) × fSt) := (fobj h a0 7).bind fun b5 => (f_X7_isShown b5 a1 h).bind fun r3 => Sum.elim (fun v7 => (if v7 = 0 then f_L_isShown_L15 (0 : Int64) (0 : Int32) a2 r3.2 else f_L_isShown_L15 (1 : Int64) (0 : Int32) a2 r3.2)) (fun k8 => (if k8 = 0 then some (.inl (1 : Int32), r3.2) else none)) r3.1
noncomputable def f_L_isShown (p0 : Option Nat) (p1 : Int32) (p2 : Option Nat) (h : fSt) : Option ((Int32 ⊕ Nat) × fSt) := f_L_isShown_L0 p0 p1 p2 h
noncomputable def f_X6_allows_L0 (a0 : Option Nat) (a1 : Int32) (h : fSt) : Option (Int32 × fSt) := (fgI h a0 6 0).bind fun x1 => (fgI h a0 6 1).bind fun x3 => (f_X7_isFrom a1 x1 x3 h).bind fun r5 => if r5.1 = 0 ∨ r5.1 = 1 then some (r5.1, r5.2) else none
noncomputable def f_X6_allows (o : Nat) (p0 : Int32) (h : fSt) : Option (Int32 × fSt) := f_X6_allows_L0 (some o) p0 h
noncomputable def f_X6_keyAt_L23 (s0 : Option Nat) (h : fSt) : Option (Option Nat × fSt) := some (s0, h)
noncomputable def f_X6_keyAt_L18  (h : fSt) : Option (Option Nat × fSt) := f_X6_keyAt_L23 none h
noncomputable def f_X6_keyAt_L0 (a0 : Option Nat) (a1 : Int32) (h : fSt) : Option (Option Nat × fSt) := (fobj h a0 6).bind fun b3 => (f_X6_lastKeyUpTo b3 a1 h).bind fun r1 => (if r1.1 = none then f_X6_keyAt_L18 r1.2 else (fgI r1.2 r1.1 3 0).bind fun x6 => (if x6 = a1 then f_X6_keyAt_L23 r1.1 r1.2 else f_X6_keyAt_L18 r1.2))
noncomputable def f_X6_keyAt (o : Nat) (p0 : Int32) (h : fSt) : Option (Option Nat × fSt) := f_X6_keyAt_L0 (some o) p0 h
noncomputable def f_X3_init_L0 (a0 : Option Nat) (a1 : Int32) (a2 : Int32) (h : fSt) : Option (Unit × fSt) := (fobj h a0 3).bind fun b1 => (fput h a0 3 0 (.int a1)).bind fun h3 => (fput h3 a0 3 1 (.int a2)).bind fun h5 => some ((), h5)
noncomputable def f_X3_init (o : Nat) (p0 : Int32) (p1 : Int32) (h : fSt) : Option (Unit × fSt) := f_X3_init_L0 (some o) p0 p1 h
noncomputable def f_X6_putKey_L72 (a0 : Option Nat) (h : fSt) : Option (Unit × fSt) := (fgI h a0 6 8).bind fun x1 => (fput h a0 6 8 (.int (x1 + (1 : Int32)))).bind fun h3 => some ((), h3)
noncomputable def f_X6_putKey_L24 (a0 : Option Nat) (a1 : Int32) (a2 : Int32) (a3 : Option Nat) (h : fSt) : Option (Unit × fSt) := (fnew h (.inl (3, [.int 0, .int 0, .null])) 3).bind fun r5 => (f_X3_init r5.1 a1 a2 r5.2).bind fun r7 => (if a3 = none then (fgR r7.2 a0 6 7).bind fun x16 => (fput r7.2 (some r5.1) 3 2 (va_rf x16)).bind fun h18 => (fput h18 a0 6 7 (va_rf (some r5.1))).bind fun h20 => f_X6_putKey_L72 a0 h20 else (fgR r7.2 a3 3 2).bind fun x10 => (fput r7.2 (some r5.1) 3 2 (va_rf x10)).bind fun h12 => (fput h12 a3 3 2 (va_rf (some r5.1))).bind fun h14 => f_X6_putKey_L72 a0 h14)
noncomputable def f_X6_putKey_L0 (a0 : Option Nat) (a1 : Int32) (a2 : Int32) (h : fSt) : Option (Unit × fSt) := (fobj h a0 6).bind fun b24 => (f_X6_lastKeyUpTo b24 a1 h).bind fun r22 => (if r22.1 = none then f_X6_putKey_L24 a0 a1 a2 r22.1 r22.2 else (fgI r22.2 r22.1 3 0).bind fun x27 => (if x27 = a1 then (fput r22.2 r22.1 3 1 (.int a2)).bind fun h30 => some ((), h30) else f_X6_putKey_L24 a0 a1 a2 r22.1 r22.2))
noncomputable def f_X6_putKey (o : Nat) (p0 : Int32) (p1 : Int32) (h : fSt) : Option (Unit × fSt) := f_X6_putKey_L0 (some o) p0 p1 h
noncomputable def f_X7_foundTrack_L23 (s0 : Option Nat) (h : fSt) : Option ((Option Nat ⊕ Nat) × fSt) := (if s0 = none then (fthr h).bind fun h2 => some (.inr 0, h2) else some (.inl s0, h))
noncomputable def f_X7_foundTrack_L13  (h : fSt) : Option ((Option Nat ⊕ Nat) × fSt) := f_X7_foundTrack_L23 none h
noncomputable def f_X7_foundTrack_L0 (a0 : Option Nat) (a1 : Int32) (h : fSt) : Option ((Option Nat ⊕ Nat) × fSt) := (if a1 < 0 then f_X7_foundTrack_L13 h else (fgR h a0 7 1).bind fun x5 => (flen h x5 5).bind fun x7 => (if a1 < x7 then (fgR h a0 7 1).bind fun x10 => (faR h x10 5 a1).bind fun x12 => f_X7_foundTrack_L23 x12 h else f_X7_foundTrack_L13 h))
noncomputable def f_X7_foundTrack (o : Nat) (p0 : Int32) (h : fSt) : Option ((Option Nat ⊕ Nat) × fSt) := f_X7_foundTrack_L0 (some o) p0 h
noncomputable def f_X7_key_L27  (h : fSt) : Option ((Int32 ⊕ Nat) × fSt) := (fthr h).bind fun h1 => some (.inr 1, h1)
noncomputable def f_X7_key_L64  (h : fSt) : Option ((Int32 ⊕ Nat) × fSt) := (fthr h).bind fun h3 => some (.inr 2, h3)
noncomputable def f_X7_key_L74 (a2 : Int32) (a3 : Int32) (a4 : Option Nat) (h : fSt) : Option ((Int32 ⊕ Nat) × fSt) := (fobj h a4 6).bind fun b7 => (f_X6_putKey b7 a2 a3 h).bind fun r5 => (fgI r5.2 a4 6 8).bind fun x9 => some (.inl x9, r5.2)
noncomputable def f_X7_key_L0 (a0 : Option Nat) (a1 : Int32) (a2 : Int32) (a3 : Int32) (h : fSt) : Option ((Int32 ⊕ Nat) × fSt) := (fobj h a0 7).bind fun b13 => (f_X7_foundTrack b13 a1 h).bind fun r11 => Sum.elim (fun v15 => (f_X7_isFrom a2 (0 : Int32) (999 : Int32) r11.2).bind fun r18 => (if r18.1 = 0 then f_X7_key_L27 r18.2 else (fobj r18.2 v15 6).bind fun b23 => (f_X6_allows b23 a3 r18.2).bind fun r21 => (if r21.1 = 0 then f_X7_key_L27 r21.2 else (fgI r21.2 v15 6 4).bind fun x26 => (if x26 = 0 then (fgI r21.2 v15 6 8).bind fun x29 => (if x29 < (8 : Int32) then f_X7_key_L74 a2 a3 v15 r21.2 else (fobj r21.2 v15 6).bind fun b34 => (f_X6_keyAt b34 a2 r21.2).bind fun r32 => (if r32.1 = none then f_X7_key_L64 r32.2 else f_X7_key_L74 a2 a3 v15 r32.2)) else f_X7_key_L64 r21.2)))) (fun k16 => some (.inr k16, r11.2)) r11.1
noncomputable def f_X7_key (o : Nat) (p0 : Int32) (p1 : Int32) (p2 : Int32) (h : fSt) : Option ((Int32 ⊕ Nat) × fSt) := f_X7_key_L0 (some o) p0 p1 p2 h
noncomputable def f_L_key_L0 (a0 : Option Nat) (a1 : Int32) (a2 : Int32) (a3 : Int32) (a4 : Option Nat) (h : fSt) : Option ((Int32 ⊕ Nat) × fSt) := (fobj h a0 7).bind fun b3 => (f_X7_key b3 a1 a2 a3 h).bind fun r1 => Sum.elim (fun v5 => (fsJ r1.2 a4 1 (0 : Int32) (Int32.toInt64 v5)).bind fun h8 => some (.inl (0 : Int32), h8)) (fun k6 => (if k6 = 0 then some (.inl (1 : Int32), r1.2) else (if k6 = 1 then some (.inl (2 : Int32), r1.2) else (if k6 = 2 then some (.inl (3 : Int32), r1.2) else none)))) r1.1
noncomputable def f_L_key (p0 : Option Nat) (p1 : Int32) (p2 : Int32) (p3 : Int32) (p4 : Option Nat) (h : fSt) : Option ((Int32 ⊕ Nat) × fSt) := f_L_key_L0 p0 p1 p2 p3 p4 h
noncomputable def f_X7_level_L0 (a0 : Option Nat) (a1 : Int32) (h : fSt) : Option ((Int32 ⊕ Nat) × fSt) := (fobj h a0 7).bind fun b3 => (f_X7_found b3 a1 h).bind fun r1 => Sum.elim (fun v5 => (fobj r1.2 v5 4).bind fun b10 => (f_X4_depth b10 r1.2).bind fun r8 => some (.inl r8.1, r8.2)) (fun k6 => some (.inr k6, r1.2)) r1.1
noncomputable def f_X7_level (o : Nat) (p0 : Int32) (h : fSt) : Option ((Int32 ⊕ Nat) × fSt) := f_X7_level_L0 (some o) p0 h
noncomputable def f_L_level_L0 (a0 : Option Nat) (a1 : Int32) (a2 : Option Nat) (h : fSt) : Option ((Int32 ⊕ Nat) × fSt) := (fobj h a0 7).bind fun b3 => (f_X7_level b3 a1 h).bind fun r1 => Sum.elim (fun v5 => (fsJ r1.2 a2 1 (0 : Int32) (Int32.toInt64 v5)).bind fun h8 => some (.inl (0 : Int32), h8)) (fun k6 => (if k6 = 0 then some (.inl (1 : Int32), r1.2) else none)) r1.1
noncomputable def f_L_level (p0 : Option Nat) (p1 : Int32) (p2 : Option Nat) (h : fSt) : Option ((Int32 ⊕ Nat) × fSt) := f_L_level_L0 p0 p1 p2 h
noncomputable def f_X7_look_L30  (h : fSt) : Option ((Int32 ⊕ Nat) × fSt) := (fthr h).bind fun h1 => some (.inr 1, h1)
noncomputable def f_X7_look_L0 (a0 : Option Nat) (a1 : Int32) (a2 : Int32) (a3 : Int32) (a4 : Int32) (h : fSt) : Option ((Int32 ⊕ Nat) × fSt) := (fobj h a0 7).bind fun b5 => (f_X7_foundBelowWhole b5 a1 h).bind fun r3 => Sum.elim (fun v7 => (f_X7_isFrom a2 (-9 : Int32) (9 : Int32) r3.2).bind fun r10 => (if r10.1 = 0 then f_X7_look_L30 r10.2 else (fgR r10.2 v7 4 6).bind fun x13 => (fobj r10.2 x13 6).bind fun b17 => (f_X6_allows b17 a3 r10.2).bind fun r15 => (if r15.1 = 0 then f_X7_look_L30 r15.2 else (fgR r15.2 v7 4 6).bind fun x20 => (fgI r15.2 x20 6 2).bind fun x22 => (fput r15.2 v7 4 10 (.int a2)).bind fun h24 => (fgR h24 v7 4 6).bind fun x26 => (fput h24 x26 6 2 (.int a3)).bind fun h28 => (fputZ h28 v7 4 11 a4).bind fun h30 => (fobj h30 a0 7).bind fun b35 => (f_X7_layOrder b35 h30).bind fun r33 => some (.inl x22, r33.2)))) (fun k8 => some (.inr k8, r3.2)) r3.1
noncomputable def f_X7_look (o : Nat) (p0 : Int32) (p1 : Int32) (p2 : Int32) (p3 : Int32) (h : fSt) : Option ((Int32 ⊕ Nat) × fSt) := f_X7_look_L0 (some o) p0 p1 p2 p3 h
noncomputable def f_L_look_L0 (a0 : Option Nat) (a1 : Int32) (a2 : Int32) (a3 : Int32) (a4 : Int32) (a5 : Option Nat) (h : fSt) : Option ((Int32 ⊕ Nat) × fSt) := (fobj h a0 7).bind fun b3 => (f_X7_look b3 a1 a2 a3 a4 h).bind fun r1 => Sum.elim (fun v5 => (fsJ r1.2 a5 1 (0 : Int32) (Int32.toInt64 v5)).bind fun h8 => some (.inl (0 : Int32), h8)) (fun k6 => (if k6 = 0 then some (.inl (1 : Int32), r1.2) else (if k6 = 2 then some (.inl (2 : Int32), r1.2) else (if k6 = 1 then some (.inl (3 : Int32), r1.2) else none)))) r1.1
noncomputable def f_L_look (p0 : Option Nat) (p1 : Int32) (p2 : Int32) (p3 : Int32) (p4 : Int32) (p5 : Option Nat) (h : fSt) : Option ((Int32 ⊕ Nat) × fSt) := f_L_look_L0 p0 p1 p2 p3 p4 p5 h
set_option maxHeartbeats 4000000 in
set_option maxRecDepth 100000 in
theorem w_X7_checkSpot_L26 {p : Program} {l : Launch} {e : Env} {s : State} {m : MethodId} {args : Array Value} {below : List Frame} {meth : Method} {c : Code} {D : va_G} {cA : Nat → ClassId} {h0 : fSt} {r : ((Unit ⊕ Nat) × fSt)} (M : fM p s m args meth c D cA h0 { frames := 6, cells := fCB h0 - fZ h0, slots := fLB h0 - fL h0, locals := 90 } cX7_checkSpot 3 none RX7) (hfl : l.stackTraces = false) (hno : ∀ x ∈ c.exceptionTable.toList, False)  (h : fSt) (hf : f_X7_checkSpot_L26  h = some r) : ∀ (H : Heap) (locs : List Loc) (cells slots : Nat) (ls : Array Slot), fCur D cA s h0 h H locs → lv_has ls 3 [] → W p l e { frames := 6, cells := fCB h0 - fZ h0, slots := fLB h0 - fL h0, locals := 90 } s m args below meth c H locs cells slots (vx_MQ below (fQX D cA h0 r.2 (rV r.1)) (fXC D cA h0 r.2 (rV r.1)) args s (fCB h0 - fZ h0) (fLB h0 - fL h0) (fA h0)) (F0 m 26 ls []) := by
  obtain ⟨hx, hb, hml, hr, hlocks, hts, hown, K, hR⟩ := id M
  intro H locs cells slots ls hC hl
  obtain ⟨h1, g2, hf⟩ := obind hf
  obtain rfl := Option.some.inj hf
  exact fr_throwSW hx hb hml hts hfl hown K hC hR th_RX7_60_64_1 st_RX7_355 hl.1 dX7_checkSpot_26 dX7_checkSpot_29 dX7_checkSpot_30 dX7_checkSpot_33 dX7_checkSpot_36 hno (by exact Nat.le_of_ble_eq_true rfl) (catL _ _ (by exact Nat.le_of_ble_eq_true rfl) (by exact Nat.le_of_ble_eq_true rfl)) hlocks g2
set_option maxHeartbeats 4000000 in
set_option maxRecDepth 100000 in
theorem w_X7_checkSpot_L0 {p : Program} {l : Launch} {e : Env} {s : State} {m : MethodId} {args : Array Value} {below : List Frame} {meth : Method} {c : Code} {D : va_G} {cA : Nat → ClassId} {h0 : fSt} {r : ((Unit ⊕ Nat) × fSt)} (M : fM p s m args meth c D cA h0 { frames := 6, cells := fCB h0 - fZ h0, slots := fLB h0 - fL h0, locals := 90 } cX7_checkSpot 3 none RX7) (hfl : l.stackTraces = false) (hno : ∀ x ∈ c.exceptionTable.toList, False) (a0 : Int32) (a1 : Int32) (a2 : Int32) (h : fSt) (hf : f_X7_checkSpot_L0 a0 a1 a2 h = some r) : ∀ (H : Heap) (locs : List Loc) (cells slots : Nat) (ls : Array Slot), fCur D cA s h0 h H locs → lv_has ls 3 [(0, .int a0), (1, .int a1), (2, .int a2)] → W p l e { frames := 6, cells := fCB h0 - fZ h0, slots := fLB h0 - fL h0, locals := 90 } s m args below meth c H locs cells slots (vx_MQ below (fQX D cA h0 r.2 (rV r.1)) (fXC D cA h0 r.2 (rV r.1)) args s (fCB h0 - fZ h0) (fLB h0 - fL h0) (fA h0)) (F0 m 0 ls []) := by
  obtain ⟨hx, hb, hml, hr, hlocks, hts, hown, K, hR⟩ := id M
  intro H locs cells slots ls hC hl
  refine lv_iload_n hx hb dX7_checkSpot_0 rfl (lv_at hl 0 rfl) ?_
  refine lv_sipush (v := (-10000 : Int32)) hx hb dX7_checkSpot_1 (by decide) ?_
  refine lv_sipush (v := (10000 : Int32)) hx hb dX7_checkSpot_4 (by decide) ?_
  obtain ⟨r3, g4, hf⟩ := obind hf
  refine fr_callS hx hb hml hts hown K hC hR (c_X7_isFrom hfl D cA g4) 3 kw492 kw490 kw491 kw55 (by decide +kernel) ⟨by exact Nat.le_of_ble_eq_true rfl, by exact Nat.le_of_ble_eq_true rfl⟩ rfl hl.1 (cat8 _ (by exact Nat.le_of_ble_eq_true rfl)) dX7_checkSpot_7 rfl (fun H locs _ _ hC => ?_)
  refine lv_if_eq (tgt := 26) hx hb dX7_checkSpot_10 (by decide) (fun c5 => ?_) (fun c5 => ?_)
  · replace hf := opos c5 hf
    exact w_X7_checkSpot_L26 M hfl hno _ hf _ _ _ _ _ hC (lv_sub hl [] rfl)
  · replace hf := oneg c5 hf
    refine lv_iload_n hx hb dX7_checkSpot_13 rfl (lv_at hl 1 rfl) ?_
    refine lv_sipush (v := (-10000 : Int32)) hx hb dX7_checkSpot_14 (by decide) ?_
    refine lv_sipush (v := (10000 : Int32)) hx hb dX7_checkSpot_17 (by decide) ?_
    obtain ⟨r6, g7, hf⟩ := obind hf
    refine fr_callS hx hb hml hts hown K hC hR (c_X7_isFrom hfl D cA g7) 3 kw492 kw490 kw491 kw55 (by decide +kernel) ⟨by exact Nat.le_of_ble_eq_true rfl, by exact Nat.le_of_ble_eq_true rfl⟩ rfl hl.1 (cat8 _ (by exact Nat.le_of_ble_eq_true rfl)) dX7_checkSpot_20 rfl (fun H locs _ _ hC => ?_)
    refine lv_if_ne (tgt := 37) hx hb dX7_checkSpot_23 (by decide) (fun c8 => ?_) (fun c8 => ?_)
    · replace hf := oneg c8 hf
      refine lv_iload_n hx hb dX7_checkSpot_37 rfl (lv_at hl 2 rfl) ?_
      refine lv_iconst (v := (1 : Int32)) hx hb dX7_checkSpot_38 (by decide) ?_
      refine lv_bipush (v := (60 : Int32)) hx hb dX7_checkSpot_39 (by decide) ?_
      obtain ⟨r9, g10, hf⟩ := obind hf
      refine fr_callS hx hb hml hts hown K hC hR (c_X7_isFrom hfl D cA g10) 3 kw492 kw490 kw491 kw55 (by decide +kernel) ⟨by exact Nat.le_of_ble_eq_true rfl, by exact Nat.le_of_ble_eq_true rfl⟩ rfl hl.1 (cat8 _ (by exact Nat.le_of_ble_eq_true rfl)) dX7_checkSpot_41 rfl (fun H locs _ _ hC => ?_)
      refine lv_if_ne (tgt := 58) hx hb dX7_checkSpot_44 (by decide) (fun c11 => ?_) (fun c11 => ?_)
      · replace hf := oneg c11 hf
        obtain rfl := Option.some.inj hf
        exact fr_retQ (fr_vret hx hb hr hlocks hC dX7_checkSpot_58)
      · replace hf := opos c11 hf
        obtain ⟨h12, g13, hf⟩ := obind hf
        obtain rfl := Option.some.inj hf
        exact fr_throwSW hx hb hml hts hfl hown K hC hR th_RX7_60_64_1 st_RX7_357 hl.1 dX7_checkSpot_47 dX7_checkSpot_50 dX7_checkSpot_51 dX7_checkSpot_54 dX7_checkSpot_57 hno (by exact Nat.le_of_ble_eq_true rfl) (catL _ _ (by exact Nat.le_of_ble_eq_true rfl) (by exact Nat.le_of_ble_eq_true rfl)) hlocks g13
    · replace hf := opos c8 hf
      exact w_X7_checkSpot_L26 M hfl hno _ hf _ _ _ _ _ hC (lv_sub hl [] rfl)
set_option maxRecDepth 100000 in
theorem c_X7_checkSpot {l : Launch} (hfl : l.stackTraces = false) (D : va_G) (cA : Nat → ClassId) {p0 : Int32} {p1 : Int32} {p2 : Int32} {h : fSt} {r : ((Unit ⊕ Nat) × fSt)} (hf : f_X7_checkSpot p0 p1 p2 h = some r) : fMetX l yX7_checkSpot (wsC yX7_checkSpot cX7_checkSpot 3 none) (6) (90) D cA [.int p0, .int p1, .int p2] h r.2 (rV r.1) := by
  exact fMetX.of (own := RX7) (by decide +kernel) rfl (lva1 rfl (lva1 rfl (lva1 rfl lva0))) (lgl1 rfl (lgl1 rfl (lgl1 rfl lgl0))) (Nat.le_of_ble_eq_true rfl) (fun p e s m args below meth c ls hno M hC hl => by
    have hl : lv_has ls 3 [(0, .int p0), (1, .int p1), (2, .int p2)] := hl
    exact w_X7_checkSpot_L0 M hfl hno _ _ _ _ hf _ _ _ _ _ hC (lv_sub hl [0, 1, 2] rfl))
set_option maxHeartbeats 4000000 in
set_option maxRecDepth 100000 in
theorem w_X2_isAheadOfSlope_L46 {p : Program} {l : Launch} {e : Env} {s : State} {m : MethodId} {args : Array Value} {below : List Frame} {meth : Method} {c : Code} {D : va_G} {cA : Nat → ClassId} {h0 : fSt} {r : (Int32 × fSt)} (M : fM p s m args meth c D cA h0 { frames := 0, cells := fCB h0 - fZ h0, slots := fLB h0 - fL h0, locals := 0 } cX2_isAheadOfSlope 2 (some (.boolean)) RX2) (hfl : l.stackTraces = false) (s0 : Int32) (h : fSt) (hf : f_X2_isAheadOfSlope_L46 s0 h = some r) : ∀ (H : Heap) (locs : List Loc) (cells slots : Nat) (ls : Array Slot), fCur D cA s h0 h H locs → lv_has ls 2 [] → W p l e { frames := 0, cells := fCB h0 - fZ h0, slots := fLB h0 - fL h0, locals := 0 } s m args below meth c H locs cells slots (MQ below (fQ D cA h0 r.2 (some (.int r.1))) args s (fCB h0 - fZ h0) (fLB h0 - fL h0) (fA h0)) (F0 m 46 ls [.int s0]) := by
  obtain ⟨hx, hb, hml, hr, hlocks, hts, hown, K, hR⟩ := id M
  intro H locs cells slots ls hC hl
  by_cases c1 : s0 = 0 ∨ s0 = 1
  rotate_left
  · exact nomatch (oneg c1 hf)
  obtain rfl := Option.some.inj (opos c1 hf)
  exact fr_zret hx hb hr hlocks hC c1 dX2_isAheadOfSlope_46
set_option maxHeartbeats 4000000 in
set_option maxRecDepth 100000 in
theorem w_X2_isAheadOfSlope_L0 {p : Program} {l : Launch} {e : Env} {s : State} {m : MethodId} {args : Array Value} {below : List Frame} {meth : Method} {c : Code} {D : va_G} {cA : Nat → ClassId} {h0 : fSt} {r : (Int32 × fSt)} (M : fM p s m args meth c D cA h0 { frames := 0, cells := fCB h0 - fZ h0, slots := fLB h0 - fL h0, locals := 0 } cX2_isAheadOfSlope 2 (some (.boolean)) RX2) (hfl : l.stackTraces = false) (a0 : Option Nat) (a1 : Option Nat) (h : fSt) (hf : f_X2_isAheadOfSlope_L0 a0 a1 h = some r) : ∀ (H : Heap) (locs : List Loc) (cells slots : Nat) (ls : Array Slot), fCur D cA s h0 h H locs → lv_has ls 2 [(0, va_rf a0), (1, va_rf a1)] → W p l e { frames := 0, cells := fCB h0 - fZ h0, slots := fLB h0 - fL h0, locals := 0 } s m args below meth c H locs cells slots (MQ below (fQ D cA h0 r.2 (some (.int r.1))) args s (fCB h0 - fZ h0) (fLB h0 - fL h0) (fA h0)) (F0 m 0 ls []) := by
  obtain ⟨hx, hb, hml, hr, hlocks, hts, hown, K, hR⟩ := id M
  intro H locs cells slots ls hC hl
  refine fr_aload_n hx hb dX2_isAheadOfSlope_0 rfl (lv_at hl 1 rfl) ?_
  obtain ⟨x2, g3, hf⟩ := obind hf
  refine fr_get hx hb hts hown K hC ct_5 (fgJ_get g3) (by decide) kw236 rfl dX2_isAheadOfSlope_1 ?_
  refine fr_aload_n hx hb dX2_isAheadOfSlope_4 rfl (lv_at hl 0 rfl) ?_
  obtain ⟨x4, g5, hf⟩ := obind hf
  refine fr_get hx hb hts hown K hC ct_2 (fgI_get g5) (by decide) kw140 rfl dX2_isAheadOfSlope_5 ?_
  refine lv_i2l (v := (Int32.toInt64 x4)) hx hb dX2_isAheadOfSlope_8 rfl ?_
  refine lv_lmul hx hb dX2_isAheadOfSlope_9 ?_
  refine fr_aload_n hx hb dX2_isAheadOfSlope_10 rfl (lv_at hl 1 rfl) ?_
  obtain ⟨x6, g7, hf⟩ := obind hf
  refine fr_get hx hb hts hown K hC ct_5 (fgJ_get g7) (by decide) kw240 rfl dX2_isAheadOfSlope_11 ?_
  refine fr_aload_n hx hb dX2_isAheadOfSlope_14 rfl (lv_at hl 0 rfl) ?_
  obtain ⟨x8, g9, hf⟩ := obind hf
  refine fr_get hx hb hts hown K hC ct_2 (fgI_get g9) (by decide) kw138 rfl dX2_isAheadOfSlope_15 ?_
  refine lv_i2l (v := (Int32.toInt64 x8)) hx hb dX2_isAheadOfSlope_18 rfl ?_
  refine lv_lmul hx hb dX2_isAheadOfSlope_19 ?_
  refine lv_ladd hx hb dX2_isAheadOfSlope_20 ?_
  refine fr_aload_n hx hb dX2_isAheadOfSlope_21 rfl (lv_at hl 1 rfl) ?_
  obtain ⟨x10, g11, hf⟩ := obind hf
  refine fr_get hx hb hts hown K hC ct_5 (fgJ_get g11) (by decide) kw243 rfl dX2_isAheadOfSlope_22 ?_
  refine fr_aload_n hx hb dX2_isAheadOfSlope_25 rfl (lv_at hl 0 rfl) ?_
  obtain ⟨x12, g13, hf⟩ := obind hf
  refine fr_get hx hb hts hown K hC ct_2 (fgI_get g13) (by decide) kw138 rfl dX2_isAheadOfSlope_26 ?_
  refine lv_i2l (v := (Int32.toInt64 x12)) hx hb dX2_isAheadOfSlope_29 rfl ?_
  refine lv_lmul hx hb dX2_isAheadOfSlope_30 ?_
  refine fr_aload_n hx hb dX2_isAheadOfSlope_31 rfl (lv_at hl 0 rfl) ?_
  obtain ⟨x14, g15, hf⟩ := obind hf
  refine fr_get hx hb hts hown K hC ct_2 (fgI_get g15) (by decide) kw140 rfl dX2_isAheadOfSlope_32 ?_
  refine lv_i2l (v := (Int32.toInt64 x14)) hx hb dX2_isAheadOfSlope_35 rfl ?_
  refine lv_lmul hx hb dX2_isAheadOfSlope_36 ?_
  refine fr_lcmp_gt (tgt := 45) hx hb dX2_isAheadOfSlope_37 dX2_isAheadOfSlope_38 (by decide) (fun c16 => ?_) (fun c16 => ?_)
  · replace hf := opos c16 hf
    refine lv_iconst (v := (0 : Int32)) hx hb dX2_isAheadOfSlope_45 (by decide) ?_
    exact w_X2_isAheadOfSlope_L46 M hfl _ _ hf _ _ _ _ _ hC (lv_sub hl [] rfl)
  · replace hf := oneg c16 hf
    refine lv_iconst (v := (1 : Int32)) hx hb dX2_isAheadOfSlope_41 (by decide) ?_
    refine lv_goto (tgt := 46) hx hb dX2_isAheadOfSlope_42 (by decide) ?_
    exact w_X2_isAheadOfSlope_L46 M hfl _ _ hf _ _ _ _ _ hC (lv_sub hl [] rfl)
set_option maxRecDepth 100000 in
theorem c_X2_isAheadOfSlope {l : Launch} (hfl : l.stackTraces = false) (D : va_G) (cA : Nat → ClassId) {o : Nat} {p0 : Option Nat} {h : fSt} {r : (Int32 × fSt)} (hf : f_X2_isAheadOfSlope o p0 h = some r) : fMet l yX2_isAheadOfSlope (wsC yX2_isAheadOfSlope cX2_isAheadOfSlope 2 (some (.boolean))) (0) (0) D cA [.ref o, va_rf p0] h r.2 (some (.int r.1)) := by
  exact fMet.of (own := RX2) (by decide +kernel) rfl (lva1 rfl (lva1 (va_rf_cat _) lva0)) (lgl1 rfl (lgl1 (va_rf_cat _) lgl0)) (Nat.le_of_ble_eq_true rfl) (fun p e s m args below meth c ls hnm _ M hC hl => by
    have hl : lv_has ls 2 [(0, va_rf (some o)), (1, va_rf p0)] := hl
    exact w_X2_isAheadOfSlope_L0 M hfl _ _ _ hf _ _ _ _ _ hC (lv_sub hl [0, 1] rfl))
set_option maxHeartbeats 4000000 in
set_option maxRecDepth 100000 in
theorem w_X4_owns_L42 {p : Program} {l : Launch} {e : Env} {s : State} {m : MethodId} {args : Array Value} {below : List Frame} {meth : Method} {c : Code} {D : va_G} {cA : Nat → ClassId} {h0 : fSt} {r : (Int32 × fSt)} (M : fM p s m args meth c D cA h0 { frames := 1, cells := fCB h0 - fZ h0, slots := fLB h0 - fL h0, locals := 21 } cX4_owns 2 (some (.boolean)) RX4) (hfl : l.stackTraces = false) (s0 : Int32) (h : fSt) (hf : f_X4_owns_L42 s0 h = some r) : ∀ (H : Heap) (locs : List Loc) (cells slots : Nat) (ls : Array Slot), fCur D cA s h0 h H locs → lv_has ls 2 [] → W p l e { frames := 1, cells := fCB h0 - fZ h0, slots := fLB h0 - fL h0, locals := 21 } s m args below meth c H locs cells slots (MQ below (fQ D cA h0 r.2 (some (.int r.1))) args s (fCB h0 - fZ h0) (fLB h0 - fL h0) (fA h0)) (F0 m 42 ls [.int s0]) := by
  obtain ⟨hx, hb, hml, hr, hlocks, hts, hown, K, hR⟩ := id M
  intro H locs cells slots ls hC hl
  by_cases c1 : s0 = 0 ∨ s0 = 1
  rotate_left
  · exact nomatch (oneg c1 hf)
  obtain rfl := Option.some.inj (opos c1 hf)
  exact fr_zret hx hb hr hlocks hC c1 dX4_owns_42
set_option maxHeartbeats 4000000 in
set_option maxRecDepth 100000 in
theorem w_X4_owns_L37 {p : Program} {l : Launch} {e : Env} {s : State} {m : MethodId} {args : Array Value} {below : List Frame} {meth : Method} {c : Code} {D : va_G} {cA : Nat → ClassId} {h0 : fSt} {r : (Int32 × fSt)} (M : fM p s m args meth c D cA h0 { frames := 1, cells := fCB h0 - fZ h0, slots := fLB h0 - fL h0, locals := 21 } cX4_owns 2 (some (.boolean)) RX4) (hfl : l.stackTraces = false)  (h : fSt) (hf : f_X4_owns_L37  h = some r) : ∀ (H : Heap) (locs : List Loc) (cells slots : Nat) (ls : Array Slot), fCur D cA s h0 h H locs → lv_has ls 2 [] → W p l e { frames := 1, cells := fCB h0 - fZ h0, slots := fLB h0 - fL h0, locals := 21 } s m args below meth c H locs cells slots (MQ below (fQ D cA h0 r.2 (some (.int r.1))) args s (fCB h0 - fZ h0) (fLB h0 - fL h0) (fA h0)) (F0 m 37 ls []) := by
  obtain ⟨hx, hb, hml, hr, hlocks, hts, hown, K, hR⟩ := id M
  intro H locs cells slots ls hC hl
  refine lv_iconst (v := (1 : Int32)) hx hb dX4_owns_37 (by decide) ?_
  refine lv_goto (tgt := 42) hx hb dX4_owns_38 (by decide) ?_
  exact w_X4_owns_L42 M hfl _ _ hf _ _ _ _ _ hC (lv_sub hl [] rfl)
set_option maxHeartbeats 4000000 in
set_option maxRecDepth 100000 in
theorem w_X4_owns_L41 {p : Program} {l : Launch} {e : Env} {s : State} {m : MethodId} {args : Array Value} {below : List Frame} {meth : Method} {c : Code} {D : va_G} {cA : Nat → ClassId} {h0 : fSt} {r : (Int32 × fSt)} (M : fM p s m args meth c D cA h0 { frames := 1, cells := fCB h0 - fZ h0, slots := fLB h0 - fL h0, locals := 21 } cX4_owns 2 (some (.boolean)) RX4) (hfl : l.stackTraces = false)  (h : fSt) (hf : f_X4_owns_L41  h = some r) : ∀ (H : Heap) (locs : List Loc) (cells slots : Nat) (ls : Array Slot), fCur D cA s h0 h H locs → lv_has ls 2 [] → W p l e { frames := 1, cells := fCB h0 - fZ h0, slots := fLB h0 - fL h0, locals := 21 } s m args below meth c H locs cells slots (MQ below (fQ D cA h0 r.2 (some (.int r.1))) args s (fCB h0 - fZ h0) (fLB h0 - fL h0) (fA h0)) (F0 m 41 ls []) := by
  obtain ⟨hx, hb, hml, hr, hlocks, hts, hown, K, hR⟩ := id M
  intro H locs cells slots ls hC hl
  refine lv_iconst (v := (0 : Int32)) hx hb dX4_owns_41 (by decide) ?_
  exact w_X4_owns_L42 M hfl _ _ hf _ _ _ _ _ hC (lv_sub hl [] rfl)
set_option maxHeartbeats 4000000 in
set_option maxRecDepth 100000 in
theorem w_X4_owns_L0 {p : Program} {l : Launch} {e : Env} {s : State} {m : MethodId} {args : Array Value} {below : List Frame} {meth : Method} {c : Code} {D : va_G} {cA : Nat → ClassId} {h0 : fSt} {r : (Int32 × fSt)} (M : fM p s m args meth c D cA h0 { frames := 1, cells := fCB h0 - fZ h0, slots := fLB h0 - fL h0, locals := 21 } cX4_owns 2 (some (.boolean)) RX4) (hfl : l.stackTraces = false) (a0 : Option Nat) (a1 : Option Nat) (h : fSt) (hf : f_X4_owns_L0 a0 a1 h = some r) : ∀ (H : Heap) (locs : List Loc) (cells slots : Nat) (ls : Array Slot), fCur D cA s h0 h H locs → lv_has ls 2 [(0, va_rf a0), (1, va_rf a1)] → W p l e { frames := 1, cells := fCB h0 - fZ h0, slots := fLB h0 - fL h0, locals := 21 } s m args below meth c H locs cells slots (MQ below (fQ D cA h0 r.2 (some (.int r.1))) args s (fCB h0 - fZ h0) (fLB h0 - fL h0) (fA h0)) (F0 m 0 ls []) := by
  obtain ⟨hx, hb, hml, hr, hlocks, hts, hown, K, hR⟩ := id M
  intro H locs cells slots ls hC hl
  refine fr_aload_n hx hb dX4_owns_0 rfl (lv_at hl 0 rfl) ?_
  obtain ⟨x2, g3, hf⟩ := obind hf
  refine fr_get hx hb hts hown K hC ct_4 (fgI_get g3) (by decide) kw153 rfl dX4_owns_1 ?_
  refine lv_if_eq (tgt := 41) hx hb dX4_owns_4 (by decide) (fun c4 => ?_) (fun c4 => ?_)
  · replace hf := opos c4 hf
    exact w_X4_owns_L41 M hfl _ hf _ _ _ _ _ hC (lv_sub hl [] rfl)
  · replace hf := oneg c4 hf
    refine fr_aload_n hx hb dX4_owns_7 rfl (lv_at hl 0 rfl) ?_
    obtain ⟨x5, g6, hf⟩ := obind hf
    refine fr_get hx hb hts hown K hC ct_4 (fgR_get g6) (by decide) kw155 rfl dX4_owns_8 ?_
    refine fr_aload_n hx hb dX4_owns_11 rfl (lv_at hl 1 rfl) ?_
    obtain ⟨b9, q10, hf⟩ := obind hf
    obtain ⟨r7, g8, hf⟩ := obind hf
    refine fr_callV hx hb hml hts hown K hC hR ct_2 (c_X2_holds hfl D cA g8) 1 q10 kw431 kw478 kw429 kw430 kw58 (by decide +kernel) ⟨by exact Nat.le_of_ble_eq_true rfl, by exact Nat.le_of_ble_eq_true rfl⟩ rfl hl.1 (cat8 _ (by exact Nat.le_of_ble_eq_true rfl)) dX4_owns_12 rfl (fun H locs _ _ hC => ?_)
    refine lv_if_eq (tgt := 41) hx hb dX4_owns_15 (by decide) (fun c11 => ?_) (fun c11 => ?_)
    · replace hf := opos c11 hf
      exact w_X4_owns_L41 M hfl _ hf _ _ _ _ _ hC (lv_sub hl [] rfl)
    · replace hf := oneg c11 hf
      refine fr_aload_n hx hb dX4_owns_18 rfl (lv_at hl 0 rfl) ?_
      obtain ⟨x12, g13, hf⟩ := obind hf
      refine fr_get hx hb hts hown K hC ct_4 (fgI_get g13) (by decide) kw153 rfl dX4_owns_19 ?_
      refine lv_iconst (v := (1 : Int32)) hx hb dX4_owns_22 (by decide) ?_
      refine lv_icmp_eq (tgt := 37) hx hb dX4_owns_23 (by decide) (fun c14 => ?_) (fun c14 => ?_)
      · replace hf := opos c14 hf
        exact w_X4_owns_L37 M hfl _ hf _ _ _ _ _ hC (lv_sub hl [] rfl)
      · replace hf := oneg c14 hf
        refine fr_aload_n hx hb dX4_owns_26 rfl (lv_at hl 0 rfl) ?_
        obtain ⟨x15, g16, hf⟩ := obind hf
        refine fr_get hx hb hts hown K hC ct_4 (fgR_get g16) (by decide) kw155 rfl dX4_owns_27 ?_
        refine fr_aload_n hx hb dX4_owns_30 rfl (lv_at hl 1 rfl) ?_
        obtain ⟨b19, q20, hf⟩ := obind hf
        obtain ⟨r17, g18, hf⟩ := obind hf
        refine fr_callV hx hb hml hts hown K hC hR ct_2 (c_X2_isAheadOfSlope hfl D cA g18) 1 q20 kw482 kw479 kw480 kw481 kw58 (by decide +kernel) ⟨by exact Nat.le_of_ble_eq_true rfl, by exact Nat.le_of_ble_eq_true rfl⟩ rfl hl.1 (cat8 _ (by exact Nat.le_of_ble_eq_true rfl)) dX4_owns_31 rfl (fun H locs _ _ hC => ?_)
        refine lv_if_eq (tgt := 41) hx hb dX4_owns_34 (by decide) (fun c21 => ?_) (fun c21 => ?_)
        · replace hf := opos c21 hf
          exact w_X4_owns_L41 M hfl _ hf _ _ _ _ _ hC (lv_sub hl [] rfl)
        · replace hf := oneg c21 hf
          exact w_X4_owns_L37 M hfl _ hf _ _ _ _ _ hC (lv_sub hl [] rfl)
set_option maxRecDepth 100000 in
theorem c_X4_owns {l : Launch} (hfl : l.stackTraces = false) (D : va_G) (cA : Nat → ClassId) {o : Nat} {p0 : Option Nat} {h : fSt} {r : (Int32 × fSt)} (hf : f_X4_owns o p0 h = some r) : fMet l yX4_owns (wsC yX4_owns cX4_owns 2 (some (.boolean))) (1) (21) D cA [.ref o, va_rf p0] h r.2 (some (.int r.1)) := by
  exact fMet.of (own := RX4) (by decide +kernel) rfl (lva1 rfl (lva1 (va_rf_cat _) lva0)) (lgl1 rfl (lgl1 (va_rf_cat _) lgl0)) (Nat.le_of_ble_eq_true rfl) (fun p e s m args below meth c ls hnm _ M hC hl => by
    have hl : lv_has ls 2 [(0, va_rf (some o)), (1, va_rf p0)] := hl
    exact w_X4_owns_L0 M hfl _ _ _ hf _ _ _ _ _ hC (lv_sub hl [0, 1] rfl))
set_option maxHeartbeats 4000000 in
set_option maxRecDepth 100000 in
theorem w_X7_coversAt_L16 {p : Program} {l : Launch} {e : Env} {s : State} {m : MethodId} {args : Array Value} {below : List Frame} {meth : Method} {c : Code} {D : va_G} {cA : Nat → ClassId} {h0 : fSt} {r : (Int32 × fSt)} (M : fM p s m args meth c D cA h0 { frames := 25, cells := fCB h0 - fZ h0, slots := fLB h0 - fL h0, locals := 615 } cX7_coversAt 6 (some (.boolean)) RX7) (hfl : l.stackTraces = false)  (h : fSt) (hf : f_X7_coversAt_L16  h = some r) : ∀ (H : Heap) (locs : List Loc) (cells slots : Nat) (ls : Array Slot), fCur D cA s h0 h H locs → lv_has ls 6 [] → W p l e { frames := 25, cells := fCB h0 - fZ h0, slots := fLB h0 - fL h0, locals := 615 } s m args below meth c H locs cells slots (MQ below (fQ D cA h0 r.2 (some (.int r.1))) args s (fCB h0 - fZ h0) (fLB h0 - fL h0) (fA h0)) (F0 m 16 ls []) := by
  obtain ⟨hx, hb, hml, hr, hlocks, hts, hown, K, hR⟩ := id M
  intro H locs cells slots ls hC hl
  refine lv_iconst (v := (0 : Int32)) hx hb dX7_coversAt_16 (by decide) ?_
  obtain rfl := Option.some.inj hf
  exact fr_zret hx hb hr hlocks hC (Or.inl rfl) dX7_coversAt_17
set_option maxHeartbeats 4000000 in
set_option maxRecDepth 100000 in
theorem w_X7_coversAt_L69 {p : Program} {l : Launch} {e : Env} {s : State} {m : MethodId} {args : Array Value} {below : List Frame} {meth : Method} {c : Code} {D : va_G} {cA : Nat → ClassId} {h0 : fSt} {r : (Int32 × fSt)} (M : fM p s m args meth c D cA h0 { frames := 25, cells := fCB h0 - fZ h0, slots := fLB h0 - fL h0, locals := 615 } cX7_coversAt 6 (some (.boolean)) RX7) (hfl : l.stackTraces = false) (s0 : Int32) (h : fSt) (hf : f_X7_coversAt_L69 s0 h = some r) : ∀ (H : Heap) (locs : List Loc) (cells slots : Nat) (ls : Array Slot), fCur D cA s h0 h H locs → lv_has ls 6 [] → W p l e { frames := 25, cells := fCB h0 - fZ h0, slots := fLB h0 - fL h0, locals := 615 } s m args below meth c H locs cells slots (MQ below (fQ D cA h0 r.2 (some (.int r.1))) args s (fCB h0 - fZ h0) (fLB h0 - fL h0) (fA h0)) (F0 m 69 ls [.int s0]) := by
  obtain ⟨hx, hb, hml, hr, hlocks, hts, hown, K, hR⟩ := id M
  intro H locs cells slots ls hC hl
  by_cases c1 : s0 = 0 ∨ s0 = 1
  rotate_left
  · exact nomatch (oneg c1 hf)
  obtain rfl := Option.some.inj (opos c1 hf)
  exact fr_zret hx hb hr hlocks hC c1 dX7_coversAt_69
set_option maxHeartbeats 4000000 in
set_option maxRecDepth 100000 in
theorem w_X7_coversAt_L68 {p : Program} {l : Launch} {e : Env} {s : State} {m : MethodId} {args : Array Value} {below : List Frame} {meth : Method} {c : Code} {D : va_G} {cA : Nat → ClassId} {h0 : fSt} {r : (Int32 × fSt)} (M : fM p s m args meth c D cA h0 { frames := 25, cells := fCB h0 - fZ h0, slots := fLB h0 - fL h0, locals := 615 } cX7_coversAt 6 (some (.boolean)) RX7) (hfl : l.stackTraces = false)  (h : fSt) (hf : f_X7_coversAt_L68  h = some r) : ∀ (H : Heap) (locs : List Loc) (cells slots : Nat) (ls : Array Slot), fCur D cA s h0 h H locs → lv_has ls 6 [] → W p l e { frames := 25, cells := fCB h0 - fZ h0, slots := fLB h0 - fL h0, locals := 615 } s m args below meth c H locs cells slots (MQ below (fQ D cA h0 r.2 (some (.int r.1))) args s (fCB h0 - fZ h0) (fLB h0 - fL h0) (fA h0)) (F0 m 68 ls []) := by
  obtain ⟨hx, hb, hml, hr, hlocks, hts, hown, K, hR⟩ := id M
  intro H locs cells slots ls hC hl
  refine lv_iconst (v := (0 : Int32)) hx hb dX7_coversAt_68 (by decide) ?_
  exact w_X7_coversAt_L69 M hfl _ _ hf _ _ _ _ _ hC (lv_sub hl [] rfl)
set_option maxHeartbeats 4000000 in
set_option maxRecDepth 100000 in
theorem w_X7_coversAt_L0 {p : Program} {l : Launch} {e : Env} {s : State} {m : MethodId} {args : Array Value} {below : List Frame} {meth : Method} {c : Code} {D : va_G} {cA : Nat → ClassId} {h0 : fSt} {r : (Int32 × fSt)} (M : fM p s m args meth c D cA h0 { frames := 25, cells := fCB h0 - fZ h0, slots := fLB h0 - fL h0, locals := 615 } cX7_coversAt 6 (some (.boolean)) RX7) (hfl : l.stackTraces = false) (a0 : Option Nat) (a1 : Option Nat) (a2 : Int32) (a3 : Int32) (a4 : Int32) (a5 : Int32) (h : fSt) (hf : f_X7_coversAt_L0 a0 a1 a2 a3 a4 a5 h = some r) : ∀ (H : Heap) (locs : List Loc) (cells slots : Nat) (ls : Array Slot), fCur D cA s h0 h H locs → lv_has ls 6 [(0, va_rf a0), (1, va_rf a1), (2, .int a2), (3, .int a3), (4, .int a4), (5, .int a5)] → W p l e { frames := 25, cells := fCB h0 - fZ h0, slots := fLB h0 - fL h0, locals := 615 } s m args below meth c H locs cells slots (MQ below (fQ D cA h0 r.2 (some (.int r.1))) args s (fCB h0 - fZ h0) (fLB h0 - fL h0) (fA h0)) (F0 m 0 ls []) := by
  obtain ⟨hx, hb, hml, hr, hlocks, hts, hown, K, hR⟩ := id M
  intro H locs cells slots ls hC hl
  refine fr_aload_n hx hb dX7_coversAt_0 rfl (lv_at hl 1 rfl) ?_
  obtain ⟨x2, g3, hf⟩ := obind hf
  refine fr_get hx hb hts hown K hC ct_4 (fgI_get g3) (by decide) kw154 rfl dX7_coversAt_1 ?_
  refine lv_if_eq (tgt := 16) hx hb dX7_coversAt_4 (by decide) (fun c4 => ?_) (fun c4 => ?_)
  · replace hf := opos c4 hf
    exact w_X7_coversAt_L16 M hfl _ hf _ _ _ _ _ hC (lv_sub hl [] rfl)
  · replace hf := oneg c4 hf
    refine fr_aload_n hx hb dX7_coversAt_7 rfl (lv_at hl 1 rfl) ?_
    refine lv_iload hx hb dX7_coversAt_8 (lv_at hl 5 rfl) ?_
    obtain ⟨b7, q8, hf⟩ := obind hf
    obtain ⟨r5, g6, hf⟩ := obind hf
    refine fr_callV hx hb hml hts hown K hC hR ct_4 (c_X4_isShownAt hfl D cA g6) 1 q8 kw387 kw384 kw385 kw386 kw56 (by decide +kernel) ⟨by exact Nat.le_of_ble_eq_true rfl, by exact Nat.le_of_ble_eq_true rfl⟩ rfl hl.1 (cat8 _ (by exact Nat.le_of_ble_eq_true rfl)) dX7_coversAt_10 rfl (fun H locs _ _ hC => ?_)
    refine lv_if_ne (tgt := 18) hx hb dX7_coversAt_13 (by decide) (fun c9 => ?_) (fun c9 => ?_)
    · replace hf := oneg c9 hf
      refine fr_aload_n hx hb dX7_coversAt_18 rfl (lv_at hl 0 rfl) ?_
      obtain ⟨x10, g11, hf⟩ := obind hf
      refine fr_get hx hb hts hown K hC ct_7 (fgR_get g11) (by decide) kw293 rfl dX7_coversAt_19 ?_
      refine lv_iload_n hx hb dX7_coversAt_22 rfl (lv_at hl 2 rfl) ?_
      refine lv_i2l (v := (Int32.toInt64 a2)) hx hb dX7_coversAt_23 rfl ?_
      refine lv_iload_n hx hb dX7_coversAt_24 rfl (lv_at hl 3 rfl) ?_
      refine lv_i2l (v := (Int32.toInt64 a3)) hx hb dX7_coversAt_25 rfl ?_
      refine lv_iload hx hb dX7_coversAt_26 (lv_at hl 4 rfl) ?_
      refine lv_i2l (v := (Int32.toInt64 a4)) hx hb dX7_coversAt_28 rfl ?_
      obtain ⟨b14, q15, hf⟩ := obind hf
      obtain ⟨r12, g13, hf⟩ := obind hf
      refine fr_callV hx hb hml hts hown K hC hR ct_5 (c_X5_set hfl D cA g13) 3 q15 kw399 kw396 kw397 kw398 kw59 (by decide +kernel) ⟨by exact Nat.le_of_ble_eq_true rfl, by exact Nat.le_of_ble_eq_true rfl⟩ rfl hl.1 (cat8 _ (by exact Nat.le_of_ble_eq_true rfl)) dX7_coversAt_29 rfl (fun H locs _ _ hC => ?_)
      refine fr_aload_n hx hb dX7_coversAt_32 rfl (lv_at hl 0 rfl) ?_
      obtain ⟨x16, g17, hf⟩ := obind hf
      refine fr_get hx hb hts hown K hC ct_7 (fgR_get g17) (by decide) kw293 rfl dX7_coversAt_33 ?_
      refine fr_aload_n hx hb dX7_coversAt_36 rfl (lv_at hl 1 rfl) ?_
      refine lv_iload hx hb dX7_coversAt_37 (lv_at hl 5 rfl) ?_
      refine lv_iconst (v := (0 : Int32)) hx hb dX7_coversAt_39 (by decide) ?_
      obtain ⟨r18, g19, hf⟩ := obind hf
      refine fr_callS hx hb hml hts hown K hC hR (c_X7_sink hfl D cA 8 g19) 4 kw423 kw421 kw422 kw55 (by decide +kernel) ⟨by exact Nat.le_of_ble_eq_true rfl, by exact Nat.le_of_ble_eq_true rfl⟩ rfl hl.1 (cat8 _ (by exact Nat.le_of_ble_eq_true rfl)) dX7_coversAt_40 rfl (fun H locs _ _ hC => ?_)
      refine fr_aload_n hx hb dX7_coversAt_43 rfl (lv_at hl 0 rfl) ?_
      obtain ⟨x20, g21, hf⟩ := obind hf
      refine fr_get hx hb hts hown K hC ct_7 (fgR_get g21) (by decide) kw293 rfl dX7_coversAt_44 ?_
      obtain ⟨x22, g23, hf⟩ := obind hf
      refine fr_get hx hb hts hown K hC ct_5 (fgI_get g23) (by decide) kw246 rfl dX7_coversAt_47 ?_
      refine lv_if_ne (tgt := 68) hx hb dX7_coversAt_50 (by decide) (fun c24 => ?_) (fun c24 => ?_)
      · replace hf := oneg c24 hf
        exact w_X7_coversAt_L68 M hfl _ hf _ _ _ _ _ hC (lv_sub hl [] rfl)
      · replace hf := opos c24 hf
        refine fr_aload_n hx hb dX7_coversAt_53 rfl (lv_at hl 1 rfl) ?_
        refine fr_aload_n hx hb dX7_coversAt_54 rfl (lv_at hl 0 rfl) ?_
        obtain ⟨x25, g26, hf⟩ := obind hf
        refine fr_get hx hb hts hown K hC ct_7 (fgR_get g26) (by decide) kw293 rfl dX7_coversAt_55 ?_
        obtain ⟨b29, q30, hf⟩ := obind hf
        obtain ⟨r27, g28, hf⟩ := obind hf
        refine fr_callV hx hb hml hts hown K hC hR ct_4 (c_X4_owns hfl D cA g28) 1 q30 kw477 kw474 kw475 kw476 kw56 (by decide +kernel) ⟨by exact Nat.le_of_ble_eq_true rfl, by exact Nat.le_of_ble_eq_true rfl⟩ rfl hl.1 (cat8 _ (by exact Nat.le_of_ble_eq_true rfl)) dX7_coversAt_58 rfl (fun H locs _ _ hC => ?_)
        refine lv_if_eq (tgt := 68) hx hb dX7_coversAt_61 (by decide) (fun c31 => ?_) (fun c31 => ?_)
        · replace hf := opos c31 hf
          exact w_X7_coversAt_L68 M hfl _ hf _ _ _ _ _ hC (lv_sub hl [] rfl)
        · replace hf := oneg c31 hf
          refine lv_iconst (v := (1 : Int32)) hx hb dX7_coversAt_64 (by decide) ?_
          refine lv_goto (tgt := 69) hx hb dX7_coversAt_65 (by decide) ?_
          exact w_X7_coversAt_L69 M hfl _ _ hf _ _ _ _ _ hC (lv_sub hl [] rfl)
    · replace hf := opos c9 hf
      exact w_X7_coversAt_L16 M hfl _ hf _ _ _ _ _ hC (lv_sub hl [] rfl)
set_option maxRecDepth 100000 in
theorem c_X7_coversAt {l : Launch} (hfl : l.stackTraces = false) (D : va_G) (cA : Nat → ClassId) {o : Nat} {p0 : Option Nat} {p1 : Int32} {p2 : Int32} {p3 : Int32} {p4 : Int32} {h : fSt} {r : (Int32 × fSt)} (hf : f_X7_coversAt o p0 p1 p2 p3 p4 h = some r) : fMet l yX7_coversAt (wsC yX7_coversAt cX7_coversAt 6 (some (.boolean))) (25) (615) D cA [.ref o, va_rf p0, .int p1, .int p2, .int p3, .int p4] h r.2 (some (.int r.1)) := by
  exact fMet.of (own := RX7) (by decide +kernel) rfl (lva1 rfl (lva1 (va_rf_cat _) (lva1 rfl (lva1 rfl (lva1 rfl (lva1 rfl lva0)))))) (lgl1 rfl (lgl1 (va_rf_cat _) (lgl1 rfl (lgl1 rfl (lgl1 rfl (lgl1 rfl lgl0)))))) (Nat.le_of_ble_eq_true rfl) (fun p e s m args below meth c ls hnm _ M hC hl => by
    have hl : lv_has ls 6 [(0, va_rf (some o)), (1, va_rf p0), (2, .int p1), (3, .int p2), (4, .int p3), (5, .int p4)] := hl
    exact w_X7_coversAt_L0 M hfl _ _ _ _ _ _ _ hf _ _ _ _ _ hC (lv_sub hl [0, 1, 2, 3, 4, 5] rfl))
set_option maxHeartbeats 4000000 in
set_option maxRecDepth 100000 in
theorem w_X7_covers_L0 {p : Program} {l : Launch} {e : Env} {s : State} {m : MethodId} {args : Array Value} {below : List Frame} {meth : Method} {c : Code} {D : va_G} {cA : Nat → ClassId} {h0 : fSt} {r : ((Int32 ⊕ Nat) × fSt)} (M : fM p s m args meth c D cA h0 { frames := 26, cells := fCB h0 - fZ h0, slots := fLB h0 - fL h0, locals := 640 } cX7_covers 6 (some (.boolean)) RX7) (hfl : l.stackTraces = false) (hno : ∀ x ∈ c.exceptionTable.toList, False) (a0 : Option Nat) (a1 : Int32) (a2 : Int32) (a3 : Int32) (a4 : Int32) (h : fSt) (hf : f_X7_covers_L0 a0 a1 a2 a3 a4 h = some r) : ∀ (H : Heap) (locs : List Loc) (cells slots : Nat) (ls : Array Slot), fCur D cA s h0 h H locs → lv_has ls 6 [(0, va_rf a0), (1, .int a1), (2, .int a2), (3, .int a3), (4, .int a4)] → W p l e { frames := 26, cells := fCB h0 - fZ h0, slots := fLB h0 - fL h0, locals := 640 } s m args below meth c H locs cells slots (vx_MQ below (fQX D cA h0 r.2 (rI r.1)) (fXC D cA h0 r.2 (rI r.1)) args s (fCB h0 - fZ h0) (fLB h0 - fL h0) (fA h0)) (F0 m 0 ls []) := by
  obtain ⟨hx, hb, hml, hr, hlocks, hts, hown, K, hR⟩ := id M
  intro H locs cells slots ls hC hl
  refine fr_aload_n hx hb dX7_covers_0 rfl (lv_at hl 0 rfl) ?_
  refine lv_iload_n hx hb dX7_covers_1 rfl (lv_at hl 1 rfl) ?_
  obtain ⟨b3, q4, hf⟩ := obind hf
  obtain ⟨⟨v5 | k6, h7⟩, g2, hf⟩ := obind hf
  · refine fr_callVX hx hb hml hts hown K hC hR ct_7 (c_X7_found hfl D cA g2) 1 q4 kw583 kw580 kw582 kw12 kw55 (by decide +kernel) ⟨by exact Nat.le_of_ble_eq_true rfl, by exact Nat.le_of_ble_eq_true rfl⟩ rfl hl.1 (cat8 _ (by exact Nat.le_of_ble_eq_true rfl)) dX7_covers_2 rfl (fun H locs _ _ hC => ?_)
    refine fr_astore (lv' := [(5, va_rf v5), (0, va_rf a0), (1, .int a1), (2, .int a2), (3, .int a3), (4, .int a4)]) hx hb dX7_covers_5 hl (by decide) (congrArg (List.cons _) (flk rfl (flk rfl (flk rfl (flk rfl (flk rfl fln)))))) (fun ls hl => ?_)
    refine lv_iload_n hx hb dX7_covers_7 rfl (lv_at hl 3 rfl) ?_
    refine lv_iload_n hx hb dX7_covers_8 rfl (lv_at hl 4 rfl) ?_
    refine lv_iload hx hb dX7_covers_9 (lv_at hl 5 rfl) ?_
    obtain ⟨⟨v10 | k11, h12⟩, g9, hf⟩ := obind hf
    · refine fr_callSX hx hb hml hts hown K hC hR (c_X7_checkSpot hfl D cA g9) 3 kw907 kw905 kw906 kw55 (by decide +kernel) ⟨by exact Nat.le_of_ble_eq_true rfl, by exact Nat.le_of_ble_eq_true rfl⟩ rfl hl.1 (cat8 _ (by exact Nat.le_of_ble_eq_true rfl)) dX7_covers_11 rfl (fun H locs _ _ hC => ?_)
      refine fr_aload_n hx hb dX7_covers_14 rfl (lv_at hl 1 rfl) ?_
      refine fr_aload hx hb dX7_covers_15 (lv_at hl 0 rfl) ?_
      refine lv_iload_n hx hb dX7_covers_17 rfl (lv_at hl 3 rfl) ?_
      refine lv_iload_n hx hb dX7_covers_18 rfl (lv_at hl 4 rfl) ?_
      refine lv_iload hx hb dX7_covers_19 (lv_at hl 5 rfl) ?_
      refine fr_aload_n hx hb dX7_covers_21 rfl (lv_at hl 1 rfl) ?_
      obtain ⟨x13, g14, hf⟩ := obind hf
      refine fr_get hx hb hts hown K hC ct_7 (fgI_get g14) (by decide) kw297 rfl dX7_covers_22 ?_
      obtain ⟨b17, q18, hf⟩ := obind hf
      obtain ⟨r15, g16, hf⟩ := obind hf
      refine fr_callV hx hb hml hts hown K hC hR ct_7 (c_X7_coversAt hfl D cA g16) 5 q18 kw473 kw470 kw472 kw10 kw55 (by decide +kernel) ⟨by exact Nat.le_of_ble_eq_true rfl, by exact Nat.le_of_ble_eq_true rfl⟩ rfl hl.1 (cat8 _ (by exact Nat.le_of_ble_eq_true rfl)) dX7_covers_25 rfl (fun H locs _ _ hC => ?_)
      by_cases c19 : r15.1 = 0 ∨ r15.1 = 1
      rotate_left
      · exact nomatch (oneg c19 hf)
      obtain rfl := Option.some.inj (opos c19 hf)
      exact fr_retQ (fr_zret hx hb hr hlocks hC c19 dX7_covers_28)
    · obtain rfl := Option.some.inj hf
      refine fr_callST hx hb hml hts hown K hC hR (c_X7_checkSpot hfl D cA g9) 3 kw907 kw905 kw906 kw55 (by decide +kernel) ⟨by exact Nat.le_of_ble_eq_true rfl, by exact Nat.le_of_ble_eq_true rfl⟩ rfl hl.1 (cat8 _ (by exact Nat.le_of_ble_eq_true rfl)) dX7_covers_11 rfl (fun H locs _ _ q ce hC e1 e2 e3 => ?_)
      exact fr_out (fun x hx9 => (hno x hx9).elim) hlocks hC e1 e2 e3
  · obtain rfl := Option.some.inj hf
    refine fr_callVT hx hb hml hts hown K hC hR ct_7 (c_X7_found hfl D cA g2) 1 q4 kw583 kw580 kw582 kw12 kw55 (by decide +kernel) ⟨by exact Nat.le_of_ble_eq_true rfl, by exact Nat.le_of_ble_eq_true rfl⟩ rfl hl.1 (cat8 _ (by exact Nat.le_of_ble_eq_true rfl)) dX7_covers_2 rfl (fun H locs _ _ q ce hC e1 e2 e3 => ?_)
    exact fr_out (fun x hx9 => (hno x hx9).elim) hlocks hC e1 e2 e3
set_option maxRecDepth 100000 in
theorem c_X7_covers {l : Launch} (hfl : l.stackTraces = false) (D : va_G) (cA : Nat → ClassId) {o : Nat} {p0 : Int32} {p1 : Int32} {p2 : Int32} {p3 : Int32} {h : fSt} {r : ((Int32 ⊕ Nat) × fSt)} (hf : f_X7_covers o p0 p1 p2 p3 h = some r) : fMetX l yX7_covers (wsC yX7_covers cX7_covers 6 (some (.boolean))) (26) (640) D cA [.ref o, .int p0, .int p1, .int p2, .int p3] h r.2 (rI r.1) := by
  exact fMetX.of (own := RX7) (by decide +kernel) rfl (lva1 rfl (lva1 rfl (lva1 rfl (lva1 rfl (lva1 rfl lva0))))) (lgl1 rfl (lgl1 rfl (lgl1 rfl (lgl1 rfl (lgl1 rfl lgl0))))) (Nat.le_of_ble_eq_true rfl) (fun p e s m args below meth c ls hno M hC hl => by
    have hl : lv_has ls 6 [(0, va_rf (some o)), (1, .int p0), (2, .int p1), (3, .int p2), (4, .int p3)] := hl
    exact w_X7_covers_L0 M hfl hno _ _ _ _ _ _ hf _ _ _ _ _ hC (lv_sub hl [0, 1, 2, 3, 4] rfl))
set_option maxHeartbeats 4000000 in
set_option maxRecDepth 100000 in
theorem w_L_covers_L20 {p : Program} {l : Launch} {e : Env} {s : State} {m : MethodId} {args : Array Value} {below : List Frame} {meth : Method} {c : Code} {D : va_G} {cA : Nat → ClassId} {h0 : fSt} {r : ((Int32 ⊕ Nat) × fSt)} (M : fM p s m args meth c D cA h0 { frames := 27, cells := fCB h0 - fZ h0, slots := fLB h0 - fL h0, locals := 665 } cL_covers 7 (some (.int)) RL) (hfl : l.stackTraces = false) (hno : c.exceptionTable.toList = tableOf [(0, 21, 24, 13), (0, 21, 28, 15)]) (s2 : Int64) (s1 : Int32) (s0 : Option Nat) (h : fSt) (hf : f_L_covers_L20 s2 s1 s0 h = some r) : ∀ (H : Heap) (locs : List Loc) (cells slots : Nat) (ls : Array Slot), fCur D cA s h0 h H locs → lv_has ls 7 [] → W p l e { frames := 27, cells := fCB h0 - fZ h0, slots := fLB h0 - fL h0, locals := 665 } s m args below meth c H locs cells slots (vx_MQ below (fQX D cA h0 r.2 (rI r.1)) (fXC D cA h0 r.2 (rI r.1)) args s (fCB h0 - fZ h0) (fLB h0 - fL h0) (fA h0)) (F0 m 20 ls [.long s2, .int s1, va_rf s0]) := by
  obtain ⟨hx, hb, hml, hr, hlocks, hts, hown, K, hR⟩ := id M
  intro H locs cells slots ls hC hl
  obtain ⟨h1, g2, hf⟩ := obind hf
  refine fr_last hx hb K hC (t := 1) rfl g2 dL_covers_20 (fun H locs hC => ?_)
  refine lv_goto (tgt := 32) hx hb dL_covers_21 (by decide) ?_
  refine lv_iconst (v := (0 : Int32)) hx hb dL_covers_32 (by decide) ?_
  obtain rfl := Option.some.inj hf
  exact fr_retQ (fr_iret hx hb hr hlocks hC dL_covers_33)
set_option maxHeartbeats 4000000 in
set_option maxRecDepth 100000 in
theorem w_L_covers_L0 {p : Program} {l : Launch} {e : Env} {s : State} {m : MethodId} {args : Array Value} {below : List Frame} {meth : Method} {c : Code} {D : va_G} {cA : Nat → ClassId} {h0 : fSt} {r : ((Int32 ⊕ Nat) × fSt)} (M : fM p s m args meth c D cA h0 { frames := 27, cells := fCB h0 - fZ h0, slots := fLB h0 - fL h0, locals := 665 } cL_covers 7 (some (.int)) RL) (hfl : l.stackTraces = false) (hno : c.exceptionTable.toList = tableOf [(0, 21, 24, 13), (0, 21, 28, 15)]) (a0 : Option Nat) (a1 : Int32) (a2 : Int32) (a3 : Int32) (a4 : Int32) (a5 : Option Nat) (h : fSt) (hf : f_L_covers_L0 a0 a1 a2 a3 a4 a5 h = some r) : ∀ (H : Heap) (locs : List Loc) (cells slots : Nat) (ls : Array Slot), fCur D cA s h0 h H locs → lv_has ls 7 [(0, va_rf a0), (1, .int a1), (2, .int a2), (3, .int a3), (4, .int a4), (5, va_rf a5)] → W p l e { frames := 27, cells := fCB h0 - fZ h0, slots := fLB h0 - fL h0, locals := 665 } s m args below meth c H locs cells slots (vx_MQ below (fQX D cA h0 r.2 (rI r.1)) (fXC D cA h0 r.2 (rI r.1)) args s (fCB h0 - fZ h0) (fLB h0 - fL h0) (fA h0)) (F0 m 0 ls []) := by
  obtain ⟨hx, hb, hml, hr, hlocks, hts, hown, K, hR⟩ := id M
  intro H locs cells slots ls hC hl
  refine fr_aload hx hb dL_covers_0 (lv_at hl 5 rfl) ?_
  refine lv_iconst (v := (0 : Int32)) hx hb dL_covers_2 (by decide) ?_
  refine fr_aload_n hx hb dL_covers_3 rfl (lv_at hl 0 rfl) ?_
  refine lv_iload_n hx hb dL_covers_4 rfl (lv_at hl 1 rfl) ?_
  refine lv_iload_n hx hb dL_covers_5 rfl (lv_at hl 2 rfl) ?_
  refine lv_iload_n hx hb dL_covers_6 rfl (lv_at hl 3 rfl) ?_
  refine lv_iload hx hb dL_covers_7 (lv_at hl 4 rfl) ?_
  obtain ⟨b5, q6, hf⟩ := obind hf
  obtain ⟨⟨v7 | k8, h9⟩, g4, hf⟩ := obind hf
  · refine fr_callVX hx hb hml hts hown K hC hR ct_7 (c_X7_covers hfl D cA g4) 4 q6 kw904 kw901 kw902 kw903 kw55 (by decide +kernel) ⟨by exact Nat.le_of_ble_eq_true rfl, by exact Nat.le_of_ble_eq_true rfl⟩ rfl hl.1 (cat8 _ (by exact Nat.le_of_ble_eq_true rfl)) dL_covers_9 rfl (fun H locs _ _ hC => ?_)
    refine lv_if_eq (tgt := 19) hx hb dL_covers_12 (by decide) (fun c10 => ?_) (fun c10 => ?_)
    · replace hf := opos c10 hf
      refine lv_lconst (v := (0 : Int64)) hx hb dL_covers_19 (by decide) ?_
      exact w_L_covers_L20 M hfl hno _ _ _ _ hf _ _ _ _ _ hC (lv_sub hl [] rfl)
    · replace hf := oneg c10 hf
      refine lv_lconst (v := (1 : Int64)) hx hb dL_covers_15 (by decide) ?_
      refine lv_goto (tgt := 20) hx hb dL_covers_16 (by decide) ?_
      exact w_L_covers_L20 M hfl hno _ _ _ _ hf _ _ _ _ _ hC (lv_sub hl [] rfl)
  · refine fr_callVT hx hb hml hts hown K hC hR ct_7 (c_X7_covers hfl D cA g4) 4 q6 kw904 kw901 kw902 kw903 kw55 (by decide +kernel) ⟨by exact Nat.le_of_ble_eq_true rfl, by exact Nat.le_of_ble_eq_true rfl⟩ rfl hl.1 (cat8 _ (by exact Nat.le_of_ble_eq_true rfl)) dL_covers_9 rfl (fun H locs _ _ q ce hC e1 e2 e3 => ?_)
    by_cases c11 : k8 = 0
    · replace hf := opos c11 hf
      subst c11
      refine fr_catch (k9 := 0) (name := "java/lang/IndexOutOfBoundsException") hts K hown [] ⟨0, 21, 24, 13⟩ [⟨0, 21, 28, 15⟩] (by rw [hno]; rfl) (fun z hz => nomatch hz) (by decide) (by decide) kw573 kn586 e1 e2 e3 ?_
      refine fr_astore (lv' := [(6, va_rf (some q)), (0, va_rf a0), (1, .int a1), (2, .int a2), (3, .int a3), (4, .int a4), (5, va_rf a5)]) hx hb dL_covers_24 hl (by decide) (congrArg (List.cons _) (flk rfl (flk rfl (flk rfl (flk rfl (flk rfl (flk (adj1 _ _) fln))))))) (fun ls hl => ?_)
      refine lv_iconst (v := (1 : Int32)) hx hb dL_covers_26 (by decide) ?_
      obtain rfl := Option.some.inj hf
      exact fr_retQ (fr_iret hx hb hr hlocks hC dL_covers_27)
    replace hf := oneg c11 hf
    by_cases c13 : k8 = 1
    · replace hf := opos c13 hf
      subst c13
      refine fr_catch (k9 := 1) (name := "java/lang/IllegalArgumentException") hts K hown [⟨0, 21, 24, 13⟩] ⟨0, 21, 28, 15⟩ [] (by rw [hno]; rfl) (all1 ⟨by decide, _, kw573, by decide +kernel⟩) (by decide) (by decide) kw574 kn495 e1 e2 e3 ?_
      refine fr_astore (lv' := [(6, va_rf (some q)), (0, va_rf a0), (1, .int a1), (2, .int a2), (3, .int a3), (4, .int a4), (5, va_rf a5)]) hx hb dL_covers_28 hl (by decide) (congrArg (List.cons _) (flk rfl (flk rfl (flk rfl (flk rfl (flk rfl (flk (adj1 _ _) fln))))))) (fun ls hl => ?_)
      refine lv_iconst (v := (2 : Int32)) hx hb dL_covers_30 (by decide) ?_
      obtain rfl := Option.some.inj hf
      exact fr_retQ (fr_iret hx hb hr hlocks hC dL_covers_31)
    replace hf := oneg c13 hf
    exact nomatch hf
set_option maxRecDepth 100000 in
theorem c_L_covers {l : Launch} (hfl : l.stackTraces = false) (D : va_G) (cA : Nat → ClassId) {p0 : Option Nat} {p1 : Int32} {p2 : Int32} {p3 : Int32} {p4 : Int32} {p5 : Option Nat} {h : fSt} {r : ((Int32 ⊕ Nat) × fSt)} (hf : f_L_covers p0 p1 p2 p3 p4 p5 h = some r) : fMetX l yL_covers (wsCH yL_covers cL_covers 7 (some (.int)) [(0, 21, 24, 13), (0, 21, 28, 15)]) (27) (665) D cA [va_rf p0, .int p1, .int p2, .int p3, .int p4, va_rf p5] h r.2 (rI r.1) := by
  exact fMetX.ofH (own := RL) (by decide +kernel) rfl (lva1 (va_rf_cat _) (lva1 rfl (lva1 rfl (lva1 rfl (lva1 rfl (lva1 (va_rf_cat _) lva0)))))) (lgl1 (va_rf_cat _) (lgl1 rfl (lgl1 rfl (lgl1 rfl (lgl1 rfl (lgl1 (va_rf_cat _) lgl0)))))) (Nat.le_of_ble_eq_true rfl) (fun p e s m args below meth c ls hno M hC hl => by
    have hl : lv_has ls 7 [(0, va_rf p0), (1, .int p1), (2, .int p2), (3, .int p3), (4, .int p4), (5, va_rf p5)] := hl
    exact w_L_covers_L0 M hfl hno _ _ _ _ _ _ _ hf _ _ _ _ _ hC (lv_sub hl [0, 1, 2, 3, 4, 5] rfl))
set_option maxHeartbeats 4000000 in
set_option maxRecDepth 100000 in
theorem w_X7_foundBelowWhole_L0 {p : Program} {l : Launch} {e : Env} {s : State} {m : MethodId} {args : Array Value} {below : List Frame} {meth : Method} {c : Code} {D : va_G} {cA : Nat → ClassId} {h0 : fSt} {r : ((Option Nat ⊕ Nat) × fSt)} (M : fM p s m args meth c D cA h0 { frames := 7, cells := fCB h0 - fZ h0, slots := fLB h0 - fL h0, locals := 112 } cX7_foundBelowWhole 3 (some (.object "TapestryScene$Node")) RX7) (hfl : l.stackTraces = false) (hno : ∀ x ∈ c.exceptionTable.toList, False) (a0 : Option Nat) (a1 : Int32) (h : fSt) (hf : f_X7_foundBelowWhole_L0 a0 a1 h = some r) : ∀ (H : Heap) (locs : List Loc) (cells slots : Nat) (ls : Array Slot), fCur D cA s h0 h H locs → lv_has ls 3 [(0, va_rf a0), (1, .int a1)] → W p l e { frames := 7, cells := fCB h0 - fZ h0, slots := fLB h0 - fL h0, locals := 112 } s m args below meth c H locs cells slots (vx_MQ below (fQX D cA h0 r.2 (rR r.1)) (fXC D cA h0 r.2 (rR r.1)) args s (fCB h0 - fZ h0) (fLB h0 - fL h0) (fA h0)) (F0 m 0 ls []) := by
  obtain ⟨hx, hb, hml, hr, hlocks, hts, hown, K, hR⟩ := id M
  intro H locs cells slots ls hC hl
  refine fr_aload_n hx hb dX7_foundBelowWhole_0 rfl (lv_at hl 0 rfl) ?_
  refine lv_iload_n hx hb dX7_foundBelowWhole_1 rfl (lv_at hl 1 rfl) ?_
  obtain ⟨b3, q4, hf⟩ := obind hf
  obtain ⟨⟨v5 | k6, h7⟩, g2, hf⟩ := obind hf
  · refine fr_callVX hx hb hml hts hown K hC hR ct_7 (c_X7_found hfl D cA g2) 1 q4 kw583 kw580 kw582 kw12 kw55 (by decide +kernel) ⟨by exact Nat.le_of_ble_eq_true rfl, by exact Nat.le_of_ble_eq_true rfl⟩ rfl hl.1 (cat8 _ (by exact Nat.le_of_ble_eq_true rfl)) dX7_foundBelowWhole_2 rfl (fun H locs _ _ hC => ?_)
    refine fr_astore_n (lv' := [(2, va_rf v5), (0, va_rf a0), (1, .int a1)]) hx hb dX7_foundBelowWhole_5 rfl hl (by decide) (congrArg (List.cons _) (flk rfl (flk rfl fln))) (fun ls hl => ?_)
    refine fr_aload_n hx hb dX7_foundBelowWhole_6 rfl (lv_at hl 0 rfl) ?_
    refine fr_aload_n hx hb dX7_foundBelowWhole_7 rfl (lv_at hl 1 rfl) ?_
    obtain ⟨x8, g9, hf⟩ := obind hf
    refine fr_get hx hb hts hown K hC ct_7 (fgR_get g9) (by decide) kw292 rfl dX7_foundBelowWhole_8 ?_
    refine lv_acmp_ne (tgt := 25) hx hb dX7_foundBelowWhole_11 (by decide) (fun c10 => ?_) (fun c10 => ?_)
    · replace hf := oneg c10 hf
      refine fr_aload_n hx hb dX7_foundBelowWhole_25 rfl (lv_at hl 0 rfl) ?_
      obtain rfl := Option.some.inj hf
      exact fr_retQ (fr_aret hx hb hr (Or.inl ⟨_, rfl⟩) hlocks hC dX7_foundBelowWhole_26)
    · replace hf := opos c10 hf
      obtain ⟨h11, g12, hf⟩ := obind hf
      obtain rfl := Option.some.inj hf
      exact fr_throwSW hx hb hml hts hfl hown K hC hR th_RX7_73_77_2 st_RX7_345 hl.1 dX7_foundBelowWhole_14 dX7_foundBelowWhole_17 dX7_foundBelowWhole_18 dX7_foundBelowWhole_21 dX7_foundBelowWhole_24 hno (by exact Nat.le_of_ble_eq_true rfl) (catL _ _ (by exact Nat.le_of_ble_eq_true rfl) (by exact Nat.le_of_ble_eq_true rfl)) hlocks g12
  · obtain rfl := Option.some.inj hf
    refine fr_callVT hx hb hml hts hown K hC hR ct_7 (c_X7_found hfl D cA g2) 1 q4 kw583 kw580 kw582 kw12 kw55 (by decide +kernel) ⟨by exact Nat.le_of_ble_eq_true rfl, by exact Nat.le_of_ble_eq_true rfl⟩ rfl hl.1 (cat8 _ (by exact Nat.le_of_ble_eq_true rfl)) dX7_foundBelowWhole_2 rfl (fun H locs _ _ q ce hC e1 e2 e3 => ?_)
    exact fr_out (fun x hx9 => (hno x hx9).elim) hlocks hC e1 e2 e3
set_option maxRecDepth 100000 in
theorem c_X7_foundBelowWhole {l : Launch} (hfl : l.stackTraces = false) (D : va_G) (cA : Nat → ClassId) {o : Nat} {p0 : Int32} {h : fSt} {r : ((Option Nat ⊕ Nat) × fSt)} (hf : f_X7_foundBelowWhole o p0 h = some r) : fMetX l yX7_foundBelowWhole (wsC yX7_foundBelowWhole cX7_foundBelowWhole 3 (some (.object "TapestryScene$Node"))) (7) (112) D cA [.ref o, .int p0] h r.2 (rR r.1) := by
  exact fMetX.of (own := RX7) (by decide +kernel) rfl (lva1 rfl (lva1 rfl lva0)) (lgl1 rfl (lgl1 rfl lgl0)) (Nat.le_of_ble_eq_true rfl) (fun p e s m args below meth c ls hno M hC hl => by
    have hl : lv_has ls 3 [(0, va_rf (some o)), (1, .int p0)] := hl
    exact w_X7_foundBelowWhole_L0 M hfl hno _ _ _ hf _ _ _ _ _ hC (lv_sub hl [0, 1] rfl))
set_option maxHeartbeats 4000000 in
set_option maxRecDepth 100000 in
theorem w_X7_cut_L28 {p : Program} {l : Launch} {e : Env} {s : State} {m : MethodId} {args : Array Value} {below : List Frame} {meth : Method} {c : Code} {D : va_G} {cA : Nat → ClassId} {h0 : fSt} {r : ((Int32 ⊕ Nat) × fSt)} (M : fM p s m args meth c D cA h0 { frames := 8, cells := fCB h0 - fZ h0, slots := fLB h0 - fL h0, locals := 134 } cX7_cut 8 (some (.boolean)) RX7) (hfl : l.stackTraces = false) (hno : ∀ x ∈ c.exceptionTable.toList, False)  (h : fSt) (hf : f_X7_cut_L28  h = some r) : ∀ (H : Heap) (locs : List Loc) (cells slots : Nat) (ls : Array Slot), fCur D cA s h0 h H locs → lv_has ls 8 [] → W p l e { frames := 8, cells := fCB h0 - fZ h0, slots := fLB h0 - fL h0, locals := 134 } s m args below meth c H locs cells slots (vx_MQ below (fQX D cA h0 r.2 (rI r.1)) (fXC D cA h0 r.2 (rI r.1)) args s (fCB h0 - fZ h0) (fLB h0 - fL h0) (fA h0)) (F0 m 28 ls []) := by
  obtain ⟨hx, hb, hml, hr, hlocks, hts, hown, K, hR⟩ := id M
  intro H locs cells slots ls hC hl
  obtain ⟨h1, g2, hf⟩ := obind hf
  obtain rfl := Option.some.inj hf
  exact fr_throwS hx hb hml hts hfl hown K hC hR th_RX7_60_64_1 st_RX7_159 hl.1 dX7_cut_28 dX7_cut_31 dX7_cut_32 dX7_cut_34 dX7_cut_37 hno (by exact Nat.le_of_ble_eq_true rfl) (catL _ _ (by exact Nat.le_of_ble_eq_true rfl) (by exact Nat.le_of_ble_eq_true rfl)) hlocks g2
set_option maxHeartbeats 4000000 in
set_option maxRecDepth 100000 in
theorem w_X7_cut_L59 {p : Program} {l : Launch} {e : Env} {s : State} {m : MethodId} {args : Array Value} {below : List Frame} {meth : Method} {c : Code} {D : va_G} {cA : Nat → ClassId} {h0 : fSt} {r : ((Int32 ⊕ Nat) × fSt)} (M : fM p s m args meth c D cA h0 { frames := 8, cells := fCB h0 - fZ h0, slots := fLB h0 - fL h0, locals := 134 } cX7_cut 8 (some (.boolean)) RX7) (hfl : l.stackTraces = false) (hno : ∀ x ∈ c.exceptionTable.toList, False)  (h : fSt) (hf : f_X7_cut_L59  h = some r) : ∀ (H : Heap) (locs : List Loc) (cells slots : Nat) (ls : Array Slot), fCur D cA s h0 h H locs → lv_has ls 8 [] → W p l e { frames := 8, cells := fCB h0 - fZ h0, slots := fLB h0 - fL h0, locals := 134 } s m args below meth c H locs cells slots (vx_MQ below (fQX D cA h0 r.2 (rI r.1)) (fXC D cA h0 r.2 (rI r.1)) args s (fCB h0 - fZ h0) (fLB h0 - fL h0) (fA h0)) (F0 m 59 ls []) := by
  obtain ⟨hx, hb, hml, hr, hlocks, hts, hown, K, hR⟩ := id M
  intro H locs cells slots ls hC hl
  obtain ⟨h3, g4, hf⟩ := obind hf
  obtain rfl := Option.some.inj hf
  exact fr_throwS hx hb hml hts hfl hown K hC hR th_RX7_60_64_1 st_RX7_161 hl.1 dX7_cut_59 dX7_cut_62 dX7_cut_63 dX7_cut_65 dX7_cut_68 hno (by exact Nat.le_of_ble_eq_true rfl) (catL _ _ (by exact Nat.le_of_ble_eq_true rfl) (by exact Nat.le_of_ble_eq_true rfl)) hlocks g4
set_option maxHeartbeats 4000000 in
set_option maxRecDepth 100000 in
theorem w_X7_cut_L82 {p : Program} {l : Launch} {e : Env} {s : State} {m : MethodId} {args : Array Value} {below : List Frame} {meth : Method} {c : Code} {D : va_G} {cA : Nat → ClassId} {h0 : fSt} {r : ((Int32 ⊕ Nat) × fSt)} (M : fM p s m args meth c D cA h0 { frames := 8, cells := fCB h0 - fZ h0, slots := fLB h0 - fL h0, locals := 134 } cX7_cut 8 (some (.boolean)) RX7) (hfl : l.stackTraces = false) (hno : ∀ x ∈ c.exceptionTable.toList, False) (a2 : Int32) (a3 : Int32) (a4 : Int32) (a5 : Int32) (a6 : Option Nat) (s0 : Int32) (h : fSt) (hf : f_X7_cut_L82 a2 a3 a4 a5 a6 s0 h = some r) : ∀ (H : Heap) (locs : List Loc) (cells slots : Nat) (ls : Array Slot), fCur D cA s h0 h H locs → lv_has ls 8 [(2, .int a2), (3, .int a3), (4, .int a4), (5, .int a5), (6, va_rf a6)] → W p l e { frames := 8, cells := fCB h0 - fZ h0, slots := fLB h0 - fL h0, locals := 134 } s m args below meth c H locs cells slots (vx_MQ below (fQX D cA h0 r.2 (rI r.1)) (fXC D cA h0 r.2 (rI r.1)) args s (fCB h0 - fZ h0) (fLB h0 - fL h0) (fA h0)) (F0 m 82 ls [.int s0]) := by
  obtain ⟨hx, hb, hml, hr, hlocks, hts, hown, K, hR⟩ := id M
  intro H locs cells slots ls hC hl
  refine lv_istore (lv' := [(7, .int s0), (2, .int a2), (3, .int a3), (4, .int a4), (5, .int a5), (6, va_rf a6)]) hx hb dX7_cut_82 hl (by decide) (congrArg (List.cons _) (flk rfl (flk rfl (flk rfl (flk rfl (flk (adj1 _ _) fln)))))) (fun ls hl => ?_)
  refine fr_aload hx hb dX7_cut_84 (lv_at hl 5 rfl) ?_
  obtain ⟨r5, g6, hf⟩ := obind hf
  refine fr_new hx hb hts hown K hC ct_2 hR g6 dv_2 kw724 kw129 kw58 dX7_cut_86 (fun H _ _ hC => ?_)
  refine lv_dup hx hb dX7_cut_89 (va_rf_cat _) ?_
  refine lv_iload_n hx hb dX7_cut_90 rfl (lv_at hl 1 rfl) ?_
  refine lv_iload_n hx hb dX7_cut_91 rfl (lv_at hl 2 rfl) ?_
  refine lv_iload hx hb dX7_cut_92 (lv_at hl 3 rfl) ?_
  refine lv_iload hx hb dX7_cut_94 (lv_at hl 4 rfl) ?_
  obtain ⟨r7, g8, hf⟩ := obind hf
  refine fr_callI hx hb hml hts hown K hC hR (c_X2_init hfl D cA g8) 4 kw132 kw725 kw131 kw58 rfl (by decide +kernel) ⟨by exact Nat.le_of_ble_eq_true rfl, by exact Nat.le_of_ble_eq_true rfl⟩ rfl hl.1 (cat8 _ (by exact Nat.le_of_ble_eq_true rfl)) dX7_cut_96 rfl (fun H locs _ _ hC => ?_)
  obtain ⟨h9, g10, hf⟩ := obind hf
  refine fr_put hx hb hts hown K hC ct_4 g10 (by decide) kw180 rfl rfl (nR _ _) (fR _ _) dX7_cut_99 (fun H locs hC => ?_)
  refine lv_iload hx hb dX7_cut_102 (lv_at hl 0 rfl) ?_
  by_cases c11 : s0 = 0 ∨ s0 = 1
  rotate_left
  · exact nomatch (oneg c11 hf)
  obtain rfl := Option.some.inj (opos c11 hf)
  exact fr_retQ (fr_zret hx hb hr hlocks hC c11 dX7_cut_104)
set_option maxHeartbeats 4000000 in
set_option maxRecDepth 100000 in
theorem w_X7_cut_L0 {p : Program} {l : Launch} {e : Env} {s : State} {m : MethodId} {args : Array Value} {below : List Frame} {meth : Method} {c : Code} {D : va_G} {cA : Nat → ClassId} {h0 : fSt} {r : ((Int32 ⊕ Nat) × fSt)} (M : fM p s m args meth c D cA h0 { frames := 8, cells := fCB h0 - fZ h0, slots := fLB h0 - fL h0, locals := 134 } cX7_cut 8 (some (.boolean)) RX7) (hfl : l.stackTraces = false) (hno : ∀ x ∈ c.exceptionTable.toList, False) (a0 : Option Nat) (a1 : Int32) (a2 : Int32) (a3 : Int32) (a4 : Int32) (a5 : Int32) (h : fSt) (hf : f_X7_cut_L0 a0 a1 a2 a3 a4 a5 h = some r) : ∀ (H : Heap) (locs : List Loc) (cells slots : Nat) (ls : Array Slot), fCur D cA s h0 h H locs → lv_has ls 8 [(0, va_rf a0), (1, .int a1), (2, .int a2), (3, .int a3), (4, .int a4), (5, .int a5)] → W p l e { frames := 8, cells := fCB h0 - fZ h0, slots := fLB h0 - fL h0, locals := 134 } s m args below meth c H locs cells slots (vx_MQ below (fQX D cA h0 r.2 (rI r.1)) (fXC D cA h0 r.2 (rI r.1)) args s (fCB h0 - fZ h0) (fLB h0 - fL h0) (fA h0)) (F0 m 0 ls []) := by
  obtain ⟨hx, hb, hml, hr, hlocks, hts, hown, K, hR⟩ := id M
  intro H locs cells slots ls hC hl
  refine fr_aload_n hx hb dX7_cut_0 rfl (lv_at hl 0 rfl) ?_
  refine lv_iload_n hx hb dX7_cut_1 rfl (lv_at hl 1 rfl) ?_
  obtain ⟨b14, q15, hf⟩ := obind hf
  obtain ⟨⟨v16 | k17, h18⟩, g13, hf⟩ := obind hf
  · refine fr_callVX hx hb hml hts hown K hC hR ct_7 (c_X7_foundBelowWhole hfl D cA g13) 1 q15 kw644 kw641 kw643 kw16 kw55 (by decide +kernel) ⟨by exact Nat.le_of_ble_eq_true rfl, by exact Nat.le_of_ble_eq_true rfl⟩ rfl hl.1 (cat8 _ (by exact Nat.le_of_ble_eq_true rfl)) dX7_cut_2 rfl (fun H locs _ _ hC => ?_)
    refine fr_astore (lv' := [(6, va_rf v16), (0, va_rf a0), (1, .int a1), (2, .int a2), (3, .int a3), (4, .int a4), (5, .int a5)]) hx hb dX7_cut_5 hl (by decide) (congrArg (List.cons _) (flk rfl (flk rfl (flk rfl (flk rfl (flk rfl (flk rfl fln))))))) (fun ls hl => ?_)
    refine lv_iload_n hx hb dX7_cut_7 rfl (lv_at hl 3 rfl) ?_
    refine lv_sipush (v := (-200 : Int32)) hx hb dX7_cut_8 (by decide) ?_
    refine lv_icmp_lt (tgt := 28) hx hb dX7_cut_11 (by decide) (fun c19 => ?_) (fun c19 => ?_)
    · replace hf := opos c19 hf
      exact w_X7_cut_L28 M hfl hno _ hf _ _ _ _ _ hC (lv_sub hl [] rfl)
    · replace hf := oneg c19 hf
      refine lv_iload hx hb dX7_cut_14 (lv_at hl 5 rfl) ?_
      refine lv_sipush (v := (200 : Int32)) hx hb dX7_cut_16 (by decide) ?_
      refine lv_icmp_gt (tgt := 28) hx hb dX7_cut_19 (by decide) (fun c20 => ?_) (fun c20 => ?_)
      · replace hf := opos c20 hf
        exact w_X7_cut_L28 M hfl hno _ hf _ _ _ _ _ hC (lv_sub hl [] rfl)
      · replace hf := oneg c20 hf
        refine lv_iload_n hx hb dX7_cut_22 rfl (lv_at hl 3 rfl) ?_
        refine lv_iload hx hb dX7_cut_23 (lv_at hl 5 rfl) ?_
        refine lv_icmp_le (tgt := 38) hx hb dX7_cut_25 (by decide) (fun c21 => ?_) (fun c21 => ?_)
        · replace hf := opos c21 hf
          refine lv_iload_n hx hb dX7_cut_38 rfl (lv_at hl 4 rfl) ?_
          refine lv_sipush (v := (-200 : Int32)) hx hb dX7_cut_39 (by decide) ?_
          refine lv_icmp_lt (tgt := 59) hx hb dX7_cut_42 (by decide) (fun c22 => ?_) (fun c22 => ?_)
          · replace hf := opos c22 hf
            exact w_X7_cut_L59 M hfl hno _ hf _ _ _ _ _ hC (lv_sub hl [] rfl)
          · replace hf := oneg c22 hf
            refine lv_iload hx hb dX7_cut_45 (lv_at hl 6 rfl) ?_
            refine lv_sipush (v := (200 : Int32)) hx hb dX7_cut_47 (by decide) ?_
            refine lv_icmp_gt (tgt := 59) hx hb dX7_cut_50 (by decide) (fun c23 => ?_) (fun c23 => ?_)
            · replace hf := opos c23 hf
              exact w_X7_cut_L59 M hfl hno _ hf _ _ _ _ _ hC (lv_sub hl [] rfl)
            · replace hf := oneg c23 hf
              refine lv_iload_n hx hb dX7_cut_53 rfl (lv_at hl 4 rfl) ?_
              refine lv_iload hx hb dX7_cut_54 (lv_at hl 6 rfl) ?_
              refine lv_icmp_le (tgt := 69) hx hb dX7_cut_56 (by decide) (fun c24 => ?_) (fun c24 => ?_)
              · replace hf := opos c24 hf
                refine fr_aload hx hb dX7_cut_69 (lv_at hl 0 rfl) ?_
                obtain ⟨x25, g26, hf⟩ := obind hf
                refine fr_get hx hb hts hown K hC ct_4 (fgR_get g26) (by decide) kw180 rfl dX7_cut_71 ?_
                refine fr_ifnull (tgt := 81) hx hb dX7_cut_74 (by decide) (fun c27 => ?_) (fun c27 => ?_)
                · replace hf := opos c27 hf
                  refine lv_iconst (v := (0 : Int32)) hx hb dX7_cut_81 (by decide) ?_
                  exact w_X7_cut_L82 M hfl hno _ _ _ _ _ _ _ hf _ _ _ _ _ hC (lv_sub hl [3, 4, 5, 6, 0] rfl)
                · replace hf := oneg c27 hf
                  refine lv_iconst (v := (1 : Int32)) hx hb dX7_cut_77 (by decide) ?_
                  refine lv_goto (tgt := 82) hx hb dX7_cut_78 (by decide) ?_
                  exact w_X7_cut_L82 M hfl hno _ _ _ _ _ _ _ hf _ _ _ _ _ hC (lv_sub hl [3, 4, 5, 6, 0] rfl)
              · replace hf := oneg c24 hf
                exact w_X7_cut_L59 M hfl hno _ hf _ _ _ _ _ hC (lv_sub hl [] rfl)
        · replace hf := oneg c21 hf
          exact w_X7_cut_L28 M hfl hno _ hf _ _ _ _ _ hC (lv_sub hl [] rfl)
  · obtain rfl := Option.some.inj hf
    refine fr_callVT hx hb hml hts hown K hC hR ct_7 (c_X7_foundBelowWhole hfl D cA g13) 1 q15 kw644 kw641 kw643 kw16 kw55 (by decide +kernel) ⟨by exact Nat.le_of_ble_eq_true rfl, by exact Nat.le_of_ble_eq_true rfl⟩ rfl hl.1 (cat8 _ (by exact Nat.le_of_ble_eq_true rfl)) dX7_cut_2 rfl (fun H locs _ _ q ce hC e1 e2 e3 => ?_)
    exact fr_out (fun x hx9 => (hno x hx9).elim) hlocks hC e1 e2 e3
set_option maxRecDepth 100000 in
theorem c_X7_cut {l : Launch} (hfl : l.stackTraces = false) (D : va_G) (cA : Nat → ClassId) {o : Nat} {p0 : Int32} {p1 : Int32} {p2 : Int32} {p3 : Int32} {p4 : Int32} {h : fSt} {r : ((Int32 ⊕ Nat) × fSt)} (hf : f_X7_cut o p0 p1 p2 p3 p4 h = some r) : fMetX l yX7_cut (wsC yX7_cut cX7_cut 8 (some (.boolean))) (8) (134) D cA [.ref o, .int p0, .int p1, .int p2, .int p3, .int p4] h r.2 (rI r.1) := by
  exact fMetX.of (own := RX7) (by decide +kernel) rfl (lva1 rfl (lva1 rfl (lva1 rfl (lva1 rfl (lva1 rfl (lva1 rfl lva0)))))) (lgl1 rfl (lgl1 rfl (lgl1 rfl (lgl1 rfl (lgl1 rfl (lgl1 rfl lgl0)))))) (Nat.le_of_ble_eq_true rfl) (fun p e s m args below meth c ls hno M hC hl => by
    have hl : lv_has ls 8 [(0, va_rf (some o)), (1, .int p0), (2, .int p1), (3, .int p2), (4, .int p3), (5, .int p4)] := hl
    exact w_X7_cut_L0 M hfl hno _ _ _ _ _ _ _ hf _ _ _ _ _ hC (lv_sub hl [0, 1, 2, 3, 4, 5] rfl))
set_option maxHeartbeats 4000000 in
set_option maxRecDepth 100000 in
theorem w_L_cut_L22 {p : Program} {l : Launch} {e : Env} {s : State} {m : MethodId} {args : Array Value} {below : List Frame} {meth : Method} {c : Code} {D : va_G} {cA : Nat → ClassId} {h0 : fSt} {r : ((Int32 ⊕ Nat) × fSt)} (M : fM p s m args meth c D cA h0 { frames := 9, cells := fCB h0 - fZ h0, slots := fLB h0 - fL h0, locals := 161 } cL_cut 8 (some (.int)) RL) (hfl : l.stackTraces = false) (hno : c.exceptionTable.toList = tableOf [(0, 23, 26, 13), (0, 23, 30, 17), (0, 23, 34, 15)]) (s2 : Int64) (s1 : Int32) (s0 : Option Nat) (h : fSt) (hf : f_L_cut_L22 s2 s1 s0 h = some r) : ∀ (H : Heap) (locs : List Loc) (cells slots : Nat) (ls : Array Slot), fCur D cA s h0 h H locs → lv_has ls 8 [] → W p l e { frames := 9, cells := fCB h0 - fZ h0, slots := fLB h0 - fL h0, locals := 161 } s m args below meth c H locs cells slots (vx_MQ below (fQX D cA h0 r.2 (rI r.1)) (fXC D cA h0 r.2 (rI r.1)) args s (fCB h0 - fZ h0) (fLB h0 - fL h0) (fA h0)) (F0 m 22 ls [.long s2, .int s1, va_rf s0]) := by
  obtain ⟨hx, hb, hml, hr, hlocks, hts, hown, K, hR⟩ := id M
  intro H locs cells slots ls hC hl
  obtain ⟨h1, g2, hf⟩ := obind hf
  refine fr_last hx hb K hC (t := 1) rfl g2 dL_cut_22 (fun H locs hC => ?_)
  refine lv_goto (tgt := 38) hx hb dL_cut_23 (by decide) ?_
  refine lv_iconst (v := (0 : Int32)) hx hb dL_cut_38 (by decide) ?_
  obtain rfl := Option.some.inj hf
  exact fr_retQ (fr_iret hx hb hr hlocks hC dL_cut_39)
set_option maxHeartbeats 4000000 in
set_option maxRecDepth 100000 in
theorem w_L_cut_L0 {p : Program} {l : Launch} {e : Env} {s : State} {m : MethodId} {args : Array Value} {below : List Frame} {meth : Method} {c : Code} {D : va_G} {cA : Nat → ClassId} {h0 : fSt} {r : ((Int32 ⊕ Nat) × fSt)} (M : fM p s m args meth c D cA h0 { frames := 9, cells := fCB h0 - fZ h0, slots := fLB h0 - fL h0, locals := 161 } cL_cut 8 (some (.int)) RL) (hfl : l.stackTraces = false) (hno : c.exceptionTable.toList = tableOf [(0, 23, 26, 13), (0, 23, 30, 17), (0, 23, 34, 15)]) (a0 : Option Nat) (a1 : Int32) (a2 : Int32) (a3 : Int32) (a4 : Int32) (a5 : Int32) (a6 : Option Nat) (h : fSt) (hf : f_L_cut_L0 a0 a1 a2 a3 a4 a5 a6 h = some r) : ∀ (H : Heap) (locs : List Loc) (cells slots : Nat) (ls : Array Slot), fCur D cA s h0 h H locs → lv_has ls 8 [(0, va_rf a0), (1, .int a1), (2, .int a2), (3, .int a3), (4, .int a4), (5, .int a5), (6, va_rf a6)] → W p l e { frames := 9, cells := fCB h0 - fZ h0, slots := fLB h0 - fL h0, locals := 161 } s m args below meth c H locs cells slots (vx_MQ below (fQX D cA h0 r.2 (rI r.1)) (fXC D cA h0 r.2 (rI r.1)) args s (fCB h0 - fZ h0) (fLB h0 - fL h0) (fA h0)) (F0 m 0 ls []) := by
  obtain ⟨hx, hb, hml, hr, hlocks, hts, hown, K, hR⟩ := id M
  intro H locs cells slots ls hC hl
  refine fr_aload hx hb dL_cut_0 (lv_at hl 6 rfl) ?_
  refine lv_iconst (v := (0 : Int32)) hx hb dL_cut_2 (by decide) ?_
  refine fr_aload_n hx hb dL_cut_3 rfl (lv_at hl 0 rfl) ?_
  refine lv_iload_n hx hb dL_cut_4 rfl (lv_at hl 1 rfl) ?_
  refine lv_iload_n hx hb dL_cut_5 rfl (lv_at hl 2 rfl) ?_
  refine lv_iload_n hx hb dL_cut_6 rfl (lv_at hl 3 rfl) ?_
  refine lv_iload hx hb dL_cut_7 (lv_at hl 4 rfl) ?_
  refine lv_iload hx hb dL_cut_9 (lv_at hl 5 rfl) ?_
  obtain ⟨b5, q6, hf⟩ := obind hf
  obtain ⟨⟨v7 | k8, h9⟩, g4, hf⟩ := obind hf
  · refine fr_callVX hx hb hml hts hown K hC hR ct_7 (c_X7_cut hfl D cA g4) 5 q6 kw721 kw718 kw719 kw720 kw55 (by decide +kernel) ⟨by exact Nat.le_of_ble_eq_true rfl, by exact Nat.le_of_ble_eq_true rfl⟩ rfl hl.1 (cat8 _ (by exact Nat.le_of_ble_eq_true rfl)) dL_cut_11 rfl (fun H locs _ _ hC => ?_)
    refine lv_if_eq (tgt := 21) hx hb dL_cut_14 (by decide) (fun c10 => ?_) (fun c10 => ?_)
    · replace hf := opos c10 hf
      refine lv_lconst (v := (0 : Int64)) hx hb dL_cut_21 (by decide) ?_
      exact w_L_cut_L22 M hfl hno _ _ _ _ hf _ _ _ _ _ hC (lv_sub hl [] rfl)
    · replace hf := oneg c10 hf
      refine lv_lconst (v := (1 : Int64)) hx hb dL_cut_17 (by decide) ?_
      refine lv_goto (tgt := 22) hx hb dL_cut_18 (by decide) ?_
      exact w_L_cut_L22 M hfl hno _ _ _ _ hf _ _ _ _ _ hC (lv_sub hl [] rfl)
  · refine fr_callVT hx hb hml hts hown K hC hR ct_7 (c_X7_cut hfl D cA g4) 5 q6 kw721 kw718 kw719 kw720 kw55 (by decide +kernel) ⟨by exact Nat.le_of_ble_eq_true rfl, by exact Nat.le_of_ble_eq_true rfl⟩ rfl hl.1 (cat8 _ (by exact Nat.le_of_ble_eq_true rfl)) dL_cut_11 rfl (fun H locs _ _ q ce hC e1 e2 e3 => ?_)
    by_cases c11 : k8 = 0
    · replace hf := opos c11 hf
      subst c11
      refine fr_catch (k9 := 0) (name := "java/lang/IndexOutOfBoundsException") hts K hown [] ⟨0, 23, 26, 13⟩ [⟨0, 23, 30, 17⟩, ⟨0, 23, 34, 15⟩] (by rw [hno]; rfl) (fun z hz => nomatch hz) (by decide) (by decide) kw573 kn586 e1 e2 e3 ?_
      refine fr_astore (lv' := [(7, va_rf (some q)), (0, va_rf a0), (1, .int a1), (2, .int a2), (3, .int a3), (4, .int a4), (5, .int a5), (6, va_rf a6)]) hx hb dL_cut_26 hl (by decide) (congrArg (List.cons _) (flk rfl (flk rfl (flk rfl (flk rfl (flk rfl (flk rfl (flk (adj1 _ _) fln)))))))) (fun ls hl => ?_)
      refine lv_iconst (v := (1 : Int32)) hx hb dL_cut_28 (by decide) ?_
      obtain rfl := Option.some.inj hf
      exact fr_retQ (fr_iret hx hb hr hlocks hC dL_cut_29)
    replace hf := oneg c11 hf
    by_cases c13 : k8 = 2
    · replace hf := opos c13 hf
      subst c13
      refine fr_catch (k9 := 2) (name := "java/lang/IllegalStateException") hts K hown [⟨0, 23, 26, 13⟩] ⟨0, 23, 30, 17⟩ [⟨0, 23, 34, 15⟩] (by rw [hno]; rfl) (all1 ⟨by decide, _, kw573, by decide +kernel⟩) (by decide) (by decide) kw575 kn604 e1 e2 e3 ?_
      refine fr_astore (lv' := [(7, va_rf (some q)), (0, va_rf a0), (1, .int a1), (2, .int a2), (3, .int a3), (4, .int a4), (5, .int a5), (6, va_rf a6)]) hx hb dL_cut_30 hl (by decide) (congrArg (List.cons _) (flk rfl (flk rfl (flk rfl (flk rfl (flk rfl (flk rfl (flk (adj1 _ _) fln)))))))) (fun ls hl => ?_)
      refine lv_iconst (v := (2 : Int32)) hx hb dL_cut_32 (by decide) ?_
      obtain rfl := Option.some.inj hf
      exact fr_retQ (fr_iret hx hb hr hlocks hC dL_cut_33)
    replace hf := oneg c13 hf
    by_cases c15 : k8 = 1
    · replace hf := opos c15 hf
      subst c15
      refine fr_catch (k9 := 1) (name := "java/lang/IllegalArgumentException") hts K hown [⟨0, 23, 26, 13⟩, ⟨0, 23, 30, 17⟩] ⟨0, 23, 34, 15⟩ [] (by rw [hno]; rfl) (all2 ⟨by decide, _, kw573, by decide +kernel⟩ ⟨by decide, _, kw575, by decide +kernel⟩) (by decide) (by decide) kw574 kn495 e1 e2 e3 ?_
      refine fr_astore (lv' := [(7, va_rf (some q)), (0, va_rf a0), (1, .int a1), (2, .int a2), (3, .int a3), (4, .int a4), (5, .int a5), (6, va_rf a6)]) hx hb dL_cut_34 hl (by decide) (congrArg (List.cons _) (flk rfl (flk rfl (flk rfl (flk rfl (flk rfl (flk rfl (flk (adj1 _ _) fln)))))))) (fun ls hl => ?_)
      refine lv_iconst (v := (3 : Int32)) hx hb dL_cut_36 (by decide) ?_
      obtain rfl := Option.some.inj hf
      exact fr_retQ (fr_iret hx hb hr hlocks hC dL_cut_37)
    replace hf := oneg c15 hf
    exact nomatch hf
set_option maxRecDepth 100000 in
theorem c_L_cut {l : Launch} (hfl : l.stackTraces = false) (D : va_G) (cA : Nat → ClassId) {p0 : Option Nat} {p1 : Int32} {p2 : Int32} {p3 : Int32} {p4 : Int32} {p5 : Int32} {p6 : Option Nat} {h : fSt} {r : ((Int32 ⊕ Nat) × fSt)} (hf : f_L_cut p0 p1 p2 p3 p4 p5 p6 h = some r) : fMetX l yL_cut (wsCH yL_cut cL_cut 8 (some (.int)) [(0, 23, 26, 13), (0, 23, 30, 17), (0, 23, 34, 15)]) (9) (161) D cA [va_rf p0, .int p1, .int p2, .int p3, .int p4, .int p5, va_rf p6] h r.2 (rI r.1) := by
  exact fMetX.ofH (own := RL) (by decide +kernel) rfl (lva1 (va_rf_cat _) (lva1 rfl (lva1 rfl (lva1 rfl (lva1 rfl (lva1 rfl (lva1 (va_rf_cat _) lva0))))))) (lgl1 (va_rf_cat _) (lgl1 rfl (lgl1 rfl (lgl1 rfl (lgl1 rfl (lgl1 rfl (lgl1 (va_rf_cat _) lgl0))))))) (Nat.le_of_ble_eq_true rfl) (fun p e s m args below meth c ls hno M hC hl => by
    have hl : lv_has ls 8 [(0, va_rf p0), (1, .int p1), (2, .int p2), (3, .int p3), (4, .int p4), (5, .int p5), (6, va_rf p6)] := hl
    exact w_L_cut_L0 M hfl hno _ _ _ _ _ _ _ _ hf _ _ _ _ _ hC (lv_sub hl [0, 1, 2, 3, 4, 5, 6] rfl))
set_option maxHeartbeats 4000000 in
set_option maxRecDepth 100000 in
theorem w_X7_fromWhole_L0 {p : Program} {l : Launch} {e : Env} {s : State} {m : MethodId} {args : Array Value} {below : List Frame} {meth : Method} {c : Code} {D : va_G} {cA : Nat → ClassId} {h0 : fSt} {r : ((Int32 ⊕ Nat) × fSt)} (M : fM p s m args meth c D cA h0 { frames := 25, cells := fCB h0 - fZ h0, slots := fLB h0 - fL h0, locals := 615 } cX7_fromWhole 6 (some (.int)) RX7) (hfl : l.stackTraces = false) (hno : ∀ x ∈ c.exceptionTable.toList, False) (a0 : Option Nat) (a1 : Int32) (a2 : Int32) (a3 : Int32) (a4 : Int32) (h : fSt) (hf : f_X7_fromWhole_L0 a0 a1 a2 a3 a4 h = some r) : ∀ (H : Heap) (locs : List Loc) (cells slots : Nat) (ls : Array Slot), fCur D cA s h0 h H locs → lv_has ls 6 [(0, va_rf a0), (1, .int a1), (2, .int a2), (3, .int a3), (4, .int a4)] → W p l e { frames := 25, cells := fCB h0 - fZ h0, slots := fLB h0 - fL h0, locals := 615 } s m args below meth c H locs cells slots (vx_MQ below (fQX D cA h0 r.2 (rI r.1)) (fXC D cA h0 r.2 (rI r.1)) args s (fCB h0 - fZ h0) (fLB h0 - fL h0) (fA h0)) (F0 m 0 ls []) := by
  obtain ⟨hx, hb, hml, hr, hlocks, hts, hown, K, hR⟩ := id M
  intro H locs cells slots ls hC hl
  refine fr_aload_n hx hb dX7_fromWhole_0 rfl (lv_at hl 0 rfl) ?_
  refine lv_iload_n hx hb dX7_fromWhole_1 rfl (lv_at hl 1 rfl) ?_
  obtain ⟨b3, q4, hf⟩ := obind hf
  obtain ⟨⟨v5 | k6, h7⟩, g2, hf⟩ := obind hf
  · refine fr_callVX hx hb hml hts hown K hC hR ct_7 (c_X7_found hfl D cA g2) 1 q4 kw583 kw580 kw582 kw12 kw55 (by decide +kernel) ⟨by exact Nat.le_of_ble_eq_true rfl, by exact Nat.le_of_ble_eq_true rfl⟩ rfl hl.1 (cat8 _ (by exact Nat.le_of_ble_eq_true rfl)) dX7_fromWhole_2 rfl (fun H locs _ _ hC => ?_)
    refine fr_astore (lv' := [(5, va_rf v5), (0, va_rf a0), (1, .int a1), (2, .int a2), (3, .int a3), (4, .int a4)]) hx hb dX7_fromWhole_5 hl (by decide) (congrArg (List.cons _) (flk rfl (flk rfl (flk rfl (flk rfl (flk rfl fln)))))) (fun ls hl => ?_)
    refine lv_iload_n hx hb dX7_fromWhole_7 rfl (lv_at hl 3 rfl) ?_
    refine lv_iload_n hx hb dX7_fromWhole_8 rfl (lv_at hl 4 rfl) ?_
    refine lv_iload hx hb dX7_fromWhole_9 (lv_at hl 5 rfl) ?_
    obtain ⟨⟨v10 | k11, h12⟩, g9, hf⟩ := obind hf
    · refine fr_callSX hx hb hml hts hown K hC hR (c_X7_checkPoint hfl D cA g9) 3 kw844 kw842 kw843 kw55 (by decide +kernel) ⟨by exact Nat.le_of_ble_eq_true rfl, by exact Nat.le_of_ble_eq_true rfl⟩ rfl hl.1 (cat8 _ (by exact Nat.le_of_ble_eq_true rfl)) dX7_fromWhole_11 rfl (fun H locs _ _ hC => ?_)
      refine fr_aload_n hx hb dX7_fromWhole_14 rfl (lv_at hl 1 rfl) ?_
      obtain ⟨x13, g14, hf⟩ := obind hf
      refine fr_get hx hb hts hown K hC ct_7 (fgR_get g14) (by decide) kw293 rfl dX7_fromWhole_15 ?_
      refine lv_iload_n hx hb dX7_fromWhole_18 rfl (lv_at hl 3 rfl) ?_
      refine lv_i2l (v := (Int32.toInt64 a2)) hx hb dX7_fromWhole_19 rfl ?_
      refine lv_iload_n hx hb dX7_fromWhole_20 rfl (lv_at hl 4 rfl) ?_
      refine lv_i2l (v := (Int32.toInt64 a3)) hx hb dX7_fromWhole_21 rfl ?_
      refine lv_lconst (v := (1 : Int64)) hx hb dX7_fromWhole_22 (by decide) ?_
      obtain ⟨b17, q18, hf⟩ := obind hf
      obtain ⟨r15, g16, hf⟩ := obind hf
      refine fr_callV hx hb hml hts hown K hC hR ct_5 (c_X5_set hfl D cA g16) 3 q18 kw399 kw396 kw397 kw398 kw59 (by decide +kernel) ⟨by exact Nat.le_of_ble_eq_true rfl, by exact Nat.le_of_ble_eq_true rfl⟩ rfl hl.1 (cat8 _ (by exact Nat.le_of_ble_eq_true rfl)) dX7_fromWhole_23 rfl (fun H locs _ _ hC => ?_)
      refine fr_aload_n hx hb dX7_fromWhole_26 rfl (lv_at hl 1 rfl) ?_
      obtain ⟨x19, g20, hf⟩ := obind hf
      refine fr_get hx hb hts hown K hC ct_7 (fgR_get g20) (by decide) kw293 rfl dX7_fromWhole_27 ?_
      refine fr_aload hx hb dX7_fromWhole_30 (lv_at hl 0 rfl) ?_
      refine fr_aload_n hx hb dX7_fromWhole_32 rfl (lv_at hl 1 rfl) ?_
      obtain ⟨x21, g22, hf⟩ := obind hf
      refine fr_get hx hb hts hown K hC ct_7 (fgI_get g22) (by decide) kw297 rfl dX7_fromWhole_33 ?_
      refine lv_iconst (v := (0 : Int32)) hx hb dX7_fromWhole_36 (by decide) ?_
      obtain ⟨r23, g24, hf⟩ := obind hf
      refine fr_callS hx hb hml hts hown K hC hR (c_X7_sink hfl D cA 8 g24) 4 kw423 kw421 kw422 kw55 (by decide +kernel) ⟨by exact Nat.le_of_ble_eq_true rfl, by exact Nat.le_of_ble_eq_true rfl⟩ rfl hl.1 (cat8 _ (by exact Nat.le_of_ble_eq_true rfl)) dX7_fromWhole_37 rfl (fun H locs _ _ hC => ?_)
      refine fr_aload_n hx hb dX7_fromWhole_40 rfl (lv_at hl 1 rfl) ?_
      obtain ⟨x25, g26, hf⟩ := obind hf
      refine fr_get hx hb hts hown K hC ct_7 (fgR_get g26) (by decide) kw293 rfl dX7_fromWhole_41 ?_
      refine lv_iload hx hb dX7_fromWhole_44 (lv_at hl 5 rfl) ?_
      obtain ⟨b29, q30, hf⟩ := obind hf
      obtain ⟨r27, g28, hf⟩ := obind hf
      refine fr_callV hx hb hml hts hown K hC hR ct_5 (c_X5_part hfl D cA g28) 1 q30 kw416 kw413 kw414 kw415 kw59 (by decide +kernel) ⟨by exact Nat.le_of_ble_eq_true rfl, by exact Nat.le_of_ble_eq_true rfl⟩ rfl hl.1 (cat8 _ (by exact Nat.le_of_ble_eq_true rfl)) dX7_fromWhole_46 rfl (fun H locs _ _ hC => ?_)
      refine lv_l2i (v := (Int64.toInt32 r27.1)) hx hb dX7_fromWhole_49 rfl ?_
      obtain rfl := Option.some.inj hf
      exact fr_retQ (fr_iret hx hb hr hlocks hC dX7_fromWhole_50)
    · obtain rfl := Option.some.inj hf
      refine fr_callST hx hb hml hts hown K hC hR (c_X7_checkPoint hfl D cA g9) 3 kw844 kw842 kw843 kw55 (by decide +kernel) ⟨by exact Nat.le_of_ble_eq_true rfl, by exact Nat.le_of_ble_eq_true rfl⟩ rfl hl.1 (cat8 _ (by exact Nat.le_of_ble_eq_true rfl)) dX7_fromWhole_11 rfl (fun H locs _ _ q ce hC e1 e2 e3 => ?_)
      exact fr_out (fun x hx9 => (hno x hx9).elim) hlocks hC e1 e2 e3
  · obtain rfl := Option.some.inj hf
    refine fr_callVT hx hb hml hts hown K hC hR ct_7 (c_X7_found hfl D cA g2) 1 q4 kw583 kw580 kw582 kw12 kw55 (by decide +kernel) ⟨by exact Nat.le_of_ble_eq_true rfl, by exact Nat.le_of_ble_eq_true rfl⟩ rfl hl.1 (cat8 _ (by exact Nat.le_of_ble_eq_true rfl)) dX7_fromWhole_2 rfl (fun H locs _ _ q ce hC e1 e2 e3 => ?_)
    exact fr_out (fun x hx9 => (hno x hx9).elim) hlocks hC e1 e2 e3
set_option maxRecDepth 100000 in
theorem c_X7_fromWhole {l : Launch} (hfl : l.stackTraces = false) (D : va_G) (cA : Nat → ClassId) {o : Nat} {p0 : Int32} {p1 : Int32} {p2 : Int32} {p3 : Int32} {h : fSt} {r : ((Int32 ⊕ Nat) × fSt)} (hf : f_X7_fromWhole o p0 p1 p2 p3 h = some r) : fMetX l yX7_fromWhole (wsC yX7_fromWhole cX7_fromWhole 6 (some (.int))) (25) (615) D cA [.ref o, .int p0, .int p1, .int p2, .int p3] h r.2 (rI r.1) := by
  exact fMetX.of (own := RX7) (by decide +kernel) rfl (lva1 rfl (lva1 rfl (lva1 rfl (lva1 rfl (lva1 rfl lva0))))) (lgl1 rfl (lgl1 rfl (lgl1 rfl (lgl1 rfl (lgl1 rfl lgl0))))) (Nat.le_of_ble_eq_true rfl) (fun p e s m args below meth c ls hno M hC hl => by
    have hl : lv_has ls 6 [(0, va_rf (some o)), (1, .int p0), (2, .int p1), (3, .int p2), (4, .int p3)] := hl
    exact w_X7_fromWhole_L0 M hfl hno _ _ _ _ _ _ hf _ _ _ _ _ hC (lv_sub hl [0, 1, 2, 3, 4] rfl))
set_option maxHeartbeats 4000000 in
set_option maxRecDepth 100000 in
theorem w_L_fromWhole_L0 {p : Program} {l : Launch} {e : Env} {s : State} {m : MethodId} {args : Array Value} {below : List Frame} {meth : Method} {c : Code} {D : va_G} {cA : Nat → ClassId} {h0 : fSt} {r : ((Int32 ⊕ Nat) × fSt)} (M : fM p s m args meth c D cA h0 { frames := 26, cells := fCB h0 - fZ h0, slots := fLB h0 - fL h0, locals := 640 } cL_fromWhole 7 (some (.int)) RL) (hfl : l.stackTraces = false) (hno : c.exceptionTable.toList = tableOf [(0, 14, 17, 13), (0, 14, 21, 15)]) (a0 : Option Nat) (a1 : Int32) (a2 : Int32) (a3 : Int32) (a4 : Int32) (a5 : Option Nat) (h : fSt) (hf : f_L_fromWhole_L0 a0 a1 a2 a3 a4 a5 h = some r) : ∀ (H : Heap) (locs : List Loc) (cells slots : Nat) (ls : Array Slot), fCur D cA s h0 h H locs → lv_has ls 7 [(0, va_rf a0), (1, .int a1), (2, .int a2), (3, .int a3), (4, .int a4), (5, va_rf a5)] → W p l e { frames := 26, cells := fCB h0 - fZ h0, slots := fLB h0 - fL h0, locals := 640 } s m args below meth c H locs cells slots (vx_MQ below (fQX D cA h0 r.2 (rI r.1)) (fXC D cA h0 r.2 (rI r.1)) args s (fCB h0 - fZ h0) (fLB h0 - fL h0) (fA h0)) (F0 m 0 ls []) := by
  obtain ⟨hx, hb, hml, hr, hlocks, hts, hown, K, hR⟩ := id M
  intro H locs cells slots ls hC hl
  refine fr_aload hx hb dL_fromWhole_0 (lv_at hl 5 rfl) ?_
  refine lv_iconst (v := (0 : Int32)) hx hb dL_fromWhole_2 (by decide) ?_
  refine fr_aload_n hx hb dL_fromWhole_3 rfl (lv_at hl 0 rfl) ?_
  refine lv_iload_n hx hb dL_fromWhole_4 rfl (lv_at hl 1 rfl) ?_
  refine lv_iload_n hx hb dL_fromWhole_5 rfl (lv_at hl 2 rfl) ?_
  refine lv_iload_n hx hb dL_fromWhole_6 rfl (lv_at hl 3 rfl) ?_
  refine lv_iload hx hb dL_fromWhole_7 (lv_at hl 4 rfl) ?_
  obtain ⟨b3, q4, hf⟩ := obind hf
  obtain ⟨⟨v5 | k6, h7⟩, g2, hf⟩ := obind hf
  · refine fr_callVX hx hb hml hts hown K hC hR ct_7 (c_X7_fromWhole hfl D cA g2) 4 q4 kw853 kw850 kw851 kw852 kw55 (by decide +kernel) ⟨by exact Nat.le_of_ble_eq_true rfl, by exact Nat.le_of_ble_eq_true rfl⟩ rfl hl.1 (cat8 _ (by exact Nat.le_of_ble_eq_true rfl)) dL_fromWhole_9 rfl (fun H locs _ _ hC => ?_)
    refine lv_i2l (v := (Int32.toInt64 v5)) hx hb dL_fromWhole_12 rfl ?_
    obtain ⟨h8, g9, hf⟩ := obind hf
    refine fr_last hx hb K hC (t := 1) rfl g9 dL_fromWhole_13 (fun H locs hC => ?_)
    refine lv_goto (tgt := 25) hx hb dL_fromWhole_14 (by decide) ?_
    refine lv_iconst (v := (0 : Int32)) hx hb dL_fromWhole_25 (by decide) ?_
    obtain rfl := Option.some.inj hf
    exact fr_retQ (fr_iret hx hb hr hlocks hC dL_fromWhole_26)
  · refine fr_callVT hx hb hml hts hown K hC hR ct_7 (c_X7_fromWhole hfl D cA g2) 4 q4 kw853 kw850 kw851 kw852 kw55 (by decide +kernel) ⟨by exact Nat.le_of_ble_eq_true rfl, by exact Nat.le_of_ble_eq_true rfl⟩ rfl hl.1 (cat8 _ (by exact Nat.le_of_ble_eq_true rfl)) dL_fromWhole_9 rfl (fun H locs _ _ q ce hC e1 e2 e3 => ?_)
    by_cases c10 : k6 = 0
    · replace hf := opos c10 hf
      subst c10
      refine fr_catch (k9 := 0) (name := "java/lang/IndexOutOfBoundsException") hts K hown [] ⟨0, 14, 17, 13⟩ [⟨0, 14, 21, 15⟩] (by rw [hno]; rfl) (fun z hz => nomatch hz) (by decide) (by decide) kw573 kn586 e1 e2 e3 ?_
      refine fr_astore (lv' := [(6, va_rf (some q)), (0, va_rf a0), (1, .int a1), (2, .int a2), (3, .int a3), (4, .int a4), (5, va_rf a5)]) hx hb dL_fromWhole_17 hl (by decide) (congrArg (List.cons _) (flk rfl (flk rfl (flk rfl (flk rfl (flk rfl (flk (adj1 _ _) fln))))))) (fun ls hl => ?_)
      refine lv_iconst (v := (1 : Int32)) hx hb dL_fromWhole_19 (by decide) ?_
      obtain rfl := Option.some.inj hf
      exact fr_retQ (fr_iret hx hb hr hlocks hC dL_fromWhole_20)
    replace hf := oneg c10 hf
    by_cases c12 : k6 = 1
    · replace hf := opos c12 hf
      subst c12
      refine fr_catch (k9 := 1) (name := "java/lang/IllegalArgumentException") hts K hown [⟨0, 14, 17, 13⟩] ⟨0, 14, 21, 15⟩ [] (by rw [hno]; rfl) (all1 ⟨by decide, _, kw573, by decide +kernel⟩) (by decide) (by decide) kw574 kn495 e1 e2 e3 ?_
      refine fr_astore (lv' := [(6, va_rf (some q)), (0, va_rf a0), (1, .int a1), (2, .int a2), (3, .int a3), (4, .int a4), (5, va_rf a5)]) hx hb dL_fromWhole_21 hl (by decide) (congrArg (List.cons _) (flk rfl (flk rfl (flk rfl (flk rfl (flk rfl (flk (adj1 _ _) fln))))))) (fun ls hl => ?_)
      refine lv_iconst (v := (2 : Int32)) hx hb dL_fromWhole_23 (by decide) ?_
      obtain rfl := Option.some.inj hf
      exact fr_retQ (fr_iret hx hb hr hlocks hC dL_fromWhole_24)
    replace hf := oneg c12 hf
    exact nomatch hf
set_option maxRecDepth 100000 in
theorem c_L_fromWhole {l : Launch} (hfl : l.stackTraces = false) (D : va_G) (cA : Nat → ClassId) {p0 : Option Nat} {p1 : Int32} {p2 : Int32} {p3 : Int32} {p4 : Int32} {p5 : Option Nat} {h : fSt} {r : ((Int32 ⊕ Nat) × fSt)} (hf : f_L_fromWhole p0 p1 p2 p3 p4 p5 h = some r) : fMetX l yL_fromWhole (wsCH yL_fromWhole cL_fromWhole 7 (some (.int)) [(0, 14, 17, 13), (0, 14, 21, 15)]) (26) (640) D cA [va_rf p0, .int p1, .int p2, .int p3, .int p4, va_rf p5] h r.2 (rI r.1) := by
  exact fMetX.ofH (own := RL) (by decide +kernel) rfl (lva1 (va_rf_cat _) (lva1 rfl (lva1 rfl (lva1 rfl (lva1 rfl (lva1 (va_rf_cat _) lva0)))))) (lgl1 (va_rf_cat _) (lgl1 rfl (lgl1 rfl (lgl1 rfl (lgl1 rfl (lgl1 (va_rf_cat _) lgl0)))))) (Nat.le_of_ble_eq_true rfl) (fun p e s m args below meth c ls hno M hC hl => by
    have hl : lv_has ls 7 [(0, va_rf p0), (1, .int p1), (2, .int p2), (3, .int p3), (4, .int p4), (5, va_rf p5)] := hl
    exact w_L_fromWhole_L0 M hfl hno _ _ _ _ _ _ _ hf _ _ _ _ _ hC (lv_sub hl [0, 1, 2, 3, 4, 5] rfl))
set_option maxHeartbeats 4000000 in
set_option maxRecDepth 100000 in
theorem w_X4_countHanging_L7 {p : Program} {l : Launch} {e : Env} {s : State} {m : MethodId} {args : Array Value} {below : List Frame} {meth : Method} {c : Code} {D : va_G} {cA : Nat → ClassId} {h0 : fSt} {r : (Int32 × fSt)} (M : fM p s m args meth c D cA h0 { frames := 0, cells := fCB h0 - fZ h0, slots := fLB h0 - fL h0, locals := 0 } cX4_countHanging 3 (some (.int)) RX4) (hfl : l.stackTraces = false) : ∀ (n : Nat) (a1 : Int32) (a2 : Option Nat) (h : fSt), f_X4_countHanging_L7 n a1 a2 h = some r → ∀ (H : Heap) (locs : List Loc) (cells slots : Nat) (ls : Array Slot), fCur D cA s h0 h H locs → lv_has ls 3 [(1, .int a1), (2, va_rf a2)] → W p l e { frames := 0, cells := fCB h0 - fZ h0, slots := fLB h0 - fL h0, locals := 0 } s m args below meth c H locs cells slots (MQ below (fQ D cA h0 r.2 (some (.int r.1))) args s (fCB h0 - fZ h0) (fLB h0 - fL h0) (fA h0)) (F0 m 7 ls []) := by
  obtain ⟨hx, hb, hml, hr, hlocks, hts, hown, K, hR⟩ := id M
  intro n
  induction n with
  | zero =>
    intro a1 a2 h hf
    exact nomatch (show (none : Option (Int32 × fSt)) = some r from hf)
  | succ n hk7 =>
    intro a1 a2 h hf H locs cells slots ls hC hl
    refine fr_aload_n hx hb dX4_countHanging_7 rfl (lv_at hl 1 rfl) ?_
    refine fr_ifnull (tgt := 22) hx hb dX4_countHanging_8 (by decide) (fun c1 => ?_) (fun c1 => ?_)
    · replace hf := opos c1 hf
      refine lv_iload_n hx hb dX4_countHanging_22 rfl (lv_at hl 0 rfl) ?_
      obtain rfl := Option.some.inj hf
      exact fr_iret hx hb hr hlocks hC dX4_countHanging_23
    · replace hf := oneg c1 hf
      refine lv_iinc (v := (a1 + (1 : Int32))) (lv' := [(1, .int (a1 + (1 : Int32))), (2, va_rf a2)]) hx hb dX4_countHanging_11 hl (k := 0) rfl rfl (by decide) (congrArg (List.cons _) (fld rfl (flk rfl fln))) (fun ls hl => ?_)
      refine fr_aload_n hx hb dX4_countHanging_14 rfl (lv_at hl 1 rfl) ?_
      obtain ⟨x2, g3, hf⟩ := obind hf
      refine fr_get hx hb hts hown K hC ct_4 (fgR_get g3) (by decide) kw187 rfl dX4_countHanging_15 ?_
      refine fr_astore_n (lv' := [(2, va_rf x2), (1, .int (a1 + (1 : Int32)))]) hx hb dX4_countHanging_18 rfl hl (by decide) (congrArg (List.cons _) (flk rfl (fld rfl fln))) (fun ls hl => ?_)
      refine lv_goto (tgt := 7) hx hb dX4_countHanging_19 (by decide) ?_
      exact hk7 _ _ _ hf _ _ _ _ _ hC (lv_sub hl [1, 0] rfl)
set_option maxHeartbeats 4000000 in
set_option maxRecDepth 100000 in
theorem w_X4_countHanging_L0 {p : Program} {l : Launch} {e : Env} {s : State} {m : MethodId} {args : Array Value} {below : List Frame} {meth : Method} {c : Code} {D : va_G} {cA : Nat → ClassId} {h0 : fSt} {r : (Int32 × fSt)} (M : fM p s m args meth c D cA h0 { frames := 0, cells := fCB h0 - fZ h0, slots := fLB h0 - fL h0, locals := 0 } cX4_countHanging 3 (some (.int)) RX4) (hfl : l.stackTraces = false) (a0 : Option Nat) (h : fSt) (hf : f_X4_countHanging_L0 a0 h = some r) : ∀ (H : Heap) (locs : List Loc) (cells slots : Nat) (ls : Array Slot), fCur D cA s h0 h H locs → lv_has ls 3 [(0, va_rf a0)] → W p l e { frames := 0, cells := fCB h0 - fZ h0, slots := fLB h0 - fL h0, locals := 0 } s m args below meth c H locs cells slots (MQ below (fQ D cA h0 r.2 (some (.int r.1))) args s (fCB h0 - fZ h0) (fLB h0 - fL h0) (fA h0)) (F0 m 0 ls []) := by
  obtain ⟨hx, hb, hml, hr, hlocks, hts, hown, K, hR⟩ := id M
  intro H locs cells slots ls hC hl
  refine lv_iconst (v := (0 : Int32)) hx hb dX4_countHanging_0 (by decide) ?_
  refine lv_istore_n (lv' := [(1, .int (0 : Int32)), (0, va_rf a0)]) hx hb dX4_countHanging_1 rfl hl (by decide) (congrArg (List.cons _) (flk (adj1 _ _) fln)) (fun ls hl => ?_)
  refine fr_aload_n hx hb dX4_countHanging_2 rfl (lv_at hl 1 rfl) ?_
  obtain ⟨x4, g5, hf⟩ := obind hf
  refine fr_get hx hb hts hown K hC ct_4 (fgR_get g5) (by decide) kw185 rfl dX4_countHanging_3 ?_
  refine fr_astore_n (lv' := [(2, va_rf x4), (1, .int (0 : Int32)), (0, va_rf a0)]) hx hb dX4_countHanging_6 rfl hl (by decide) (congrArg (List.cons _) (flk rfl (flk rfl fln))) (fun ls hl => ?_)
  exact w_X4_countHanging_L7 M hfl 4096 _ _ _ hf _ _ _ _ _ hC (lv_sub hl [1, 0] rfl)
set_option maxRecDepth 100000 in
theorem c_X4_countHanging {l : Launch} (hfl : l.stackTraces = false) (D : va_G) (cA : Nat → ClassId) {o : Nat} {h : fSt} {r : (Int32 × fSt)} (hf : f_X4_countHanging o h = some r) : fMet l yX4_countHanging (wsC yX4_countHanging cX4_countHanging 3 (some (.int))) (0) (0) D cA [.ref o] h r.2 (some (.int r.1)) := by
  exact fMet.of (own := RX4) (by decide +kernel) rfl (lva1 rfl lva0) (lgl1 rfl lgl0) (Nat.le_of_ble_eq_true rfl) (fun p e s m args below meth c ls hnm _ M hC hl => by
    have hl : lv_has ls 3 [(0, va_rf (some o))] := hl
    exact w_X4_countHanging_L0 M hfl _ _ hf _ _ _ _ _ hC (lv_sub hl [0] rfl))
set_option maxHeartbeats 4000000 in
set_option maxRecDepth 100000 in
theorem w_X4_leaveParent_L58 {p : Program} {l : Launch} {e : Env} {s : State} {m : MethodId} {args : Array Value} {below : List Frame} {meth : Method} {c : Code} {D : va_G} {cA : Nat → ClassId} {h0 : fSt} {r : (Unit × fSt)} (M : fM p s m args meth c D cA h0 { frames := 0, cells := fCB h0 - fZ h0, slots := fLB h0 - fL h0, locals := 0 } cX4_leaveParent 2 none RX4) (hfl : l.stackTraces = false) {k38 : Option Nat → Option Nat → fSt → Option (Unit × fSt)} (hk38 : ∀ (a0 : Option Nat) (a1 : Option Nat) (h : fSt), k38 a0 a1 h = some r → ∀ (H : Heap) (locs : List Loc) (cells slots : Nat) (ls : Array Slot), fCur D cA s h0 h H locs → lv_has ls 2 [(0, va_rf a0), (1, va_rf a1)] → W p l e { frames := 0, cells := fCB h0 - fZ h0, slots := fLB h0 - fL h0, locals := 0 } s m args below meth c H locs cells slots (MQ below (fQ D cA h0 r.2 none) args s (fCB h0 - fZ h0) (fLB h0 - fL h0) (fA h0)) (F0 m 38 ls [])) (a0 : Option Nat) (a1 : Option Nat) (h : fSt) (hf : f_X4_leaveParent_L58 k38 a0 a1 h = some r) : ∀ (H : Heap) (locs : List Loc) (cells slots : Nat) (ls : Array Slot), fCur D cA s h0 h H locs → lv_has ls 2 [(0, va_rf a0), (1, va_rf a1)] → W p l e { frames := 0, cells := fCB h0 - fZ h0, slots := fLB h0 - fL h0, locals := 0 } s m args below meth c H locs cells slots (MQ below (fQ D cA h0 r.2 none) args s (fCB h0 - fZ h0) (fLB h0 - fL h0) (fA h0)) (F0 m 58 ls []) := by
  obtain ⟨hx, hb, hml, hr, hlocks, hts, hown, K, hR⟩ := id M
  intro H locs cells slots ls hC hl
  refine fr_aload_n hx hb dX4_leaveParent_58 rfl (lv_at hl 1 rfl) ?_
  obtain ⟨x1, g2, hf⟩ := obind hf
  refine fr_get hx hb hts hown K hC ct_4 (fgR_get g2) (by decide) kw187 rfl dX4_leaveParent_59 ?_
  refine fr_astore_n (lv' := [(1, va_rf x1), (0, va_rf a0)]) hx hb dX4_leaveParent_62 rfl hl (by decide) (congrArg (List.cons _) (flk (adj1 _ _) (fld rfl fln))) (fun ls hl => ?_)
  refine lv_goto (tgt := 38) hx hb dX4_leaveParent_63 (by decide) ?_
  exact hk38 _ _ _ hf _ _ _ _ _ hC (lv_sub hl [1, 0] rfl)
set_option maxHeartbeats 4000000 in
set_option maxRecDepth 100000 in
theorem w_X4_leaveParent_L38 {p : Program} {l : Launch} {e : Env} {s : State} {m : MethodId} {args : Array Value} {below : List Frame} {meth : Method} {c : Code} {D : va_G} {cA : Nat → ClassId} {h0 : fSt} {r : (Unit × fSt)} (M : fM p s m args meth c D cA h0 { frames := 0, cells := fCB h0 - fZ h0, slots := fLB h0 - fL h0, locals := 0 } cX4_leaveParent 2 none RX4) (hfl : l.stackTraces = false) : ∀ (n : Nat) (a0 : Option Nat) (a1 : Option Nat) (h : fSt), f_X4_leaveParent_L38 n a0 a1 h = some r → ∀ (H : Heap) (locs : List Loc) (cells slots : Nat) (ls : Array Slot), fCur D cA s h0 h H locs → lv_has ls 2 [(0, va_rf a0), (1, va_rf a1)] → W p l e { frames := 0, cells := fCB h0 - fZ h0, slots := fLB h0 - fL h0, locals := 0 } s m args below meth c H locs cells slots (MQ below (fQ D cA h0 r.2 none) args s (fCB h0 - fZ h0) (fLB h0 - fL h0) (fA h0)) (F0 m 38 ls []) := by
  obtain ⟨hx, hb, hml, hr, hlocks, hts, hown, K, hR⟩ := id M
  intro n
  induction n with
  | zero =>
    intro a0 a1 h hf
    exact nomatch (show (none : Option (Unit × fSt)) = some r from hf)
  | succ n hk38 =>
    intro a0 a1 h hf H locs cells slots ls hC hl
    refine fr_aload_n hx hb dX4_leaveParent_38 rfl (lv_at hl 1 rfl) ?_
    refine fr_ifnull (tgt := 66) hx hb dX4_leaveParent_39 (by decide) (fun c3 => ?_) (fun c3 => ?_)
    · replace hf := opos c3 hf
      refine fr_aload_n hx hb dX4_leaveParent_66 rfl (lv_at hl 0 rfl) ?_
      refine fr_null hx hb dX4_leaveParent_67 ?_
      obtain ⟨h4, g5, hf⟩ := obind hf
      refine fr_put hx hb hts hown K hC ct_4 g5 (by decide) kw187 rfl rfl (nR _ _) (fR _ _) dX4_leaveParent_68 (fun H locs hC => ?_)
      obtain rfl := Option.some.inj hf
      exact fr_vret hx hb hr hlocks hC dX4_leaveParent_71
    · replace hf := oneg c3 hf
      refine fr_aload_n hx hb dX4_leaveParent_42 rfl (lv_at hl 1 rfl) ?_
      obtain ⟨x6, g7, hf⟩ := obind hf
      refine fr_get hx hb hts hown K hC ct_4 (fgR_get g7) (by decide) kw187 rfl dX4_leaveParent_43 ?_
      refine fr_aload_n hx hb dX4_leaveParent_46 rfl (lv_at hl 0 rfl) ?_
      refine lv_acmp_ne (tgt := 58) hx hb dX4_leaveParent_47 (by decide) (fun c8 => ?_) (fun c8 => ?_)
      · replace hf := oneg c8 hf
        exact w_X4_leaveParent_L58 M hfl hk38 _ _ _ hf _ _ _ _ _ hC (lv_sub hl [0, 1] rfl)
      · replace hf := opos c8 hf
        refine fr_aload_n hx hb dX4_leaveParent_50 rfl (lv_at hl 1 rfl) ?_
        refine fr_aload_n hx hb dX4_leaveParent_51 rfl (lv_at hl 0 rfl) ?_
        obtain ⟨x9, g10, hf⟩ := obind hf
        refine fr_get hx hb hts hown K hC ct_4 (fgR_get g10) (by decide) kw187 rfl dX4_leaveParent_52 ?_
        obtain ⟨h11, g12, hf⟩ := obind hf
        refine fr_put hx hb hts hown K hC ct_4 g12 (by decide) kw187 rfl rfl (nR _ _) (fR _ _) dX4_leaveParent_55 (fun H locs hC => ?_)
        exact w_X4_leaveParent_L58 M hfl hk38 _ _ _ hf _ _ _ _ _ hC (lv_sub hl [0, 1] rfl)
set_option maxHeartbeats 4000000 in
set_option maxRecDepth 100000 in
theorem w_X4_leaveParent_L30 {p : Program} {l : Launch} {e : Env} {s : State} {m : MethodId} {args : Array Value} {below : List Frame} {meth : Method} {c : Code} {D : va_G} {cA : Nat → ClassId} {h0 : fSt} {r : (Unit × fSt)} (M : fM p s m args meth c D cA h0 { frames := 0, cells := fCB h0 - fZ h0, slots := fLB h0 - fL h0, locals := 0 } cX4_leaveParent 2 none RX4) (hfl : l.stackTraces = false) (a0 : Option Nat) (h : fSt) (hf : f_X4_leaveParent_L30 a0 h = some r) : ∀ (H : Heap) (locs : List Loc) (cells slots : Nat) (ls : Array Slot), fCur D cA s h0 h H locs → lv_has ls 2 [(0, va_rf a0)] → W p l e { frames := 0, cells := fCB h0 - fZ h0, slots := fLB h0 - fL h0, locals := 0 } s m args below meth c H locs cells slots (MQ below (fQ D cA h0 r.2 none) args s (fCB h0 - fZ h0) (fLB h0 - fL h0) (fA h0)) (F0 m 30 ls []) := by
  obtain ⟨hx, hb, hml, hr, hlocks, hts, hown, K, hR⟩ := id M
  intro H locs cells slots ls hC hl
  refine fr_aload_n hx hb dX4_leaveParent_30 rfl (lv_at hl 0 rfl) ?_
  obtain ⟨x13, g14, hf⟩ := obind hf
  refine fr_get hx hb hts hown K hC ct_4 (fgR_get g14) (by decide) kw183 rfl dX4_leaveParent_31 ?_
  obtain ⟨x15, g16, hf⟩ := obind hf
  refine fr_get hx hb hts hown K hC ct_4 (fgR_get g16) (by decide) kw185 rfl dX4_leaveParent_34 ?_
  refine fr_astore_n (lv' := [(1, va_rf x15), (0, va_rf a0)]) hx hb dX4_leaveParent_37 rfl hl (by decide) (congrArg (List.cons _) (flk (adj1 _ _) fln)) (fun ls hl => ?_)
  exact w_X4_leaveParent_L38 M hfl 4096 _ _ _ hf _ _ _ _ _ hC (lv_sub hl [1, 0] rfl)
set_option maxHeartbeats 4000000 in
set_option maxRecDepth 100000 in
theorem w_X4_leaveParent_L0 {p : Program} {l : Launch} {e : Env} {s : State} {m : MethodId} {args : Array Value} {below : List Frame} {meth : Method} {c : Code} {D : va_G} {cA : Nat → ClassId} {h0 : fSt} {r : (Unit × fSt)} (M : fM p s m args meth c D cA h0 { frames := 0, cells := fCB h0 - fZ h0, slots := fLB h0 - fL h0, locals := 0 } cX4_leaveParent 2 none RX4) (hfl : l.stackTraces = false) (a0 : Option Nat) (h : fSt) (hf : f_X4_leaveParent_L0 a0 h = some r) : ∀ (H : Heap) (locs : List Loc) (cells slots : Nat) (ls : Array Slot), fCur D cA s h0 h H locs → lv_has ls 2 [(0, va_rf a0)] → W p l e { frames := 0, cells := fCB h0 - fZ h0, slots := fLB h0 - fL h0, locals := 0 } s m args below meth c H locs cells slots (MQ below (fQ D cA h0 r.2 none) args s (fCB h0 - fZ h0) (fLB h0 - fL h0) (fA h0)) (F0 m 0 ls []) := by
  obtain ⟨hx, hb, hml, hr, hlocks, hts, hown, K, hR⟩ := id M
  intro H locs cells slots ls hC hl
  refine fr_aload_n hx hb dX4_leaveParent_0 rfl (lv_at hl 0 rfl) ?_
  obtain ⟨x17, g18, hf⟩ := obind hf
  refine fr_get hx hb hts hown K hC ct_4 (fgR_get g18) (by decide) kw183 rfl dX4_leaveParent_1 ?_
  refine fr_ifnonnull (tgt := 8) hx hb dX4_leaveParent_4 (by decide) (fun c19 => ?_) (fun c19 => ?_)
  · replace hf := oneg c19 hf
    refine fr_aload_n hx hb dX4_leaveParent_8 rfl (lv_at hl 0 rfl) ?_
    obtain ⟨x20, g21, hf⟩ := obind hf
    refine fr_get hx hb hts hown K hC ct_4 (fgR_get g21) (by decide) kw183 rfl dX4_leaveParent_9 ?_
    obtain ⟨x22, g23, hf⟩ := obind hf
    refine fr_get hx hb hts hown K hC ct_4 (fgR_get g23) (by decide) kw185 rfl dX4_leaveParent_12 ?_
    refine fr_aload_n hx hb dX4_leaveParent_15 rfl (lv_at hl 0 rfl) ?_
    refine lv_acmp_ne (tgt := 30) hx hb dX4_leaveParent_16 (by decide) (fun c24 => ?_) (fun c24 => ?_)
    · replace hf := oneg c24 hf
      exact w_X4_leaveParent_L30 M hfl _ _ hf _ _ _ _ _ hC (lv_sub hl [0] rfl)
    · replace hf := opos c24 hf
      refine fr_aload_n hx hb dX4_leaveParent_19 rfl (lv_at hl 0 rfl) ?_
      obtain ⟨x25, g26, hf⟩ := obind hf
      refine fr_get hx hb hts hown K hC ct_4 (fgR_get g26) (by decide) kw183 rfl dX4_leaveParent_20 ?_
      refine fr_aload_n hx hb dX4_leaveParent_23 rfl (lv_at hl 0 rfl) ?_
      obtain ⟨x27, g28, hf⟩ := obind hf
      refine fr_get hx hb hts hown K hC ct_4 (fgR_get g28) (by decide) kw187 rfl dX4_leaveParent_24 ?_
      obtain ⟨h29, g30, hf⟩ := obind hf
      refine fr_put hx hb hts hown K hC ct_4 g30 (by decide) kw185 rfl rfl (nR _ _) (fR _ _) dX4_leaveParent_27 (fun H locs hC => ?_)
      exact w_X4_leaveParent_L30 M hfl _ _ hf _ _ _ _ _ hC (lv_sub hl [0] rfl)
  · replace hf := opos c19 hf
    obtain rfl := Option.some.inj hf
    exact fr_vret hx hb hr hlocks hC dX4_leaveParent_7
set_option maxRecDepth 100000 in
theorem c_X4_leaveParent {l : Launch} (hfl : l.stackTraces = false) (D : va_G) (cA : Nat → ClassId) {o : Nat} {h : fSt} {r : (Unit × fSt)} (hf : f_X4_leaveParent o h = some r) : fMet l yX4_leaveParent (wsC yX4_leaveParent cX4_leaveParent 2 none) (0) (0) D cA [.ref o] h r.2 none := by
  exact fMet.of (own := RX4) (by decide +kernel) rfl (lva1 rfl lva0) (lgl1 rfl lgl0) (Nat.le_of_ble_eq_true rfl) (fun p e s m args below meth c ls hnm _ M hC hl => by
    have hl : lv_has ls 2 [(0, va_rf (some o))] := hl
    exact w_X4_leaveParent_L0 M hfl _ _ hf _ _ _ _ _ hC (lv_sub hl [0] rfl))
set_option maxHeartbeats 4000000 in
set_option maxRecDepth 100000 in
theorem w_X7_depthUnder_L31 {p : Program} {l : Launch} {e : Env} {s : State} {m : MethodId} {args : Array Value} {below : List Frame} {meth : Method} {c : Code} {D : va_G} {cA : Nat → ClassId} {h0 : fSt} {r : (Int32 × fSt)} (M : fM p s m args meth c D cA h0 { frames := 1, cells := fCB h0 - fZ h0, slots := fLB h0 - fL h0, locals := 22 } cX7_depthUnder 4 (some (.int)) RX7) (hfl : l.stackTraces = false) {k10 : Option Nat → Int32 → Option Nat → fSt → Option (Int32 × fSt)} (hk10 : ∀ (a1 : Option Nat) (a2 : Int32) (a3 : Option Nat) (h : fSt), k10 a1 a2 a3 h = some r → ∀ (H : Heap) (locs : List Loc) (cells slots : Nat) (ls : Array Slot), fCur D cA s h0 h H locs → lv_has ls 4 [(1, va_rf a1), (2, .int a2), (3, va_rf a3)] → W p l e { frames := 1, cells := fCB h0 - fZ h0, slots := fLB h0 - fL h0, locals := 22 } s m args below meth c H locs cells slots (MQ below (fQ D cA h0 r.2 (some (.int r.1))) args s (fCB h0 - fZ h0) (fLB h0 - fL h0) (fA h0)) (F0 m 10 ls [])) (a1 : Option Nat) (a2 : Int32) (a3 : Option Nat) (h : fSt) (hf : f_X7_depthUnder_L31 k10 a1 a2 a3 h = some r) : ∀ (H : Heap) (locs : List Loc) (cells slots : Nat) (ls : Array Slot), fCur D cA s h0 h H locs → lv_has ls 4 [(1, va_rf a1), (2, .int a2), (3, va_rf a3)] → W p l e { frames := 1, cells := fCB h0 - fZ h0, slots := fLB h0 - fL h0, locals := 22 } s m args below meth c H locs cells slots (MQ below (fQ D cA h0 r.2 (some (.int r.1))) args s (fCB h0 - fZ h0) (fLB h0 - fL h0) (fA h0)) (F0 m 31 ls []) := by
  obtain ⟨hx, hb, hml, hr, hlocks, hts, hown, K, hR⟩ := id M
  intro H locs cells slots ls hC hl
  refine fr_aload_n hx hb dX7_depthUnder_31 rfl (lv_at hl 2 rfl) ?_
  obtain ⟨x1, g2, hf⟩ := obind hf
  refine fr_get hx hb hts hown K hC ct_4 (fgR_get g2) (by decide) kw189 rfl dX7_depthUnder_32 ?_
  refine fr_astore_n (lv' := [(3, va_rf x1), (1, va_rf a1), (2, .int a2)]) hx hb dX7_depthUnder_35 rfl hl (by decide) (congrArg (List.cons _) (flk rfl (flk rfl (fld rfl fln)))) (fun ls hl => ?_)
  refine lv_goto (tgt := 10) hx hb dX7_depthUnder_36 (by decide) ?_
  exact hk10 _ _ _ _ hf _ _ _ _ _ hC (lv_sub hl [1, 2, 0] rfl)
set_option maxHeartbeats 4000000 in
set_option maxRecDepth 100000 in
theorem w_X7_depthUnder_L10 {p : Program} {l : Launch} {e : Env} {s : State} {m : MethodId} {args : Array Value} {below : List Frame} {meth : Method} {c : Code} {D : va_G} {cA : Nat → ClassId} {h0 : fSt} {r : (Int32 × fSt)} (M : fM p s m args meth c D cA h0 { frames := 1, cells := fCB h0 - fZ h0, slots := fLB h0 - fL h0, locals := 22 } cX7_depthUnder 4 (some (.int)) RX7) (hfl : l.stackTraces = false) : ∀ (n : Nat) (a1 : Option Nat) (a2 : Int32) (a3 : Option Nat) (h : fSt), f_X7_depthUnder_L10 n a1 a2 a3 h = some r → ∀ (H : Heap) (locs : List Loc) (cells slots : Nat) (ls : Array Slot), fCur D cA s h0 h H locs → lv_has ls 4 [(1, va_rf a1), (2, .int a2), (3, va_rf a3)] → W p l e { frames := 1, cells := fCB h0 - fZ h0, slots := fLB h0 - fL h0, locals := 22 } s m args below meth c H locs cells slots (MQ below (fQ D cA h0 r.2 (some (.int r.1))) args s (fCB h0 - fZ h0) (fLB h0 - fL h0) (fA h0)) (F0 m 10 ls []) := by
  obtain ⟨hx, hb, hml, hr, hlocks, hts, hown, K, hR⟩ := id M
  intro n
  induction n with
  | zero =>
    intro a1 a2 a3 h hf
    exact nomatch (show (none : Option (Int32 × fSt)) = some r from hf)
  | succ n hk10 =>
    intro a1 a2 a3 h hf H locs cells slots ls hC hl
    refine fr_aload_n hx hb dX7_depthUnder_10 rfl (lv_at hl 2 rfl) ?_
    refine fr_ifnull (tgt := 39) hx hb dX7_depthUnder_11 (by decide) (fun c3 => ?_) (fun c3 => ?_)
    · replace hf := opos c3 hf
      refine lv_iload_n hx hb dX7_depthUnder_39 rfl (lv_at hl 1 rfl) ?_
      refine fr_aload_n hx hb dX7_depthUnder_40 rfl (lv_at hl 0 rfl) ?_
      obtain ⟨b6, q7, hf⟩ := obind hf
      obtain ⟨r4, g5, hf⟩ := obind hf
      refine fr_callV hx hb hml hts hown K hC hR ct_4 (c_X4_depth hfl D cA g5) 0 q7 kw365 kw362 kw363 kw364 kw56 (by decide +kernel) ⟨by exact Nat.le_of_ble_eq_true rfl, by exact Nat.le_of_ble_eq_true rfl⟩ rfl hl.1 (cat8 _ (by exact Nat.le_of_ble_eq_true rfl)) dX7_depthUnder_41 rfl (fun H locs _ _ hC => ?_)
      refine lv_isub hx hb dX7_depthUnder_44 ?_
      obtain rfl := Option.some.inj hf
      exact fr_iret hx hb hr hlocks hC dX7_depthUnder_45
    · replace hf := oneg c3 hf
      refine fr_aload_n hx hb dX7_depthUnder_14 rfl (lv_at hl 2 rfl) ?_
      refine fr_aload_n hx hb dX7_depthUnder_15 rfl (lv_at hl 0 rfl) ?_
      obtain ⟨b10, q11, hf⟩ := obind hf
      obtain ⟨r8, g9, hf⟩ := obind hf
      refine fr_callV hx hb hml hts hown K hC hR ct_4 (c_X4_isWithin hfl D cA g9) 1 q11 kw448 kw445 kw446 kw447 kw56 (by decide +kernel) ⟨by exact Nat.le_of_ble_eq_true rfl, by exact Nat.le_of_ble_eq_true rfl⟩ rfl hl.1 (cat8 _ (by exact Nat.le_of_ble_eq_true rfl)) dX7_depthUnder_16 rfl (fun H locs _ _ hC => ?_)
      refine lv_if_eq (tgt := 31) hx hb dX7_depthUnder_19 (by decide) (fun c12 => ?_) (fun c12 => ?_)
      · replace hf := opos c12 hf
        exact w_X7_depthUnder_L31 M hfl hk10 _ _ _ _ hf _ _ _ _ _ hC (lv_sub hl [0, 1, 2] rfl)
      · replace hf := oneg c12 hf
        refine lv_iload_n hx hb dX7_depthUnder_22 rfl (lv_at hl 1 rfl) ?_
        refine fr_aload_n hx hb dX7_depthUnder_23 rfl (lv_at hl 2 rfl) ?_
        obtain ⟨b15, q16, hf⟩ := obind hf
        obtain ⟨r13, g14, hf⟩ := obind hf
        refine fr_callV hx hb hml hts hown K hC hR ct_4 (c_X4_depth hfl D cA g14) 0 q16 kw365 kw362 kw363 kw364 kw56 (by decide +kernel) ⟨by exact Nat.le_of_ble_eq_true rfl, by exact Nat.le_of_ble_eq_true rfl⟩ rfl hl.1 (cat8 _ (by exact Nat.le_of_ble_eq_true rfl)) dX7_depthUnder_24 rfl (fun H locs _ _ hC => ?_)
        refine fr_mmax hx hb hml hts hown hC hR kw670 kw671 kw69 kw672 hl.1 (by exact Nat.le_of_ble_eq_true rfl) (catL _ _ (by exact Nat.le_of_ble_eq_true rfl) (by exact Nat.le_of_ble_eq_true rfl)) dX7_depthUnder_27 (fun _ _ => ?_)
        refine lv_istore_n (lv' := [(2, .int (if a2 < r13.1 then r13.1 else a2)), (1, va_rf a1), (3, va_rf a3)]) hx hb dX7_depthUnder_30 rfl hl (by decide) (congrArg (List.cons _) (flk (adj1 _ _) (fld rfl (flk rfl fln)))) (fun ls hl => ?_)
        exact w_X7_depthUnder_L31 M hfl hk10 _ _ _ _ hf _ _ _ _ _ hC (lv_sub hl [1, 0, 2] rfl)
set_option maxHeartbeats 4000000 in
set_option maxRecDepth 100000 in
theorem w_X7_depthUnder_L0 {p : Program} {l : Launch} {e : Env} {s : State} {m : MethodId} {args : Array Value} {below : List Frame} {meth : Method} {c : Code} {D : va_G} {cA : Nat → ClassId} {h0 : fSt} {r : (Int32 × fSt)} (M : fM p s m args meth c D cA h0 { frames := 1, cells := fCB h0 - fZ h0, slots := fLB h0 - fL h0, locals := 22 } cX7_depthUnder 4 (some (.int)) RX7) (hfl : l.stackTraces = false) (a0 : Option Nat) (a1 : Option Nat) (h : fSt) (hf : f_X7_depthUnder_L0 a0 a1 h = some r) : ∀ (H : Heap) (locs : List Loc) (cells slots : Nat) (ls : Array Slot), fCur D cA s h0 h H locs → lv_has ls 4 [(0, va_rf a0), (1, va_rf a1)] → W p l e { frames := 1, cells := fCB h0 - fZ h0, slots := fLB h0 - fL h0, locals := 22 } s m args below meth c H locs cells slots (MQ below (fQ D cA h0 r.2 (some (.int r.1))) args s (fCB h0 - fZ h0) (fLB h0 - fL h0) (fA h0)) (F0 m 0 ls []) := by
  obtain ⟨hx, hb, hml, hr, hlocks, hts, hown, K, hR⟩ := id M
  intro H locs cells slots ls hC hl
  refine fr_aload_n hx hb dX7_depthUnder_0 rfl (lv_at hl 1 rfl) ?_
  obtain ⟨b19, q20, hf⟩ := obind hf
  obtain ⟨r17, g18, hf⟩ := obind hf
  refine fr_callV hx hb hml hts hown K hC hR ct_4 (c_X4_depth hfl D cA g18) 0 q20 kw365 kw362 kw363 kw364 kw56 (by decide +kernel) ⟨by exact Nat.le_of_ble_eq_true rfl, by exact Nat.le_of_ble_eq_true rfl⟩ rfl hl.1 (cat8 _ (by exact Nat.le_of_ble_eq_true rfl)) dX7_depthUnder_1 rfl (fun H locs _ _ hC => ?_)
  refine lv_istore_n (lv' := [(2, .int r17.1), (0, va_rf a0), (1, va_rf a1)]) hx hb dX7_depthUnder_4 rfl hl (by decide) (congrArg (List.cons _) (flk rfl (flk (adj1 _ _) fln))) (fun ls hl => ?_)
  refine fr_aload_n hx hb dX7_depthUnder_5 rfl (lv_at hl 1 rfl) ?_
  obtain ⟨x21, g22, hf⟩ := obind hf
  refine fr_get hx hb hts hown K hC ct_7 (fgR_get g22) (by decide) kw298 rfl dX7_depthUnder_6 ?_
  refine fr_astore_n (lv' := [(3, va_rf x21), (2, .int r17.1), (0, va_rf a0), (1, va_rf a1)]) hx hb dX7_depthUnder_9 rfl hl (by decide) (congrArg (List.cons _) (flk rfl (flk rfl (flk rfl fln)))) (fun ls hl => ?_)
  exact w_X7_depthUnder_L10 M hfl 4096 _ _ _ _ hf _ _ _ _ _ hC (lv_sub hl [3, 1, 0] rfl)
set_option maxRecDepth 100000 in
theorem c_X7_depthUnder {l : Launch} (hfl : l.stackTraces = false) (D : va_G) (cA : Nat → ClassId) {o : Nat} {p0 : Option Nat} {h : fSt} {r : (Int32 × fSt)} (hf : f_X7_depthUnder o p0 h = some r) : fMet l yX7_depthUnder (wsC yX7_depthUnder cX7_depthUnder 4 (some (.int))) (1) (22) D cA [.ref o, va_rf p0] h r.2 (some (.int r.1)) := by
  exact fMet.of (own := RX7) (by decide +kernel) rfl (lva1 rfl (lva1 (va_rf_cat _) lva0)) (lgl1 rfl (lgl1 (va_rf_cat _) lgl0)) (Nat.le_of_ble_eq_true rfl) (fun p e s m args below meth c ls hnm _ M hC hl => by
    have hl : lv_has ls 4 [(0, va_rf (some o)), (1, va_rf p0)] := hl
    exact w_X7_depthUnder_L0 M hfl _ _ _ hf _ _ _ _ _ hC (lv_sub hl [0, 1] rfl))
set_option maxHeartbeats 4000000 in
set_option maxRecDepth 100000 in
theorem w_X7_hang_L30 {p : Program} {l : Launch} {e : Env} {s : State} {m : MethodId} {args : Array Value} {below : List Frame} {meth : Method} {c : Code} {D : va_G} {cA : Nat → ClassId} {h0 : fSt} {r : ((Int32 ⊕ Nat) × fSt)} (M : fM p s m args meth c D cA h0 { frames := 18, cells := fCB h0 - fZ h0, slots := fLB h0 - fL h0, locals := 426 } cX7_hang 5 (some (.int)) RX7) (hfl : l.stackTraces = false) (hno : ∀ x ∈ c.exceptionTable.toList, False)  (h : fSt) (hf : f_X7_hang_L30  h = some r) : ∀ (H : Heap) (locs : List Loc) (cells slots : Nat) (ls : Array Slot), fCur D cA s h0 h H locs → lv_has ls 5 [] → W p l e { frames := 18, cells := fCB h0 - fZ h0, slots := fLB h0 - fL h0, locals := 426 } s m args below meth c H locs cells slots (vx_MQ below (fQX D cA h0 r.2 (rI r.1)) (fXC D cA h0 r.2 (rI r.1)) args s (fCB h0 - fZ h0) (fLB h0 - fL h0) (fA h0)) (F0 m 30 ls []) := by
  obtain ⟨hx, hb, hml, hr, hlocks, hts, hown, K, hR⟩ := id M
  intro H locs cells slots ls hC hl
  obtain ⟨h1, g2, hf⟩ := obind hf
  obtain rfl := Option.some.inj hf
  exact fr_throwS hx hb hml hts hfl hown K hC hR th_RX7_73_77_2 st_RX7_104 hl.1 dX7_hang_30 dX7_hang_33 dX7_hang_34 dX7_hang_36 dX7_hang_39 hno (by exact Nat.le_of_ble_eq_true rfl) (catL _ _ (by exact Nat.le_of_ble_eq_true rfl) (by exact Nat.le_of_ble_eq_true rfl)) hlocks g2
set_option maxHeartbeats 4000000 in
set_option maxRecDepth 100000 in
theorem w_X7_hang_L0 {p : Program} {l : Launch} {e : Env} {s : State} {m : MethodId} {args : Array Value} {below : List Frame} {meth : Method} {c : Code} {D : va_G} {cA : Nat → ClassId} {h0 : fSt} {r : ((Int32 ⊕ Nat) × fSt)} (M : fM p s m args meth c D cA h0 { frames := 18, cells := fCB h0 - fZ h0, slots := fLB h0 - fL h0, locals := 426 } cX7_hang 5 (some (.int)) RX7) (hfl : l.stackTraces = false) (hno : ∀ x ∈ c.exceptionTable.toList, False) (a0 : Option Nat) (a1 : Int32) (a2 : Int32) (h : fSt) (hf : f_X7_hang_L0 a0 a1 a2 h = some r) : ∀ (H : Heap) (locs : List Loc) (cells slots : Nat) (ls : Array Slot), fCur D cA s h0 h H locs → lv_has ls 5 [(0, va_rf a0), (1, .int a1), (2, .int a2)] → W p l e { frames := 18, cells := fCB h0 - fZ h0, slots := fLB h0 - fL h0, locals := 426 } s m args below meth c H locs cells slots (vx_MQ below (fQX D cA h0 r.2 (rI r.1)) (fXC D cA h0 r.2 (rI r.1)) args s (fCB h0 - fZ h0) (fLB h0 - fL h0) (fA h0)) (F0 m 0 ls []) := by
  obtain ⟨hx, hb, hml, hr, hlocks, hts, hown, K, hR⟩ := id M
  intro H locs cells slots ls hC hl
  refine fr_aload_n hx hb dX7_hang_0 rfl (lv_at hl 0 rfl) ?_
  refine lv_iload_n hx hb dX7_hang_1 rfl (lv_at hl 1 rfl) ?_
  obtain ⟨b5, q6, hf⟩ := obind hf
  obtain ⟨⟨v7 | k8, h9⟩, g4, hf⟩ := obind hf
  · refine fr_callVX hx hb hml hts hown K hC hR ct_7 (c_X7_found hfl D cA g4) 1 q6 kw583 kw580 kw582 kw12 kw55 (by decide +kernel) ⟨by exact Nat.le_of_ble_eq_true rfl, by exact Nat.le_of_ble_eq_true rfl⟩ rfl hl.1 (cat8 _ (by exact Nat.le_of_ble_eq_true rfl)) dX7_hang_2 rfl (fun H locs _ _ hC => ?_)
    refine fr_astore_n (lv' := [(3, va_rf v7), (0, va_rf a0), (1, .int a1), (2, .int a2)]) hx hb dX7_hang_5 rfl hl (by decide) (congrArg (List.cons _) (flk rfl (flk rfl (flk rfl fln)))) (fun ls hl => ?_)
    refine fr_aload_n hx hb dX7_hang_6 rfl (lv_at hl 1 rfl) ?_
    refine lv_iload_n hx hb dX7_hang_7 rfl (lv_at hl 3 rfl) ?_
    obtain ⟨b12, q13, hf⟩ := obind hf
    obtain ⟨⟨v14 | k15, h16⟩, g11, hf⟩ := obind hf
    · refine fr_callVX hx hb hml hts hown K hC hR ct_7 (c_X7_found hfl D cA g11) 1 q13 kw583 kw580 kw582 kw12 kw55 (by decide +kernel) ⟨by exact Nat.le_of_ble_eq_true rfl, by exact Nat.le_of_ble_eq_true rfl⟩ rfl hl.1 (cat8 _ (by exact Nat.le_of_ble_eq_true rfl)) dX7_hang_8 rfl (fun H locs _ _ hC => ?_)
      refine fr_astore (lv' := [(4, va_rf v14), (3, va_rf v7), (0, va_rf a0), (1, .int a1), (2, .int a2)]) hx hb dX7_hang_11 hl (by decide) (congrArg (List.cons _) (flk (adj1 _ _) (flk rfl (flk rfl (flk rfl fln))))) (fun ls hl => ?_)
      refine fr_aload_n hx hb dX7_hang_13 rfl (lv_at hl 1 rfl) ?_
      refine fr_aload_n hx hb dX7_hang_14 rfl (lv_at hl 2 rfl) ?_
      obtain ⟨x17, g18, hf⟩ := obind hf
      refine fr_get hx hb hts hown K hC ct_7 (fgR_get g18) (by decide) kw292 rfl dX7_hang_15 ?_
      refine lv_acmp_eq (tgt := 30) hx hb dX7_hang_18 (by decide) (fun c19 => ?_) (fun c19 => ?_)
      · replace hf := opos c19 hf
        exact w_X7_hang_L30 M hfl hno _ hf _ _ _ _ _ hC (lv_sub hl [] rfl)
      · replace hf := oneg c19 hf
        refine fr_aload hx hb dX7_hang_21 (lv_at hl 0 rfl) ?_
        refine fr_aload_n hx hb dX7_hang_23 rfl (lv_at hl 1 rfl) ?_
        obtain ⟨b22, q23, hf⟩ := obind hf
        obtain ⟨r20, g21, hf⟩ := obind hf
        refine fr_callV hx hb hml hts hown K hC hR ct_4 (c_X4_isWithin hfl D cA g21) 1 q23 kw448 kw445 kw446 kw447 kw56 (by decide +kernel) ⟨by exact Nat.le_of_ble_eq_true rfl, by exact Nat.le_of_ble_eq_true rfl⟩ rfl hl.1 (cat8 _ (by exact Nat.le_of_ble_eq_true rfl)) dX7_hang_24 rfl (fun H locs _ _ hC => ?_)
        refine lv_if_eq (tgt := 40) hx hb dX7_hang_27 (by decide) (fun c24 => ?_) (fun c24 => ?_)
        · replace hf := opos c24 hf
          refine fr_aload hx hb dX7_hang_40 (lv_at hl 0 rfl) ?_
          obtain ⟨b27, q28, hf⟩ := obind hf
          obtain ⟨r25, g26, hf⟩ := obind hf
          refine fr_callV hx hb hml hts hown K hC hR ct_4 (c_X4_depth hfl D cA g26) 0 q28 kw365 kw362 kw363 kw364 kw56 (by decide +kernel) ⟨by exact Nat.le_of_ble_eq_true rfl, by exact Nat.le_of_ble_eq_true rfl⟩ rfl hl.1 (cat8 _ (by exact Nat.le_of_ble_eq_true rfl)) dX7_hang_42 rfl (fun H locs _ _ hC => ?_)
          refine lv_iconst (v := (1 : Int32)) hx hb dX7_hang_45 (by decide) ?_
          refine lv_iadd hx hb dX7_hang_46 ?_
          refine fr_aload_n hx hb dX7_hang_47 rfl (lv_at hl 2 rfl) ?_
          refine fr_aload_n hx hb dX7_hang_48 rfl (lv_at hl 1 rfl) ?_
          obtain ⟨b31, q32, hf⟩ := obind hf
          obtain ⟨r29, g30, hf⟩ := obind hf
          refine fr_callV hx hb hml hts hown K hC hR ct_7 (c_X7_depthUnder hfl D cA g30) 1 q32 kw669 kw666 kw668 kw17 kw55 (by decide +kernel) ⟨by exact Nat.le_of_ble_eq_true rfl, by exact Nat.le_of_ble_eq_true rfl⟩ rfl hl.1 (cat8 _ (by exact Nat.le_of_ble_eq_true rfl)) dX7_hang_49 rfl (fun H locs _ _ hC => ?_)
          refine lv_iadd hx hb dX7_hang_52 ?_
          refine lv_iconst (v := (4 : Int32)) hx hb dX7_hang_53 (by decide) ?_
          refine lv_icmp_le (tgt := 67) hx hb dX7_hang_54 (by decide) (fun c33 => ?_) (fun c33 => ?_)
          · replace hf := opos c33 hf
            refine fr_aload_n hx hb dX7_hang_67 rfl (lv_at hl 1 rfl) ?_
            obtain ⟨b36, q37, hf⟩ := obind hf
            obtain ⟨r34, g35, hf⟩ := obind hf
            refine fr_callV hx hb hml hts hown K hC hR ct_4 (c_X4_leaveParent hfl D cA g35) 0 q37 kw657 kw654 kw655 kw656 kw56 (by decide +kernel) ⟨by exact Nat.le_of_ble_eq_true rfl, by exact Nat.le_of_ble_eq_true rfl⟩ rfl hl.1 (cat8 _ (by exact Nat.le_of_ble_eq_true rfl)) dX7_hang_68 rfl (fun H locs _ _ hC => ?_)
            refine fr_aload hx hb dX7_hang_71 (lv_at hl 0 rfl) ?_
            refine fr_aload_n hx hb dX7_hang_73 rfl (lv_at hl 1 rfl) ?_
            obtain ⟨b40, q41, hf⟩ := obind hf
            obtain ⟨r38, g39, hf⟩ := obind hf
            refine fr_callV hx hb hml hts hown K hC hR ct_4 (c_X4_takeIn hfl D cA g39) 1 q41 kw621 kw618 kw619 kw620 kw56 (by decide +kernel) ⟨by exact Nat.le_of_ble_eq_true rfl, by exact Nat.le_of_ble_eq_true rfl⟩ rfl hl.1 (cat8 _ (by exact Nat.le_of_ble_eq_true rfl)) dX7_hang_74 rfl (fun H locs _ _ hC => ?_)
            refine fr_aload_n hx hb dX7_hang_77 rfl (lv_at hl 2 rfl) ?_
            obtain ⟨b44, q45, hf⟩ := obind hf
            obtain ⟨r42, g43, hf⟩ := obind hf
            refine fr_callV hx hb hml hts hown K hC hR ct_7 (c_X7_layOrder hfl D cA g43) 0 q45 kw625 kw622 kw624 kw13 kw55 (by decide +kernel) ⟨by exact Nat.le_of_ble_eq_true rfl, by exact Nat.le_of_ble_eq_true rfl⟩ rfl hl.1 (cat8 _ (by exact Nat.le_of_ble_eq_true rfl)) dX7_hang_78 rfl (fun H locs _ _ hC => ?_)
            refine fr_aload hx hb dX7_hang_81 (lv_at hl 0 rfl) ?_
            obtain ⟨b48, q49, hf⟩ := obind hf
            obtain ⟨r46, g47, hf⟩ := obind hf
            refine fr_callV hx hb hml hts hown K hC hR ct_4 (c_X4_countHanging hfl D cA g47) 0 q49 kw677 kw674 kw675 kw676 kw56 (by decide +kernel) ⟨by exact Nat.le_of_ble_eq_true rfl, by exact Nat.le_of_ble_eq_true rfl⟩ rfl hl.1 (cat8 _ (by exact Nat.le_of_ble_eq_true rfl)) dX7_hang_83 rfl (fun H locs _ _ hC => ?_)
            obtain rfl := Option.some.inj hf
            exact fr_retQ (fr_iret hx hb hr hlocks hC dX7_hang_86)
          · replace hf := oneg c33 hf
            obtain ⟨h50, g51, hf⟩ := obind hf
            obtain rfl := Option.some.inj hf
            exact fr_throwS hx hb hml hts hfl hown K hC hR th_RX7_73_77_2 st_RX7_110 hl.1 dX7_hang_57 dX7_hang_60 dX7_hang_61 dX7_hang_63 dX7_hang_66 hno (by exact Nat.le_of_ble_eq_true rfl) (catL _ _ (by exact Nat.le_of_ble_eq_true rfl) (by exact Nat.le_of_ble_eq_true rfl)) hlocks g51
        · replace hf := oneg c24 hf
          exact w_X7_hang_L30 M hfl hno _ hf _ _ _ _ _ hC (lv_sub hl [] rfl)
    · obtain rfl := Option.some.inj hf
      refine fr_callVT hx hb hml hts hown K hC hR ct_7 (c_X7_found hfl D cA g11) 1 q13 kw583 kw580 kw582 kw12 kw55 (by decide +kernel) ⟨by exact Nat.le_of_ble_eq_true rfl, by exact Nat.le_of_ble_eq_true rfl⟩ rfl hl.1 (cat8 _ (by exact Nat.le_of_ble_eq_true rfl)) dX7_hang_8 rfl (fun H locs _ _ q ce hC e1 e2 e3 => ?_)
      exact fr_out (fun x hx9 => (hno x hx9).elim) hlocks hC e1 e2 e3
  · obtain rfl := Option.some.inj hf
    refine fr_callVT hx hb hml hts hown K hC hR ct_7 (c_X7_found hfl D cA g4) 1 q6 kw583 kw580 kw582 kw12 kw55 (by decide +kernel) ⟨by exact Nat.le_of_ble_eq_true rfl, by exact Nat.le_of_ble_eq_true rfl⟩ rfl hl.1 (cat8 _ (by exact Nat.le_of_ble_eq_true rfl)) dX7_hang_2 rfl (fun H locs _ _ q ce hC e1 e2 e3 => ?_)
    exact fr_out (fun x hx9 => (hno x hx9).elim) hlocks hC e1 e2 e3
set_option maxRecDepth 100000 in
theorem c_X7_hang {l : Launch} (hfl : l.stackTraces = false) (D : va_G) (cA : Nat → ClassId) {o : Nat} {p0 : Int32} {p1 : Int32} {h : fSt} {r : ((Int32 ⊕ Nat) × fSt)} (hf : f_X7_hang o p0 p1 h = some r) : fMetX l yX7_hang (wsC yX7_hang cX7_hang 5 (some (.int))) (18) (426) D cA [.ref o, .int p0, .int p1] h r.2 (rI r.1) := by
  exact fMetX.of (own := RX7) (by decide +kernel) rfl (lva1 rfl (lva1 rfl (lva1 rfl lva0))) (lgl1 rfl (lgl1 rfl (lgl1 rfl lgl0))) (Nat.le_of_ble_eq_true rfl) (fun p e s m args below meth c ls hno M hC hl => by
    have hl : lv_has ls 5 [(0, va_rf (some o)), (1, .int p0), (2, .int p1)] := hl
    exact w_X7_hang_L0 M hfl hno _ _ _ _ hf _ _ _ _ _ hC (lv_sub hl [0, 1, 2] rfl))
set_option maxHeartbeats 4000000 in
set_option maxRecDepth 100000 in
theorem w_L_hang_L0 {p : Program} {l : Launch} {e : Env} {s : State} {m : MethodId} {args : Array Value} {below : List Frame} {meth : Method} {c : Code} {D : va_G} {cA : Nat → ClassId} {h0 : fSt} {r : ((Int32 ⊕ Nat) × fSt)} (M : fM p s m args meth c D cA h0 { frames := 19, cells := fCB h0 - fZ h0, slots := fLB h0 - fL h0, locals := 450 } cL_hang 5 (some (.int)) RL) (hfl : l.stackTraces = false) (hno : c.exceptionTable.toList = tableOf [(0, 10, 13, 13), (0, 10, 17, 17)]) (a0 : Option Nat) (a1 : Int32) (a2 : Int32) (a3 : Option Nat) (h : fSt) (hf : f_L_hang_L0 a0 a1 a2 a3 h = some r) : ∀ (H : Heap) (locs : List Loc) (cells slots : Nat) (ls : Array Slot), fCur D cA s h0 h H locs → lv_has ls 5 [(0, va_rf a0), (1, .int a1), (2, .int a2), (3, va_rf a3)] → W p l e { frames := 19, cells := fCB h0 - fZ h0, slots := fLB h0 - fL h0, locals := 450 } s m args below meth c H locs cells slots (vx_MQ below (fQX D cA h0 r.2 (rI r.1)) (fXC D cA h0 r.2 (rI r.1)) args s (fCB h0 - fZ h0) (fLB h0 - fL h0) (fA h0)) (F0 m 0 ls []) := by
  obtain ⟨hx, hb, hml, hr, hlocks, hts, hown, K, hR⟩ := id M
  intro H locs cells slots ls hC hl
  refine fr_aload_n hx hb dL_hang_0 rfl (lv_at hl 3 rfl) ?_
  refine lv_iconst (v := (0 : Int32)) hx hb dL_hang_1 (by decide) ?_
  refine fr_aload_n hx hb dL_hang_2 rfl (lv_at hl 0 rfl) ?_
  refine lv_iload_n hx hb dL_hang_3 rfl (lv_at hl 1 rfl) ?_
  refine lv_iload_n hx hb dL_hang_4 rfl (lv_at hl 2 rfl) ?_
  obtain ⟨b3, q4, hf⟩ := obind hf
  obtain ⟨⟨v5 | k6, h7⟩, g2, hf⟩ := obind hf
  · refine fr_callVX hx hb hml hts hown K hC hR ct_7 (c_X7_hang hfl D cA g2) 2 q4 kw664 kw661 kw662 kw663 kw55 (by decide +kernel) ⟨by exact Nat.le_of_ble_eq_true rfl, by exact Nat.le_of_ble_eq_true rfl⟩ rfl hl.1 (cat8 _ (by exact Nat.le_of_ble_eq_true rfl)) dL_hang_5 rfl (fun H locs _ _ hC => ?_)
    refine lv_i2l (v := (Int32.toInt64 v5)) hx hb dL_hang_8 rfl ?_
    obtain ⟨h8, g9, hf⟩ := obind hf
    refine fr_last hx hb K hC (t := 1) rfl g9 dL_hang_9 (fun H locs hC => ?_)
    refine lv_goto (tgt := 21) hx hb dL_hang_10 (by decide) ?_
    refine lv_iconst (v := (0 : Int32)) hx hb dL_hang_21 (by decide) ?_
    obtain rfl := Option.some.inj hf
    exact fr_retQ (fr_iret hx hb hr hlocks hC dL_hang_22)
  · refine fr_callVT hx hb hml hts hown K hC hR ct_7 (c_X7_hang hfl D cA g2) 2 q4 kw664 kw661 kw662 kw663 kw55 (by decide +kernel) ⟨by exact Nat.le_of_ble_eq_true rfl, by exact Nat.le_of_ble_eq_true rfl⟩ rfl hl.1 (cat8 _ (by exact Nat.le_of_ble_eq_true rfl)) dL_hang_5 rfl (fun H locs _ _ q ce hC e1 e2 e3 => ?_)
    by_cases c10 : k6 = 0
    · replace hf := opos c10 hf
      subst c10
      refine fr_catch (k9 := 0) (name := "java/lang/IndexOutOfBoundsException") hts K hown [] ⟨0, 10, 13, 13⟩ [⟨0, 10, 17, 17⟩] (by rw [hno]; rfl) (fun z hz => nomatch hz) (by decide) (by decide) kw573 kn586 e1 e2 e3 ?_
      refine fr_astore (lv' := [(4, va_rf (some q)), (0, va_rf a0), (1, .int a1), (2, .int a2), (3, va_rf a3)]) hx hb dL_hang_13 hl (by decide) (congrArg (List.cons _) (flk rfl (flk rfl (flk rfl (flk (adj1 _ _) fln))))) (fun ls hl => ?_)
      refine lv_iconst (v := (1 : Int32)) hx hb dL_hang_15 (by decide) ?_
      obtain rfl := Option.some.inj hf
      exact fr_retQ (fr_iret hx hb hr hlocks hC dL_hang_16)
    replace hf := oneg c10 hf
    by_cases c12 : k6 = 2
    · replace hf := opos c12 hf
      subst c12
      refine fr_catch (k9 := 2) (name := "java/lang/IllegalStateException") hts K hown [⟨0, 10, 13, 13⟩] ⟨0, 10, 17, 17⟩ [] (by rw [hno]; rfl) (all1 ⟨by decide, _, kw573, by decide +kernel⟩) (by decide) (by decide) kw575 kn604 e1 e2 e3 ?_
      refine fr_astore (lv' := [(4, va_rf (some q)), (0, va_rf a0), (1, .int a1), (2, .int a2), (3, va_rf a3)]) hx hb dL_hang_17 hl (by decide) (congrArg (List.cons _) (flk rfl (flk rfl (flk rfl (flk (adj1 _ _) fln))))) (fun ls hl => ?_)
      refine lv_iconst (v := (2 : Int32)) hx hb dL_hang_19 (by decide) ?_
      obtain rfl := Option.some.inj hf
      exact fr_retQ (fr_iret hx hb hr hlocks hC dL_hang_20)
    replace hf := oneg c12 hf
    exact nomatch hf
set_option maxRecDepth 100000 in
theorem c_L_hang {l : Launch} (hfl : l.stackTraces = false) (D : va_G) (cA : Nat → ClassId) {p0 : Option Nat} {p1 : Int32} {p2 : Int32} {p3 : Option Nat} {h : fSt} {r : ((Int32 ⊕ Nat) × fSt)} (hf : f_L_hang p0 p1 p2 p3 h = some r) : fMetX l yL_hang (wsCH yL_hang cL_hang 5 (some (.int)) [(0, 10, 13, 13), (0, 10, 17, 17)]) (19) (450) D cA [va_rf p0, .int p1, .int p2, va_rf p3] h r.2 (rI r.1) := by
  exact fMetX.ofH (own := RL) (by decide +kernel) rfl (lva1 (va_rf_cat _) (lva1 rfl (lva1 rfl (lva1 (va_rf_cat _) lva0)))) (lgl1 (va_rf_cat _) (lgl1 rfl (lgl1 rfl (lgl1 (va_rf_cat _) lgl0)))) (Nat.le_of_ble_eq_true rfl) (fun p e s m args below meth c ls hno M hC hl => by
    have hl : lv_has ls 5 [(0, va_rf p0), (1, .int p1), (2, .int p2), (3, va_rf p3)] := hl
    exact w_L_hang_L0 M hfl hno _ _ _ _ _ hf _ _ _ _ _ hC (lv_sub hl [0, 1, 2, 3] rfl))
set_option maxHeartbeats 4000000 in
set_option maxRecDepth 100000 in
theorem w_X7_isShown_L0 {p : Program} {l : Launch} {e : Env} {s : State} {m : MethodId} {args : Array Value} {below : List Frame} {meth : Method} {c : Code} {D : va_G} {cA : Nat → ClassId} {h0 : fSt} {r : ((Int32 ⊕ Nat) × fSt)} (M : fM p s m args meth c D cA h0 { frames := 7, cells := fCB h0 - fZ h0, slots := fLB h0 - fL h0, locals := 112 } cX7_isShown 2 (some (.boolean)) RX7) (hfl : l.stackTraces = false) (hno : ∀ x ∈ c.exceptionTable.toList, False) (a0 : Option Nat) (a1 : Int32) (h : fSt) (hf : f_X7_isShown_L0 a0 a1 h = some r) : ∀ (H : Heap) (locs : List Loc) (cells slots : Nat) (ls : Array Slot), fCur D cA s h0 h H locs → lv_has ls 2 [(0, va_rf a0), (1, .int a1)] → W p l e { frames := 7, cells := fCB h0 - fZ h0, slots := fLB h0 - fL h0, locals := 112 } s m args below meth c H locs cells slots (vx_MQ below (fQX D cA h0 r.2 (rI r.1)) (fXC D cA h0 r.2 (rI r.1)) args s (fCB h0 - fZ h0) (fLB h0 - fL h0) (fA h0)) (F0 m 0 ls []) := by
  obtain ⟨hx, hb, hml, hr, hlocks, hts, hown, K, hR⟩ := id M
  intro H locs cells slots ls hC hl
  refine fr_aload_n hx hb dX7_isShown_0 rfl (lv_at hl 0 rfl) ?_
  refine lv_iload_n hx hb dX7_isShown_1 rfl (lv_at hl 1 rfl) ?_
  obtain ⟨b3, q4, hf⟩ := obind hf
  obtain ⟨⟨v5 | k6, h7⟩, g2, hf⟩ := obind hf
  · refine fr_callVX hx hb hml hts hown K hC hR ct_7 (c_X7_found hfl D cA g2) 1 q4 kw583 kw580 kw582 kw12 kw55 (by decide +kernel) ⟨by exact Nat.le_of_ble_eq_true rfl, by exact Nat.le_of_ble_eq_true rfl⟩ rfl hl.1 (cat8 _ (by exact Nat.le_of_ble_eq_true rfl)) dX7_isShown_2 rfl (fun H locs _ _ hC => ?_)
    refine fr_aload_n hx hb dX7_isShown_5 rfl (lv_at hl 0 rfl) ?_
    obtain ⟨x8, g9, hf⟩ := obind hf
    refine fr_get hx hb hts hown K hC ct_7 (fgI_get g9) (by decide) kw297 rfl dX7_isShown_6 ?_
    obtain ⟨b12, q13, hf⟩ := obind hf
    obtain ⟨r10, g11, hf⟩ := obind hf
    refine fr_callV hx hb hml hts hown K hC hR ct_4 (c_X4_isShownAt hfl D cA g11) 1 q13 kw387 kw384 kw385 kw386 kw56 (by decide +kernel) ⟨by exact Nat.le_of_ble_eq_true rfl, by exact Nat.le_of_ble_eq_true rfl⟩ rfl hl.1 (cat8 _ (by exact Nat.le_of_ble_eq_true rfl)) dX7_isShown_9 rfl (fun H locs _ _ hC => ?_)
    by_cases c14 : r10.1 = 0 ∨ r10.1 = 1
    rotate_left
    · exact nomatch (oneg c14 hf)
    obtain rfl := Option.some.inj (opos c14 hf)
    exact fr_retQ (fr_zret hx hb hr hlocks hC c14 dX7_isShown_12)
  · obtain rfl := Option.some.inj hf
    refine fr_callVT hx hb hml hts hown K hC hR ct_7 (c_X7_found hfl D cA g2) 1 q4 kw583 kw580 kw582 kw12 kw55 (by decide +kernel) ⟨by exact Nat.le_of_ble_eq_true rfl, by exact Nat.le_of_ble_eq_true rfl⟩ rfl hl.1 (cat8 _ (by exact Nat.le_of_ble_eq_true rfl)) dX7_isShown_2 rfl (fun H locs _ _ q ce hC e1 e2 e3 => ?_)
    exact fr_out (fun x hx9 => (hno x hx9).elim) hlocks hC e1 e2 e3
set_option maxRecDepth 100000 in
theorem c_X7_isShown {l : Launch} (hfl : l.stackTraces = false) (D : va_G) (cA : Nat → ClassId) {o : Nat} {p0 : Int32} {h : fSt} {r : ((Int32 ⊕ Nat) × fSt)} (hf : f_X7_isShown o p0 h = some r) : fMetX l yX7_isShown (wsC yX7_isShown cX7_isShown 2 (some (.boolean))) (7) (112) D cA [.ref o, .int p0] h r.2 (rI r.1) := by
  exact fMetX.of (own := RX7) (by decide +kernel) rfl (lva1 rfl (lva1 rfl lva0)) (lgl1 rfl (lgl1 rfl lgl0)) (Nat.le_of_ble_eq_true rfl) (fun p e s m args below meth c ls hno M hC hl => by
    have hl : lv_has ls 2 [(0, va_rf (some o)), (1, .int p0)] := hl
    exact w_X7_isShown_L0 M hfl hno _ _ _ hf _ _ _ _ _ hC (lv_sub hl [0, 1] rfl))
set_option maxHeartbeats 4000000 in
set_option maxRecDepth 100000 in
theorem w_L_isShown_L15 {p : Program} {l : Launch} {e : Env} {s : State} {m : MethodId} {args : Array Value} {below : List Frame} {meth : Method} {c : Code} {D : va_G} {cA : Nat → ClassId} {h0 : fSt} {r : ((Int32 ⊕ Nat) × fSt)} (M : fM p s m args meth c D cA h0 { frames := 8, cells := fCB h0 - fZ h0, slots := fLB h0 - fL h0, locals := 133 } cL_isShown 4 (some (.int)) RL) (hfl : l.stackTraces = false) (hno : c.exceptionTable.toList = tableOf [(0, 16, 19, 13)]) (s2 : Int64) (s1 : Int32) (s0 : Option Nat) (h : fSt) (hf : f_L_isShown_L15 s2 s1 s0 h = some r) : ∀ (H : Heap) (locs : List Loc) (cells slots : Nat) (ls : Array Slot), fCur D cA s h0 h H locs → lv_has ls 4 [] → W p l e { frames := 8, cells := fCB h0 - fZ h0, slots := fLB h0 - fL h0, locals := 133 } s m args below meth c H locs cells slots (vx_MQ below (fQX D cA h0 r.2 (rI r.1)) (fXC D cA h0 r.2 (rI r.1)) args s (fCB h0 - fZ h0) (fLB h0 - fL h0) (fA h0)) (F0 m 15 ls [.long s2, .int s1, va_rf s0]) := by
  obtain ⟨hx, hb, hml, hr, hlocks, hts, hown, K, hR⟩ := id M
  intro H locs cells slots ls hC hl
  obtain ⟨h1, g2, hf⟩ := obind hf
  refine fr_last hx hb K hC (t := 1) rfl g2 dL_isShown_15 (fun H locs hC => ?_)
  refine lv_goto (tgt := 22) hx hb dL_isShown_16 (by decide) ?_
  refine lv_iconst (v := (0 : Int32)) hx hb dL_isShown_22 (by decide) ?_
  obtain rfl := Option.some.inj hf
  exact fr_retQ (fr_iret hx hb hr hlocks hC dL_isShown_23)
set_option maxHeartbeats 4000000 in
set_option maxRecDepth 100000 in
theorem w_L_isShown_L0 {p : Program} {l : Launch} {e : Env} {s : State} {m : MethodId} {args : Array Value} {below : List Frame} {meth : Method} {c : Code} {D : va_G} {cA : Nat → ClassId} {h0 : fSt} {r : ((Int32 ⊕ Nat) × fSt)} (M : fM p s m args meth c D cA h0 { frames := 8, cells := fCB h0 - fZ h0, slots := fLB h0 - fL h0, locals := 133 } cL_isShown 4 (some (.int)) RL) (hfl : l.stackTraces = false) (hno : c.exceptionTable.toList = tableOf [(0, 16, 19, 13)]) (a0 : Option Nat) (a1 : Int32) (a2 : Option Nat) (h : fSt) (hf : f_L_isShown_L0 a0 a1 a2 h = some r) : ∀ (H : Heap) (locs : List Loc) (cells slots : Nat) (ls : Array Slot), fCur D cA s h0 h H locs → lv_has ls 4 [(0, va_rf a0), (1, .int a1), (2, va_rf a2)] → W p l e { frames := 8, cells := fCB h0 - fZ h0, slots := fLB h0 - fL h0, locals := 133 } s m args below meth c H locs cells slots (vx_MQ below (fQX D cA h0 r.2 (rI r.1)) (fXC D cA h0 r.2 (rI r.1)) args s (fCB h0 - fZ h0) (fLB h0 - fL h0) (fA h0)) (F0 m 0 ls []) := by
  obtain ⟨hx, hb, hml, hr, hlocks, hts, hown, K, hR⟩ := id M
  intro H locs cells slots ls hC hl
  refine fr_aload_n hx hb dL_isShown_0 rfl (lv_at hl 2 rfl) ?_
  refine lv_iconst (v := (0 : Int32)) hx hb dL_isShown_1 (by decide) ?_
  refine fr_aload_n hx hb dL_isShown_2 rfl (lv_at hl 0 rfl) ?_
  refine lv_iload_n hx hb dL_isShown_3 rfl (lv_at hl 1 rfl) ?_
  obtain ⟨b5, q6, hf⟩ := obind hf
  obtain ⟨⟨v7 | k8, h9⟩, g4, hf⟩ := obind hf
  · refine fr_callVX hx hb hml hts hown K hC hR ct_7 (c_X7_isShown hfl D cA g4) 1 q6 kw875 kw872 kw873 kw874 kw55 (by decide +kernel) ⟨by exact Nat.le_of_ble_eq_true rfl, by exact Nat.le_of_ble_eq_true rfl⟩ rfl hl.1 (cat8 _ (by exact Nat.le_of_ble_eq_true rfl)) dL_isShown_4 rfl (fun H locs _ _ hC => ?_)
    refine lv_if_eq (tgt := 14) hx hb dL_isShown_7 (by decide) (fun c10 => ?_) (fun c10 => ?_)
    · replace hf := opos c10 hf
      refine lv_lconst (v := (0 : Int64)) hx hb dL_isShown_14 (by decide) ?_
      exact w_L_isShown_L15 M hfl hno _ _ _ _ hf _ _ _ _ _ hC (lv_sub hl [] rfl)
    · replace hf := oneg c10 hf
      refine lv_lconst (v := (1 : Int64)) hx hb dL_isShown_10 (by decide) ?_
      refine lv_goto (tgt := 15) hx hb dL_isShown_11 (by decide) ?_
      exact w_L_isShown_L15 M hfl hno _ _ _ _ hf _ _ _ _ _ hC (lv_sub hl [] rfl)
  · refine fr_callVT hx hb hml hts hown K hC hR ct_7 (c_X7_isShown hfl D cA g4) 1 q6 kw875 kw872 kw873 kw874 kw55 (by decide +kernel) ⟨by exact Nat.le_of_ble_eq_true rfl, by exact Nat.le_of_ble_eq_true rfl⟩ rfl hl.1 (cat8 _ (by exact Nat.le_of_ble_eq_true rfl)) dL_isShown_4 rfl (fun H locs _ _ q ce hC e1 e2 e3 => ?_)
    by_cases c11 : k8 = 0
    · replace hf := opos c11 hf
      subst c11
      refine fr_catch (k9 := 0) (name := "java/lang/IndexOutOfBoundsException") hts K hown [] ⟨0, 16, 19, 13⟩ [] (by rw [hno]; rfl) (fun z hz => nomatch hz) (by decide) (by decide) kw573 kn586 e1 e2 e3 ?_
      refine fr_astore_n (lv' := [(3, va_rf (some q)), (0, va_rf a0), (1, .int a1), (2, va_rf a2)]) hx hb dL_isShown_19 rfl hl (by decide) (congrArg (List.cons _) (flk rfl (flk rfl (flk (adj1 _ _) fln)))) (fun ls hl => ?_)
      refine lv_iconst (v := (1 : Int32)) hx hb dL_isShown_20 (by decide) ?_
      obtain rfl := Option.some.inj hf
      exact fr_retQ (fr_iret hx hb hr hlocks hC dL_isShown_21)
    replace hf := oneg c11 hf
    exact nomatch hf
set_option maxRecDepth 100000 in
theorem c_L_isShown {l : Launch} (hfl : l.stackTraces = false) (D : va_G) (cA : Nat → ClassId) {p0 : Option Nat} {p1 : Int32} {p2 : Option Nat} {h : fSt} {r : ((Int32 ⊕ Nat) × fSt)} (hf : f_L_isShown p0 p1 p2 h = some r) : fMetX l yL_isShown (wsCH yL_isShown cL_isShown 4 (some (.int)) [(0, 16, 19, 13)]) (8) (133) D cA [va_rf p0, .int p1, va_rf p2] h r.2 (rI r.1) := by
  exact fMetX.ofH (own := RL) (by decide +kernel) rfl (lva1 (va_rf_cat _) (lva1 rfl (lva1 (va_rf_cat _) lva0))) (lgl1 (va_rf_cat _) (lgl1 rfl (lgl1 (va_rf_cat _) lgl0))) (Nat.le_of_ble_eq_true rfl) (fun p e s m args below meth c ls hno M hC hl => by
    have hl : lv_has ls 4 [(0, va_rf p0), (1, .int p1), (2, va_rf p2)] := hl
    exact w_L_isShown_L0 M hfl hno _ _ _ _ hf _ _ _ _ _ hC (lv_sub hl [0, 1, 2] rfl))
set_option maxHeartbeats 4000000 in
set_option maxRecDepth 100000 in
theorem w_X6_allows_L0 {p : Program} {l : Launch} {e : Env} {s : State} {m : MethodId} {args : Array Value} {below : List Frame} {meth : Method} {c : Code} {D : va_G} {cA : Nat → ClassId} {h0 : fSt} {r : (Int32 × fSt)} (M : fM p s m args meth c D cA h0 { frames := 1, cells := fCB h0 - fZ h0, slots := fLB h0 - fL h0, locals := 22 } cX6_allows 2 (some (.boolean)) RX6) (hfl : l.stackTraces = false) (a0 : Option Nat) (a1 : Int32) (h : fSt) (hf : f_X6_allows_L0 a0 a1 h = some r) : ∀ (H : Heap) (locs : List Loc) (cells slots : Nat) (ls : Array Slot), fCur D cA s h0 h H locs → lv_has ls 2 [(0, va_rf a0), (1, .int a1)] → W p l e { frames := 1, cells := fCB h0 - fZ h0, slots := fLB h0 - fL h0, locals := 22 } s m args below meth c H locs cells slots (MQ below (fQ D cA h0 r.2 (some (.int r.1))) args s (fCB h0 - fZ h0) (fLB h0 - fL h0) (fA h0)) (F0 m 0 ls []) := by
  obtain ⟨hx, hb, hml, hr, hlocks, hts, hown, K, hR⟩ := id M
  intro H locs cells slots ls hC hl
  refine lv_iload_n hx hb dX6_allows_0 rfl (lv_at hl 1 rfl) ?_
  refine fr_aload_n hx hb dX6_allows_1 rfl (lv_at hl 0 rfl) ?_
  obtain ⟨x1, g2, hf⟩ := obind hf
  refine fr_get hx hb hts hown K hC ct_6 (fgI_get g2) (by decide) kw95 rfl dX6_allows_2 ?_
  refine fr_aload_n hx hb dX6_allows_5 rfl (lv_at hl 0 rfl) ?_
  obtain ⟨x3, g4, hf⟩ := obind hf
  refine fr_get hx hb hts hown K hC ct_6 (fgI_get g4) (by decide) kw96 rfl dX6_allows_6 ?_
  obtain ⟨r5, g6, hf⟩ := obind hf
  refine fr_callSN hx hb hml hts hown K hC hR (c_X7_isFrom hfl D cA g6) 3 kw492 kn689 kw491 kw55 (by decide +kernel) ⟨by exact Nat.le_of_ble_eq_true rfl, by exact Nat.le_of_ble_eq_true rfl⟩ rfl hl.1 (cat8 _ (by exact Nat.le_of_ble_eq_true rfl)) dX6_allows_9 rfl (fun H locs _ _ hC => ?_)
  by_cases c7 : r5.1 = 0 ∨ r5.1 = 1
  rotate_left
  · exact nomatch (oneg c7 hf)
  obtain rfl := Option.some.inj (opos c7 hf)
  exact fr_zret hx hb hr hlocks hC c7 dX6_allows_12
set_option maxRecDepth 100000 in
theorem c_X6_allows {l : Launch} (hfl : l.stackTraces = false) (D : va_G) (cA : Nat → ClassId) {o : Nat} {p0 : Int32} {h : fSt} {r : (Int32 × fSt)} (hf : f_X6_allows o p0 h = some r) : fMet l yX6_allows (wsC yX6_allows cX6_allows 2 (some (.boolean))) (1) (22) D cA [.ref o, .int p0] h r.2 (some (.int r.1)) := by
  exact fMet.of (own := RX6) (by decide +kernel) rfl (lva1 rfl (lva1 rfl lva0)) (lgl1 rfl (lgl1 rfl lgl0)) (Nat.le_of_ble_eq_true rfl) (fun p e s m args below meth c ls hnm _ M hC hl => by
    have hl : lv_has ls 2 [(0, va_rf (some o)), (1, .int p0)] := hl
    exact w_X6_allows_L0 M hfl _ _ _ hf _ _ _ _ _ hC (lv_sub hl [0, 1] rfl))
set_option maxHeartbeats 4000000 in
set_option maxRecDepth 100000 in
theorem w_X6_keyAt_L23 {p : Program} {l : Launch} {e : Env} {s : State} {m : MethodId} {args : Array Value} {below : List Frame} {meth : Method} {c : Code} {D : va_G} {cA : Nat → ClassId} {h0 : fSt} {r : (Option Nat × fSt)} (M : fM p s m args meth c D cA h0 { frames := 1, cells := fCB h0 - fZ h0, slots := fLB h0 - fL h0, locals := 23 } cX6_keyAt 3 (some (.object "TapestryScene$Key")) RX6) (hfl : l.stackTraces = false) (s0 : Option Nat) (h : fSt) (hf : f_X6_keyAt_L23 s0 h = some r) : ∀ (H : Heap) (locs : List Loc) (cells slots : Nat) (ls : Array Slot), fCur D cA s h0 h H locs → lv_has ls 3 [] → W p l e { frames := 1, cells := fCB h0 - fZ h0, slots := fLB h0 - fL h0, locals := 23 } s m args below meth c H locs cells slots (MQ below (fQ D cA h0 r.2 (some (va_rf r.1))) args s (fCB h0 - fZ h0) (fLB h0 - fL h0) (fA h0)) (F0 m 23 ls [va_rf s0]) := by
  obtain ⟨hx, hb, hml, hr, hlocks, hts, hown, K, hR⟩ := id M
  intro H locs cells slots ls hC hl
  obtain rfl := Option.some.inj hf
  exact fr_aret hx hb hr (Or.inl ⟨_, rfl⟩) hlocks hC dX6_keyAt_23
set_option maxHeartbeats 4000000 in
set_option maxRecDepth 100000 in
theorem w_X6_keyAt_L18 {p : Program} {l : Launch} {e : Env} {s : State} {m : MethodId} {args : Array Value} {below : List Frame} {meth : Method} {c : Code} {D : va_G} {cA : Nat → ClassId} {h0 : fSt} {r : (Option Nat × fSt)} (M : fM p s m args meth c D cA h0 { frames := 1, cells := fCB h0 - fZ h0, slots := fLB h0 - fL h0, locals := 23 } cX6_keyAt 3 (some (.object "TapestryScene$Key")) RX6) (hfl : l.stackTraces = false)  (h : fSt) (hf : f_X6_keyAt_L18  h = some r) : ∀ (H : Heap) (locs : List Loc) (cells slots : Nat) (ls : Array Slot), fCur D cA s h0 h H locs → lv_has ls 3 [] → W p l e { frames := 1, cells := fCB h0 - fZ h0, slots := fLB h0 - fL h0, locals := 23 } s m args below meth c H locs cells slots (MQ below (fQ D cA h0 r.2 (some (va_rf r.1))) args s (fCB h0 - fZ h0) (fLB h0 - fL h0) (fA h0)) (F0 m 18 ls []) := by
  obtain ⟨hx, hb, hml, hr, hlocks, hts, hown, K, hR⟩ := id M
  intro H locs cells slots ls hC hl
  refine fr_null hx hb dX6_keyAt_18 ?_
  refine lv_goto (tgt := 23) hx hb dX6_keyAt_19 (by decide) ?_
  exact w_X6_keyAt_L23 M hfl _ _ hf _ _ _ _ _ hC (lv_sub hl [] rfl)
set_option maxHeartbeats 4000000 in
set_option maxRecDepth 100000 in
theorem w_X6_keyAt_L0 {p : Program} {l : Launch} {e : Env} {s : State} {m : MethodId} {args : Array Value} {below : List Frame} {meth : Method} {c : Code} {D : va_G} {cA : Nat → ClassId} {h0 : fSt} {r : (Option Nat × fSt)} (M : fM p s m args meth c D cA h0 { frames := 1, cells := fCB h0 - fZ h0, slots := fLB h0 - fL h0, locals := 23 } cX6_keyAt 3 (some (.object "TapestryScene$Key")) RX6) (hfl : l.stackTraces = false) (a0 : Option Nat) (a1 : Int32) (h : fSt) (hf : f_X6_keyAt_L0 a0 a1 h = some r) : ∀ (H : Heap) (locs : List Loc) (cells slots : Nat) (ls : Array Slot), fCur D cA s h0 h H locs → lv_has ls 3 [(0, va_rf a0), (1, .int a1)] → W p l e { frames := 1, cells := fCB h0 - fZ h0, slots := fLB h0 - fL h0, locals := 23 } s m args below meth c H locs cells slots (MQ below (fQ D cA h0 r.2 (some (va_rf r.1))) args s (fCB h0 - fZ h0) (fLB h0 - fL h0) (fA h0)) (F0 m 0 ls []) := by
  obtain ⟨hx, hb, hml, hr, hlocks, hts, hown, K, hR⟩ := id M
  intro H locs cells slots ls hC hl
  refine fr_aload_n hx hb dX6_keyAt_0 rfl (lv_at hl 0 rfl) ?_
  refine lv_iload_n hx hb dX6_keyAt_1 rfl (lv_at hl 1 rfl) ?_
  obtain ⟨b3, q4, hf⟩ := obind hf
  obtain ⟨r1, g2, hf⟩ := obind hf
  refine fr_callV hx hb hml hts hown K hC hR ct_6 (c_X6_lastKeyUpTo hfl D cA g2) 1 q4 kw373 kw370 kw372 kw2 kw57 (by decide +kernel) ⟨by exact Nat.le_of_ble_eq_true rfl, by exact Nat.le_of_ble_eq_true rfl⟩ rfl hl.1 (cat8 _ (by exact Nat.le_of_ble_eq_true rfl)) dX6_keyAt_2 rfl (fun H locs _ _ hC => ?_)
  refine fr_astore_n (lv' := [(2, va_rf r1.1), (0, va_rf a0), (1, .int a1)]) hx hb dX6_keyAt_5 rfl hl (by decide) (congrArg (List.cons _) (flk rfl (flk rfl fln))) (fun ls hl => ?_)
  refine fr_aload_n hx hb dX6_keyAt_6 rfl (lv_at hl 0 rfl) ?_
  refine fr_ifnull (tgt := 18) hx hb dX6_keyAt_7 (by decide) (fun c5 => ?_) (fun c5 => ?_)
  · replace hf := opos c5 hf
    exact w_X6_keyAt_L18 M hfl _ hf _ _ _ _ _ hC (lv_sub hl [] rfl)
  · replace hf := oneg c5 hf
    refine fr_aload_n hx hb dX6_keyAt_10 rfl (lv_at hl 0 rfl) ?_
    obtain ⟨x6, g7, hf⟩ := obind hf
    refine fr_get hx hb hts hown K hC ct_3 (fgI_get g7) (by decide) kw796 rfl dX6_keyAt_11 ?_
    refine lv_iload_n hx hb dX6_keyAt_14 rfl (lv_at hl 2 rfl) ?_
    refine lv_icmp_eq (tgt := 22) hx hb dX6_keyAt_15 (by decide) (fun c8 => ?_) (fun c8 => ?_)
    · replace hf := opos c8 hf
      refine fr_aload_n hx hb dX6_keyAt_22 rfl (lv_at hl 0 rfl) ?_
      exact w_X6_keyAt_L23 M hfl _ _ hf _ _ _ _ _ hC (lv_sub hl [] rfl)
    · replace hf := oneg c8 hf
      exact w_X6_keyAt_L18 M hfl _ hf _ _ _ _ _ hC (lv_sub hl [] rfl)
set_option maxRecDepth 100000 in
theorem c_X6_keyAt {l : Launch} (hfl : l.stackTraces = false) (D : va_G) (cA : Nat → ClassId) {o : Nat} {p0 : Int32} {h : fSt} {r : (Option Nat × fSt)} (hf : f_X6_keyAt o p0 h = some r) : fMet l yX6_keyAt (wsC yX6_keyAt cX6_keyAt 3 (some (.object "TapestryScene$Key"))) (1) (23) D cA [.ref o, .int p0] h r.2 (some (va_rf r.1)) := by
  exact fMet.of (own := RX6) (by decide +kernel) rfl (lva1 rfl (lva1 rfl lva0)) (lgl1 rfl (lgl1 rfl lgl0)) (Nat.le_of_ble_eq_true rfl) (fun p e s m args below meth c ls hnm _ M hC hl => by
    have hl : lv_has ls 3 [(0, va_rf (some o)), (1, .int p0)] := hl
    exact w_X6_keyAt_L0 M hfl _ _ _ hf _ _ _ _ _ hC (lv_sub hl [0, 1] rfl))
set_option maxHeartbeats 4000000 in
set_option maxRecDepth 100000 in
theorem w_X3_init_L0 {p : Program} {l : Launch} {e : Env} {s : State} {m : MethodId} {args : Array Value} {below : List Frame} {meth : Method} {c : Code} {D : va_G} {cA : Nat → ClassId} {h0 : fSt} {r : (Unit × fSt)} (M : fM p s m args meth c D cA h0 { frames := 1, cells := fCB h0 - fZ h0, slots := fLB h0 - fL h0, locals := 20 } cX3_init 3 none RX3) (hfl : l.stackTraces = false) (hnm : meth.name = "<init>") (a0 : Option Nat) (a1 : Int32) (a2 : Int32) (h : fSt) (hf : f_X3_init_L0 a0 a1 a2 h = some r) : ∀ (H : Heap) (locs : List Loc) (cells slots : Nat) (ls : Array Slot), fCur D cA s h0 h H locs → lv_has ls 3 [(0, va_rf a0), (1, .int a1), (2, .int a2)] → W p l e { frames := 1, cells := fCB h0 - fZ h0, slots := fLB h0 - fL h0, locals := 20 } s m args below meth c H locs cells slots (MQ below (fQ D cA h0 r.2 none) args s (fCB h0 - fZ h0) (fLB h0 - fL h0) (fA h0)) (F0 m 0 ls []) := by
  obtain ⟨hx, hb, hml, hr, hlocks, hts, hown, K, hR⟩ := id M
  intro H locs cells slots ls hC hl
  refine fr_aload_n hx hb dX3_init_0 rfl (lv_at hl 0 rfl) ?_
  obtain ⟨b1, q2, hf⟩ := obind hf
  refine fr_objInit hx hb hml hts hown kw794 kw78 kw79 hl.1 (fobj_inv q2).1 dX3_init_1 (by exact Nat.le_of_ble_eq_true rfl) (catL _ _ (by exact Nat.le_of_ble_eq_true rfl) (by exact Nat.le_of_ble_eq_true rfl)) ?_
  refine fr_aload_n hx hb dX3_init_4 rfl (lv_at hl 0 rfl) ?_
  refine lv_iload_n hx hb dX3_init_5 rfl (lv_at hl 1 rfl) ?_
  obtain ⟨h3, g4, hf⟩ := obind hf
  refine fr_putF hx hb hts hown K hC ct_3 g4 (by decide) kw795 rfl rfl hnm rfl rfl rfl dX3_init_6 (fun H locs hC => ?_)
  refine fr_aload_n hx hb dX3_init_9 rfl (lv_at hl 0 rfl) ?_
  refine lv_iload_n hx hb dX3_init_10 rfl (lv_at hl 2 rfl) ?_
  obtain ⟨h5, g6, hf⟩ := obind hf
  refine fr_put hx hb hts hown K hC ct_3 g6 (by decide) kw797 rfl rfl rfl rfl dX3_init_11 (fun H locs hC => ?_)
  obtain rfl := Option.some.inj hf
  exact fr_vret hx hb hr hlocks hC dX3_init_14
set_option maxRecDepth 100000 in
theorem c_X3_init {l : Launch} (hfl : l.stackTraces = false) (D : va_G) (cA : Nat → ClassId) {o : Nat} {p0 : Int32} {p1 : Int32} {h : fSt} {r : (Unit × fSt)} (hf : f_X3_init o p0 p1 h = some r) : fMet l yX3_init (wsC yX3_init cX3_init 3 none) (1) (20) D cA [.ref o, .int p0, .int p1] h r.2 none := by
  exact fMet.of (own := RX3) (by decide +kernel) rfl (lva1 rfl (lva1 rfl (lva1 rfl lva0))) (lgl1 rfl (lgl1 rfl (lgl1 rfl lgl0))) (Nat.le_of_ble_eq_true rfl) (fun p e s m args below meth c ls hnm _ M hC hl => by
    have hl : lv_has ls 3 [(0, va_rf (some o)), (1, .int p0), (2, .int p1)] := hl
    exact w_X3_init_L0 M hfl (show meth.name = "<init>" from hnm) _ _ _ _ hf _ _ _ _ _ hC (lv_sub hl [0, 1, 2] rfl))
set_option maxHeartbeats 4000000 in
set_option maxRecDepth 100000 in
theorem w_X6_putKey_L72 {p : Program} {l : Launch} {e : Env} {s : State} {m : MethodId} {args : Array Value} {below : List Frame} {meth : Method} {c : Code} {D : va_G} {cA : Nat → ClassId} {h0 : fSt} {r : (Unit × fSt)} (M : fM p s m args meth c D cA h0 { frames := 2, cells := fCB h0 - fZ h0, slots := fLB h0 - fL h0, locals := 42 } cX6_putKey 5 none RX6) (hfl : l.stackTraces = false) (a0 : Option Nat) (h : fSt) (hf : f_X6_putKey_L72 a0 h = some r) : ∀ (H : Heap) (locs : List Loc) (cells slots : Nat) (ls : Array Slot), fCur D cA s h0 h H locs → lv_has ls 5 [(0, va_rf a0)] → W p l e { frames := 2, cells := fCB h0 - fZ h0, slots := fLB h0 - fL h0, locals := 42 } s m args below meth c H locs cells slots (MQ below (fQ D cA h0 r.2 none) args s (fCB h0 - fZ h0) (fLB h0 - fL h0) (fA h0)) (F0 m 72 ls []) := by
  obtain ⟨hx, hb, hml, hr, hlocks, hts, hown, K, hR⟩ := id M
  intro H locs cells slots ls hC hl
  refine fr_aload_n hx hb dX6_putKey_72 rfl (lv_at hl 0 rfl) ?_
  refine lv_dup hx hb dX6_putKey_73 (va_rf_cat _) ?_
  obtain ⟨x1, g2, hf⟩ := obind hf
  refine fr_get hx hb hts hown K hC ct_6 (fgI_get g2) (by decide) kw107 rfl dX6_putKey_74 ?_
  refine lv_iconst (v := (1 : Int32)) hx hb dX6_putKey_77 (by decide) ?_
  refine lv_iadd hx hb dX6_putKey_78 ?_
  obtain ⟨h3, g4, hf⟩ := obind hf
  refine fr_put hx hb hts hown K hC ct_6 g4 (by decide) kw107 rfl rfl rfl rfl dX6_putKey_79 (fun H locs hC => ?_)
  obtain rfl := Option.some.inj hf
  exact fr_vret hx hb hr hlocks hC dX6_putKey_82
set_option maxHeartbeats 4000000 in
set_option maxRecDepth 100000 in
theorem w_X6_putKey_L24 {p : Program} {l : Launch} {e : Env} {s : State} {m : MethodId} {args : Array Value} {below : List Frame} {meth : Method} {c : Code} {D : va_G} {cA : Nat → ClassId} {h0 : fSt} {r : (Unit × fSt)} (M : fM p s m args meth c D cA h0 { frames := 2, cells := fCB h0 - fZ h0, slots := fLB h0 - fL h0, locals := 42 } cX6_putKey 5 none RX6) (hfl : l.stackTraces = false) (a0 : Option Nat) (a1 : Int32) (a2 : Int32) (a3 : Option Nat) (h : fSt) (hf : f_X6_putKey_L24 a0 a1 a2 a3 h = some r) : ∀ (H : Heap) (locs : List Loc) (cells slots : Nat) (ls : Array Slot), fCur D cA s h0 h H locs → lv_has ls 5 [(0, va_rf a0), (1, .int a1), (2, .int a2), (3, va_rf a3)] → W p l e { frames := 2, cells := fCB h0 - fZ h0, slots := fLB h0 - fL h0, locals := 42 } s m args below meth c H locs cells slots (MQ below (fQ D cA h0 r.2 none) args s (fCB h0 - fZ h0) (fLB h0 - fL h0) (fA h0)) (F0 m 24 ls []) := by
  obtain ⟨hx, hb, hml, hr, hlocks, hts, hown, K, hR⟩ := id M
  intro H locs cells slots ls hC hl
  obtain ⟨r5, g6, hf⟩ := obind hf
  refine fr_new hx hb hts hown K hC ct_3 hR g6 dv_3 kw789 kw790 kw71 dX6_putKey_24 (fun H _ _ hC => ?_)
  refine lv_dup hx hb dX6_putKey_27 (va_rf_cat _) ?_
  refine lv_iload_n hx hb dX6_putKey_28 rfl (lv_at hl 1 rfl) ?_
  refine lv_iload_n hx hb dX6_putKey_29 rfl (lv_at hl 2 rfl) ?_
  obtain ⟨r7, g8, hf⟩ := obind hf
  refine fr_callI hx hb hml hts hown K hC hR (c_X3_init hfl D cA g8) 2 kw793 kw791 kw792 kw71 rfl (by decide +kernel) ⟨by exact Nat.le_of_ble_eq_true rfl, by exact Nat.le_of_ble_eq_true rfl⟩ rfl hl.1 (cat8 _ (by exact Nat.le_of_ble_eq_true rfl)) dX6_putKey_30 rfl (fun H locs _ _ hC => ?_)
  refine fr_astore (lv' := [(4, va_rf (some r5.1)), (0, va_rf a0), (1, .int a1), (2, .int a2), (3, va_rf a3)]) hx hb dX6_putKey_33 hl (by decide) (congrArg (List.cons _) (flk rfl (flk rfl (flk rfl (flk (adj1 _ _) fln))))) (fun ls hl => ?_)
  refine fr_aload_n hx hb dX6_putKey_35 rfl (lv_at hl 4 rfl) ?_
  refine fr_ifnonnull (tgt := 57) hx hb dX6_putKey_36 (by decide) (fun c9 => ?_) (fun c9 => ?_)
  · replace hf := oneg c9 hf
    refine fr_aload hx hb dX6_putKey_57 (lv_at hl 0 rfl) ?_
    refine fr_aload_n hx hb dX6_putKey_59 rfl (lv_at hl 4 rfl) ?_
    obtain ⟨x10, g11, hf⟩ := obind hf
    refine fr_get hx hb hts hown K hC ct_3 (fgR_get g11) (by decide) kw800 rfl dX6_putKey_60 ?_
    obtain ⟨h12, g13, hf⟩ := obind hf
    refine fr_put hx hb hts hown K hC ct_3 g13 (by decide) kw800 rfl rfl (nR _ _) (fR _ _) dX6_putKey_63 (fun H locs hC => ?_)
    refine fr_aload_n hx hb dX6_putKey_66 rfl (lv_at hl 4 rfl) ?_
    refine fr_aload hx hb dX6_putKey_67 (lv_at hl 0 rfl) ?_
    obtain ⟨h14, g15, hf⟩ := obind hf
    refine fr_put hx hb hts hown K hC ct_3 g15 (by decide) kw800 rfl rfl (nR _ _) (fR _ _) dX6_putKey_69 (fun H locs hC => ?_)
    exact w_X6_putKey_L72 M hfl _ _ hf _ _ _ _ _ hC (lv_sub hl [1] rfl)
  · replace hf := opos c9 hf
    refine fr_aload hx hb dX6_putKey_39 (lv_at hl 0 rfl) ?_
    refine fr_aload_n hx hb dX6_putKey_41 rfl (lv_at hl 1 rfl) ?_
    obtain ⟨x16, g17, hf⟩ := obind hf
    refine fr_get hx hb hts hown K hC ct_6 (fgR_get g17) (by decide) kw106 rfl dX6_putKey_42 ?_
    obtain ⟨h18, g19, hf⟩ := obind hf
    refine fr_put hx hb hts hown K hC ct_3 g19 (by decide) kw800 rfl rfl (nR _ _) (fR _ _) dX6_putKey_45 (fun H locs hC => ?_)
    refine fr_aload_n hx hb dX6_putKey_48 rfl (lv_at hl 1 rfl) ?_
    refine fr_aload hx hb dX6_putKey_49 (lv_at hl 0 rfl) ?_
    obtain ⟨h20, g21, hf⟩ := obind hf
    refine fr_put hx hb hts hown K hC ct_6 g21 (by decide) kw106 rfl rfl (nR _ _) (fR _ _) dX6_putKey_51 (fun H locs hC => ?_)
    refine lv_goto (tgt := 72) hx hb dX6_putKey_54 (by decide) ?_
    exact w_X6_putKey_L72 M hfl _ _ hf _ _ _ _ _ hC (lv_sub hl [1] rfl)
set_option maxHeartbeats 4000000 in
set_option maxRecDepth 100000 in
theorem w_X6_putKey_L0 {p : Program} {l : Launch} {e : Env} {s : State} {m : MethodId} {args : Array Value} {below : List Frame} {meth : Method} {c : Code} {D : va_G} {cA : Nat → ClassId} {h0 : fSt} {r : (Unit × fSt)} (M : fM p s m args meth c D cA h0 { frames := 2, cells := fCB h0 - fZ h0, slots := fLB h0 - fL h0, locals := 42 } cX6_putKey 5 none RX6) (hfl : l.stackTraces = false) (a0 : Option Nat) (a1 : Int32) (a2 : Int32) (h : fSt) (hf : f_X6_putKey_L0 a0 a1 a2 h = some r) : ∀ (H : Heap) (locs : List Loc) (cells slots : Nat) (ls : Array Slot), fCur D cA s h0 h H locs → lv_has ls 5 [(0, va_rf a0), (1, .int a1), (2, .int a2)] → W p l e { frames := 2, cells := fCB h0 - fZ h0, slots := fLB h0 - fL h0, locals := 42 } s m args below meth c H locs cells slots (MQ below (fQ D cA h0 r.2 none) args s (fCB h0 - fZ h0) (fLB h0 - fL h0) (fA h0)) (F0 m 0 ls []) := by
  obtain ⟨hx, hb, hml, hr, hlocks, hts, hown, K, hR⟩ := id M
  intro H locs cells slots ls hC hl
  refine fr_aload_n hx hb dX6_putKey_0 rfl (lv_at hl 0 rfl) ?_
  refine lv_iload_n hx hb dX6_putKey_1 rfl (lv_at hl 1 rfl) ?_
  obtain ⟨b24, q25, hf⟩ := obind hf
  obtain ⟨r22, g23, hf⟩ := obind hf
  refine fr_callV hx hb hml hts hown K hC hR ct_6 (c_X6_lastKeyUpTo hfl D cA g23) 1 q25 kw373 kw370 kw372 kw2 kw57 (by decide +kernel) ⟨by exact Nat.le_of_ble_eq_true rfl, by exact Nat.le_of_ble_eq_true rfl⟩ rfl hl.1 (cat8 _ (by exact Nat.le_of_ble_eq_true rfl)) dX6_putKey_2 rfl (fun H locs _ _ hC => ?_)
  refine fr_astore_n (lv' := [(3, va_rf r22.1), (0, va_rf a0), (1, .int a1), (2, .int a2)]) hx hb dX6_putKey_5 rfl hl (by decide) (congrArg (List.cons _) (flk rfl (flk rfl (flk rfl fln)))) (fun ls hl => ?_)
  refine fr_aload_n hx hb dX6_putKey_6 rfl (lv_at hl 0 rfl) ?_
  refine fr_ifnull (tgt := 24) hx hb dX6_putKey_7 (by decide) (fun c26 => ?_) (fun c26 => ?_)
  · replace hf := opos c26 hf
    exact w_X6_putKey_L24 M hfl _ _ _ _ _ hf _ _ _ _ _ hC (lv_sub hl [1, 2, 3, 0] rfl)
  · replace hf := oneg c26 hf
    refine fr_aload_n hx hb dX6_putKey_10 rfl (lv_at hl 0 rfl) ?_
    obtain ⟨x27, g28, hf⟩ := obind hf
    refine fr_get hx hb hts hown K hC ct_3 (fgI_get g28) (by decide) kw796 rfl dX6_putKey_11 ?_
    refine lv_iload_n hx hb dX6_putKey_14 rfl (lv_at hl 2 rfl) ?_
    refine lv_icmp_ne (tgt := 24) hx hb dX6_putKey_15 (by decide) (fun c29 => ?_) (fun c29 => ?_)
    · replace hf := oneg c29 hf
      exact w_X6_putKey_L24 M hfl _ _ _ _ _ hf _ _ _ _ _ hC (lv_sub hl [1, 2, 3, 0] rfl)
    · replace hf := opos c29 hf
      refine fr_aload_n hx hb dX6_putKey_18 rfl (lv_at hl 0 rfl) ?_
      refine lv_iload_n hx hb dX6_putKey_19 rfl (lv_at hl 3 rfl) ?_
      obtain ⟨h30, g31, hf⟩ := obind hf
      refine fr_put hx hb hts hown K hC ct_3 g31 (by decide) kw798 rfl rfl rfl rfl dX6_putKey_20 (fun H locs hC => ?_)
      obtain rfl := Option.some.inj hf
      exact fr_vret hx hb hr hlocks hC dX6_putKey_23
set_option maxRecDepth 100000 in
theorem c_X6_putKey {l : Launch} (hfl : l.stackTraces = false) (D : va_G) (cA : Nat → ClassId) {o : Nat} {p0 : Int32} {p1 : Int32} {h : fSt} {r : (Unit × fSt)} (hf : f_X6_putKey o p0 p1 h = some r) : fMet l yX6_putKey (wsC yX6_putKey cX6_putKey 5 none) (2) (42) D cA [.ref o, .int p0, .int p1] h r.2 none := by
  exact fMet.of (own := RX6) (by decide +kernel) rfl (lva1 rfl (lva1 rfl (lva1 rfl lva0))) (lgl1 rfl (lgl1 rfl (lgl1 rfl lgl0))) (Nat.le_of_ble_eq_true rfl) (fun p e s m args below meth c ls hnm _ M hC hl => by
    have hl : lv_has ls 5 [(0, va_rf (some o)), (1, .int p0), (2, .int p1)] := hl
    exact w_X6_putKey_L0 M hfl _ _ _ _ hf _ _ _ _ _ hC (lv_sub hl [0, 1, 2] rfl))
set_option maxHeartbeats 4000000 in
set_option maxRecDepth 100000 in
theorem w_X7_foundTrack_L23 {p : Program} {l : Launch} {e : Env} {s : State} {m : MethodId} {args : Array Value} {below : List Frame} {meth : Method} {c : Code} {D : va_G} {cA : Nat → ClassId} {h0 : fSt} {r : ((Option Nat ⊕ Nat) × fSt)} (M : fM p s m args meth c D cA h0 { frames := 6, cells := fCB h0 - fZ h0, slots := fLB h0 - fL h0, locals := 90 } cX7_foundTrack 3 (some (.object "TapestryScene$Property")) RX7) (hfl : l.stackTraces = false) (hno : ∀ x ∈ c.exceptionTable.toList, False) (s0 : Option Nat) (h : fSt) (hf : f_X7_foundTrack_L23 s0 h = some r) : ∀ (H : Heap) (locs : List Loc) (cells slots : Nat) (ls : Array Slot), fCur D cA s h0 h H locs → lv_has ls 3 [] → W p l e { frames := 6, cells := fCB h0 - fZ h0, slots := fLB h0 - fL h0, locals := 90 } s m args below meth c H locs cells slots (vx_MQ below (fQX D cA h0 r.2 (rR r.1)) (fXC D cA h0 r.2 (rR r.1)) args s (fCB h0 - fZ h0) (fLB h0 - fL h0) (fA h0)) (F0 m 23 ls [va_rf s0]) := by
  obtain ⟨hx, hb, hml, hr, hlocks, hts, hown, K, hR⟩ := id M
  intro H locs cells slots ls hC hl
  refine fr_astore_n (lv' := [(2, va_rf s0)]) hx hb dX7_foundTrack_23 rfl hl (by decide) (congrArg (List.cons _) fln) (fun ls hl => ?_)
  refine fr_aload_n hx hb dX7_foundTrack_24 rfl (lv_at hl 0 rfl) ?_
  refine fr_ifnonnull (tgt := 39) hx hb dX7_foundTrack_25 (by decide) (fun c1 => ?_) (fun c1 => ?_)
  · replace hf := oneg c1 hf
    refine fr_aload_n hx hb dX7_foundTrack_39 rfl (lv_at hl 0 rfl) ?_
    obtain rfl := Option.some.inj hf
    exact fr_retQ (fr_aret hx hb hr (Or.inl ⟨_, rfl⟩) hlocks hC dX7_foundTrack_40)
  · replace hf := opos c1 hf
    obtain ⟨h2, g3, hf⟩ := obind hf
    obtain rfl := Option.some.inj hf
    exact fr_throwSW hx hb hml hts hfl hown K hC hR th_RX7_290_294_0 st_RX7_347 hl.1 dX7_foundTrack_28 dX7_foundTrack_31 dX7_foundTrack_32 dX7_foundTrack_35 dX7_foundTrack_38 hno (by exact Nat.le_of_ble_eq_true rfl) (catL _ _ (by exact Nat.le_of_ble_eq_true rfl) (by exact Nat.le_of_ble_eq_true rfl)) hlocks g3
set_option maxHeartbeats 4000000 in
set_option maxRecDepth 100000 in
theorem w_X7_foundTrack_L13 {p : Program} {l : Launch} {e : Env} {s : State} {m : MethodId} {args : Array Value} {below : List Frame} {meth : Method} {c : Code} {D : va_G} {cA : Nat → ClassId} {h0 : fSt} {r : ((Option Nat ⊕ Nat) × fSt)} (M : fM p s m args meth c D cA h0 { frames := 6, cells := fCB h0 - fZ h0, slots := fLB h0 - fL h0, locals := 90 } cX7_foundTrack 3 (some (.object "TapestryScene$Property")) RX7) (hfl : l.stackTraces = false) (hno : ∀ x ∈ c.exceptionTable.toList, False)  (h : fSt) (hf : f_X7_foundTrack_L13  h = some r) : ∀ (H : Heap) (locs : List Loc) (cells slots : Nat) (ls : Array Slot), fCur D cA s h0 h H locs → lv_has ls 3 [] → W p l e { frames := 6, cells := fCB h0 - fZ h0, slots := fLB h0 - fL h0, locals := 90 } s m args below meth c H locs cells slots (vx_MQ below (fQX D cA h0 r.2 (rR r.1)) (fXC D cA h0 r.2 (rR r.1)) args s (fCB h0 - fZ h0) (fLB h0 - fL h0) (fA h0)) (F0 m 13 ls []) := by
  obtain ⟨hx, hb, hml, hr, hlocks, hts, hown, K, hR⟩ := id M
  intro H locs cells slots ls hC hl
  refine fr_null hx hb dX7_foundTrack_13 ?_
  refine lv_goto (tgt := 23) hx hb dX7_foundTrack_14 (by decide) ?_
  exact w_X7_foundTrack_L23 M hfl hno _ _ hf _ _ _ _ _ hC (lv_sub hl [] rfl)
set_option maxHeartbeats 4000000 in
set_option maxRecDepth 100000 in
theorem w_X7_foundTrack_L0 {p : Program} {l : Launch} {e : Env} {s : State} {m : MethodId} {args : Array Value} {below : List Frame} {meth : Method} {c : Code} {D : va_G} {cA : Nat → ClassId} {h0 : fSt} {r : ((Option Nat ⊕ Nat) × fSt)} (M : fM p s m args meth c D cA h0 { frames := 6, cells := fCB h0 - fZ h0, slots := fLB h0 - fL h0, locals := 90 } cX7_foundTrack 3 (some (.object "TapestryScene$Property")) RX7) (hfl : l.stackTraces = false) (hno : ∀ x ∈ c.exceptionTable.toList, False) (a0 : Option Nat) (a1 : Int32) (h : fSt) (hf : f_X7_foundTrack_L0 a0 a1 h = some r) : ∀ (H : Heap) (locs : List Loc) (cells slots : Nat) (ls : Array Slot), fCur D cA s h0 h H locs → lv_has ls 3 [(0, va_rf a0), (1, .int a1)] → W p l e { frames := 6, cells := fCB h0 - fZ h0, slots := fLB h0 - fL h0, locals := 90 } s m args below meth c H locs cells slots (vx_MQ below (fQX D cA h0 r.2 (rR r.1)) (fXC D cA h0 r.2 (rR r.1)) args s (fCB h0 - fZ h0) (fLB h0 - fL h0) (fA h0)) (F0 m 0 ls []) := by
  obtain ⟨hx, hb, hml, hr, hlocks, hts, hown, K, hR⟩ := id M
  intro H locs cells slots ls hC hl
  refine lv_iload_n hx hb dX7_foundTrack_0 rfl (lv_at hl 1 rfl) ?_
  refine lv_if_lt (tgt := 13) hx hb dX7_foundTrack_1 (by decide) (fun c4 => ?_) (fun c4 => ?_)
  · replace hf := opos c4 hf
    exact w_X7_foundTrack_L13 M hfl hno _ hf _ _ _ _ _ hC (lv_sub hl [] rfl)
  · replace hf := oneg c4 hf
    refine lv_iload_n hx hb dX7_foundTrack_4 rfl (lv_at hl 1 rfl) ?_
    refine fr_aload_n hx hb dX7_foundTrack_5 rfl (lv_at hl 0 rfl) ?_
    obtain ⟨x5, g6, hf⟩ := obind hf
    refine fr_get hx hb hts hown K hC ct_7 (fgR_get g6) (by decide) kw291 rfl dX7_foundTrack_6 ?_
    obtain ⟨x7, g8, hf⟩ := obind hf
    refine fr_alen hx hb K hC (t := 5) rfl g8 dX7_foundTrack_9 ?_
    refine lv_icmp_lt (tgt := 17) hx hb dX7_foundTrack_10 (by decide) (fun c9 => ?_) (fun c9 => ?_)
    · replace hf := opos c9 hf
      refine fr_aload_n hx hb dX7_foundTrack_17 rfl (lv_at hl 0 rfl) ?_
      obtain ⟨x10, g11, hf⟩ := obind hf
      refine fr_get hx hb hts hown K hC ct_7 (fgR_get g11) (by decide) kw291 rfl dX7_foundTrack_18 ?_
      refine lv_iload_n hx hb dX7_foundTrack_21 rfl (lv_at hl 1 rfl) ?_
      obtain ⟨x12, g13, hf⟩ := obind hf
      refine fr_aald hx hb K hC (t := 5) rfl g13 dX7_foundTrack_22 ?_
      exact w_X7_foundTrack_L23 M hfl hno _ _ hf _ _ _ _ _ hC (lv_sub hl [] rfl)
    · replace hf := oneg c9 hf
      exact w_X7_foundTrack_L13 M hfl hno _ hf _ _ _ _ _ hC (lv_sub hl [] rfl)
set_option maxRecDepth 100000 in
theorem c_X7_foundTrack {l : Launch} (hfl : l.stackTraces = false) (D : va_G) (cA : Nat → ClassId) {o : Nat} {p0 : Int32} {h : fSt} {r : ((Option Nat ⊕ Nat) × fSt)} (hf : f_X7_foundTrack o p0 h = some r) : fMetX l yX7_foundTrack (wsC yX7_foundTrack cX7_foundTrack 3 (some (.object "TapestryScene$Property"))) (6) (90) D cA [.ref o, .int p0] h r.2 (rR r.1) := by
  exact fMetX.of (own := RX7) (by decide +kernel) rfl (lva1 rfl (lva1 rfl lva0)) (lgl1 rfl (lgl1 rfl lgl0)) (Nat.le_of_ble_eq_true rfl) (fun p e s m args below meth c ls hno M hC hl => by
    have hl : lv_has ls 3 [(0, va_rf (some o)), (1, .int p0)] := hl
    exact w_X7_foundTrack_L0 M hfl hno _ _ _ hf _ _ _ _ _ hC (lv_sub hl [0, 1] rfl))
set_option maxHeartbeats 4000000 in
set_option maxRecDepth 100000 in
theorem w_X7_key_L27 {p : Program} {l : Launch} {e : Env} {s : State} {m : MethodId} {args : Array Value} {below : List Frame} {meth : Method} {c : Code} {D : va_G} {cA : Nat → ClassId} {h0 : fSt} {r : ((Int32 ⊕ Nat) × fSt)} (M : fM p s m args meth c D cA h0 { frames := 7, cells := fCB h0 - fZ h0, slots := fLB h0 - fL h0, locals := 112 } cX7_key 5 (some (.int)) RX7) (hfl : l.stackTraces = false) (hno : ∀ x ∈ c.exceptionTable.toList, False)  (h : fSt) (hf : f_X7_key_L27  h = some r) : ∀ (H : Heap) (locs : List Loc) (cells slots : Nat) (ls : Array Slot), fCur D cA s h0 h H locs → lv_has ls 5 [] → W p l e { frames := 7, cells := fCB h0 - fZ h0, slots := fLB h0 - fL h0, locals := 112 } s m args below meth c H locs cells slots (vx_MQ below (fQX D cA h0 r.2 (rI r.1)) (fXC D cA h0 r.2 (rI r.1)) args s (fCB h0 - fZ h0) (fLB h0 - fL h0) (fA h0)) (F0 m 27 ls []) := by
  obtain ⟨hx, hb, hml, hr, hlocks, hts, hown, K, hR⟩ := id M
  intro H locs cells slots ls hC hl
  obtain ⟨h1, g2, hf⟩ := obind hf
  obtain rfl := Option.some.inj hf
  exact fr_throwS hx hb hml hts hfl hown K hC hR th_RX7_60_64_1 st_RX7_199 hl.1 dX7_key_27 dX7_key_30 dX7_key_31 dX7_key_33 dX7_key_36 hno (by exact Nat.le_of_ble_eq_true rfl) (catL _ _ (by exact Nat.le_of_ble_eq_true rfl) (by exact Nat.le_of_ble_eq_true rfl)) hlocks g2
set_option maxHeartbeats 4000000 in
set_option maxRecDepth 100000 in
theorem w_X7_key_L64 {p : Program} {l : Launch} {e : Env} {s : State} {m : MethodId} {args : Array Value} {below : List Frame} {meth : Method} {c : Code} {D : va_G} {cA : Nat → ClassId} {h0 : fSt} {r : ((Int32 ⊕ Nat) × fSt)} (M : fM p s m args meth c D cA h0 { frames := 7, cells := fCB h0 - fZ h0, slots := fLB h0 - fL h0, locals := 112 } cX7_key 5 (some (.int)) RX7) (hfl : l.stackTraces = false) (hno : ∀ x ∈ c.exceptionTable.toList, False)  (h : fSt) (hf : f_X7_key_L64  h = some r) : ∀ (H : Heap) (locs : List Loc) (cells slots : Nat) (ls : Array Slot), fCur D cA s h0 h H locs → lv_has ls 5 [] → W p l e { frames := 7, cells := fCB h0 - fZ h0, slots := fLB h0 - fL h0, locals := 112 } s m args below meth c H locs cells slots (vx_MQ below (fQX D cA h0 r.2 (rI r.1)) (fXC D cA h0 r.2 (rI r.1)) args s (fCB h0 - fZ h0) (fLB h0 - fL h0) (fA h0)) (F0 m 64 ls []) := by
  obtain ⟨hx, hb, hml, hr, hlocks, hts, hown, K, hR⟩ := id M
  intro H locs cells slots ls hC hl
  obtain ⟨h3, g4, hf⟩ := obind hf
  obtain rfl := Option.some.inj hf
  exact fr_throwS hx hb hml hts hfl hown K hC hR th_RX7_73_77_2 st_RX7_211 hl.1 dX7_key_64 dX7_key_67 dX7_key_68 dX7_key_70 dX7_key_73 hno (by exact Nat.le_of_ble_eq_true rfl) (catL _ _ (by exact Nat.le_of_ble_eq_true rfl) (by exact Nat.le_of_ble_eq_true rfl)) hlocks g4
set_option maxHeartbeats 4000000 in
set_option maxRecDepth 100000 in
theorem w_X7_key_L74 {p : Program} {l : Launch} {e : Env} {s : State} {m : MethodId} {args : Array Value} {below : List Frame} {meth : Method} {c : Code} {D : va_G} {cA : Nat → ClassId} {h0 : fSt} {r : ((Int32 ⊕ Nat) × fSt)} (M : fM p s m args meth c D cA h0 { frames := 7, cells := fCB h0 - fZ h0, slots := fLB h0 - fL h0, locals := 112 } cX7_key 5 (some (.int)) RX7) (hfl : l.stackTraces = false) (hno : ∀ x ∈ c.exceptionTable.toList, False) (a2 : Int32) (a3 : Int32) (a4 : Option Nat) (h : fSt) (hf : f_X7_key_L74 a2 a3 a4 h = some r) : ∀ (H : Heap) (locs : List Loc) (cells slots : Nat) (ls : Array Slot), fCur D cA s h0 h H locs → lv_has ls 5 [(2, .int a2), (3, .int a3), (4, va_rf a4)] → W p l e { frames := 7, cells := fCB h0 - fZ h0, slots := fLB h0 - fL h0, locals := 112 } s m args below meth c H locs cells slots (vx_MQ below (fQX D cA h0 r.2 (rI r.1)) (fXC D cA h0 r.2 (rI r.1)) args s (fCB h0 - fZ h0) (fLB h0 - fL h0) (fA h0)) (F0 m 74 ls []) := by
  obtain ⟨hx, hb, hml, hr, hlocks, hts, hown, K, hR⟩ := id M
  intro H locs cells slots ls hC hl
  refine fr_aload hx hb dX7_key_74 (lv_at hl 2 rfl) ?_
  refine lv_iload_n hx hb dX7_key_76 rfl (lv_at hl 0 rfl) ?_
  refine lv_iload_n hx hb dX7_key_77 rfl (lv_at hl 1 rfl) ?_
  obtain ⟨b7, q8, hf⟩ := obind hf
  obtain ⟨r5, g6, hf⟩ := obind hf
  refine fr_callV hx hb hml hts hown K hC hR ct_6 (c_X6_putKey hfl D cA g6) 2 q8 kw788 kw785 kw786 kw787 kw57 (by decide +kernel) ⟨by exact Nat.le_of_ble_eq_true rfl, by exact Nat.le_of_ble_eq_true rfl⟩ rfl hl.1 (cat8 _ (by exact Nat.le_of_ble_eq_true rfl)) dX7_key_78 rfl (fun H locs _ _ hC => ?_)
  refine fr_aload hx hb dX7_key_81 (lv_at hl 2 rfl) ?_
  obtain ⟨x9, g10, hf⟩ := obind hf
  refine fr_get hx hb hts hown K hC ct_6 (fgI_get g10) (by decide) kw108 rfl dX7_key_83 ?_
  obtain rfl := Option.some.inj hf
  exact fr_retQ (fr_iret hx hb hr hlocks hC dX7_key_86)
set_option maxHeartbeats 4000000 in
set_option maxRecDepth 100000 in
theorem w_X7_key_L0 {p : Program} {l : Launch} {e : Env} {s : State} {m : MethodId} {args : Array Value} {below : List Frame} {meth : Method} {c : Code} {D : va_G} {cA : Nat → ClassId} {h0 : fSt} {r : ((Int32 ⊕ Nat) × fSt)} (M : fM p s m args meth c D cA h0 { frames := 7, cells := fCB h0 - fZ h0, slots := fLB h0 - fL h0, locals := 112 } cX7_key 5 (some (.int)) RX7) (hfl : l.stackTraces = false) (hno : ∀ x ∈ c.exceptionTable.toList, False) (a0 : Option Nat) (a1 : Int32) (a2 : Int32) (a3 : Int32) (h : fSt) (hf : f_X7_key_L0 a0 a1 a2 a3 h = some r) : ∀ (H : Heap) (locs : List Loc) (cells slots : Nat) (ls : Array Slot), fCur D cA s h0 h H locs → lv_has ls 5 [(0, va_rf a0), (1, .int a1), (2, .int a2), (3, .int a3)] → W p l e { frames := 7, cells := fCB h0 - fZ h0, slots := fLB h0 - fL h0, locals := 112 } s m args below meth c H locs cells slots (vx_MQ below (fQX D cA h0 r.2 (rI r.1)) (fXC D cA h0 r.2 (rI r.1)) args s (fCB h0 - fZ h0) (fLB h0 - fL h0) (fA h0)) (F0 m 0 ls []) := by
  obtain ⟨hx, hb, hml, hr, hlocks, hts, hown, K, hR⟩ := id M
  intro H locs cells slots ls hC hl
  refine fr_aload_n hx hb dX7_key_0 rfl (lv_at hl 0 rfl) ?_
  refine lv_iload_n hx hb dX7_key_1 rfl (lv_at hl 1 rfl) ?_
  obtain ⟨b13, q14, hf⟩ := obind hf
  obtain ⟨⟨v15 | k16, h17⟩, g12, hf⟩ := obind hf
  · refine fr_callVX hx hb hml hts hown K hC hR ct_7 (c_X7_foundTrack hfl D cA g12) 1 q14 kw777 kw774 kw776 kw18 kw55 (by decide +kernel) ⟨by exact Nat.le_of_ble_eq_true rfl, by exact Nat.le_of_ble_eq_true rfl⟩ rfl hl.1 (cat8 _ (by exact Nat.le_of_ble_eq_true rfl)) dX7_key_2 rfl (fun H locs _ _ hC => ?_)
    refine fr_astore (lv' := [(4, va_rf v15), (0, va_rf a0), (1, .int a1), (2, .int a2), (3, .int a3)]) hx hb dX7_key_5 hl (by decide) (congrArg (List.cons _) (flk rfl (flk rfl (flk rfl (flk rfl fln))))) (fun ls hl => ?_)
    refine lv_iload_n hx hb dX7_key_7 rfl (lv_at hl 3 rfl) ?_
    refine lv_iconst (v := (0 : Int32)) hx hb dX7_key_8 (by decide) ?_
    refine lv_sipush (v := (999 : Int32)) hx hb dX7_key_9 (by decide) ?_
    obtain ⟨r18, g19, hf⟩ := obind hf
    refine fr_callS hx hb hml hts hown K hC hR (c_X7_isFrom hfl D cA g19) 3 kw492 kw490 kw491 kw55 (by decide +kernel) ⟨by exact Nat.le_of_ble_eq_true rfl, by exact Nat.le_of_ble_eq_true rfl⟩ rfl hl.1 (cat8 _ (by exact Nat.le_of_ble_eq_true rfl)) dX7_key_12 rfl (fun H locs _ _ hC => ?_)
    refine lv_if_eq (tgt := 27) hx hb dX7_key_15 (by decide) (fun c20 => ?_) (fun c20 => ?_)
    · replace hf := opos c20 hf
      exact w_X7_key_L27 M hfl hno _ hf _ _ _ _ _ hC (lv_sub hl [] rfl)
    · replace hf := oneg c20 hf
      refine fr_aload hx hb dX7_key_18 (lv_at hl 0 rfl) ?_
      refine lv_iload_n hx hb dX7_key_20 rfl (lv_at hl 4 rfl) ?_
      obtain ⟨b23, q24, hf⟩ := obind hf
      obtain ⟨r21, g22, hf⟩ := obind hf
      refine fr_callV hx hb hml hts hown K hC hR ct_6 (c_X6_allows hfl D cA g22) 1 q24 kw688 kw685 kw686 kw687 kw57 (by decide +kernel) ⟨by exact Nat.le_of_ble_eq_true rfl, by exact Nat.le_of_ble_eq_true rfl⟩ rfl hl.1 (cat8 _ (by exact Nat.le_of_ble_eq_true rfl)) dX7_key_21 rfl (fun H locs _ _ hC => ?_)
      refine lv_if_ne (tgt := 37) hx hb dX7_key_24 (by decide) (fun c25 => ?_) (fun c25 => ?_)
      · replace hf := oneg c25 hf
        refine fr_aload hx hb dX7_key_37 (lv_at hl 0 rfl) ?_
        obtain ⟨x26, g27, hf⟩ := obind hf
        refine fr_get hx hb hts hown K hC ct_6 (fgI_get g27) (by decide) kw101 rfl dX7_key_39 ?_
        refine lv_if_ne (tgt := 64) hx hb dX7_key_42 (by decide) (fun c28 => ?_) (fun c28 => ?_)
        · replace hf := oneg c28 hf
          exact w_X7_key_L64 M hfl hno _ hf _ _ _ _ _ hC (lv_sub hl [] rfl)
        · replace hf := opos c28 hf
          refine fr_aload hx hb dX7_key_45 (lv_at hl 0 rfl) ?_
          obtain ⟨x29, g30, hf⟩ := obind hf
          refine fr_get hx hb hts hown K hC ct_6 (fgI_get g30) (by decide) kw108 rfl dX7_key_47 ?_
          refine lv_bipush (v := (8 : Int32)) hx hb dX7_key_50 (by decide) ?_
          refine lv_icmp_lt (tgt := 74) hx hb dX7_key_52 (by decide) (fun c31 => ?_) (fun c31 => ?_)
          · replace hf := opos c31 hf
            exact w_X7_key_L74 M hfl hno _ _ _ _ hf _ _ _ _ _ hC (lv_sub hl [3, 4, 0] rfl)
          · replace hf := oneg c31 hf
            refine fr_aload hx hb dX7_key_55 (lv_at hl 0 rfl) ?_
            refine lv_iload_n hx hb dX7_key_57 rfl (lv_at hl 3 rfl) ?_
            obtain ⟨b34, q35, hf⟩ := obind hf
            obtain ⟨r32, g33, hf⟩ := obind hf
            refine fr_callV hx hb hml hts hown K hC hR ct_6 (c_X6_keyAt hfl D cA g33) 1 q35 kw783 kw780 kw781 kw782 kw57 (by decide +kernel) ⟨by exact Nat.le_of_ble_eq_true rfl, by exact Nat.le_of_ble_eq_true rfl⟩ rfl hl.1 (cat8 _ (by exact Nat.le_of_ble_eq_true rfl)) dX7_key_58 rfl (fun H locs _ _ hC => ?_)
            refine fr_ifnonnull (tgt := 74) hx hb dX7_key_61 (by decide) (fun c36 => ?_) (fun c36 => ?_)
            · replace hf := oneg c36 hf
              exact w_X7_key_L74 M hfl hno _ _ _ _ hf _ _ _ _ _ hC (lv_sub hl [3, 4, 0] rfl)
            · replace hf := opos c36 hf
              exact w_X7_key_L64 M hfl hno _ hf _ _ _ _ _ hC (lv_sub hl [] rfl)
      · replace hf := opos c25 hf
        exact w_X7_key_L27 M hfl hno _ hf _ _ _ _ _ hC (lv_sub hl [] rfl)
  · obtain rfl := Option.some.inj hf
    refine fr_callVT hx hb hml hts hown K hC hR ct_7 (c_X7_foundTrack hfl D cA g12) 1 q14 kw777 kw774 kw776 kw18 kw55 (by decide +kernel) ⟨by exact Nat.le_of_ble_eq_true rfl, by exact Nat.le_of_ble_eq_true rfl⟩ rfl hl.1 (cat8 _ (by exact Nat.le_of_ble_eq_true rfl)) dX7_key_2 rfl (fun H locs _ _ q ce hC e1 e2 e3 => ?_)
    exact fr_out (fun x hx9 => (hno x hx9).elim) hlocks hC e1 e2 e3
set_option maxRecDepth 100000 in
theorem c_X7_key {l : Launch} (hfl : l.stackTraces = false) (D : va_G) (cA : Nat → ClassId) {o : Nat} {p0 : Int32} {p1 : Int32} {p2 : Int32} {h : fSt} {r : ((Int32 ⊕ Nat) × fSt)} (hf : f_X7_key o p0 p1 p2 h = some r) : fMetX l yX7_key (wsC yX7_key cX7_key 5 (some (.int))) (7) (112) D cA [.ref o, .int p0, .int p1, .int p2] h r.2 (rI r.1) := by
  exact fMetX.of (own := RX7) (by decide +kernel) rfl (lva1 rfl (lva1 rfl (lva1 rfl (lva1 rfl lva0)))) (lgl1 rfl (lgl1 rfl (lgl1 rfl (lgl1 rfl lgl0)))) (Nat.le_of_ble_eq_true rfl) (fun p e s m args below meth c ls hno M hC hl => by
    have hl : lv_has ls 5 [(0, va_rf (some o)), (1, .int p0), (2, .int p1), (3, .int p2)] := hl
    exact w_X7_key_L0 M hfl hno _ _ _ _ _ hf _ _ _ _ _ hC (lv_sub hl [0, 1, 2, 3] rfl))
set_option maxHeartbeats 4000000 in
set_option maxRecDepth 100000 in
theorem w_L_key_L0 {p : Program} {l : Launch} {e : Env} {s : State} {m : MethodId} {args : Array Value} {below : List Frame} {meth : Method} {c : Code} {D : va_G} {cA : Nat → ClassId} {h0 : fSt} {r : ((Int32 ⊕ Nat) × fSt)} (M : fM p s m args meth c D cA h0 { frames := 8, cells := fCB h0 - fZ h0, slots := fLB h0 - fL h0, locals := 136 } cL_key 6 (some (.int)) RL) (hfl : l.stackTraces = false) (hno : c.exceptionTable.toList = tableOf [(0, 12, 15, 13), (0, 12, 19, 15), (0, 12, 23, 17)]) (a0 : Option Nat) (a1 : Int32) (a2 : Int32) (a3 : Int32) (a4 : Option Nat) (h : fSt) (hf : f_L_key_L0 a0 a1 a2 a3 a4 h = some r) : ∀ (H : Heap) (locs : List Loc) (cells slots : Nat) (ls : Array Slot), fCur D cA s h0 h H locs → lv_has ls 6 [(0, va_rf a0), (1, .int a1), (2, .int a2), (3, .int a3), (4, va_rf a4)] → W p l e { frames := 8, cells := fCB h0 - fZ h0, slots := fLB h0 - fL h0, locals := 136 } s m args below meth c H locs cells slots (vx_MQ below (fQX D cA h0 r.2 (rI r.1)) (fXC D cA h0 r.2 (rI r.1)) args s (fCB h0 - fZ h0) (fLB h0 - fL h0) (fA h0)) (F0 m 0 ls []) := by
  obtain ⟨hx, hb, hml, hr, hlocks, hts, hown, K, hR⟩ := id M
  intro H locs cells slots ls hC hl
  refine fr_aload hx hb dL_key_0 (lv_at hl 4 rfl) ?_
  refine lv_iconst (v := (0 : Int32)) hx hb dL_key_2 (by decide) ?_
  refine fr_aload_n hx hb dL_key_3 rfl (lv_at hl 0 rfl) ?_
  refine lv_iload_n hx hb dL_key_4 rfl (lv_at hl 1 rfl) ?_
  refine lv_iload_n hx hb dL_key_5 rfl (lv_at hl 2 rfl) ?_
  refine lv_iload_n hx hb dL_key_6 rfl (lv_at hl 3 rfl) ?_
  obtain ⟨b3, q4, hf⟩ := obind hf
  obtain ⟨⟨v5 | k6, h7⟩, g2, hf⟩ := obind hf
  · refine fr_callVX hx hb hml hts hown K hC hR ct_7 (c_X7_key hfl D cA g2) 3 q4 kw773 kw770 kw771 kw772 kw55 (by decide +kernel) ⟨by exact Nat.le_of_ble_eq_true rfl, by exact Nat.le_of_ble_eq_true rfl⟩ rfl hl.1 (cat8 _ (by exact Nat.le_of_ble_eq_true rfl)) dL_key_7 rfl (fun H locs _ _ hC => ?_)
    refine lv_i2l (v := (Int32.toInt64 v5)) hx hb dL_key_10 rfl ?_
    obtain ⟨h8, g9, hf⟩ := obind hf
    refine fr_last hx hb K hC (t := 1) rfl g9 dL_key_11 (fun H locs hC => ?_)
    refine lv_goto (tgt := 27) hx hb dL_key_12 (by decide) ?_
    refine lv_iconst (v := (0 : Int32)) hx hb dL_key_27 (by decide) ?_
    obtain rfl := Option.some.inj hf
    exact fr_retQ (fr_iret hx hb hr hlocks hC dL_key_28)
  · refine fr_callVT hx hb hml hts hown K hC hR ct_7 (c_X7_key hfl D cA g2) 3 q4 kw773 kw770 kw771 kw772 kw55 (by decide +kernel) ⟨by exact Nat.le_of_ble_eq_true rfl, by exact Nat.le_of_ble_eq_true rfl⟩ rfl hl.1 (cat8 _ (by exact Nat.le_of_ble_eq_true rfl)) dL_key_7 rfl (fun H locs _ _ q ce hC e1 e2 e3 => ?_)
    by_cases c10 : k6 = 0
    · replace hf := opos c10 hf
      subst c10
      refine fr_catch (k9 := 0) (name := "java/lang/IndexOutOfBoundsException") hts K hown [] ⟨0, 12, 15, 13⟩ [⟨0, 12, 19, 15⟩, ⟨0, 12, 23, 17⟩] (by rw [hno]; rfl) (fun z hz => nomatch hz) (by decide) (by decide) kw573 kn586 e1 e2 e3 ?_
      refine fr_astore (lv' := [(5, va_rf (some q)), (0, va_rf a0), (1, .int a1), (2, .int a2), (3, .int a3), (4, va_rf a4)]) hx hb dL_key_15 hl (by decide) (congrArg (List.cons _) (flk rfl (flk rfl (flk rfl (flk rfl (flk (adj1 _ _) fln)))))) (fun ls hl => ?_)
      refine lv_iconst (v := (1 : Int32)) hx hb dL_key_17 (by decide) ?_
      obtain rfl := Option.some.inj hf
      exact fr_retQ (fr_iret hx hb hr hlocks hC dL_key_18)
    replace hf := oneg c10 hf
    by_cases c12 : k6 = 1
    · replace hf := opos c12 hf
      subst c12
      refine fr_catch (k9 := 1) (name := "java/lang/IllegalArgumentException") hts K hown [⟨0, 12, 15, 13⟩] ⟨0, 12, 19, 15⟩ [⟨0, 12, 23, 17⟩] (by rw [hno]; rfl) (all1 ⟨by decide, _, kw573, by decide +kernel⟩) (by decide) (by decide) kw574 kn495 e1 e2 e3 ?_
      refine fr_astore (lv' := [(5, va_rf (some q)), (0, va_rf a0), (1, .int a1), (2, .int a2), (3, .int a3), (4, va_rf a4)]) hx hb dL_key_19 hl (by decide) (congrArg (List.cons _) (flk rfl (flk rfl (flk rfl (flk rfl (flk (adj1 _ _) fln)))))) (fun ls hl => ?_)
      refine lv_iconst (v := (2 : Int32)) hx hb dL_key_21 (by decide) ?_
      obtain rfl := Option.some.inj hf
      exact fr_retQ (fr_iret hx hb hr hlocks hC dL_key_22)
    replace hf := oneg c12 hf
    by_cases c14 : k6 = 2
    · replace hf := opos c14 hf
      subst c14
      refine fr_catch (k9 := 2) (name := "java/lang/IllegalStateException") hts K hown [⟨0, 12, 15, 13⟩, ⟨0, 12, 19, 15⟩] ⟨0, 12, 23, 17⟩ [] (by rw [hno]; rfl) (all2 ⟨by decide, _, kw573, by decide +kernel⟩ ⟨by decide, _, kw574, by decide +kernel⟩) (by decide) (by decide) kw575 kn604 e1 e2 e3 ?_
      refine fr_astore (lv' := [(5, va_rf (some q)), (0, va_rf a0), (1, .int a1), (2, .int a2), (3, .int a3), (4, va_rf a4)]) hx hb dL_key_23 hl (by decide) (congrArg (List.cons _) (flk rfl (flk rfl (flk rfl (flk rfl (flk (adj1 _ _) fln)))))) (fun ls hl => ?_)
      refine lv_iconst (v := (3 : Int32)) hx hb dL_key_25 (by decide) ?_
      obtain rfl := Option.some.inj hf
      exact fr_retQ (fr_iret hx hb hr hlocks hC dL_key_26)
    replace hf := oneg c14 hf
    exact nomatch hf
set_option maxRecDepth 100000 in
theorem c_L_key {l : Launch} (hfl : l.stackTraces = false) (D : va_G) (cA : Nat → ClassId) {p0 : Option Nat} {p1 : Int32} {p2 : Int32} {p3 : Int32} {p4 : Option Nat} {h : fSt} {r : ((Int32 ⊕ Nat) × fSt)} (hf : f_L_key p0 p1 p2 p3 p4 h = some r) : fMetX l yL_key (wsCH yL_key cL_key 6 (some (.int)) [(0, 12, 15, 13), (0, 12, 19, 15), (0, 12, 23, 17)]) (8) (136) D cA [va_rf p0, .int p1, .int p2, .int p3, va_rf p4] h r.2 (rI r.1) := by
  exact fMetX.ofH (own := RL) (by decide +kernel) rfl (lva1 (va_rf_cat _) (lva1 rfl (lva1 rfl (lva1 rfl (lva1 (va_rf_cat _) lva0))))) (lgl1 (va_rf_cat _) (lgl1 rfl (lgl1 rfl (lgl1 rfl (lgl1 (va_rf_cat _) lgl0))))) (Nat.le_of_ble_eq_true rfl) (fun p e s m args below meth c ls hno M hC hl => by
    have hl : lv_has ls 6 [(0, va_rf p0), (1, .int p1), (2, .int p2), (3, .int p3), (4, va_rf p4)] := hl
    exact w_L_key_L0 M hfl hno _ _ _ _ _ _ hf _ _ _ _ _ hC (lv_sub hl [0, 1, 2, 3, 4] rfl))
set_option maxHeartbeats 4000000 in
set_option maxRecDepth 100000 in
theorem w_X7_level_L0 {p : Program} {l : Launch} {e : Env} {s : State} {m : MethodId} {args : Array Value} {below : List Frame} {meth : Method} {c : Code} {D : va_G} {cA : Nat → ClassId} {h0 : fSt} {r : ((Int32 ⊕ Nat) × fSt)} (M : fM p s m args meth c D cA h0 { frames := 7, cells := fCB h0 - fZ h0, slots := fLB h0 - fL h0, locals := 112 } cX7_level 2 (some (.int)) RX7) (hfl : l.stackTraces = false) (hno : ∀ x ∈ c.exceptionTable.toList, False) (a0 : Option Nat) (a1 : Int32) (h : fSt) (hf : f_X7_level_L0 a0 a1 h = some r) : ∀ (H : Heap) (locs : List Loc) (cells slots : Nat) (ls : Array Slot), fCur D cA s h0 h H locs → lv_has ls 2 [(0, va_rf a0), (1, .int a1)] → W p l e { frames := 7, cells := fCB h0 - fZ h0, slots := fLB h0 - fL h0, locals := 112 } s m args below meth c H locs cells slots (vx_MQ below (fQX D cA h0 r.2 (rI r.1)) (fXC D cA h0 r.2 (rI r.1)) args s (fCB h0 - fZ h0) (fLB h0 - fL h0) (fA h0)) (F0 m 0 ls []) := by
  obtain ⟨hx, hb, hml, hr, hlocks, hts, hown, K, hR⟩ := id M
  intro H locs cells slots ls hC hl
  refine fr_aload_n hx hb dX7_level_0 rfl (lv_at hl 0 rfl) ?_
  refine lv_iload_n hx hb dX7_level_1 rfl (lv_at hl 1 rfl) ?_
  obtain ⟨b3, q4, hf⟩ := obind hf
  obtain ⟨⟨v5 | k6, h7⟩, g2, hf⟩ := obind hf
  · refine fr_callVX hx hb hml hts hown K hC hR ct_7 (c_X7_found hfl D cA g2) 1 q4 kw583 kw580 kw582 kw12 kw55 (by decide +kernel) ⟨by exact Nat.le_of_ble_eq_true rfl, by exact Nat.le_of_ble_eq_true rfl⟩ rfl hl.1 (cat8 _ (by exact Nat.le_of_ble_eq_true rfl)) dX7_level_2 rfl (fun H locs _ _ hC => ?_)
    obtain ⟨b10, q11, hf⟩ := obind hf
    obtain ⟨r8, g9, hf⟩ := obind hf
    refine fr_callV hx hb hml hts hown K hC hR ct_4 (c_X4_depth hfl D cA g9) 0 q11 kw365 kw362 kw363 kw364 kw56 (by decide +kernel) ⟨by exact Nat.le_of_ble_eq_true rfl, by exact Nat.le_of_ble_eq_true rfl⟩ rfl hl.1 (cat8 _ (by exact Nat.le_of_ble_eq_true rfl)) dX7_level_5 rfl (fun H locs _ _ hC => ?_)
    obtain rfl := Option.some.inj hf
    exact fr_retQ (fr_iret hx hb hr hlocks hC dX7_level_8)
  · obtain rfl := Option.some.inj hf
    refine fr_callVT hx hb hml hts hown K hC hR ct_7 (c_X7_found hfl D cA g2) 1 q4 kw583 kw580 kw582 kw12 kw55 (by decide +kernel) ⟨by exact Nat.le_of_ble_eq_true rfl, by exact Nat.le_of_ble_eq_true rfl⟩ rfl hl.1 (cat8 _ (by exact Nat.le_of_ble_eq_true rfl)) dX7_level_2 rfl (fun H locs _ _ q ce hC e1 e2 e3 => ?_)
    exact fr_out (fun x hx9 => (hno x hx9).elim) hlocks hC e1 e2 e3
set_option maxRecDepth 100000 in
theorem c_X7_level {l : Launch} (hfl : l.stackTraces = false) (D : va_G) (cA : Nat → ClassId) {o : Nat} {p0 : Int32} {h : fSt} {r : ((Int32 ⊕ Nat) × fSt)} (hf : f_X7_level o p0 h = some r) : fMetX l yX7_level (wsC yX7_level cX7_level 2 (some (.int))) (7) (112) D cA [.ref o, .int p0] h r.2 (rI r.1) := by
  exact fMetX.of (own := RX7) (by decide +kernel) rfl (lva1 rfl (lva1 rfl lva0)) (lgl1 rfl (lgl1 rfl lgl0)) (Nat.le_of_ble_eq_true rfl) (fun p e s m args below meth c ls hno M hC hl => by
    have hl : lv_has ls 2 [(0, va_rf (some o)), (1, .int p0)] := hl
    exact w_X7_level_L0 M hfl hno _ _ _ hf _ _ _ _ _ hC (lv_sub hl [0, 1] rfl))
set_option maxHeartbeats 4000000 in
set_option maxRecDepth 100000 in
theorem w_L_level_L0 {p : Program} {l : Launch} {e : Env} {s : State} {m : MethodId} {args : Array Value} {below : List Frame} {meth : Method} {c : Code} {D : va_G} {cA : Nat → ClassId} {h0 : fSt} {r : ((Int32 ⊕ Nat) × fSt)} (M : fM p s m args meth c D cA h0 { frames := 8, cells := fCB h0 - fZ h0, slots := fLB h0 - fL h0, locals := 133 } cL_level 4 (some (.int)) RL) (hfl : l.stackTraces = false) (hno : c.exceptionTable.toList = tableOf [(0, 9, 12, 13)]) (a0 : Option Nat) (a1 : Int32) (a2 : Option Nat) (h : fSt) (hf : f_L_level_L0 a0 a1 a2 h = some r) : ∀ (H : Heap) (locs : List Loc) (cells slots : Nat) (ls : Array Slot), fCur D cA s h0 h H locs → lv_has ls 4 [(0, va_rf a0), (1, .int a1), (2, va_rf a2)] → W p l e { frames := 8, cells := fCB h0 - fZ h0, slots := fLB h0 - fL h0, locals := 133 } s m args below meth c H locs cells slots (vx_MQ below (fQX D cA h0 r.2 (rI r.1)) (fXC D cA h0 r.2 (rI r.1)) args s (fCB h0 - fZ h0) (fLB h0 - fL h0) (fA h0)) (F0 m 0 ls []) := by
  obtain ⟨hx, hb, hml, hr, hlocks, hts, hown, K, hR⟩ := id M
  intro H locs cells slots ls hC hl
  refine fr_aload_n hx hb dL_level_0 rfl (lv_at hl 2 rfl) ?_
  refine lv_iconst (v := (0 : Int32)) hx hb dL_level_1 (by decide) ?_
  refine fr_aload_n hx hb dL_level_2 rfl (lv_at hl 0 rfl) ?_
  refine lv_iload_n hx hb dL_level_3 rfl (lv_at hl 1 rfl) ?_
  obtain ⟨b3, q4, hf⟩ := obind hf
  obtain ⟨⟨v5 | k6, h7⟩, g2, hf⟩ := obind hf
  · refine fr_callVX hx hb hml hts hown K hC hR ct_7 (c_X7_level hfl D cA g2) 1 q4 kw746 kw743 kw744 kw745 kw55 (by decide +kernel) ⟨by exact Nat.le_of_ble_eq_true rfl, by exact Nat.le_of_ble_eq_true rfl⟩ rfl hl.1 (cat8 _ (by exact Nat.le_of_ble_eq_true rfl)) dL_level_4 rfl (fun H locs _ _ hC => ?_)
    refine lv_i2l (v := (Int32.toInt64 v5)) hx hb dL_level_7 rfl ?_
    obtain ⟨h8, g9, hf⟩ := obind hf
    refine fr_last hx hb K hC (t := 1) rfl g9 dL_level_8 (fun H locs hC => ?_)
    refine lv_goto (tgt := 15) hx hb dL_level_9 (by decide) ?_
    refine lv_iconst (v := (0 : Int32)) hx hb dL_level_15 (by decide) ?_
    obtain rfl := Option.some.inj hf
    exact fr_retQ (fr_iret hx hb hr hlocks hC dL_level_16)
  · refine fr_callVT hx hb hml hts hown K hC hR ct_7 (c_X7_level hfl D cA g2) 1 q4 kw746 kw743 kw744 kw745 kw55 (by decide +kernel) ⟨by exact Nat.le_of_ble_eq_true rfl, by exact Nat.le_of_ble_eq_true rfl⟩ rfl hl.1 (cat8 _ (by exact Nat.le_of_ble_eq_true rfl)) dL_level_4 rfl (fun H locs _ _ q ce hC e1 e2 e3 => ?_)
    by_cases c10 : k6 = 0
    · replace hf := opos c10 hf
      subst c10
      refine fr_catch (k9 := 0) (name := "java/lang/IndexOutOfBoundsException") hts K hown [] ⟨0, 9, 12, 13⟩ [] (by rw [hno]; rfl) (fun z hz => nomatch hz) (by decide) (by decide) kw573 kn586 e1 e2 e3 ?_
      refine fr_astore_n (lv' := [(3, va_rf (some q)), (0, va_rf a0), (1, .int a1), (2, va_rf a2)]) hx hb dL_level_12 rfl hl (by decide) (congrArg (List.cons _) (flk rfl (flk rfl (flk (adj1 _ _) fln)))) (fun ls hl => ?_)
      refine lv_iconst (v := (1 : Int32)) hx hb dL_level_13 (by decide) ?_
      obtain rfl := Option.some.inj hf
      exact fr_retQ (fr_iret hx hb hr hlocks hC dL_level_14)
    replace hf := oneg c10 hf
    exact nomatch hf
set_option maxRecDepth 100000 in
theorem c_L_level {l : Launch} (hfl : l.stackTraces = false) (D : va_G) (cA : Nat → ClassId) {p0 : Option Nat} {p1 : Int32} {p2 : Option Nat} {h : fSt} {r : ((Int32 ⊕ Nat) × fSt)} (hf : f_L_level p0 p1 p2 h = some r) : fMetX l yL_level (wsCH yL_level cL_level 4 (some (.int)) [(0, 9, 12, 13)]) (8) (133) D cA [va_rf p0, .int p1, va_rf p2] h r.2 (rI r.1) := by
  exact fMetX.ofH (own := RL) (by decide +kernel) rfl (lva1 (va_rf_cat _) (lva1 rfl (lva1 (va_rf_cat _) lva0))) (lgl1 (va_rf_cat _) (lgl1 rfl (lgl1 (va_rf_cat _) lgl0))) (Nat.le_of_ble_eq_true rfl) (fun p e s m args below meth c ls hno M hC hl => by
    have hl : lv_has ls 4 [(0, va_rf p0), (1, .int p1), (2, va_rf p2)] := hl
    exact w_L_level_L0 M hfl hno _ _ _ _ hf _ _ _ _ _ hC (lv_sub hl [0, 1, 2] rfl))
set_option maxHeartbeats 4000000 in
set_option maxRecDepth 100000 in
theorem w_X7_look_L30 {p : Program} {l : Launch} {e : Env} {s : State} {m : MethodId} {args : Array Value} {below : List Frame} {meth : Method} {c : Code} {D : va_G} {cA : Nat → ClassId} {h0 : fSt} {r : ((Int32 ⊕ Nat) × fSt)} (M : fM p s m args meth c D cA h0 { frames := 18, cells := fCB h0 - fZ h0, slots := fLB h0 - fL h0, locals := 426 } cX7_look 7 (some (.int)) RX7) (hfl : l.stackTraces = false) (hno : ∀ x ∈ c.exceptionTable.toList, False)  (h : fSt) (hf : f_X7_look_L30  h = some r) : ∀ (H : Heap) (locs : List Loc) (cells slots : Nat) (ls : Array Slot), fCur D cA s h0 h H locs → lv_has ls 7 [] → W p l e { frames := 18, cells := fCB h0 - fZ h0, slots := fLB h0 - fL h0, locals := 426 } s m args below meth c H locs cells slots (vx_MQ below (fQX D cA h0 r.2 (rI r.1)) (fXC D cA h0 r.2 (rI r.1)) args s (fCB h0 - fZ h0) (fLB h0 - fL h0) (fA h0)) (F0 m 30 ls []) := by
  obtain ⟨hx, hb, hml, hr, hlocks, hts, hown, K, hR⟩ := id M
  intro H locs cells slots ls hC hl
  obtain ⟨h1, g2, hf⟩ := obind hf
  obtain rfl := Option.some.inj hf
  exact fr_throwS hx hb hml hts hfl hown K hC hR th_RX7_60_64_1 st_RX7_151 hl.1 dX7_look_30 dX7_look_33 dX7_look_34 dX7_look_36 dX7_look_39 hno (by exact Nat.le_of_ble_eq_true rfl) (catL _ _ (by exact Nat.le_of_ble_eq_true rfl) (by exact Nat.le_of_ble_eq_true rfl)) hlocks g2
set_option maxHeartbeats 4000000 in
set_option maxRecDepth 100000 in
theorem w_X7_look_L0 {p : Program} {l : Launch} {e : Env} {s : State} {m : MethodId} {args : Array Value} {below : List Frame} {meth : Method} {c : Code} {D : va_G} {cA : Nat → ClassId} {h0 : fSt} {r : ((Int32 ⊕ Nat) × fSt)} (M : fM p s m args meth c D cA h0 { frames := 18, cells := fCB h0 - fZ h0, slots := fLB h0 - fL h0, locals := 426 } cX7_look 7 (some (.int)) RX7) (hfl : l.stackTraces = false) (hno : ∀ x ∈ c.exceptionTable.toList, False) (a0 : Option Nat) (a1 : Int32) (a2 : Int32) (a3 : Int32) (a4 : Int32) (h : fSt) (hf : f_X7_look_L0 a0 a1 a2 a3 a4 h = some r) : ∀ (H : Heap) (locs : List Loc) (cells slots : Nat) (ls : Array Slot), fCur D cA s h0 h H locs → lv_has ls 7 [(0, va_rf a0), (1, .int a1), (2, .int a2), (3, .int a3), (4, .int a4)] → W p l e { frames := 18, cells := fCB h0 - fZ h0, slots := fLB h0 - fL h0, locals := 426 } s m args below meth c H locs cells slots (vx_MQ below (fQX D cA h0 r.2 (rI r.1)) (fXC D cA h0 r.2 (rI r.1)) args s (fCB h0 - fZ h0) (fLB h0 - fL h0) (fA h0)) (F0 m 0 ls []) := by
  obtain ⟨hx, hb, hml, hr, hlocks, hts, hown, K, hR⟩ := id M
  intro H locs cells slots ls hC hl
  refine fr_aload_n hx hb dX7_look_0 rfl (lv_at hl 0 rfl) ?_
  refine lv_iload_n hx hb dX7_look_1 rfl (lv_at hl 1 rfl) ?_
  obtain ⟨b5, q6, hf⟩ := obind hf
  obtain ⟨⟨v7 | k8, h9⟩, g4, hf⟩ := obind hf
  · refine fr_callVX hx hb hml hts hown K hC hR ct_7 (c_X7_foundBelowWhole hfl D cA g4) 1 q6 kw644 kw641 kw643 kw16 kw55 (by decide +kernel) ⟨by exact Nat.le_of_ble_eq_true rfl, by exact Nat.le_of_ble_eq_true rfl⟩ rfl hl.1 (cat8 _ (by exact Nat.le_of_ble_eq_true rfl)) dX7_look_2 rfl (fun H locs _ _ hC => ?_)
    refine fr_astore (lv' := [(5, va_rf v7), (0, va_rf a0), (1, .int a1), (2, .int a2), (3, .int a3), (4, .int a4)]) hx hb dX7_look_5 hl (by decide) (congrArg (List.cons _) (flk rfl (flk rfl (flk rfl (flk rfl (flk rfl fln)))))) (fun ls hl => ?_)
    refine lv_iload_n hx hb dX7_look_7 rfl (lv_at hl 3 rfl) ?_
    refine lv_bipush (v := (-9 : Int32)) hx hb dX7_look_8 (by decide) ?_
    refine lv_bipush (v := (9 : Int32)) hx hb dX7_look_10 (by decide) ?_
    obtain ⟨r10, g11, hf⟩ := obind hf
    refine fr_callS hx hb hml hts hown K hC hR (c_X7_isFrom hfl D cA g11) 3 kw492 kw490 kw491 kw55 (by decide +kernel) ⟨by exact Nat.le_of_ble_eq_true rfl, by exact Nat.le_of_ble_eq_true rfl⟩ rfl hl.1 (cat8 _ (by exact Nat.le_of_ble_eq_true rfl)) dX7_look_12 rfl (fun H locs _ _ hC => ?_)
    refine lv_if_eq (tgt := 30) hx hb dX7_look_15 (by decide) (fun c12 => ?_) (fun c12 => ?_)
    · replace hf := opos c12 hf
      exact w_X7_look_L30 M hfl hno _ hf _ _ _ _ _ hC (lv_sub hl [] rfl)
    · replace hf := oneg c12 hf
      refine fr_aload hx hb dX7_look_18 (lv_at hl 0 rfl) ?_
      obtain ⟨x13, g14, hf⟩ := obind hf
      refine fr_get hx hb hts hown K hC ct_4 (fgR_get g14) (by decide) kw167 rfl dX7_look_20 ?_
      refine lv_iload_n hx hb dX7_look_23 rfl (lv_at hl 4 rfl) ?_
      obtain ⟨b17, q18, hf⟩ := obind hf
      obtain ⟨r15, g16, hf⟩ := obind hf
      refine fr_callV hx hb hml hts hown K hC hR ct_6 (c_X6_allows hfl D cA g16) 1 q18 kw688 kw685 kw686 kw687 kw57 (by decide +kernel) ⟨by exact Nat.le_of_ble_eq_true rfl, by exact Nat.le_of_ble_eq_true rfl⟩ rfl hl.1 (cat8 _ (by exact Nat.le_of_ble_eq_true rfl)) dX7_look_24 rfl (fun H locs _ _ hC => ?_)
      refine lv_if_ne (tgt := 40) hx hb dX7_look_27 (by decide) (fun c19 => ?_) (fun c19 => ?_)
      · replace hf := oneg c19 hf
        refine fr_aload hx hb dX7_look_40 (lv_at hl 0 rfl) ?_
        obtain ⟨x20, g21, hf⟩ := obind hf
        refine fr_get hx hb hts hown K hC ct_4 (fgR_get g21) (by decide) kw167 rfl dX7_look_42 ?_
        obtain ⟨x22, g23, hf⟩ := obind hf
        refine fr_get hx hb hts hown K hC ct_6 (fgI_get g23) (by decide) kw98 rfl dX7_look_45 ?_
        refine lv_istore (lv' := [(6, .int x22), (5, va_rf v7), (0, va_rf a0), (1, .int a1), (2, .int a2), (3, .int a3), (4, .int a4)]) hx hb dX7_look_48 hl (by decide) (congrArg (List.cons _) (flk (adj1 _ _) (flk rfl (flk rfl (flk rfl (flk rfl (flk rfl fln))))))) (fun ls hl => ?_)
        refine fr_aload hx hb dX7_look_50 (lv_at hl 1 rfl) ?_
        refine lv_iload_n hx hb dX7_look_52 rfl (lv_at hl 4 rfl) ?_
        obtain ⟨h24, g25, hf⟩ := obind hf
        refine fr_put hx hb hts hown K hC ct_4 g25 (by decide) kw176 rfl rfl rfl rfl dX7_look_53 (fun H locs hC => ?_)
        refine fr_aload hx hb dX7_look_56 (lv_at hl 1 rfl) ?_
        obtain ⟨x26, g27, hf⟩ := obind hf
        refine fr_get hx hb hts hown K hC ct_4 (fgR_get g27) (by decide) kw167 rfl dX7_look_58 ?_
        refine lv_iload_n hx hb dX7_look_61 rfl (lv_at hl 5 rfl) ?_
        obtain ⟨h28, g29, hf⟩ := obind hf
        refine fr_put hx hb hts hown K hC ct_6 g29 (by decide) kw98 rfl rfl rfl rfl dX7_look_62 (fun H locs hC => ?_)
        refine fr_aload hx hb dX7_look_65 (lv_at hl 1 rfl) ?_
        refine lv_iload hx hb dX7_look_67 (lv_at hl 6 rfl) ?_
        obtain ⟨h30, g31, hf⟩ := obind hf
        obtain ⟨z32, g31⟩ := fputZ_inv g31
        refine fr_put hx hb hts hown K hC ct_4 g31 (by decide) kw177 rfl rfl (nZ z32) (fZ9 z32) dX7_look_69 (fun H locs hC => ?_)
        refine fr_aload_n hx hb dX7_look_72 rfl (lv_at hl 2 rfl) ?_
        obtain ⟨b35, q36, hf⟩ := obind hf
        obtain ⟨r33, g34, hf⟩ := obind hf
        refine fr_callV hx hb hml hts hown K hC hR ct_7 (c_X7_layOrder hfl D cA g34) 0 q36 kw625 kw622 kw624 kw13 kw55 (by decide +kernel) ⟨by exact Nat.le_of_ble_eq_true rfl, by exact Nat.le_of_ble_eq_true rfl⟩ rfl hl.1 (cat8 _ (by exact Nat.le_of_ble_eq_true rfl)) dX7_look_73 rfl (fun H locs _ _ hC => ?_)
        refine lv_iload hx hb dX7_look_76 (lv_at hl 0 rfl) ?_
        obtain rfl := Option.some.inj hf
        exact fr_retQ (fr_iret hx hb hr hlocks hC dX7_look_78)
      · replace hf := opos c19 hf
        exact w_X7_look_L30 M hfl hno _ hf _ _ _ _ _ hC (lv_sub hl [] rfl)
  · obtain rfl := Option.some.inj hf
    refine fr_callVT hx hb hml hts hown K hC hR ct_7 (c_X7_foundBelowWhole hfl D cA g4) 1 q6 kw644 kw641 kw643 kw16 kw55 (by decide +kernel) ⟨by exact Nat.le_of_ble_eq_true rfl, by exact Nat.le_of_ble_eq_true rfl⟩ rfl hl.1 (cat8 _ (by exact Nat.le_of_ble_eq_true rfl)) dX7_look_2 rfl (fun H locs _ _ q ce hC e1 e2 e3 => ?_)
    exact fr_out (fun x hx9 => (hno x hx9).elim) hlocks hC e1 e2 e3
set_option maxRecDepth 100000 in
theorem c_X7_look {l : Launch} (hfl : l.stackTraces = false) (D : va_G) (cA : Nat → ClassId) {o : Nat} {p0 : Int32} {p1 : Int32} {p2 : Int32} {p3 : Int32} {h : fSt} {r : ((Int32 ⊕ Nat) × fSt)} (hf : f_X7_look o p0 p1 p2 p3 h = some r) : fMetX l yX7_look (wsC yX7_look cX7_look 7 (some (.int))) (18) (426) D cA [.ref o, .int p0, .int p1, .int p2, .int p3] h r.2 (rI r.1) := by
  exact fMetX.of (own := RX7) (by decide +kernel) rfl (lva1 rfl (lva1 rfl (lva1 rfl (lva1 rfl (lva1 rfl lva0))))) (lgl1 rfl (lgl1 rfl (lgl1 rfl (lgl1 rfl (lgl1 rfl lgl0))))) (Nat.le_of_ble_eq_true rfl) (fun p e s m args below meth c ls hno M hC hl => by
    have hl : lv_has ls 7 [(0, va_rf (some o)), (1, .int p0), (2, .int p1), (3, .int p2), (4, .int p3)] := hl
    exact w_X7_look_L0 M hfl hno _ _ _ _ _ _ hf _ _ _ _ _ hC (lv_sub hl [0, 1, 2, 3, 4] rfl))
set_option maxHeartbeats 4000000 in
set_option maxRecDepth 100000 in
theorem w_L_look_L0 {p : Program} {l : Launch} {e : Env} {s : State} {m : MethodId} {args : Array Value} {below : List Frame} {meth : Method} {c : Code} {D : va_G} {cA : Nat → ClassId} {h0 : fSt} {r : ((Int32 ⊕ Nat) × fSt)} (M : fM p s m args meth c D cA h0 { frames := 19, cells := fCB h0 - fZ h0, slots := fLB h0 - fL h0, locals := 452 } cL_look 7 (some (.int)) RL) (hfl : l.stackTraces = false) (hno : c.exceptionTable.toList = tableOf [(0, 14, 17, 13), (0, 14, 21, 17), (0, 14, 25, 15)]) (a0 : Option Nat) (a1 : Int32) (a2 : Int32) (a3 : Int32) (a4 : Int32) (a5 : Option Nat) (h : fSt) (hf : f_L_look_L0 a0 a1 a2 a3 a4 a5 h = some r) : ∀ (H : Heap) (locs : List Loc) (cells slots : Nat) (ls : Array Slot), fCur D cA s h0 h H locs → lv_has ls 7 [(0, va_rf a0), (1, .int a1), (2, .int a2), (3, .int a3), (4, .int a4), (5, va_rf a5)] → W p l e { frames := 19, cells := fCB h0 - fZ h0, slots := fLB h0 - fL h0, locals := 452 } s m args below meth c H locs cells slots (vx_MQ below (fQX D cA h0 r.2 (rI r.1)) (fXC D cA h0 r.2 (rI r.1)) args s (fCB h0 - fZ h0) (fLB h0 - fL h0) (fA h0)) (F0 m 0 ls []) := by
  obtain ⟨hx, hb, hml, hr, hlocks, hts, hown, K, hR⟩ := id M
  intro H locs cells slots ls hC hl
  refine fr_aload hx hb dL_look_0 (lv_at hl 5 rfl) ?_
  refine lv_iconst (v := (0 : Int32)) hx hb dL_look_2 (by decide) ?_
  refine fr_aload_n hx hb dL_look_3 rfl (lv_at hl 0 rfl) ?_
  refine lv_iload_n hx hb dL_look_4 rfl (lv_at hl 1 rfl) ?_
  refine lv_iload_n hx hb dL_look_5 rfl (lv_at hl 2 rfl) ?_
  refine lv_iload_n hx hb dL_look_6 rfl (lv_at hl 3 rfl) ?_
  refine lv_iload hx hb dL_look_7 (lv_at hl 4 rfl) ?_
  obtain ⟨b3, q4, hf⟩ := obind hf
  obtain ⟨⟨v5 | k6, h7⟩, g2, hf⟩ := obind hf
  · refine fr_callVX hx hb hml hts hown K hC hR ct_7 (c_X7_look hfl D cA g2) 4 q4 kw713 kw710 kw711 kw712 kw55 (by decide +kernel) ⟨by exact Nat.le_of_ble_eq_true rfl, by exact Nat.le_of_ble_eq_true rfl⟩ rfl hl.1 (cat8 _ (by exact Nat.le_of_ble_eq_true rfl)) dL_look_9 rfl (fun H locs _ _ hC => ?_)
    refine lv_i2l (v := (Int32.toInt64 v5)) hx hb dL_look_12 rfl ?_
    obtain ⟨h8, g9, hf⟩ := obind hf
    refine fr_last hx hb K hC (t := 1) rfl g9 dL_look_13 (fun H locs hC => ?_)
    refine lv_goto (tgt := 29) hx hb dL_look_14 (by decide) ?_
    refine lv_iconst (v := (0 : Int32)) hx hb dL_look_29 (by decide) ?_
    obtain rfl := Option.some.inj hf
    exact fr_retQ (fr_iret hx hb hr hlocks hC dL_look_30)
  · refine fr_callVT hx hb hml hts hown K hC hR ct_7 (c_X7_look hfl D cA g2) 4 q4 kw713 kw710 kw711 kw712 kw55 (by decide +kernel) ⟨by exact Nat.le_of_ble_eq_true rfl, by exact Nat.le_of_ble_eq_true rfl⟩ rfl hl.1 (cat8 _ (by exact Nat.le_of_ble_eq_true rfl)) dL_look_9 rfl (fun H locs _ _ q ce hC e1 e2 e3 => ?_)
    by_cases c10 : k6 = 0
    · replace hf := opos c10 hf
      subst c10
      refine fr_catch (k9 := 0) (name := "java/lang/IndexOutOfBoundsException") hts K hown [] ⟨0, 14, 17, 13⟩ [⟨0, 14, 21, 17⟩, ⟨0, 14, 25, 15⟩] (by rw [hno]; rfl) (fun z hz => nomatch hz) (by decide) (by decide) kw573 kn586 e1 e2 e3 ?_
      refine fr_astore (lv' := [(6, va_rf (some q)), (0, va_rf a0), (1, .int a1), (2, .int a2), (3, .int a3), (4, .int a4), (5, va_rf a5)]) hx hb dL_look_17 hl (by decide) (congrArg (List.cons _) (flk rfl (flk rfl (flk rfl (flk rfl (flk rfl (flk (adj1 _ _) fln))))))) (fun ls hl => ?_)
      refine lv_iconst (v := (1 : Int32)) hx hb dL_look_19 (by decide) ?_
      obtain rfl := Option.some.inj hf
      exact fr_retQ (fr_iret hx hb hr hlocks hC dL_look_20)
    replace hf := oneg c10 hf
    by_cases c12 : k6 = 2
    · replace hf := opos c12 hf
      subst c12
      refine fr_catch (k9 := 2) (name := "java/lang/IllegalStateException") hts K hown [⟨0, 14, 17, 13⟩] ⟨0, 14, 21, 17⟩ [⟨0, 14, 25, 15⟩] (by rw [hno]; rfl) (all1 ⟨by decide, _, kw573, by decide +kernel⟩) (by decide) (by decide) kw575 kn604 e1 e2 e3 ?_
      refine fr_astore (lv' := [(6, va_rf (some q)), (0, va_rf a0), (1, .int a1), (2, .int a2), (3, .int a3), (4, .int a4), (5, va_rf a5)]) hx hb dL_look_21 hl (by decide) (congrArg (List.cons _) (flk rfl (flk rfl (flk rfl (flk rfl (flk rfl (flk (adj1 _ _) fln))))))) (fun ls hl => ?_)
      refine lv_iconst (v := (2 : Int32)) hx hb dL_look_23 (by decide) ?_
      obtain rfl := Option.some.inj hf
      exact fr_retQ (fr_iret hx hb hr hlocks hC dL_look_24)
    replace hf := oneg c12 hf
    by_cases c14 : k6 = 1
    · replace hf := opos c14 hf
      subst c14
      refine fr_catch (k9 := 1) (name := "java/lang/IllegalArgumentException") hts K hown [⟨0, 14, 17, 13⟩, ⟨0, 14, 21, 17⟩] ⟨0, 14, 25, 15⟩ [] (by rw [hno]; rfl) (all2 ⟨by decide, _, kw573, by decide +kernel⟩ ⟨by decide, _, kw575, by decide +kernel⟩) (by decide) (by decide) kw574 kn495 e1 e2 e3 ?_
      refine fr_astore (lv' := [(6, va_rf (some q)), (0, va_rf a0), (1, .int a1), (2, .int a2), (3, .int a3), (4, .int a4), (5, va_rf a5)]) hx hb dL_look_25 hl (by decide) (congrArg (List.cons _) (flk rfl (flk rfl (flk rfl (flk rfl (flk rfl (flk (adj1 _ _) fln))))))) (fun ls hl => ?_)
      refine lv_iconst (v := (3 : Int32)) hx hb dL_look_27 (by decide) ?_
      obtain rfl := Option.some.inj hf
      exact fr_retQ (fr_iret hx hb hr hlocks hC dL_look_28)
    replace hf := oneg c14 hf
    exact nomatch hf
set_option maxRecDepth 100000 in
theorem c_L_look {l : Launch} (hfl : l.stackTraces = false) (D : va_G) (cA : Nat → ClassId) {p0 : Option Nat} {p1 : Int32} {p2 : Int32} {p3 : Int32} {p4 : Int32} {p5 : Option Nat} {h : fSt} {r : ((Int32 ⊕ Nat) × fSt)} (hf : f_L_look p0 p1 p2 p3 p4 p5 h = some r) : fMetX l yL_look (wsCH yL_look cL_look 7 (some (.int)) [(0, 14, 17, 13), (0, 14, 21, 17), (0, 14, 25, 15)]) (19) (452) D cA [va_rf p0, .int p1, .int p2, .int p3, .int p4, va_rf p5] h r.2 (rI r.1) := by
  exact fMetX.ofH (own := RL) (by decide +kernel) rfl (lva1 (va_rf_cat _) (lva1 rfl (lva1 rfl (lva1 rfl (lva1 rfl (lva1 (va_rf_cat _) lva0)))))) (lgl1 (va_rf_cat _) (lgl1 rfl (lgl1 rfl (lgl1 rfl (lgl1 rfl (lgl1 (va_rf_cat _) lgl0)))))) (Nat.le_of_ble_eq_true rfl) (fun p e s m args below meth c ls hno M hC hl => by
    have hl : lv_has ls 7 [(0, va_rf p0), (1, .int p1), (2, .int p2), (3, .int p3), (4, .int p4), (5, va_rf p5)] := hl
    exact w_L_look_L0 M hfl hno _ _ _ _ _ _ _ hf _ _ _ _ _ hC (lv_sub hl [0, 1, 2, 3, 4, 5] rfl))
