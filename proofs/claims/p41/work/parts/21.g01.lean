theorem dX1_lowerTo_0 : decode cX1_lowerTo 0 = .ok (.aload_n 0, 1) := by decide +kernel
theorem dX1_lowerTo_1 : decode cX1_lowerTo 1 = .ok (.getfield 19, 3) := by decide +kernel
theorem dX1_lowerTo_4 : decode cX1_lowerTo 4 = .ok (.lconst 0, 1) := by decide +kernel
theorem dX1_lowerTo_5 : decode cX1_lowerTo 5 = .ok (.lcmp, 1) := by decide +kernel
theorem dX1_lowerTo_6 : decode cX1_lowerTo 6 = .ok (.ifCond .eq 19, 3) := by decide +kernel
theorem dX1_lowerTo_9 : decode cX1_lowerTo 9 = .ok (.lload_n 1, 1) := by decide +kernel
theorem dX1_lowerTo_10 : decode cX1_lowerTo 10 = .ok (.aload_n 0, 1) := by decide +kernel
theorem dX1_lowerTo_11 : decode cX1_lowerTo 11 = .ok (.getfield 19, 3) := by decide +kernel
theorem dX1_lowerTo_14 : decode cX1_lowerTo 14 = .ok (.lmul, 1) := by decide +kernel
theorem dX1_lowerTo_15 : decode cX1_lowerTo 15 = .ok (.aload_n 0, 1) := by decide +kernel
theorem dX1_lowerTo_16 : decode cX1_lowerTo 16 = .ok (.getfield 13, 3) := by decide +kernel
theorem dX1_lowerTo_19 : decode cX1_lowerTo 19 = .ok (.lload_n 3, 1) := by decide +kernel
theorem dX1_lowerTo_20 : decode cX1_lowerTo 20 = .ok (.lmul, 1) := by decide +kernel
theorem dX1_lowerTo_21 : decode cX1_lowerTo 21 = .ok (.lcmp, 1) := by decide +kernel
theorem dX1_lowerTo_22 : decode cX1_lowerTo 22 = .ok (.ifCond .ge 9, 3) := by decide +kernel
theorem dX1_lowerTo_25 : decode cX1_lowerTo 25 = .ok (.aload_n 0, 1) := by decide +kernel
theorem dX1_lowerTo_26 : decode cX1_lowerTo 26 = .ok (.lload_n 1, 1) := by decide +kernel
theorem dX1_lowerTo_27 : decode cX1_lowerTo 27 = .ok (.lload_n 3, 1) := by decide +kernel
theorem dX1_lowerTo_28 : decode cX1_lowerTo 28 = .ok (.invokevirtual 22, 3) := by decide +kernel
theorem dX1_lowerTo_31 : decode cX1_lowerTo 31 = .ok (.return_, 1) := by decide +kernel
theorem dX1_raiseTo_0 : decode cX1_raiseTo 0 = .ok (.aload_n 0, 1) := by decide +kernel
theorem dX1_raiseTo_1 : decode cX1_raiseTo 1 = .ok (.getfield 19, 3) := by decide +kernel
theorem dX1_raiseTo_4 : decode cX1_raiseTo 4 = .ok (.lconst 0, 1) := by decide +kernel
theorem dX1_raiseTo_5 : decode cX1_raiseTo 5 = .ok (.lcmp, 1) := by decide +kernel
theorem dX1_raiseTo_6 : decode cX1_raiseTo 6 = .ok (.ifCond .eq 19, 3) := by decide +kernel
theorem dX1_raiseTo_9 : decode cX1_raiseTo 9 = .ok (.lload_n 1, 1) := by decide +kernel
theorem dX1_raiseTo_10 : decode cX1_raiseTo 10 = .ok (.aload_n 0, 1) := by decide +kernel
theorem dX1_raiseTo_11 : decode cX1_raiseTo 11 = .ok (.getfield 19, 3) := by decide +kernel
theorem dX1_raiseTo_14 : decode cX1_raiseTo 14 = .ok (.lmul, 1) := by decide +kernel
theorem dX1_raiseTo_15 : decode cX1_raiseTo 15 = .ok (.aload_n 0, 1) := by decide +kernel
theorem dX1_raiseTo_16 : decode cX1_raiseTo 16 = .ok (.getfield 13, 3) := by decide +kernel
theorem dX1_raiseTo_19 : decode cX1_raiseTo 19 = .ok (.lload_n 3, 1) := by decide +kernel
theorem dX1_raiseTo_20 : decode cX1_raiseTo 20 = .ok (.lmul, 1) := by decide +kernel
theorem dX1_raiseTo_21 : decode cX1_raiseTo 21 = .ok (.lcmp, 1) := by decide +kernel
theorem dX1_raiseTo_22 : decode cX1_raiseTo 22 = .ok (.ifCond .le 9, 3) := by decide +kernel
theorem dX1_raiseTo_25 : decode cX1_raiseTo 25 = .ok (.aload_n 0, 1) := by decide +kernel
theorem dX1_raiseTo_26 : decode cX1_raiseTo 26 = .ok (.lload_n 1, 1) := by decide +kernel
theorem dX1_raiseTo_27 : decode cX1_raiseTo 27 = .ok (.lload_n 3, 1) := by decide +kernel
theorem dX1_raiseTo_28 : decode cX1_raiseTo 28 = .ok (.invokevirtual 22, 3) := by decide +kernel
theorem dX1_raiseTo_31 : decode cX1_raiseTo 31 = .ok (.return_, 1) := by decide +kernel
theorem dX0_include_0 : decode cX0_include 0 = .ok (.aload_n 0, 1) := by decide +kernel
theorem dX0_include_1 : decode cX0_include 1 = .ok (.getfield 10, 3) := by decide +kernel
theorem dX0_include_4 : decode cX0_include 4 = .ok (.aload_n 1, 1) := by decide +kernel
theorem dX0_include_5 : decode cX0_include 5 = .ok (.getfield 29, 3) := by decide +kernel
theorem dX0_include_8 : decode cX0_include 8 = .ok (.aload_n 1, 1) := by decide +kernel
theorem dX0_include_9 : decode cX0_include 9 = .ok (.getfield 35, 3) := by decide +kernel
theorem dX0_include_12 : decode cX0_include 12 = .ok (.invokevirtual 38, 3) := by decide +kernel
theorem dX0_include_15 : decode cX0_include 15 = .ok (.aload_n 0, 1) := by decide +kernel
theorem dX0_include_16 : decode cX0_include 16 = .ok (.getfield 16, 3) := by decide +kernel
theorem dX0_include_19 : decode cX0_include 19 = .ok (.aload_n 1, 1) := by decide +kernel
theorem dX0_include_20 : decode cX0_include 20 = .ok (.getfield 41, 3) := by decide +kernel
theorem dX0_include_23 : decode cX0_include 23 = .ok (.aload_n 1, 1) := by decide +kernel
theorem dX0_include_24 : decode cX0_include 24 = .ok (.getfield 35, 3) := by decide +kernel
theorem dX0_include_27 : decode cX0_include 27 = .ok (.invokevirtual 38, 3) := by decide +kernel
theorem dX0_include_30 : decode cX0_include 30 = .ok (.aload_n 0, 1) := by decide +kernel
theorem dX0_include_31 : decode cX0_include 31 = .ok (.getfield 19, 3) := by decide +kernel
theorem dX0_include_34 : decode cX0_include 34 = .ok (.aload_n 1, 1) := by decide +kernel
theorem dX0_include_35 : decode cX0_include 35 = .ok (.getfield 29, 3) := by decide +kernel
theorem dX0_include_38 : decode cX0_include 38 = .ok (.aload_n 1, 1) := by decide +kernel
theorem dX0_include_39 : decode cX0_include 39 = .ok (.getfield 35, 3) := by decide +kernel
theorem dX0_include_42 : decode cX0_include 42 = .ok (.invokevirtual 44, 3) := by decide +kernel
theorem dX0_include_45 : decode cX0_include 45 = .ok (.aload_n 0, 1) := by decide +kernel
theorem dX0_include_46 : decode cX0_include 46 = .ok (.getfield 22, 3) := by decide +kernel
theorem dX0_include_49 : decode cX0_include 49 = .ok (.aload_n 1, 1) := by decide +kernel
theorem dX0_include_50 : decode cX0_include 50 = .ok (.getfield 41, 3) := by decide +kernel
theorem dX0_include_53 : decode cX0_include 53 = .ok (.aload_n 1, 1) := by decide +kernel
theorem dX0_include_54 : decode cX0_include 54 = .ok (.getfield 35, 3) := by decide +kernel
theorem dX0_include_57 : decode cX0_include 57 = .ok (.invokevirtual 44, 3) := by decide +kernel
theorem dX0_include_60 : decode cX0_include 60 = .ok (.return_, 1) := by decide +kernel
theorem dX4_isShownAt_0 : decode cX4_isShownAt 0 = .ok (.aload_n 0, 1) := by decide +kernel
theorem dX4_isShownAt_1 : decode cX4_isShownAt 1 = .ok (.astore_n 2, 1) := by decide +kernel
theorem dX4_isShownAt_2 : decode cX4_isShownAt 2 = .ok (.aload_n 2, 1) := by decide +kernel
theorem dX4_isShownAt_3 : decode cX4_isShownAt 3 = .ok (.ifnull 31, 3) := by decide +kernel
theorem dX4_isShownAt_6 : decode cX4_isShownAt 6 = .ok (.aload_n 2, 1) := by decide +kernel
theorem dX4_isShownAt_7 : decode cX4_isShownAt 7 = .ok (.getfield 68, 3) := by decide +kernel
theorem dX4_isShownAt_10 : decode cX4_isShownAt 10 = .ok (.ifCond .ne 14, 3) := by decide +kernel
theorem dX4_isShownAt_13 : decode cX4_isShownAt 13 = .ok (.aload_n 2, 1) := by decide +kernel
theorem dX4_isShownAt_14 : decode cX4_isShownAt 14 = .ok (.getfield 26, 3) := by decide +kernel
theorem dX4_isShownAt_17 : decode cX4_isShownAt 17 = .ok (.iload_n 1, 1) := by decide +kernel
theorem dX4_isShownAt_18 : decode cX4_isShownAt 18 = .ok (.invokevirtual 71, 3) := by decide +kernel
theorem dX4_isShownAt_21 : decode cX4_isShownAt 21 = .ok (.ifCond .ne 5, 3) := by decide +kernel
theorem dX4_isShownAt_24 : decode cX4_isShownAt 24 = .ok (.iconst 0, 1) := by decide +kernel
theorem dX4_isShownAt_25 : decode cX4_isShownAt 25 = .ok (.ireturn, 1) := by decide +kernel
theorem dX4_isShownAt_26 : decode cX4_isShownAt 26 = .ok (.aload_n 2, 1) := by decide +kernel
theorem dX4_isShownAt_27 : decode cX4_isShownAt 27 = .ok (.getfield 51, 3) := by decide +kernel
theorem dX4_isShownAt_30 : decode cX4_isShownAt 30 = .ok (.astore_n 2, 1) := by decide +kernel
theorem dX4_isShownAt_31 : decode cX4_isShownAt 31 = .ok (.goto (-29), 3) := by decide +kernel
theorem dX4_isShownAt_34 : decode cX4_isShownAt 34 = .ok (.iconst 1, 1) := by decide +kernel
theorem dX4_isShownAt_35 : decode cX4_isShownAt 35 = .ok (.ireturn, 1) := by decide +kernel
theorem dX4_isWithin_0 : decode cX4_isWithin 0 = .ok (.aload_n 0, 1) := by decide +kernel
theorem dX4_isWithin_1 : decode cX4_isWithin 1 = .ok (.astore_n 2, 1) := by decide +kernel
theorem dX4_isWithin_2 : decode cX4_isWithin 2 = .ok (.aload_n 2, 1) := by decide +kernel
theorem dX4_isWithin_3 : decode cX4_isWithin 3 = .ok (.ifnull 18, 3) := by decide +kernel
theorem dX4_isWithin_6 : decode cX4_isWithin 6 = .ok (.aload_n 2, 1) := by decide +kernel
theorem dX4_isWithin_7 : decode cX4_isWithin 7 = .ok (.aload_n 1, 1) := by decide +kernel
theorem dX4_isWithin_8 : decode cX4_isWithin 8 = .ok (.if_acmp .ne 5, 3) := by decide +kernel
theorem dX4_isWithin_11 : decode cX4_isWithin 11 = .ok (.iconst 1, 1) := by decide +kernel
theorem dX4_isWithin_12 : decode cX4_isWithin 12 = .ok (.ireturn, 1) := by decide +kernel
theorem dX4_isWithin_13 : decode cX4_isWithin 13 = .ok (.aload_n 2, 1) := by decide +kernel
theorem dX4_isWithin_14 : decode cX4_isWithin 14 = .ok (.getfield 51, 3) := by decide +kernel
theorem dX4_isWithin_17 : decode cX4_isWithin 17 = .ok (.astore_n 2, 1) := by decide +kernel
theorem dX4_isWithin_18 : decode cX4_isWithin 18 = .ok (.goto (-16), 3) := by decide +kernel
theorem dX4_isWithin_21 : decode cX4_isWithin 21 = .ok (.iconst 0, 1) := by decide +kernel
theorem dX4_isWithin_22 : decode cX4_isWithin 22 = .ok (.ireturn, 1) := by decide +kernel
theorem dX7_gatherBounds_0 : decode cX7_gatherBounds 0 = .ok (.aload_n 0, 1) := by decide +kernel
theorem dX7_gatherBounds_1 : decode cX7_gatherBounds 1 = .ok (.getfield 38, 3) := by decide +kernel
theorem dX7_gatherBounds_4 : decode cX7_gatherBounds 4 = .ok (.invokevirtual 382, 3) := by decide +kernel
theorem dX7_gatherBounds_7 : decode cX7_gatherBounds 7 = .ok (.aload_n 0, 1) := by decide +kernel
theorem dX7_gatherBounds_8 : decode cX7_gatherBounds 8 = .ok (.getfield 46, 3) := by decide +kernel
theorem dX7_gatherBounds_11 : decode cX7_gatherBounds 11 = .ok (.astore_n 2, 1) := by decide +kernel
theorem dX7_gatherBounds_12 : decode cX7_gatherBounds 12 = .ok (.aload_n 2, 1) := by decide +kernel
theorem dX7_gatherBounds_13 : decode cX7_gatherBounds 13 = .ok (.ifnull 97, 3) := by decide +kernel
theorem dX7_gatherBounds_16 : decode cX7_gatherBounds 16 = .ok (.aload_n 2, 1) := by decide +kernel
theorem dX7_gatherBounds_17 : decode cX7_gatherBounds 17 = .ok (.getfield 385, 3) := by decide +kernel
theorem dX7_gatherBounds_20 : decode cX7_gatherBounds 20 = .ok (.ifCond .eq 82, 3) := by decide +kernel
theorem dX7_gatherBounds_23 : decode cX7_gatherBounds 23 = .ok (.aload_n 2, 1) := by decide +kernel
theorem dX7_gatherBounds_24 : decode cX7_gatherBounds 24 = .ok (.aload_n 1, 1) := by decide +kernel
theorem dX7_gatherBounds_25 : decode cX7_gatherBounds 25 = .ok (.invokevirtual 91, 3) := by decide +kernel
theorem dX7_gatherBounds_28 : decode cX7_gatherBounds 28 = .ok (.ifCond .eq 74, 3) := by decide +kernel
theorem dX7_gatherBounds_31 : decode cX7_gatherBounds 31 = .ok (.aload_n 2, 1) := by decide +kernel
theorem dX7_gatherBounds_32 : decode cX7_gatherBounds 32 = .ok (.aload_n 0, 1) := by decide +kernel
theorem dX7_gatherBounds_33 : decode cX7_gatherBounds 33 = .ok (.getfield 232, 3) := by decide +kernel
theorem dX7_gatherBounds_36 : decode cX7_gatherBounds 36 = .ok (.invokevirtual 280, 3) := by decide +kernel
theorem dX7_gatherBounds_39 : decode cX7_gatherBounds 39 = .ok (.ifCond .eq 63, 3) := by decide +kernel
theorem dX7_gatherBounds_42 : decode cX7_gatherBounds 42 = .ok (.aload_n 0, 1) := by decide +kernel
theorem dX7_gatherBounds_43 : decode cX7_gatherBounds 43 = .ok (.aload_n 2, 1) := by decide +kernel
theorem dX7_gatherBounds_44 : decode cX7_gatherBounds 44 = .ok (.aload_n 2, 1) := by decide +kernel
theorem dX7_gatherBounds_45 : decode cX7_gatherBounds 45 = .ok (.getfield 388, 3) := by decide +kernel
theorem dX7_gatherBounds_48 : decode cX7_gatherBounds 48 = .ok (.getfield 391, 3) := by decide +kernel
theorem dX7_gatherBounds_51 : decode cX7_gatherBounds 51 = .ok (.aload_n 2, 1) := by decide +kernel
theorem dX7_gatherBounds_52 : decode cX7_gatherBounds 52 = .ok (.getfield 388, 3) := by decide +kernel
theorem dX7_gatherBounds_55 : decode cX7_gatherBounds 55 = .ok (.getfield 394, 3) := by decide +kernel
theorem dX7_gatherBounds_58 : decode cX7_gatherBounds 58 = .ok (.invokevirtual 248, 3) := by decide +kernel
theorem dX7_gatherBounds_61 : decode cX7_gatherBounds 61 = .ok (.aload_n 0, 1) := by decide +kernel
theorem dX7_gatherBounds_62 : decode cX7_gatherBounds 62 = .ok (.getfield 38, 3) := by decide +kernel
theorem dX7_gatherBounds_65 : decode cX7_gatherBounds 65 = .ok (.aload_n 0, 1) := by decide +kernel
theorem dX7_gatherBounds_66 : decode cX7_gatherBounds 66 = .ok (.getfield 31, 3) := by decide +kernel
theorem dX7_gatherBounds_69 : decode cX7_gatherBounds 69 = .ok (.invokevirtual 397, 3) := by decide +kernel
theorem dX7_gatherBounds_72 : decode cX7_gatherBounds 72 = .ok (.aload_n 0, 1) := by decide +kernel
theorem dX7_gatherBounds_73 : decode cX7_gatherBounds 73 = .ok (.aload_n 2, 1) := by decide +kernel
theorem dX7_gatherBounds_74 : decode cX7_gatherBounds 74 = .ok (.aload_n 2, 1) := by decide +kernel
theorem dX7_gatherBounds_75 : decode cX7_gatherBounds 75 = .ok (.getfield 388, 3) := by decide +kernel
theorem dX7_gatherBounds_78 : decode cX7_gatherBounds 78 = .ok (.getfield 401, 3) := by decide +kernel
theorem dX7_gatherBounds_81 : decode cX7_gatherBounds 81 = .ok (.aload_n 2, 1) := by decide +kernel
theorem dX7_gatherBounds_82 : decode cX7_gatherBounds 82 = .ok (.getfield 388, 3) := by decide +kernel
theorem dX7_gatherBounds_85 : decode cX7_gatherBounds 85 = .ok (.getfield 404, 3) := by decide +kernel
theorem dX7_gatherBounds_88 : decode cX7_gatherBounds 88 = .ok (.invokevirtual 248, 3) := by decide +kernel
theorem dX7_gatherBounds_91 : decode cX7_gatherBounds 91 = .ok (.aload_n 0, 1) := by decide +kernel
theorem dX7_gatherBounds_92 : decode cX7_gatherBounds 92 = .ok (.getfield 38, 3) := by decide +kernel
theorem dX7_gatherBounds_95 : decode cX7_gatherBounds 95 = .ok (.aload_n 0, 1) := by decide +kernel
theorem dX7_gatherBounds_96 : decode cX7_gatherBounds 96 = .ok (.getfield 31, 3) := by decide +kernel
theorem dX7_gatherBounds_99 : decode cX7_gatherBounds 99 = .ok (.invokevirtual 397, 3) := by decide +kernel
theorem dX7_gatherBounds_102 : decode cX7_gatherBounds 102 = .ok (.aload_n 2, 1) := by decide +kernel
theorem dX7_gatherBounds_103 : decode cX7_gatherBounds 103 = .ok (.getfield 98, 3) := by decide +kernel
theorem dX7_gatherBounds_106 : decode cX7_gatherBounds 106 = .ok (.astore_n 2, 1) := by decide +kernel
theorem dX7_gatherBounds_107 : decode cX7_gatherBounds 107 = .ok (.goto (-95), 3) := by decide +kernel
theorem dX7_gatherBounds_110 : decode cX7_gatherBounds 110 = .ok (.return_, 1) := by decide +kernel
theorem dX7_bound_0 : decode cX7_bound 0 = .ok (.aload_n 0, 1) := by decide +kernel
theorem dX7_bound_1 : decode cX7_bound 1 = .ok (.iload_n 1, 1) := by decide +kernel
theorem dX7_bound_2 : decode cX7_bound 2 = .ok (.invokevirtual 52, 3) := by decide +kernel
theorem dX7_bound_5 : decode cX7_bound 5 = .ok (.astore 4, 2) := by decide +kernel
theorem dX7_bound_7 : decode cX7_bound 7 = .ok (.iload_n 2, 1) := by decide +kernel
theorem dX7_bound_8 : decode cX7_bound 8 = .ok (.iconst 0, 1) := by decide +kernel
theorem dX7_bound_9 : decode cX7_bound 9 = .ok (.iconst 3, 1) := by decide +kernel
theorem dX7_bound_10 : decode cX7_bound 10 = .ok (.invokestatic 56, 3) := by decide +kernel
theorem dX7_bound_13 : decode cX7_bound 13 = .ok (.ifCond .ne 14, 3) := by decide +kernel
theorem dX7_bound_16 : decode cX7_bound 16 = .ok (.new 60, 3) := by decide +kernel
theorem dX7_bound_19 : decode cX7_bound 19 = .ok (.dup, 1) := by decide +kernel
theorem dX7_bound_20 : decode cX7_bound 20 = .ok (.ldc_w 264, 3) := by decide +kernel
theorem dX7_bound_23 : decode cX7_bound 23 = .ok (.invokespecial 64, 3) := by decide +kernel
theorem dX7_bound_26 : decode cX7_bound 26 = .ok (.athrow, 1) := by decide +kernel
theorem dX7_bound_27 : decode cX7_bound 27 = .ok (.aload_n 0, 1) := by decide +kernel
theorem dX7_bound_28 : decode cX7_bound 28 = .ok (.aload 4, 2) := by decide +kernel
theorem dX7_bound_30 : decode cX7_bound 30 = .ok (.invokevirtual 266, 3) := by decide +kernel
theorem dX7_bound_33 : decode cX7_bound 33 = .ok (.aload_n 0, 1) := by decide +kernel
theorem dX7_bound_34 : decode cX7_bound 34 = .ok (.getfield 38, 3) := by decide +kernel
theorem dX7_bound_37 : decode cX7_bound 37 = .ok (.iload_n 2, 1) := by decide +kernel
theorem dX7_bound_38 : decode cX7_bound 38 = .ok (.invokevirtual 269, 3) := by decide +kernel
theorem dX7_bound_41 : decode cX7_bound 41 = .ok (.astore 5, 2) := by decide +kernel
theorem dX7_bound_43 : decode cX7_bound 43 = .ok (.iload_n 3, 1) := by decide +kernel
theorem dX7_bound_44 : decode cX7_bound 44 = .ok (.ifCond .eq 11, 3) := by decide +kernel
theorem dX7_bound_47 : decode cX7_bound 47 = .ok (.aload 5, 2) := by decide +kernel
theorem dX7_bound_49 : decode cX7_bound 49 = .ok (.getfield 273, 3) := by decide +kernel
theorem dX7_bound_52 : decode cX7_bound 52 = .ok (.goto 8, 3) := by decide +kernel
theorem dX7_bound_55 : decode cX7_bound 55 = .ok (.aload 5, 2) := by decide +kernel
theorem dX7_bound_57 : decode cX7_bound 57 = .ok (.getfield 278, 3) := by decide +kernel
theorem dX7_bound_60 : decode cX7_bound 60 = .ok (.l2i, 1) := by decide +kernel
theorem dX7_bound_61 : decode cX7_bound 61 = .ok (.ireturn, 1) := by decide +kernel
theorem dX6_differs_0 : decode cX6_differs 0 = .ok (.aload_n 0, 1) := by decide +kernel
theorem dX6_differs_1 : decode cX6_differs 1 = .ok (.getfield 40, 3) := by decide +kernel
theorem dX6_differs_4 : decode cX6_differs 4 = .ok (.ifnull 20, 3) := by decide +kernel
theorem dX6_differs_7 : decode cX6_differs 7 = .ok (.aload_n 0, 1) := by decide +kernel
theorem dX6_differs_8 : decode cX6_differs 8 = .ok (.iload_n 1, 1) := by decide +kernel
theorem dX6_differs_9 : decode cX6_differs 9 = .ok (.invokevirtual 54, 3) := by decide +kernel
theorem dX6_differs_12 : decode cX6_differs 12 = .ok (.aload_n 0, 1) := by decide +kernel
theorem dX6_differs_13 : decode cX6_differs 13 = .ok (.iload_n 2, 1) := by decide +kernel
theorem dX6_differs_14 : decode cX6_differs 14 = .ok (.invokevirtual 54, 3) := by decide +kernel
theorem dX6_differs_17 : decode cX6_differs 17 = .ok (.if_icmp .eq 7, 3) := by decide +kernel
theorem dX6_differs_20 : decode cX6_differs 20 = .ok (.iconst 1, 1) := by decide +kernel
theorem dX6_differs_21 : decode cX6_differs 21 = .ok (.goto 4, 3) := by decide +kernel
theorem dX6_differs_24 : decode cX6_differs 24 = .ok (.iconst 0, 1) := by decide +kernel
theorem dX6_differs_25 : decode cX6_differs 25 = .ok (.ireturn, 1) := by decide +kernel
theorem dX4_differs_0 : decode cX4_differs 0 = .ok (.aload_n 0, 1) := by decide +kernel
theorem dX4_differs_1 : decode cX4_differs 1 = .ok (.astore_n 3, 1) := by decide +kernel
theorem dX4_differs_2 : decode cX4_differs 2 = .ok (.aload_n 3, 1) := by decide +kernel
theorem dX4_differs_3 : decode cX4_differs 3 = .ok (.ifnull 61, 3) := by decide +kernel
theorem dX4_differs_6 : decode cX4_differs 6 = .ok (.aload_n 3, 1) := by decide +kernel
theorem dX4_differs_7 : decode cX4_differs 7 = .ok (.getfield 14, 3) := by decide +kernel
theorem dX4_differs_10 : decode cX4_differs 10 = .ok (.iload_n 1, 1) := by decide +kernel
theorem dX4_differs_11 : decode cX4_differs 11 = .ok (.iload_n 2, 1) := by decide +kernel
theorem dX4_differs_12 : decode cX4_differs 12 = .ok (.invokevirtual 75, 3) := by decide +kernel
theorem dX4_differs_15 : decode cX4_differs 15 = .ok (.ifCond .ne 39, 3) := by decide +kernel
theorem dX4_differs_18 : decode cX4_differs 18 = .ok (.aload_n 3, 1) := by decide +kernel
theorem dX4_differs_19 : decode cX4_differs 19 = .ok (.getfield 20, 3) := by decide +kernel
theorem dX4_differs_22 : decode cX4_differs 22 = .ok (.iload_n 1, 1) := by decide +kernel
theorem dX4_differs_23 : decode cX4_differs 23 = .ok (.iload_n 2, 1) := by decide +kernel
theorem dX4_differs_24 : decode cX4_differs 24 = .ok (.invokevirtual 75, 3) := by decide +kernel
theorem dX4_differs_27 : decode cX4_differs 27 = .ok (.ifCond .ne 27, 3) := by decide +kernel
theorem dX4_differs_30 : decode cX4_differs 30 = .ok (.aload_n 3, 1) := by decide +kernel
theorem dX4_differs_31 : decode cX4_differs 31 = .ok (.getfield 23, 3) := by decide +kernel
theorem dX4_differs_34 : decode cX4_differs 34 = .ok (.iload_n 1, 1) := by decide +kernel
theorem dX4_differs_35 : decode cX4_differs 35 = .ok (.iload_n 2, 1) := by decide +kernel
theorem dX4_differs_36 : decode cX4_differs 36 = .ok (.invokevirtual 75, 3) := by decide +kernel
theorem dX4_differs_39 : decode cX4_differs 39 = .ok (.ifCond .ne 15, 3) := by decide +kernel
theorem dX4_differs_42 : decode cX4_differs 42 = .ok (.aload_n 3, 1) := by decide +kernel
theorem dX4_differs_43 : decode cX4_differs 43 = .ok (.getfield 26, 3) := by decide +kernel
theorem dX4_differs_46 : decode cX4_differs 46 = .ok (.iload_n 1, 1) := by decide +kernel
theorem dX4_differs_47 : decode cX4_differs 47 = .ok (.iload_n 2, 1) := by decide +kernel
theorem dX4_differs_48 : decode cX4_differs 48 = .ok (.invokevirtual 75, 3) := by decide +kernel
theorem dX4_differs_51 : decode cX4_differs 51 = .ok (.ifCond .eq 5, 3) := by decide +kernel
theorem dX4_differs_54 : decode cX4_differs 54 = .ok (.iconst 1, 1) := by decide +kernel
theorem dX4_differs_55 : decode cX4_differs 55 = .ok (.ireturn, 1) := by decide +kernel
theorem dX4_differs_56 : decode cX4_differs 56 = .ok (.aload_n 3, 1) := by decide +kernel
theorem dX4_differs_57 : decode cX4_differs 57 = .ok (.getfield 51, 3) := by decide +kernel
theorem dX4_differs_60 : decode cX4_differs 60 = .ok (.astore_n 3, 1) := by decide +kernel
theorem dX4_differs_61 : decode cX4_differs 61 = .ok (.goto (-59), 3) := by decide +kernel
theorem dX4_differs_64 : decode cX4_differs 64 = .ok (.iconst 0, 1) := by decide +kernel
theorem dX4_differs_65 : decode cX4_differs 65 = .ok (.ireturn, 1) := by decide +kernel
theorem dX7_checkTime_0 : decode cX7_checkTime 0 = .ok (.iload_n 0, 1) := by decide +kernel
theorem dX7_checkTime_1 : decode cX7_checkTime 1 = .ok (.iconst 0, 1) := by decide +kernel
theorem dX7_checkTime_2 : decode cX7_checkTime 2 = .ok (.sipush 9999, 3) := by decide +kernel
theorem dX7_checkTime_5 : decode cX7_checkTime 5 = .ok (.invokestatic 56, 3) := by decide +kernel
theorem dX7_checkTime_8 : decode cX7_checkTime 8 = .ok (.ifCond .ne 14, 3) := by decide +kernel
theorem dX7_checkTime_11 : decode cX7_checkTime 11 = .ok (.new 60, 3) := by decide +kernel
theorem dX7_checkTime_14 : decode cX7_checkTime 14 = .ok (.dup, 1) := by decide +kernel
theorem dX7_checkTime_15 : decode cX7_checkTime 15 = .ok (.ldc_w 349, 3) := by decide +kernel
theorem dX7_checkTime_18 : decode cX7_checkTime 18 = .ok (.invokespecial 64, 3) := by decide +kernel
theorem dX7_checkTime_21 : decode cX7_checkTime 21 = .ok (.athrow, 1) := by decide +kernel
theorem dX7_checkTime_22 : decode cX7_checkTime 22 = .ok (.return_, 1) := by decide +kernel
theorem dX7_changes_0 : decode cX7_changes 0 = .ok (.iload_n 1, 1) := by decide +kernel
theorem dX7_changes_1 : decode cX7_changes 1 = .ok (.invokestatic 228, 3) := by decide +kernel
theorem dX7_changes_4 : decode cX7_changes 4 = .ok (.iload_n 2, 1) := by decide +kernel
theorem dX7_changes_5 : decode cX7_changes 5 = .ok (.invokestatic 228, 3) := by decide +kernel
theorem dX7_changes_8 : decode cX7_changes 8 = .ok (.iconst 0, 1) := by decide +kernel
theorem dX7_changes_9 : decode cX7_changes 9 = .ok (.istore_n 3, 1) := by decide +kernel
theorem dX7_changes_10 : decode cX7_changes 10 = .ok (.aload_n 0, 1) := by decide +kernel
theorem dX7_changes_11 : decode cX7_changes 11 = .ok (.getfield 46, 3) := by decide +kernel
theorem dX7_changes_14 : decode cX7_changes 14 = .ok (.astore 4, 2) := by decide +kernel
theorem dX7_changes_16 : decode cX7_changes 16 = .ok (.aload 4, 2) := by decide +kernel
theorem dX7_changes_18 : decode cX7_changes 18 = .ok (.ifnull 26, 3) := by decide +kernel
theorem dX7_changes_21 : decode cX7_changes 21 = .ok (.aload 4, 2) := by decide +kernel
theorem dX7_changes_23 : decode cX7_changes 23 = .ok (.iload_n 1, 1) := by decide +kernel
theorem dX7_changes_24 : decode cX7_changes 24 = .ok (.iload_n 2, 1) := by decide +kernel
theorem dX7_changes_25 : decode cX7_changes 25 = .ok (.invokevirtual 306, 3) := by decide +kernel
theorem dX7_changes_28 : decode cX7_changes 28 = .ok (.ifCond .eq 6, 3) := by decide +kernel
theorem dX7_changes_31 : decode cX7_changes 31 = .ok (.iinc 3 1, 3) := by decide +kernel
theorem dX7_changes_34 : decode cX7_changes 34 = .ok (.aload 4, 2) := by decide +kernel
theorem dX7_changes_36 : decode cX7_changes 36 = .ok (.getfield 98, 3) := by decide +kernel
theorem dX7_changes_39 : decode cX7_changes 39 = .ok (.astore 4, 2) := by decide +kernel
theorem dX7_changes_41 : decode cX7_changes 41 = .ok (.goto (-25), 3) := by decide +kernel
theorem dX7_changes_44 : decode cX7_changes 44 = .ok (.iload_n 3, 1) := by decide +kernel
theorem dX7_changes_45 : decode cX7_changes 45 = .ok (.ireturn, 1) := by decide +kernel
theorem dX7_common_0 : decode cX7_common 0 = .ok (.aload_n 0, 1) := by decide +kernel
theorem dX7_common_1 : decode cX7_common 1 = .ok (.iload_n 1, 1) := by decide +kernel
theorem dX7_common_2 : decode cX7_common 2 = .ok (.invokevirtual 52, 3) := by decide +kernel
theorem dX7_common_5 : decode cX7_common 5 = .ok (.astore_n 3, 1) := by decide +kernel
theorem dX7_common_6 : decode cX7_common 6 = .ok (.aload_n 0, 1) := by decide +kernel
theorem dX7_common_7 : decode cX7_common 7 = .ok (.iload_n 2, 1) := by decide +kernel
theorem dX7_common_8 : decode cX7_common 8 = .ok (.invokevirtual 52, 3) := by decide +kernel
theorem dX7_common_11 : decode cX7_common 11 = .ok (.astore 4, 2) := by decide +kernel
theorem dX7_common_13 : decode cX7_common 13 = .ok (.aload_n 3, 1) := by decide +kernel
theorem dX7_common_14 : decode cX7_common 14 = .ok (.astore 5, 2) := by decide +kernel
theorem dX7_common_16 : decode cX7_common 16 = .ok (.aload 5, 2) := by decide +kernel
theorem dX7_common_18 : decode cX7_common 18 = .ok (.ifnull 29, 3) := by decide +kernel
theorem dX7_common_21 : decode cX7_common 21 = .ok (.aload 4, 2) := by decide +kernel
theorem dX7_common_23 : decode cX7_common 23 = .ok (.aload 5, 2) := by decide +kernel
theorem dX7_common_25 : decode cX7_common 25 = .ok (.invokevirtual 91, 3) := by decide +kernel
theorem dX7_common_28 : decode cX7_common 28 = .ok (.ifCond .eq 9, 3) := by decide +kernel
theorem dX7_common_31 : decode cX7_common 31 = .ok (.aload 5, 2) := by decide +kernel
theorem dX7_common_33 : decode cX7_common 33 = .ok (.getfield 85, 3) := by decide +kernel
theorem dX7_common_36 : decode cX7_common 36 = .ok (.ireturn, 1) := by decide +kernel
theorem dX7_common_37 : decode cX7_common 37 = .ok (.aload 5, 2) := by decide +kernel
theorem dX7_common_39 : decode cX7_common 39 = .ok (.getfield 173, 3) := by decide +kernel
theorem dX7_common_42 : decode cX7_common 42 = .ok (.astore 5, 2) := by decide +kernel
theorem dX7_common_44 : decode cX7_common 44 = .ok (.goto (-28), 3) := by decide +kernel
theorem dX7_common_47 : decode cX7_common 47 = .ok (.aload_n 0, 1) := by decide +kernel
theorem dX7_common_48 : decode cX7_common 48 = .ok (.getfield 24, 3) := by decide +kernel
theorem dX7_common_51 : decode cX7_common 51 = .ok (.getfield 85, 3) := by decide +kernel
theorem dX7_common_54 : decode cX7_common 54 = .ok (.ireturn, 1) := by decide +kernel
theorem dX7_checkSpot_0 : decode cX7_checkSpot 0 = .ok (.iload_n 0, 1) := by decide +kernel
theorem dX7_checkSpot_1 : decode cX7_checkSpot 1 = .ok (.sipush (-10000), 3) := by decide +kernel
theorem dX7_checkSpot_4 : decode cX7_checkSpot 4 = .ok (.sipush 10000, 3) := by decide +kernel
theorem dX7_checkSpot_7 : decode cX7_checkSpot 7 = .ok (.invokestatic 56, 3) := by decide +kernel
theorem dX7_checkSpot_10 : decode cX7_checkSpot 10 = .ok (.ifCond .eq 16, 3) := by decide +kernel
theorem dX7_checkSpot_13 : decode cX7_checkSpot 13 = .ok (.iload_n 1, 1) := by decide +kernel
theorem dX7_checkSpot_14 : decode cX7_checkSpot 14 = .ok (.sipush (-10000), 3) := by decide +kernel
theorem dX7_checkSpot_17 : decode cX7_checkSpot 17 = .ok (.sipush 10000, 3) := by decide +kernel
theorem dX7_checkSpot_20 : decode cX7_checkSpot 20 = .ok (.invokestatic 56, 3) := by decide +kernel
theorem dX7_checkSpot_23 : decode cX7_checkSpot 23 = .ok (.ifCond .ne 14, 3) := by decide +kernel
theorem dX7_checkSpot_26 : decode cX7_checkSpot 26 = .ok (.new 60, 3) := by decide +kernel
theorem dX7_checkSpot_29 : decode cX7_checkSpot 29 = .ok (.dup, 1) := by decide +kernel
theorem dX7_checkSpot_30 : decode cX7_checkSpot 30 = .ok (.ldc_w 355, 3) := by decide +kernel
theorem dX7_checkSpot_33 : decode cX7_checkSpot 33 = .ok (.invokespecial 64, 3) := by decide +kernel
theorem dX7_checkSpot_36 : decode cX7_checkSpot 36 = .ok (.athrow, 1) := by decide +kernel
theorem dX7_checkSpot_37 : decode cX7_checkSpot 37 = .ok (.iload_n 2, 1) := by decide +kernel
theorem dX7_checkSpot_38 : decode cX7_checkSpot 38 = .ok (.iconst 1, 1) := by decide +kernel
theorem dX7_checkSpot_39 : decode cX7_checkSpot 39 = .ok (.bipush 60, 2) := by decide +kernel
theorem dX7_checkSpot_41 : decode cX7_checkSpot 41 = .ok (.invokestatic 56, 3) := by decide +kernel
theorem dX7_checkSpot_44 : decode cX7_checkSpot 44 = .ok (.ifCond .ne 14, 3) := by decide +kernel
theorem dX7_checkSpot_47 : decode cX7_checkSpot 47 = .ok (.new 60, 3) := by decide +kernel
theorem dX7_checkSpot_50 : decode cX7_checkSpot 50 = .ok (.dup, 1) := by decide +kernel
theorem dX7_checkSpot_51 : decode cX7_checkSpot 51 = .ok (.ldc_w 357, 3) := by decide +kernel
theorem dX7_checkSpot_54 : decode cX7_checkSpot 54 = .ok (.invokespecial 64, 3) := by decide +kernel
theorem dX7_checkSpot_57 : decode cX7_checkSpot 57 = .ok (.athrow, 1) := by decide +kernel
theorem dX7_checkSpot_58 : decode cX7_checkSpot 58 = .ok (.return_, 1) := by decide +kernel
theorem dX2_isAheadOfSlope_0 : decode cX2_isAheadOfSlope 0 = .ok (.aload_n 1, 1) := by decide +kernel
theorem dX2_isAheadOfSlope_1 : decode cX2_isAheadOfSlope 1 = .ok (.getfield 22, 3) := by decide +kernel
theorem dX2_isAheadOfSlope_4 : decode cX2_isAheadOfSlope 4 = .ok (.aload_n 0, 1) := by decide +kernel
theorem dX2_isAheadOfSlope_5 : decode cX2_isAheadOfSlope 5 = .ok (.getfield 19, 3) := by decide +kernel
theorem dX2_isAheadOfSlope_8 : decode cX2_isAheadOfSlope 8 = .ok (.i2l, 1) := by decide +kernel
theorem dX2_isAheadOfSlope_9 : decode cX2_isAheadOfSlope 9 = .ok (.lmul, 1) := by decide +kernel
theorem dX2_isAheadOfSlope_10 : decode cX2_isAheadOfSlope 10 = .ok (.aload_n 1, 1) := by decide +kernel
theorem dX2_isAheadOfSlope_11 : decode cX2_isAheadOfSlope 11 = .ok (.getfield 31, 3) := by decide +kernel
theorem dX2_isAheadOfSlope_14 : decode cX2_isAheadOfSlope 14 = .ok (.aload_n 0, 1) := by decide +kernel
theorem dX2_isAheadOfSlope_15 : decode cX2_isAheadOfSlope 15 = .ok (.getfield 16, 3) := by decide +kernel
theorem dX2_isAheadOfSlope_18 : decode cX2_isAheadOfSlope 18 = .ok (.i2l, 1) := by decide +kernel
theorem dX2_isAheadOfSlope_19 : decode cX2_isAheadOfSlope 19 = .ok (.lmul, 1) := by decide +kernel
theorem dX2_isAheadOfSlope_20 : decode cX2_isAheadOfSlope 20 = .ok (.ladd, 1) := by decide +kernel
theorem dX2_isAheadOfSlope_21 : decode cX2_isAheadOfSlope 21 = .ok (.aload_n 1, 1) := by decide +kernel
theorem dX2_isAheadOfSlope_22 : decode cX2_isAheadOfSlope 22 = .ok (.getfield 28, 3) := by decide +kernel
theorem dX2_isAheadOfSlope_25 : decode cX2_isAheadOfSlope 25 = .ok (.aload_n 0, 1) := by decide +kernel
theorem dX2_isAheadOfSlope_26 : decode cX2_isAheadOfSlope 26 = .ok (.getfield 16, 3) := by decide +kernel
theorem dX2_isAheadOfSlope_29 : decode cX2_isAheadOfSlope 29 = .ok (.i2l, 1) := by decide +kernel
theorem dX2_isAheadOfSlope_30 : decode cX2_isAheadOfSlope 30 = .ok (.lmul, 1) := by decide +kernel
theorem dX2_isAheadOfSlope_31 : decode cX2_isAheadOfSlope 31 = .ok (.aload_n 0, 1) := by decide +kernel
theorem dX2_isAheadOfSlope_32 : decode cX2_isAheadOfSlope 32 = .ok (.getfield 19, 3) := by decide +kernel
theorem dX2_isAheadOfSlope_35 : decode cX2_isAheadOfSlope 35 = .ok (.i2l, 1) := by decide +kernel
theorem dX2_isAheadOfSlope_36 : decode cX2_isAheadOfSlope 36 = .ok (.lmul, 1) := by decide +kernel
theorem dX2_isAheadOfSlope_37 : decode cX2_isAheadOfSlope 37 = .ok (.lcmp, 1) := by decide +kernel
theorem dX2_isAheadOfSlope_38 : decode cX2_isAheadOfSlope 38 = .ok (.ifCond .gt 7, 3) := by decide +kernel
theorem dX2_isAheadOfSlope_41 : decode cX2_isAheadOfSlope 41 = .ok (.iconst 1, 1) := by decide +kernel
theorem dX2_isAheadOfSlope_42 : decode cX2_isAheadOfSlope 42 = .ok (.goto 4, 3) := by decide +kernel
theorem dX2_isAheadOfSlope_45 : decode cX2_isAheadOfSlope 45 = .ok (.iconst 0, 1) := by decide +kernel
theorem dX2_isAheadOfSlope_46 : decode cX2_isAheadOfSlope 46 = .ok (.ireturn, 1) := by decide +kernel
theorem dX4_owns_0 : decode cX4_owns 0 = .ok (.aload_n 0, 1) := by decide +kernel
theorem dX4_owns_1 : decode cX4_owns 1 = .ok (.getfield 39, 3) := by decide +kernel
theorem dX4_owns_4 : decode cX4_owns 4 = .ok (.ifCond .eq 37, 3) := by decide +kernel
theorem dX4_owns_7 : decode cX4_owns 7 = .ok (.aload_n 0, 1) := by decide +kernel
theorem dX4_owns_8 : decode cX4_owns 8 = .ok (.getfield 47, 3) := by decide +kernel
theorem dX4_owns_11 : decode cX4_owns 11 = .ok (.aload_n 1, 1) := by decide +kernel
theorem dX4_owns_12 : decode cX4_owns 12 = .ok (.invokevirtual 79, 3) := by decide +kernel
theorem dX4_owns_15 : decode cX4_owns 15 = .ok (.ifCond .eq 26, 3) := by decide +kernel
theorem dX4_owns_18 : decode cX4_owns 18 = .ok (.aload_n 0, 1) := by decide +kernel
theorem dX4_owns_19 : decode cX4_owns 19 = .ok (.getfield 39, 3) := by decide +kernel
theorem dX4_owns_22 : decode cX4_owns 22 = .ok (.iconst 1, 1) := by decide +kernel
theorem dX4_owns_23 : decode cX4_owns 23 = .ok (.if_icmp .eq 14, 3) := by decide +kernel
theorem dX4_owns_26 : decode cX4_owns 26 = .ok (.aload_n 0, 1) := by decide +kernel
theorem dX4_owns_27 : decode cX4_owns 27 = .ok (.getfield 47, 3) := by decide +kernel
theorem dX4_owns_30 : decode cX4_owns 30 = .ok (.aload_n 1, 1) := by decide +kernel
theorem dX4_owns_31 : decode cX4_owns 31 = .ok (.invokevirtual 83, 3) := by decide +kernel
theorem dX4_owns_34 : decode cX4_owns 34 = .ok (.ifCond .eq 7, 3) := by decide +kernel
theorem dX4_owns_37 : decode cX4_owns 37 = .ok (.iconst 1, 1) := by decide +kernel
theorem dX4_owns_38 : decode cX4_owns 38 = .ok (.goto 4, 3) := by decide +kernel
theorem dX4_owns_41 : decode cX4_owns 41 = .ok (.iconst 0, 1) := by decide +kernel
theorem dX4_owns_42 : decode cX4_owns 42 = .ok (.ireturn, 1) := by decide +kernel
theorem dX7_coversAt_0 : decode cX7_coversAt 0 = .ok (.aload_n 1, 1) := by decide +kernel
theorem dX7_coversAt_1 : decode cX7_coversAt 1 = .ok (.getfield 385, 3) := by decide +kernel
theorem dX7_coversAt_4 : decode cX7_coversAt 4 = .ok (.ifCond .eq 12, 3) := by decide +kernel
theorem dX7_coversAt_7 : decode cX7_coversAt 7 = .ok (.aload_n 1, 1) := by decide +kernel
theorem dX7_coversAt_8 : decode cX7_coversAt 8 = .ok (.iload 5, 2) := by decide +kernel
theorem dX7_coversAt_10 : decode cX7_coversAt 10 = .ok (.invokevirtual 280, 3) := by decide +kernel
theorem dX7_coversAt_13 : decode cX7_coversAt 13 = .ok (.ifCond .ne 5, 3) := by decide +kernel
theorem dX7_coversAt_16 : decode cX7_coversAt 16 = .ok (.iconst 0, 1) := by decide +kernel
theorem dX7_coversAt_17 : decode cX7_coversAt 17 = .ok (.ireturn, 1) := by decide +kernel
theorem dX7_coversAt_18 : decode cX7_coversAt 18 = .ok (.aload_n 0, 1) := by decide +kernel
theorem dX7_coversAt_19 : decode cX7_coversAt 19 = .ok (.getfield 31, 3) := by decide +kernel
theorem dX7_coversAt_22 : decode cX7_coversAt 22 = .ok (.iload_n 2, 1) := by decide +kernel
theorem dX7_coversAt_23 : decode cX7_coversAt 23 = .ok (.i2l, 1) := by decide +kernel
theorem dX7_coversAt_24 : decode cX7_coversAt 24 = .ok (.iload_n 3, 1) := by decide +kernel
theorem dX7_coversAt_25 : decode cX7_coversAt 25 = .ok (.i2l, 1) := by decide +kernel
theorem dX7_coversAt_26 : decode cX7_coversAt 26 = .ok (.iload 4, 2) := by decide +kernel
theorem dX7_coversAt_28 : decode cX7_coversAt 28 = .ok (.i2l, 1) := by decide +kernel
theorem dX7_coversAt_29 : decode cX7_coversAt 29 = .ok (.invokevirtual 256, 3) := by decide +kernel
theorem dX7_coversAt_32 : decode cX7_coversAt 32 = .ok (.aload_n 0, 1) := by decide +kernel
theorem dX7_coversAt_33 : decode cX7_coversAt 33 = .ok (.getfield 31, 3) := by decide +kernel
theorem dX7_coversAt_36 : decode cX7_coversAt 36 = .ok (.aload_n 1, 1) := by decide +kernel
theorem dX7_coversAt_37 : decode cX7_coversAt 37 = .ok (.iload 5, 2) := by decide +kernel
theorem dX7_coversAt_39 : decode cX7_coversAt 39 = .ok (.iconst 0, 1) := by decide +kernel
theorem dX7_coversAt_40 : decode cX7_coversAt 40 = .ok (.invokestatic 260, 3) := by decide +kernel
theorem dX7_coversAt_43 : decode cX7_coversAt 43 = .ok (.aload_n 0, 1) := by decide +kernel
theorem dX7_coversAt_44 : decode cX7_coversAt 44 = .ok (.getfield 31, 3) := by decide +kernel
theorem dX7_coversAt_47 : decode cX7_coversAt 47 = .ok (.getfield 407, 3) := by decide +kernel
theorem dX7_coversAt_50 : decode cX7_coversAt 50 = .ok (.ifCond .ne 18, 3) := by decide +kernel
theorem dX7_coversAt_53 : decode cX7_coversAt 53 = .ok (.aload_n 1, 1) := by decide +kernel
theorem dX7_coversAt_54 : decode cX7_coversAt 54 = .ok (.aload_n 0, 1) := by decide +kernel
theorem dX7_coversAt_55 : decode cX7_coversAt 55 = .ok (.getfield 31, 3) := by decide +kernel
theorem dX7_coversAt_58 : decode cX7_coversAt 58 = .ok (.invokevirtual 410, 3) := by decide +kernel
theorem dX7_coversAt_61 : decode cX7_coversAt 61 = .ok (.ifCond .eq 7, 3) := by decide +kernel
theorem dX7_coversAt_64 : decode cX7_coversAt 64 = .ok (.iconst 1, 1) := by decide +kernel
theorem dX7_coversAt_65 : decode cX7_coversAt 65 = .ok (.goto 4, 3) := by decide +kernel
theorem dX7_coversAt_68 : decode cX7_coversAt 68 = .ok (.iconst 0, 1) := by decide +kernel
theorem dX7_coversAt_69 : decode cX7_coversAt 69 = .ok (.ireturn, 1) := by decide +kernel
theorem dX7_covers_0 : decode cX7_covers 0 = .ok (.aload_n 0, 1) := by decide +kernel
theorem dX7_covers_1 : decode cX7_covers 1 = .ok (.iload_n 1, 1) := by decide +kernel
theorem dX7_covers_2 : decode cX7_covers 2 = .ok (.invokevirtual 52, 3) := by decide +kernel
theorem dX7_covers_5 : decode cX7_covers 5 = .ok (.astore 5, 2) := by decide +kernel
theorem dX7_covers_7 : decode cX7_covers 7 = .ok (.iload_n 2, 1) := by decide +kernel
theorem dX7_covers_8 : decode cX7_covers 8 = .ok (.iload_n 3, 1) := by decide +kernel
theorem dX7_covers_9 : decode cX7_covers 9 = .ok (.iload 4, 2) := by decide +kernel
theorem dX7_covers_11 : decode cX7_covers 11 = .ok (.invokestatic 295, 3) := by decide +kernel
theorem dX7_covers_14 : decode cX7_covers 14 = .ok (.aload_n 0, 1) := by decide +kernel
theorem dX7_covers_15 : decode cX7_covers 15 = .ok (.aload 5, 2) := by decide +kernel
theorem dX7_covers_17 : decode cX7_covers 17 = .ok (.iload_n 2, 1) := by decide +kernel
theorem dX7_covers_18 : decode cX7_covers 18 = .ok (.iload_n 3, 1) := by decide +kernel
theorem dX7_covers_19 : decode cX7_covers 19 = .ok (.iload 4, 2) := by decide +kernel
theorem dX7_covers_21 : decode cX7_covers 21 = .ok (.aload_n 0, 1) := by decide +kernel
theorem dX7_covers_22 : decode cX7_covers 22 = .ok (.getfield 232, 3) := by decide +kernel
theorem dX7_covers_25 : decode cX7_covers 25 = .ok (.invokevirtual 298, 3) := by decide +kernel
theorem dX7_covers_28 : decode cX7_covers 28 = .ok (.ireturn, 1) := by decide +kernel
theorem dX7_mixed_0 : decode cX7_mixed 0 = .ok (.lload_n 0, 1) := by decide +kernel
theorem dX7_mixed_1 : decode cX7_mixed 1 = .ok (.ldc2_w 415, 3) := by decide +kernel
theorem dX7_mixed_4 : decode cX7_mixed 4 = .ok (.lmul, 1) := by decide +kernel
theorem dX7_mixed_5 : decode cX7_mixed 5 = .ok (.lload_n 2, 1) := by decide +kernel
theorem dX7_mixed_6 : decode cX7_mixed 6 = .ok (.ladd, 1) := by decide +kernel
theorem dX7_mixed_7 : decode cX7_mixed 7 = .ok (.lreturn, 1) := by decide +kernel
theorem dX4_depth_0 : decode cX4_depth 0 = .ok (.iconst 0, 1) := by decide +kernel
theorem dX4_depth_1 : decode cX4_depth 1 = .ok (.istore_n 1, 1) := by decide +kernel
theorem dX4_depth_2 : decode cX4_depth 2 = .ok (.aload_n 0, 1) := by decide +kernel
theorem dX4_depth_3 : decode cX4_depth 3 = .ok (.getfield 51, 3) := by decide +kernel
theorem dX4_depth_6 : decode cX4_depth 6 = .ok (.astore_n 2, 1) := by decide +kernel
theorem dX4_depth_7 : decode cX4_depth 7 = .ok (.aload_n 2, 1) := by decide +kernel
theorem dX4_depth_8 : decode cX4_depth 8 = .ok (.ifnull 14, 3) := by decide +kernel
theorem dX4_depth_11 : decode cX4_depth 11 = .ok (.iinc 1 1, 3) := by decide +kernel
theorem dX4_depth_14 : decode cX4_depth 14 = .ok (.aload_n 2, 1) := by decide +kernel
theorem dX4_depth_15 : decode cX4_depth 15 = .ok (.getfield 51, 3) := by decide +kernel
theorem dX4_depth_18 : decode cX4_depth 18 = .ok (.astore_n 2, 1) := by decide +kernel
theorem dX4_depth_19 : decode cX4_depth 19 = .ok (.goto (-12), 3) := by decide +kernel
theorem dX4_depth_22 : decode cX4_depth 22 = .ok (.iload_n 1, 1) := by decide +kernel
theorem dX4_depth_23 : decode cX4_depth 23 = .ok (.ireturn, 1) := by decide +kernel
theorem dX7_mixedWithPoint_0 : decode cX7_mixedWithPoint 0 = .ok (.lload_n 1, 1) := by decide +kernel
theorem dX7_mixedWithPoint_1 : decode cX7_mixedWithPoint 1 = .ok (.lstore_n 3, 1) := by decide +kernel
theorem dX7_mixedWithPoint_2 : decode cX7_mixedWithPoint 2 = .ok (.iconst 0, 1) := by decide +kernel
theorem dX7_mixedWithPoint_3 : decode cX7_mixedWithPoint 3 = .ok (.istore 5, 2) := by decide +kernel
theorem dX7_mixedWithPoint_5 : decode cX7_mixedWithPoint 5 = .ok (.iload 5, 2) := by decide +kernel
theorem dX7_mixedWithPoint_7 : decode cX7_mixedWithPoint 7 = .ok (.iconst 3, 1) := by decide +kernel
theorem dX7_mixedWithPoint_8 : decode cX7_mixedWithPoint 8 = .ok (.if_icmp .gt 23, 3) := by decide +kernel
theorem dX7_mixedWithPoint_11 : decode cX7_mixedWithPoint 11 = .ok (.lload_n 3, 1) := by decide +kernel
theorem dX7_mixedWithPoint_12 : decode cX7_mixedWithPoint 12 = .ok (.aload_n 0, 1) := by decide +kernel
theorem dX7_mixedWithPoint_13 : decode cX7_mixedWithPoint 13 = .ok (.getfield 31, 3) := by decide +kernel
theorem dX7_mixedWithPoint_16 : decode cX7_mixedWithPoint 16 = .ok (.iload 5, 2) := by decide +kernel
theorem dX7_mixedWithPoint_18 : decode cX7_mixedWithPoint 18 = .ok (.invokevirtual 252, 3) := by decide +kernel
theorem dX7_mixedWithPoint_21 : decode cX7_mixedWithPoint 21 = .ok (.invokestatic 323, 3) := by decide +kernel
theorem dX7_mixedWithPoint_24 : decode cX7_mixedWithPoint 24 = .ok (.lstore_n 3, 1) := by decide +kernel
theorem dX7_mixedWithPoint_25 : decode cX7_mixedWithPoint 25 = .ok (.iinc 5 1, 3) := by decide +kernel
theorem dX7_mixedWithPoint_28 : decode cX7_mixedWithPoint 28 = .ok (.goto (-23), 3) := by decide +kernel
theorem dX7_mixedWithPoint_31 : decode cX7_mixedWithPoint 31 = .ok (.lload_n 3, 1) := by decide +kernel
theorem dX7_mixedWithPoint_32 : decode cX7_mixedWithPoint 32 = .ok (.lreturn, 1) := by decide +kernel
theorem dX7_parentNumber_0 : decode cX7_parentNumber 0 = .ok (.aload_n 0, 1) := by decide +kernel
theorem dX7_parentNumber_1 : decode cX7_parentNumber 1 = .ok (.getfield 173, 3) := by decide +kernel
theorem dX7_parentNumber_4 : decode cX7_parentNumber 4 = .ok (.ifnonnull 7, 3) := by decide +kernel
theorem dX7_parentNumber_7 : decode cX7_parentNumber 7 = .ok (.iconst (-1), 1) := by decide +kernel
theorem dX7_parentNumber_8 : decode cX7_parentNumber 8 = .ok (.goto 10, 3) := by decide +kernel
theorem dX7_parentNumber_11 : decode cX7_parentNumber 11 = .ok (.aload_n 0, 1) := by decide +kernel
theorem dX7_parentNumber_12 : decode cX7_parentNumber 12 = .ok (.getfield 173, 3) := by decide +kernel
theorem dX7_parentNumber_15 : decode cX7_parentNumber 15 = .ok (.getfield 85, 3) := by decide +kernel
theorem dX7_parentNumber_18 : decode cX7_parentNumber 18 = .ok (.ireturn, 1) := by decide +kernel
theorem dX7_strengthOf_0 : decode cX7_strengthOf 0 = .ok (.aload_n 0, 1) := by decide +kernel
theorem dX7_strengthOf_1 : decode cX7_strengthOf 1 = .ok (.getfield 173, 3) := by decide +kernel
theorem dX7_strengthOf_4 : decode cX7_strengthOf 4 = .ok (.ifnull 8, 3) := by decide +kernel
theorem dX7_strengthOf_7 : decode cX7_strengthOf 7 = .ok (.iload_n 2, 1) := by decide +kernel
theorem dX7_strengthOf_8 : decode cX7_strengthOf 8 = .ok (.iconst 4, 1) := by decide +kernel
theorem dX7_strengthOf_9 : decode cX7_strengthOf 9 = .ok (.if_icmp .lt 7, 3) := by decide +kernel
theorem dX7_strengthOf_12 : decode cX7_strengthOf 12 = .ok (.iconst 1, 1) := by decide +kernel
theorem dX7_strengthOf_13 : decode cX7_strengthOf 13 = .ok (.goto 4, 3) := by decide +kernel
theorem dX7_strengthOf_16 : decode cX7_strengthOf 16 = .ok (.iconst 0, 1) := by decide +kernel
theorem dX7_strengthOf_17 : decode cX7_strengthOf 17 = .ok (.istore_n 3, 1) := by decide +kernel
theorem dX7_strengthOf_18 : decode cX7_strengthOf 18 = .ok (.iload_n 3, 1) := by decide +kernel
theorem dX7_strengthOf_19 : decode cX7_strengthOf 19 = .ok (.ifCond .eq 8, 3) := by decide +kernel
theorem dX7_strengthOf_22 : decode cX7_strengthOf 22 = .ok (.bipush 100, 2) := by decide +kernel
theorem dX7_strengthOf_24 : decode cX7_strengthOf 24 = .ok (.goto 14, 3) := by decide +kernel
theorem dX7_strengthOf_27 : decode cX7_strengthOf 27 = .ok (.aload_n 0, 1) := by decide +kernel
theorem dX7_strengthOf_28 : decode cX7_strengthOf 28 = .ok (.getfield 173, 3) := by decide +kernel
theorem dX7_strengthOf_31 : decode cX7_strengthOf 31 = .ok (.iload_n 1, 1) := by decide +kernel
theorem dX7_strengthOf_32 : decode cX7_strengthOf 32 = .ok (.iload_n 2, 1) := by decide +kernel
theorem dX7_strengthOf_33 : decode cX7_strengthOf 33 = .ok (.iconst 1, 1) := by decide +kernel
theorem dX7_strengthOf_34 : decode cX7_strengthOf 34 = .ok (.iadd, 1) := by decide +kernel
theorem dX7_strengthOf_35 : decode cX7_strengthOf 35 = .ok (.invokestatic 283, 3) := by decide +kernel
theorem dX7_strengthOf_38 : decode cX7_strengthOf 38 = .ok (.istore 4, 2) := by decide +kernel
theorem dX7_strengthOf_40 : decode cX7_strengthOf 40 = .ok (.iload 4, 2) := by decide +kernel
theorem dX7_strengthOf_42 : decode cX7_strengthOf 42 = .ok (.aload_n 0, 1) := by decide +kernel
theorem dX7_strengthOf_43 : decode cX7_strengthOf 43 = .ok (.getfield 148, 3) := by decide +kernel
theorem dX7_strengthOf_46 : decode cX7_strengthOf 46 = .ok (.iload_n 1, 1) := by decide +kernel
theorem dX7_strengthOf_47 : decode cX7_strengthOf 47 = .ok (.invokevirtual 237, 3) := by decide +kernel
theorem dX7_strengthOf_50 : decode cX7_strengthOf 50 = .ok (.imul, 1) := by decide +kernel
theorem dX7_strengthOf_51 : decode cX7_strengthOf 51 = .ok (.bipush 100, 2) := by decide +kernel
theorem dX7_strengthOf_53 : decode cX7_strengthOf 53 = .ok (.idiv, 1) := by decide +kernel
theorem dX7_strengthOf_54 : decode cX7_strengthOf 54 = .ok (.ireturn, 1) := by decide +kernel
theorem dX7_mixedWithNode_0 : decode cX7_mixedWithNode 0 = .ok (.lload_n 1, 1) := by decide +kernel
theorem dX7_mixedWithNode_1 : decode cX7_mixedWithNode 1 = .ok (.aload_n 3, 1) := by decide +kernel
theorem dX7_mixedWithNode_2 : decode cX7_mixedWithNode 2 = .ok (.getfield 85, 3) := by decide +kernel
theorem dX7_mixedWithNode_5 : decode cX7_mixedWithNode 5 = .ok (.i2l, 1) := by decide +kernel
theorem dX7_mixedWithNode_6 : decode cX7_mixedWithNode 6 = .ok (.invokestatic 323, 3) := by decide +kernel
theorem dX7_mixedWithNode_9 : decode cX7_mixedWithNode 9 = .ok (.lstore 4, 2) := by decide +kernel
theorem dX7_mixedWithNode_11 : decode cX7_mixedWithNode 11 = .ok (.lload 4, 2) := by decide +kernel
theorem dX7_mixedWithNode_13 : decode cX7_mixedWithNode 13 = .ok (.aload_n 3, 1) := by decide +kernel
theorem dX7_mixedWithNode_14 : decode cX7_mixedWithNode 14 = .ok (.invokestatic 170, 3) := by decide +kernel
theorem dX7_mixedWithNode_17 : decode cX7_mixedWithNode 17 = .ok (.i2l, 1) := by decide +kernel
theorem dX7_mixedWithNode_18 : decode cX7_mixedWithNode 18 = .ok (.invokestatic 323, 3) := by decide +kernel
theorem dX7_mixedWithNode_21 : decode cX7_mixedWithNode 21 = .ok (.lstore 4, 2) := by decide +kernel
theorem dX7_mixedWithNode_23 : decode cX7_mixedWithNode 23 = .ok (.lload 4, 2) := by decide +kernel
theorem dX7_mixedWithNode_25 : decode cX7_mixedWithNode 25 = .ok (.aload_n 3, 1) := by decide +kernel
theorem dX7_mixedWithNode_26 : decode cX7_mixedWithNode 26 = .ok (.invokevirtual 69, 3) := by decide +kernel
theorem dX7_mixedWithNode_29 : decode cX7_mixedWithNode 29 = .ok (.i2l, 1) := by decide +kernel
theorem dX7_mixedWithNode_30 : decode cX7_mixedWithNode 30 = .ok (.invokestatic 323, 3) := by decide +kernel
theorem dX7_mixedWithNode_33 : decode cX7_mixedWithNode 33 = .ok (.lstore 4, 2) := by decide +kernel
theorem dX7_mixedWithNode_35 : decode cX7_mixedWithNode 35 = .ok (.lload 4, 2) := by decide +kernel
theorem dX7_mixedWithNode_37 : decode cX7_mixedWithNode 37 = .ok (.aload_n 3, 1) := by decide +kernel
theorem dX7_mixedWithNode_38 : decode cX7_mixedWithNode 38 = .ok (.getfield 115, 3) := by decide +kernel
theorem dX7_mixedWithNode_41 : decode cX7_mixedWithNode 41 = .ok (.aload_n 0, 1) := by decide +kernel
theorem dX7_mixedWithNode_42 : decode cX7_mixedWithNode 42 = .ok (.getfield 232, 3) := by decide +kernel
theorem dX7_mixedWithNode_45 : decode cX7_mixedWithNode 45 = .ok (.invokevirtual 237, 3) := by decide +kernel
theorem dX7_mixedWithNode_48 : decode cX7_mixedWithNode 48 = .ok (.i2l, 1) := by decide +kernel
theorem dX7_mixedWithNode_49 : decode cX7_mixedWithNode 49 = .ok (.invokestatic 323, 3) := by decide +kernel
theorem dX7_mixedWithNode_52 : decode cX7_mixedWithNode 52 = .ok (.lstore 4, 2) := by decide +kernel
theorem dX7_mixedWithNode_54 : decode cX7_mixedWithNode 54 = .ok (.lload 4, 2) := by decide +kernel
theorem dX7_mixedWithNode_56 : decode cX7_mixedWithNode 56 = .ok (.aload_n 3, 1) := by decide +kernel
theorem dX7_mixedWithNode_57 : decode cX7_mixedWithNode 57 = .ok (.getfield 123, 3) := by decide +kernel
theorem dX7_mixedWithNode_60 : decode cX7_mixedWithNode 60 = .ok (.aload_n 0, 1) := by decide +kernel
theorem dX7_mixedWithNode_61 : decode cX7_mixedWithNode 61 = .ok (.getfield 232, 3) := by decide +kernel
theorem dX7_mixedWithNode_64 : decode cX7_mixedWithNode 64 = .ok (.invokevirtual 237, 3) := by decide +kernel
theorem dX7_mixedWithNode_67 : decode cX7_mixedWithNode 67 = .ok (.i2l, 1) := by decide +kernel
theorem dX7_mixedWithNode_68 : decode cX7_mixedWithNode 68 = .ok (.invokestatic 323, 3) := by decide +kernel
theorem dX7_mixedWithNode_71 : decode cX7_mixedWithNode 71 = .ok (.lstore 4, 2) := by decide +kernel
theorem dX7_mixedWithNode_73 : decode cX7_mixedWithNode 73 = .ok (.lload 4, 2) := by decide +kernel
theorem dX7_mixedWithNode_75 : decode cX7_mixedWithNode 75 = .ok (.aload_n 3, 1) := by decide +kernel
theorem dX7_mixedWithNode_76 : decode cX7_mixedWithNode 76 = .ok (.getfield 139, 3) := by decide +kernel
theorem dX7_mixedWithNode_79 : decode cX7_mixedWithNode 79 = .ok (.aload_n 0, 1) := by decide +kernel
theorem dX7_mixedWithNode_80 : decode cX7_mixedWithNode 80 = .ok (.getfield 232, 3) := by decide +kernel
theorem dX7_mixedWithNode_83 : decode cX7_mixedWithNode 83 = .ok (.invokevirtual 237, 3) := by decide +kernel
theorem dX7_mixedWithNode_86 : decode cX7_mixedWithNode 86 = .ok (.i2l, 1) := by decide +kernel
theorem dX7_mixedWithNode_87 : decode cX7_mixedWithNode 87 = .ok (.invokestatic 323, 3) := by decide +kernel
theorem dX7_mixedWithNode_90 : decode cX7_mixedWithNode 90 = .ok (.lstore 4, 2) := by decide +kernel
theorem dX7_mixedWithNode_92 : decode cX7_mixedWithNode 92 = .ok (.lload 4, 2) := by decide +kernel
theorem dX7_mixedWithNode_94 : decode cX7_mixedWithNode 94 = .ok (.aload_n 3, 1) := by decide +kernel
theorem dX7_mixedWithNode_95 : decode cX7_mixedWithNode 95 = .ok (.getfield 148, 3) := by decide +kernel
theorem dX7_mixedWithNode_98 : decode cX7_mixedWithNode 98 = .ok (.aload_n 0, 1) := by decide +kernel
theorem dX7_mixedWithNode_99 : decode cX7_mixedWithNode 99 = .ok (.getfield 232, 3) := by decide +kernel
theorem dX7_mixedWithNode_102 : decode cX7_mixedWithNode 102 = .ok (.invokevirtual 237, 3) := by decide +kernel
theorem dX7_mixedWithNode_105 : decode cX7_mixedWithNode 105 = .ok (.i2l, 1) := by decide +kernel
theorem dX7_mixedWithNode_106 : decode cX7_mixedWithNode 106 = .ok (.invokestatic 323, 3) := by decide +kernel
theorem dX7_mixedWithNode_109 : decode cX7_mixedWithNode 109 = .ok (.lstore 4, 2) := by decide +kernel
theorem dX7_mixedWithNode_111 : decode cX7_mixedWithNode 111 = .ok (.lload 4, 2) := by decide +kernel
theorem dX7_mixedWithNode_113 : decode cX7_mixedWithNode 113 = .ok (.aload_n 3, 1) := by decide +kernel
theorem dX7_mixedWithNode_114 : decode cX7_mixedWithNode 114 = .ok (.aload_n 0, 1) := by decide +kernel
theorem dX7_mixedWithNode_115 : decode cX7_mixedWithNode 115 = .ok (.getfield 232, 3) := by decide +kernel
theorem dX7_mixedWithNode_118 : decode cX7_mixedWithNode 118 = .ok (.invokevirtual 280, 3) := by decide +kernel
theorem dX7_mixedWithNode_121 : decode cX7_mixedWithNode 121 = .ok (.ifCond .eq 7, 3) := by decide +kernel
theorem dX7_mixedWithNode_124 : decode cX7_mixedWithNode 124 = .ok (.lconst 1, 1) := by decide +kernel
theorem dX7_mixedWithNode_125 : decode cX7_mixedWithNode 125 = .ok (.goto 4, 3) := by decide +kernel
theorem dX7_mixedWithNode_128 : decode cX7_mixedWithNode 128 = .ok (.lconst 0, 1) := by decide +kernel
theorem dX7_mixedWithNode_129 : decode cX7_mixedWithNode 129 = .ok (.invokestatic 323, 3) := by decide +kernel
theorem dX7_mixedWithNode_132 : decode cX7_mixedWithNode 132 = .ok (.lstore 4, 2) := by decide +kernel
theorem dX7_mixedWithNode_134 : decode cX7_mixedWithNode 134 = .ok (.lload 4, 2) := by decide +kernel
theorem dX7_mixedWithNode_136 : decode cX7_mixedWithNode 136 = .ok (.aload_n 3, 1) := by decide +kernel
theorem dX7_mixedWithNode_137 : decode cX7_mixedWithNode 137 = .ok (.aload_n 0, 1) := by decide +kernel
theorem dX7_mixedWithNode_138 : decode cX7_mixedWithNode 138 = .ok (.getfield 232, 3) := by decide +kernel
theorem dX7_mixedWithNode_141 : decode cX7_mixedWithNode 141 = .ok (.iconst 0, 1) := by decide +kernel
theorem dX7_mixedWithNode_142 : decode cX7_mixedWithNode 142 = .ok (.invokestatic 283, 3) := by decide +kernel
theorem dX7_mixedWithNode_145 : decode cX7_mixedWithNode 145 = .ok (.i2l, 1) := by decide +kernel
theorem dX7_mixedWithNode_146 : decode cX7_mixedWithNode 146 = .ok (.invokestatic 323, 3) := by decide +kernel
theorem dX7_mixedWithNode_149 : decode cX7_mixedWithNode 149 = .ok (.lstore 4, 2) := by decide +kernel
theorem dX7_mixedWithNode_151 : decode cX7_mixedWithNode 151 = .ok (.lload 4, 2) := by decide +kernel
theorem dX7_mixedWithNode_153 : decode cX7_mixedWithNode 153 = .ok (.aload_n 3, 1) := by decide +kernel
theorem dX7_mixedWithNode_154 : decode cX7_mixedWithNode 154 = .ok (.getfield 287, 3) := by decide +kernel
theorem dX7_mixedWithNode_157 : decode cX7_mixedWithNode 157 = .ok (.i2l, 1) := by decide +kernel
theorem dX7_mixedWithNode_158 : decode cX7_mixedWithNode 158 = .ok (.invokestatic 323, 3) := by decide +kernel
theorem dX7_mixedWithNode_161 : decode cX7_mixedWithNode 161 = .ok (.lstore 4, 2) := by decide +kernel
theorem dX7_mixedWithNode_163 : decode cX7_mixedWithNode 163 = .ok (.aload_n 0, 1) := by decide +kernel
theorem dX7_mixedWithNode_164 : decode cX7_mixedWithNode 164 = .ok (.aload_n 3, 1) := by decide +kernel
theorem dX7_mixedWithNode_165 : decode cX7_mixedWithNode 165 = .ok (.iconst 1, 1) := by decide +kernel
theorem dX7_mixedWithNode_166 : decode cX7_mixedWithNode 166 = .ok (.iconst 2, 1) := by decide +kernel
theorem dX7_mixedWithNode_167 : decode cX7_mixedWithNode 167 = .ok (.invokevirtual 248, 3) := by decide +kernel
theorem dX7_mixedWithNode_170 : decode cX7_mixedWithNode 170 = .ok (.aload_n 0, 1) := by decide +kernel
theorem dX7_mixedWithNode_171 : decode cX7_mixedWithNode 171 = .ok (.lload 4, 2) := by decide +kernel
theorem dX7_mixedWithNode_173 : decode cX7_mixedWithNode 173 = .ok (.invokevirtual 417, 3) := by decide +kernel
theorem dX7_mixedWithNode_176 : decode cX7_mixedWithNode 176 = .ok (.lstore 4, 2) := by decide +kernel
theorem dX7_mixedWithNode_178 : decode cX7_mixedWithNode 178 = .ok (.aload_n 0, 1) := by decide +kernel
theorem dX7_mixedWithNode_179 : decode cX7_mixedWithNode 179 = .ok (.getfield 31, 3) := by decide +kernel
theorem dX7_mixedWithNode_182 : decode cX7_mixedWithNode 182 = .ok (.lconst 1, 1) := by decide +kernel
theorem dX7_mixedWithNode_183 : decode cX7_mixedWithNode 183 = .ok (.ldc2_w 421, 3) := by decide +kernel
theorem dX7_mixedWithNode_186 : decode cX7_mixedWithNode 186 = .ok (.lconst 1, 1) := by decide +kernel
theorem dX7_mixedWithNode_187 : decode cX7_mixedWithNode 187 = .ok (.invokevirtual 256, 3) := by decide +kernel
theorem dX7_mixedWithNode_190 : decode cX7_mixedWithNode 190 = .ok (.aload_n 0, 1) := by decide +kernel
theorem dX7_mixedWithNode_191 : decode cX7_mixedWithNode 191 = .ok (.getfield 31, 3) := by decide +kernel
theorem dX7_mixedWithNode_194 : decode cX7_mixedWithNode 194 = .ok (.aload_n 3, 1) := by decide +kernel
theorem dX7_mixedWithNode_195 : decode cX7_mixedWithNode 195 = .ok (.aload_n 0, 1) := by decide +kernel
theorem dX7_mixedWithNode_196 : decode cX7_mixedWithNode 196 = .ok (.getfield 232, 3) := by decide +kernel
theorem dX7_mixedWithNode_199 : decode cX7_mixedWithNode 199 = .ok (.iconst 0, 1) := by decide +kernel
theorem dX7_mixedWithNode_200 : decode cX7_mixedWithNode 200 = .ok (.invokestatic 260, 3) := by decide +kernel
theorem dX7_mixedWithNode_203 : decode cX7_mixedWithNode 203 = .ok (.aload_n 0, 1) := by decide +kernel
theorem dX7_mixedWithNode_204 : decode cX7_mixedWithNode 204 = .ok (.lload 4, 2) := by decide +kernel
theorem dX7_mixedWithNode_206 : decode cX7_mixedWithNode 206 = .ok (.invokevirtual 417, 3) := by decide +kernel
theorem dX7_mixedWithNode_209 : decode cX7_mixedWithNode 209 = .ok (.lstore 4, 2) := by decide +kernel
theorem dX7_mixedWithNode_211 : decode cX7_mixedWithNode 211 = .ok (.aload_n 0, 1) := by decide +kernel
theorem dX7_mixedWithNode_212 : decode cX7_mixedWithNode 212 = .ok (.aload_n 3, 1) := by decide +kernel
theorem dX7_mixedWithNode_213 : decode cX7_mixedWithNode 213 = .ok (.invokevirtual 266, 3) := by decide +kernel
theorem dX7_mixedWithNode_216 : decode cX7_mixedWithNode 216 = .ok (.iconst 0, 1) := by decide +kernel
theorem dX7_mixedWithNode_217 : decode cX7_mixedWithNode 217 = .ok (.istore 6, 2) := by decide +kernel
theorem dX7_mixedWithNode_219 : decode cX7_mixedWithNode 219 = .ok (.iload 6, 2) := by decide +kernel
theorem dX7_mixedWithNode_221 : decode cX7_mixedWithNode 221 = .ok (.iconst 3, 1) := by decide +kernel
theorem dX7_mixedWithNode_222 : decode cX7_mixedWithNode 222 = .ok (.if_icmp .gt 40, 3) := by decide +kernel
theorem dX7_mixedWithNode_225 : decode cX7_mixedWithNode 225 = .ok (.aload_n 0, 1) := by decide +kernel
theorem dX7_mixedWithNode_226 : decode cX7_mixedWithNode 226 = .ok (.getfield 38, 3) := by decide +kernel
theorem dX7_mixedWithNode_229 : decode cX7_mixedWithNode 229 = .ok (.iload 6, 2) := by decide +kernel
theorem dX7_mixedWithNode_231 : decode cX7_mixedWithNode 231 = .ok (.invokevirtual 269, 3) := by decide +kernel
theorem dX7_mixedWithNode_234 : decode cX7_mixedWithNode 234 = .ok (.astore 7, 2) := by decide +kernel
theorem dX7_mixedWithNode_236 : decode cX7_mixedWithNode 236 = .ok (.lload 4, 2) := by decide +kernel
theorem dX7_mixedWithNode_238 : decode cX7_mixedWithNode 238 = .ok (.aload 7, 2) := by decide +kernel
theorem dX7_mixedWithNode_240 : decode cX7_mixedWithNode 240 = .ok (.getfield 278, 3) := by decide +kernel
theorem dX7_mixedWithNode_243 : decode cX7_mixedWithNode 243 = .ok (.invokestatic 323, 3) := by decide +kernel
theorem dX7_mixedWithNode_246 : decode cX7_mixedWithNode 246 = .ok (.aload 7, 2) := by decide +kernel
theorem dX7_mixedWithNode_248 : decode cX7_mixedWithNode 248 = .ok (.getfield 273, 3) := by decide +kernel
theorem dX7_mixedWithNode_251 : decode cX7_mixedWithNode 251 = .ok (.invokestatic 323, 3) := by decide +kernel
theorem dX7_mixedWithNode_254 : decode cX7_mixedWithNode 254 = .ok (.lstore 4, 2) := by decide +kernel
theorem dX7_mixedWithNode_256 : decode cX7_mixedWithNode 256 = .ok (.iinc 6 1, 3) := by decide +kernel
theorem dX7_mixedWithNode_259 : decode cX7_mixedWithNode 259 = .ok (.goto (-40), 3) := by decide +kernel
theorem dX7_mixedWithNode_262 : decode cX7_mixedWithNode 262 = .ok (.lload 4, 2) := by decide +kernel
theorem dX7_mixedWithNode_264 : decode cX7_mixedWithNode 264 = .ok (.lreturn, 1) := by decide +kernel
theorem dX6_nextKeyTime_0 : decode cX6_nextKeyTime 0 = .ok (.aload_n 0, 1) := by decide +kernel
theorem dX6_nextKeyTime_1 : decode cX6_nextKeyTime 1 = .ok (.getfield 40, 3) := by decide +kernel
theorem dX6_nextKeyTime_4 : decode cX6_nextKeyTime 4 = .ok (.astore_n 2, 1) := by decide +kernel
theorem dX6_nextKeyTime_5 : decode cX6_nextKeyTime 5 = .ok (.aload_n 2, 1) := by decide +kernel
theorem dX6_nextKeyTime_6 : decode cX6_nextKeyTime 6 = .ok (.ifnull 24, 3) := by decide +kernel
theorem dX6_nextKeyTime_9 : decode cX6_nextKeyTime 9 = .ok (.aload_n 2, 1) := by decide +kernel
theorem dX6_nextKeyTime_10 : decode cX6_nextKeyTime 10 = .ok (.getfield 29, 3) := by decide +kernel
theorem dX6_nextKeyTime_13 : decode cX6_nextKeyTime 13 = .ok (.iload_n 1, 1) := by decide +kernel
theorem dX6_nextKeyTime_14 : decode cX6_nextKeyTime 14 = .ok (.if_icmp .le 8, 3) := by decide +kernel
theorem dX6_nextKeyTime_17 : decode cX6_nextKeyTime 17 = .ok (.aload_n 2, 1) := by decide +kernel
theorem dX6_nextKeyTime_18 : decode cX6_nextKeyTime 18 = .ok (.getfield 29, 3) := by decide +kernel
theorem dX6_nextKeyTime_21 : decode cX6_nextKeyTime 21 = .ok (.ireturn, 1) := by decide +kernel
theorem dX6_nextKeyTime_22 : decode cX6_nextKeyTime 22 = .ok (.aload_n 2, 1) := by decide +kernel
theorem dX6_nextKeyTime_23 : decode cX6_nextKeyTime 23 = .ok (.getfield 44, 3) := by decide +kernel
theorem dX6_nextKeyTime_26 : decode cX6_nextKeyTime 26 = .ok (.astore_n 2, 1) := by decide +kernel
theorem dX6_nextKeyTime_27 : decode cX6_nextKeyTime 27 = .ok (.goto (-22), 3) := by decide +kernel
theorem dX6_nextKeyTime_30 : decode cX6_nextKeyTime 30 = .ok (.iconst (-1), 1) := by decide +kernel
theorem dX6_nextKeyTime_31 : decode cX6_nextKeyTime 31 = .ok (.ireturn, 1) := by decide +kernel
theorem dX7_nextKey_0 : decode cX7_nextKey 0 = .ok (.iconst (-1), 1) := by decide +kernel
theorem dX7_nextKey_1 : decode cX7_nextKey 1 = .ok (.istore_n 1, 1) := by decide +kernel
theorem dX7_nextKey_2 : decode cX7_nextKey 2 = .ok (.iconst 0, 1) := by decide +kernel
theorem dX7_nextKey_3 : decode cX7_nextKey 3 = .ok (.istore_n 2, 1) := by decide +kernel
theorem dX7_nextKey_4 : decode cX7_nextKey 4 = .ok (.iload_n 2, 1) := by decide +kernel
theorem dX7_nextKey_5 : decode cX7_nextKey 5 = .ok (.aload_n 0, 1) := by decide +kernel
theorem dX7_nextKey_6 : decode cX7_nextKey 6 = .ok (.getfield 185, 3) := by decide +kernel
theorem dX7_nextKey_9 : decode cX7_nextKey 9 = .ok (.if_icmp .ge 62, 3) := by decide +kernel
theorem dX7_nextKey_12 : decode cX7_nextKey 12 = .ok (.iload_n 2, 1) := by decide +kernel
theorem dX7_nextKey_13 : decode cX7_nextKey 13 = .ok (.aload_n 0, 1) := by decide +kernel
theorem dX7_nextKey_14 : decode cX7_nextKey 14 = .ok (.getfield 17, 3) := by decide +kernel
theorem dX7_nextKey_17 : decode cX7_nextKey 17 = .ok (.arraylength, 1) := by decide +kernel
theorem dX7_nextKey_18 : decode cX7_nextKey 18 = .ok (.if_icmp .ge 53, 3) := by decide +kernel
theorem dX7_nextKey_21 : decode cX7_nextKey 21 = .ok (.aload_n 0, 1) := by decide +kernel
theorem dX7_nextKey_22 : decode cX7_nextKey 22 = .ok (.getfield 17, 3) := by decide +kernel
theorem dX7_nextKey_25 : decode cX7_nextKey 25 = .ok (.iload_n 2, 1) := by decide +kernel
theorem dX7_nextKey_26 : decode cX7_nextKey 26 = .ok (.aaload, 1) := by decide +kernel
theorem dX7_nextKey_27 : decode cX7_nextKey 27 = .ok (.ifnonnull 7, 3) := by decide +kernel
theorem dX7_nextKey_30 : decode cX7_nextKey 30 = .ok (.iconst (-1), 1) := by decide +kernel
theorem dX7_nextKey_31 : decode cX7_nextKey 31 = .ok (.goto 16, 3) := by decide +kernel
theorem dX7_nextKey_34 : decode cX7_nextKey 34 = .ok (.aload_n 0, 1) := by decide +kernel
theorem dX7_nextKey_35 : decode cX7_nextKey 35 = .ok (.getfield 17, 3) := by decide +kernel
theorem dX7_nextKey_38 : decode cX7_nextKey 38 = .ok (.iload_n 2, 1) := by decide +kernel
theorem dX7_nextKey_39 : decode cX7_nextKey 39 = .ok (.aaload, 1) := by decide +kernel
theorem dX7_nextKey_40 : decode cX7_nextKey 40 = .ok (.aload_n 0, 1) := by decide +kernel
theorem dX7_nextKey_41 : decode cX7_nextKey 41 = .ok (.getfield 232, 3) := by decide +kernel
theorem dX7_nextKey_44 : decode cX7_nextKey 44 = .ok (.invokevirtual 241, 3) := by decide +kernel
theorem dX7_nextKey_47 : decode cX7_nextKey 47 = .ok (.istore_n 3, 1) := by decide +kernel
theorem dX7_nextKey_48 : decode cX7_nextKey 48 = .ok (.iload_n 3, 1) := by decide +kernel
theorem dX7_nextKey_49 : decode cX7_nextKey 49 = .ok (.iconst (-1), 1) := by decide +kernel
theorem dX7_nextKey_50 : decode cX7_nextKey 50 = .ok (.if_icmp .eq 15, 3) := by decide +kernel
theorem dX7_nextKey_53 : decode cX7_nextKey 53 = .ok (.iload_n 1, 1) := by decide +kernel
theorem dX7_nextKey_54 : decode cX7_nextKey 54 = .ok (.iconst (-1), 1) := by decide +kernel
theorem dX7_nextKey_55 : decode cX7_nextKey 55 = .ok (.if_icmp .eq 8, 3) := by decide +kernel
theorem dX7_nextKey_58 : decode cX7_nextKey 58 = .ok (.iload_n 3, 1) := by decide +kernel
theorem dX7_nextKey_59 : decode cX7_nextKey 59 = .ok (.iload_n 1, 1) := by decide +kernel
theorem dX7_nextKey_60 : decode cX7_nextKey 60 = .ok (.if_icmp .ge 5, 3) := by decide +kernel
theorem dX7_nextKey_63 : decode cX7_nextKey 63 = .ok (.iload_n 3, 1) := by decide +kernel
theorem dX7_nextKey_64 : decode cX7_nextKey 64 = .ok (.istore_n 1, 1) := by decide +kernel
theorem dX7_nextKey_65 : decode cX7_nextKey 65 = .ok (.iinc 2 1, 3) := by decide +kernel
theorem dX7_nextKey_68 : decode cX7_nextKey 68 = .ok (.goto (-64), 3) := by decide +kernel
theorem dX7_nextKey_71 : decode cX7_nextKey 71 = .ok (.iload_n 1, 1) := by decide +kernel
theorem dX7_nextKey_72 : decode cX7_nextKey 72 = .ok (.ireturn, 1) := by decide +kernel
noncomputable def f_X1_lowerTo_L31  (h : fSt) : Option (Unit × fSt) := some ((), h)
noncomputable def f_X1_lowerTo_L25 (a0 : Option Nat) (a1 : Int64) (a3 : Int64) (h : fSt) : Option (Unit × fSt) := (fobj h a0 1).bind fun b3 => (f_X1_set b3 a1 a3 h).bind fun r1 => f_X1_lowerTo_L31 r1.2
noncomputable def f_X1_lowerTo_L0 (a0 : Option Nat) (a1 : Int64) (a3 : Int64) (h : fSt) : Option (Unit × fSt) := (fgJ h a0 1 1).bind fun x5 => (if x5 = (0 : Int64) then f_X1_lowerTo_L25 a0 a1 a3 h else (fgJ h a0 1 1).bind fun x8 => (fgJ h a0 1 0).bind fun x10 => (if (x10 * a3) ≤ (a1 * x8) then f_X1_lowerTo_L31 h else f_X1_lowerTo_L25 a0 a1 a3 h))
noncomputable def f_X1_lowerTo (o : Nat) (p0 : Int64) (p1 : Int64) (h : fSt) : Option (Unit × fSt) := f_X1_lowerTo_L0 (some o) p0 p1 h
noncomputable def f_X1_raiseTo_L31  (h : fSt) : Option (Unit × fSt) := some ((), h)
noncomputable def f_X1_raiseTo_L25 (a0 : Option Nat) (a1 : Int64) (a3 : Int64) (h : fSt) : Option (Unit × fSt) := (fobj h a0 1).bind fun b3 => (f_X1_set b3 a1 a3 h).bind fun r1 => f_X1_raiseTo_L31 r1.2
noncomputable def f_X1_raiseTo_L0 (a0 : Option Nat) (a1 : Int64) (a3 : Int64) (h : fSt) : Option (Unit × fSt) := (fgJ h a0 1 1).bind fun x5 => (if x5 = (0 : Int64) then f_X1_raiseTo_L25 a0 a1 a3 h else (fgJ h a0 1 1).bind fun x8 => (fgJ h a0 1 0).bind fun x10 => (if (a1 * x8) ≤ (x10 * a3) then f_X1_raiseTo_L31 h else f_X1_raiseTo_L25 a0 a1 a3 h))
noncomputable def f_X1_raiseTo (o : Nat) (p0 : Int64) (p1 : Int64) (h : fSt) : Option (Unit × fSt) := f_X1_raiseTo_L0 (some o) p0 p1 h
noncomputable def f_X0_include_L0 (a0 : Option Nat) (a1 : Option Nat) (h : fSt) : Option (Unit × fSt) := (fgR h a0 0 0).bind fun x1 => (fgJ h a1 5 0).bind fun x3 => (fgJ h a1 5 2).bind fun x5 => (fobj h x1 1).bind fun b9 => (f_X1_lowerTo b9 x3 x5 h).bind fun r7 => (fgR r7.2 a0 0 1).bind fun x11 => (fgJ r7.2 a1 5 1).bind fun x13 => (fgJ r7.2 a1 5 2).bind fun x15 => (fobj r7.2 x11 1).bind fun b19 => (f_X1_lowerTo b19 x13 x15 r7.2).bind fun r17 => (fgR r17.2 a0 0 2).bind fun x21 => (fgJ r17.2 a1 5 0).bind fun x23 => (fgJ r17.2 a1 5 2).bind fun x25 => (fobj r17.2 x21 1).bind fun b29 => (f_X1_raiseTo b29 x23 x25 r17.2).bind fun r27 => (fgR r27.2 a0 0 3).bind fun x31 => (fgJ r27.2 a1 5 1).bind fun x33 => (fgJ r27.2 a1 5 2).bind fun x35 => (fobj r27.2 x31 1).bind fun b39 => (f_X1_raiseTo b39 x33 x35 r27.2).bind fun r37 => some ((), r37.2)
noncomputable def f_X0_include (o : Nat) (p0 : Option Nat) (h : fSt) : Option (Unit × fSt) := f_X0_include_L0 (some o) p0 h
noncomputable def f_X4_isShownAt_L24  (h : fSt) : Option (Int32 × fSt) := some ((0 : Int32), h)
noncomputable def f_X4_isShownAt_L2 (n : Nat) : Int32 → Option Nat → fSt → Option (Int32 × fSt) := Nat.rec (motive := fun _ => Int32 → Option Nat → fSt → Option (Int32 × fSt)) (fun _ _ _ => none) (fun _ k2 (a1 : Int32) (a2 : Option Nat) (h : fSt) => (if a2 = none then some ((1 : Int32), h) else (fgI h a2 4 11).bind fun x2 => (if x2 = 0 then (fgR h a2 4 6).bind fun x5 => (fobj h x5 6).bind fun b9 => (f_X6_at b9 a1 h).bind fun r7 => (if r7.1 = 0 then f_X4_isShownAt_L24 r7.2 else (fgR r7.2 a2 4 14).bind fun x12 => k2 a1 x12 r7.2) else f_X4_isShownAt_L24 h))) n
noncomputable def f_X4_isShownAt_L0 (a0 : Option Nat) (a1 : Int32) (h : fSt) : Option (Int32 × fSt) := f_X4_isShownAt_L2 4096 a1 a0 h
noncomputable def f_X4_isShownAt (o : Nat) (p0 : Int32) (h : fSt) : Option (Int32 × fSt) := f_X4_isShownAt_L0 (some o) p0 h
noncomputable def f_X4_isWithin_L2 (n : Nat) : Option Nat → Option Nat → fSt → Option (Int32 × fSt) := Nat.rec (motive := fun _ => Option Nat → Option Nat → fSt → Option (Int32 × fSt)) (fun _ _ _ => none) (fun _ k2 (a1 : Option Nat) (a2 : Option Nat) (h : fSt) => (if a2 = none then some ((0 : Int32), h) else (if a2 = a1 then some ((1 : Int32), h) else (fgR h a2 4 14).bind fun x3 => k2 a1 x3 h))) n
noncomputable def f_X4_isWithin_L0 (a0 : Option Nat) (a1 : Option Nat) (h : fSt) : Option (Int32 × fSt) := f_X4_isWithin_L2 4096 a1 a0 h
noncomputable def f_X4_isWithin (o : Nat) (p0 : Option Nat) (h : fSt) : Option (Int32 × fSt) := f_X4_isWithin_L0 (some o) p0 h
noncomputable def f_X7_gatherBounds_L102 (k12 : Option Nat → Option Nat → Option Nat → fSt → Option (Unit × fSt)) (a0 : Option Nat) (a1 : Option Nat) (a2 : Option Nat) (h : fSt) : Option (Unit × fSt) := (fgR h a2 4 17).bind fun x1 => k12 a0 a1 x1 h
noncomputable def f_X7_gatherBounds_L12 (n : Nat) : Option Nat → Option Nat → Option Nat → fSt → Option (Unit × fSt) := Nat.rec (motive := fun _ => Option Nat → Option Nat → Option Nat → fSt → Option (Unit × fSt)) (fun _ _ _ _ => none) (fun _ k12 (a0 : Option Nat) (a1 : Option Nat) (a2 : Option Nat) (h : fSt) => (if a2 = none then some ((), h) else (fgI h a2 4 1).bind fun x4 => (if x4 = 0 then f_X7_gatherBounds_L102 k12 a0 a1 a2 h else (fobj h a2 4).bind fun b9 => (f_X4_isWithin b9 a1 h).bind fun r7 => (if r7.1 = 0 then f_X7_gatherBounds_L102 k12 a0 a1 a2 r7.2 else (fgI r7.2 a0 7 7).bind fun x12 => (fobj r7.2 a2 4).bind fun b16 => (f_X4_isShownAt b16 x12 r7.2).bind fun r14 => (if r14.1 = 0 then f_X7_gatherBounds_L102 k12 a0 a1 a2 r14.2 else (fgR r14.2 a2 4 2).bind fun x19 => (fgI r14.2 x19 2 0).bind fun x21 => (fgR r14.2 a2 4 2).bind fun x23 => (fgI r14.2 x23 2 1).bind fun x25 => (fobj r14.2 a0 7).bind fun b29 => (f_X7_raise b29 a2 x21 x25 r14.2).bind fun r27 => (fgR r27.2 a0 7 4).bind fun x31 => (fgR r27.2 a0 7 3).bind fun x33 => (fobj r27.2 x31 0).bind fun b37 => (f_X0_include b37 x33 r27.2).bind fun r35 => (fgR r35.2 a2 4 2).bind fun x39 => (fgI r35.2 x39 2 2).bind fun x41 => (fgR r35.2 a2 4 2).bind fun x43 => (fgI r35.2 x43 2 3).bind fun x45 => (fobj r35.2 a0 7).bind fun b49 => (f_X7_raise b49 a2 x41 x45 r35.2).bind fun r47 => (fgR r47.2 a0 7 4).bind fun x51 => (fgR r47.2 a0 7 3).bind fun x53 => (fobj r47.2 x51 0).bind fun b57 => (f_X0_include b57 x53 r47.2).bind fun r55 => f_X7_gatherBounds_L102 k12 a0 a1 a2 r55.2))))) n
noncomputable def f_X7_gatherBounds_L0 (a0 : Option Nat) (a1 : Option Nat) (h : fSt) : Option (Unit × fSt) := (fgR h a0 7 4).bind fun x59 => (fobj h x59 0).bind fun b63 => (f_X0_clear b63 h).bind fun r61 => (fgR r61.2 a0 7 8).bind fun x65 => f_X7_gatherBounds_L12 4096 a0 a1 x65 r61.2
noncomputable def f_X7_gatherBounds (o : Nat) (p0 : Option Nat) (h : fSt) : Option (Unit × fSt) := f_X7_gatherBounds_L0 (some o) p0 h
noncomputable def f_X7_bound_L60 (s0 : Int64) (h : fSt) : Option ((Int32 ⊕ Nat) × fSt) := some (.inl (Int64.toInt32 s0), h)
noncomputable def f_X7_bound_L0 (a0 : Option Nat) (a1 : Int32) (a2 : Int32) (a3 : Int32) (h : fSt) : Option ((Int32 ⊕ Nat) × fSt) := (fobj h a0 7).bind fun b3 => (f_X7_found b3 a1 h).bind fun r1 => Sum.elim (fun v5 => (f_X7_isFrom a2 (0 : Int32) (3 : Int32) r1.2).bind fun r8 => (if r8.1 = 0 then (fthr r8.2).bind fun h26 => some (.inr 1, h26) else (fobj r8.2 a0 7).bind fun b13 => (f_X7_gatherBounds b13 v5 r8.2).bind fun r11 => (fgR r11.2 a0 7 4).bind fun x15 => (fobj r11.2 x15 0).bind fun b19 => (f_X0_side b19 a2 r11.2).bind fun r17 => (if a3 = 0 then (fgJ r17.2 r17.1 1 0).bind fun x22 => f_X7_bound_L60 x22 r17.2 else (fgJ r17.2 r17.1 1 1).bind fun x24 => f_X7_bound_L60 x24 r17.2))) (fun k6 => some (.inr k6, r1.2)) r1.1
noncomputable def f_X7_bound (o : Nat) (p0 : Int32) (p1 : Int32) (p2 : Int32) (h : fSt) : Option ((Int32 ⊕ Nat) × fSt) := f_X7_bound_L0 (some o) p0 p1 p2 h
noncomputable def f_X6_differs_L25 (s0 : Int32) (h : fSt) : Option (Int32 × fSt) := if s0 = 0 ∨ s0 = 1 then some (s0, h) else none
noncomputable def f_X6_differs_L24  (h : fSt) : Option (Int32 × fSt) := f_X6_differs_L25 (0 : Int32) h
noncomputable def f_X6_differs_L0 (a0 : Option Nat) (a1 : Int32) (a2 : Int32) (h : fSt) : Option (Int32 × fSt) := (fgR h a0 6 7).bind fun x2 => (if x2 = none then f_X6_differs_L24 h else (fobj h a0 6).bind fun b7 => (f_X6_at b7 a1 h).bind fun r5 => (fobj r5.2 a0 6).bind fun b11 => (f_X6_at b11 a2 r5.2).bind fun r9 => (if r5.1 = r9.1 then f_X6_differs_L24 r9.2 else f_X6_differs_L25 (1 : Int32) r9.2))
noncomputable def f_X6_differs (o : Nat) (p0 : Int32) (p1 : Int32) (h : fSt) : Option (Int32 × fSt) := f_X6_differs_L0 (some o) p0 p1 h
noncomputable def f_X4_differs_L54  (h : fSt) : Option (Int32 × fSt) := some ((1 : Int32), h)
noncomputable def f_X4_differs_L2 (n : Nat) : Int32 → Int32 → Option Nat → fSt → Option (Int32 × fSt) := Nat.rec (motive := fun _ => Int32 → Int32 → Option Nat → fSt → Option (Int32 × fSt)) (fun _ _ _ _ => none) (fun _ k2 (a1 : Int32) (a2 : Int32) (a3 : Option Nat) (h : fSt) => (if a3 = none then some ((0 : Int32), h) else (fgR h a3 4 3).bind fun x2 => (fobj h x2 6).bind fun b6 => (f_X6_differs b6 a1 a2 h).bind fun r4 => (if r4.1 = 0 then (fgR r4.2 a3 4 4).bind fun x9 => (fobj r4.2 x9 6).bind fun b13 => (f_X6_differs b13 a1 a2 r4.2).bind fun r11 => (if r11.1 = 0 then (fgR r11.2 a3 4 5).bind fun x16 => (fobj r11.2 x16 6).bind fun b20 => (f_X6_differs b20 a1 a2 r11.2).bind fun r18 => (if r18.1 = 0 then (fgR r18.2 a3 4 6).bind fun x23 => (fobj r18.2 x23 6).bind fun b27 => (f_X6_differs b27 a1 a2 r18.2).bind fun r25 => (if r25.1 = 0 then (fgR r25.2 a3 4 14).bind fun x30 => k2 a1 a2 x30 r25.2 else f_X4_differs_L54 r25.2) else f_X4_differs_L54 r18.2) else f_X4_differs_L54 r11.2) else f_X4_differs_L54 r4.2))) n
noncomputable def f_X4_differs_L0 (a0 : Option Nat) (a1 : Int32) (a2 : Int32) (h : fSt) : Option (Int32 × fSt) := f_X4_differs_L2 4096 a1 a2 a0 h
noncomputable def f_X4_differs (o : Nat) (p0 : Int32) (p1 : Int32) (h : fSt) : Option (Int32 × fSt) := f_X4_differs_L0 (some o) p0 p1 h
noncomputable def f_X7_checkTime_L0 (a0 : Int32) (h : fSt) : Option ((Unit ⊕ Nat) × fSt) := (f_X7_isFrom a0 (0 : Int32) (9999 : Int32) h).bind fun r1 => (if r1.1 = 0 then (fthr r1.2).bind fun h4 => some (.inr 1, h4) else some (.inl (), r1.2))
noncomputable def f_X7_checkTime (p0 : Int32) (h : fSt) : Option ((Unit ⊕ Nat) × fSt) := f_X7_checkTime_L0 p0 h
noncomputable def f_X7_changes_L34 (k16 : Int32 → Int32 → Int32 → Option Nat → fSt → Option ((Int32 ⊕ Nat) × fSt)) (a1 : Int32) (a2 : Int32) (a3 : Int32) (a4 : Option Nat) (h : fSt) : Option ((Int32 ⊕ Nat) × fSt) := (fgR h a4 4 17).bind fun x1 => k16 a1 a2 a3 x1 h
noncomputable def f_X7_changes_L16 (n : Nat) : Int32 → Int32 → Int32 → Option Nat → fSt → Option ((Int32 ⊕ Nat) × fSt) := Nat.rec (motive := fun _ => Int32 → Int32 → Int32 → Option Nat → fSt → Option ((Int32 ⊕ Nat) × fSt)) (fun _ _ _ _ _ => none) (fun _ k16 (a1 : Int32) (a2 : Int32) (a3 : Int32) (a4 : Option Nat) (h : fSt) => (if a4 = none then some (.inl a3, h) else (fobj h a4 4).bind fun b6 => (f_X4_differs b6 a1 a2 h).bind fun r4 => (if r4.1 = 0 then f_X7_changes_L34 k16 a1 a2 a3 a4 r4.2 else f_X7_changes_L34 k16 a1 a2 (a3 + (1 : Int32)) a4 r4.2))) n
noncomputable def f_X7_changes_L0 (a0 : Option Nat) (a1 : Int32) (a2 : Int32) (h : fSt) : Option ((Int32 ⊕ Nat) × fSt) := (f_X7_checkTime a1 h).bind fun r9 => Sum.elim (fun v11 => (f_X7_checkTime a2 r9.2).bind fun r14 => Sum.elim (fun v16 => (fgR r14.2 a0 7 8).bind fun x19 => f_X7_changes_L16 4096 a1 a2 (0 : Int32) x19 r14.2) (fun k17 => some (.inr k17, r14.2)) r14.1) (fun k12 => some (.inr k12, r9.2)) r9.1
noncomputable def f_X7_changes (o : Nat) (p0 : Int32) (p1 : Int32) (h : fSt) : Option ((Int32 ⊕ Nat) × fSt) := f_X7_changes_L0 (some o) p0 p1 h
noncomputable def f_X7_common_L16 (n : Nat) : Option Nat → Option Nat → Option Nat → fSt → Option ((Int32 ⊕ Nat) × fSt) := Nat.rec (motive := fun _ => Option Nat → Option Nat → Option Nat → fSt → Option ((Int32 ⊕ Nat) × fSt)) (fun _ _ _ _ => none) (fun _ k16 (a0 : Option Nat) (a4 : Option Nat) (a5 : Option Nat) (h : fSt) => (if a5 = none then (fgR h a0 7 2).bind fun x2 => (fgI h x2 4 0).bind fun x4 => some (.inl x4, h) else (fobj h a4 4).bind fun b8 => (f_X4_isWithin b8 a5 h).bind fun r6 => (if r6.1 = 0 then (fgR r6.2 a5 4 14).bind fun x11 => k16 a0 a4 x11 r6.2 else (fgI r6.2 a5 4 0).bind fun x13 => some (.inl x13, r6.2)))) n
noncomputable def f_X7_common_L0 (a0 : Option Nat) (a1 : Int32) (a2 : Int32) (h : fSt) : Option ((Int32 ⊕ Nat) × fSt) := (fobj h a0 7).bind fun b17 => (f_X7_found b17 a1 h).bind fun r15 => Sum.elim (fun v19 => (fobj r15.2 a0 7).bind fun b24 => (f_X7_found b24 a2 r15.2).bind fun r22 => Sum.elim (fun v26 => f_X7_common_L16 4096 a0 v26 v19 r22.2) (fun k27 => some (.inr k27, r22.2)) r22.1) (fun k20 => some (.inr k20, r15.2)) r15.1
noncomputable def f_X7_common (o : Nat) (p0 : Int32) (p1 : Int32) (h : fSt) : Option ((Int32 ⊕ Nat) × fSt) := f_X7_common_L0 (some o) p0 p1 h
noncomputable def f_X7_checkSpot_L26  (h : fSt) : Option ((Unit ⊕ Nat) × fSt) := (fthr h).bind fun h1 => some (.inr 1, h1)
noncomputable def f_X7_checkSpot_L0 (a0 : Int32) (a1 : Int32) (a2 : Int32) (h : fSt) : Option ((Unit ⊕ Nat) × fSt) := (f_X7_isFrom a0 (-10000 : Int32) (10000 : Int32) h).bind fun r3 => (if r3.1 = 0 then f_X7_checkSpot_L26 r3.2 else (f_X7_isFrom a1 (-10000 : Int32) (10000 : Int32) r3.2).bind fun r6 => (if r6.1 = 0 then f_X7_checkSpot_L26 r6.2 else (f_X7_isFrom a2 (1 : Int32) (60 : Int32) r6.2).bind fun r9 => (if r9.1 = 0 then (fthr r9.2).bind fun h12 => some (.inr 1, h12) else some (.inl (), r9.2))))
noncomputable def f_X7_checkSpot (p0 : Int32) (p1 : Int32) (p2 : Int32) (h : fSt) : Option ((Unit ⊕ Nat) × fSt) := f_X7_checkSpot_L0 p0 p1 p2 h
noncomputable def f_X2_isAheadOfSlope_L46 (s0 : Int32) (h : fSt) : Option (Int32 × fSt) := if s0 = 0 ∨ s0 = 1 then some (s0, h) else none
noncomputable def f_X2_isAheadOfSlope_L0 (a0 : Option Nat) (a1 : Option Nat) (h : fSt) : Option (Int32 × fSt) := (fgJ h a1 5 0).bind fun x2 => (fgI h a0 2 3).bind fun x4 => (fgJ h a1 5 1).bind fun x6 => (fgI h a0 2 2).bind fun x8 => (fgJ h a1 5 2).bind fun x10 => (fgI h a0 2 2).bind fun x12 => (fgI h a0 2 3).bind fun x14 => (if ((x10 * (Int32.toInt64 x12)) * (Int32.toInt64 x14)) < ((x2 * (Int32.toInt64 x4)) + (x6 * (Int32.toInt64 x8))) then f_X2_isAheadOfSlope_L46 (0 : Int32) h else f_X2_isAheadOfSlope_L46 (1 : Int32) h)
noncomputable def f_X2_isAheadOfSlope (o : Nat) (p0 : Option Nat) (h : fSt) : Option (Int32 × fSt) := f_X2_isAheadOfSlope_L0 (some o) p0 h
noncomputable def f_X4_owns_L42 (s0 : Int32) (h : fSt) : Option (Int32 × fSt) := if s0 = 0 ∨ s0 = 1 then some (s0, h) else none
noncomputable def f_X4_owns_L37  (h : fSt) : Option (Int32 × fSt) := f_X4_owns_L42 (1 : Int32) h
noncomputable def f_X4_owns_L41  (h : fSt) : Option (Int32 × fSt) := f_X4_owns_L42 (0 : Int32) h
noncomputable def f_X4_owns_L0 (a0 : Option Nat) (a1 : Option Nat) (h : fSt) : Option (Int32 × fSt) := (fgI h a0 4 1).bind fun x2 => (if x2 = 0 then f_X4_owns_L41 h else (fgR h a0 4 2).bind fun x5 => (fobj h x5 2).bind fun b9 => (f_X2_holds b9 a1 h).bind fun r7 => (if r7.1 = 0 then f_X4_owns_L41 r7.2 else (fgI r7.2 a0 4 1).bind fun x12 => (if x12 = (1 : Int32) then f_X4_owns_L37 r7.2 else (fgR r7.2 a0 4 2).bind fun x15 => (fobj r7.2 x15 2).bind fun b19 => (f_X2_isAheadOfSlope b19 a1 r7.2).bind fun r17 => (if r17.1 = 0 then f_X4_owns_L41 r17.2 else f_X4_owns_L37 r17.2))))
noncomputable def f_X4_owns (o : Nat) (p0 : Option Nat) (h : fSt) : Option (Int32 × fSt) := f_X4_owns_L0 (some o) p0 h
noncomputable def f_X7_coversAt_L16  (h : fSt) : Option (Int32 × fSt) := some ((0 : Int32), h)
noncomputable def f_X7_coversAt_L69 (s0 : Int32) (h : fSt) : Option (Int32 × fSt) := if s0 = 0 ∨ s0 = 1 then some (s0, h) else none
noncomputable def f_X7_coversAt_L68  (h : fSt) : Option (Int32 × fSt) := f_X7_coversAt_L69 (0 : Int32) h
noncomputable def f_X7_coversAt_L0 (a0 : Option Nat) (a1 : Option Nat) (a2 : Int32) (a3 : Int32) (a4 : Int32) (a5 : Int32) (h : fSt) : Option (Int32 × fSt) := (fgI h a1 4 1).bind fun x2 => (if x2 = 0 then f_X7_coversAt_L16 h else (fobj h a1 4).bind fun b7 => (f_X4_isShownAt b7 a5 h).bind fun r5 => (if r5.1 = 0 then f_X7_coversAt_L16 r5.2 else (fgR r5.2 a0 7 3).bind fun x10 => (fobj r5.2 x10 5).bind fun b14 => (f_X5_set b14 (Int32.toInt64 a2) (Int32.toInt64 a3) (Int32.toInt64 a4) r5.2).bind fun r12 => (fgR r12.2 a0 7 3).bind fun x16 => (f_X7_sink 8 x16 a1 a5 (0 : Int32) r12.2).bind fun r18 => (fgR r18.2 a0 7 3).bind fun x20 => (fgI r18.2 x20 5 3).bind fun x22 => (if x22 = 0 then (fgR r18.2 a0 7 3).bind fun x25 => (fobj r18.2 a1 4).bind fun b29 => (f_X4_owns b29 x25 r18.2).bind fun r27 => (if r27.1 = 0 then f_X7_coversAt_L68 r27.2 else f_X7_coversAt_L69 (1 : Int32) r27.2) else f_X7_coversAt_L68 r18.2)))
noncomputable def f_X7_coversAt (o : Nat) (p0 : Option Nat) (p1 : Int32) (p2 : Int32) (p3 : Int32) (p4 : Int32) (h : fSt) : Option (Int32 × fSt) := f_X7_coversAt_L0 (some o) p0 p1 p2 p3 p4 h
noncomputable def f_X7_covers_L0 (a0 : Option Nat) (a1 : Int32) (a2 : Int32) (a3 : Int32) (a4 : Int32) (h : fSt) : Option ((Int32 ⊕ Nat) × fSt) := (fobj h a0 7).bind fun b3 => (f_X7_found b3 a1 h).bind fun r1 => Sum.elim (fun v5 => (f_X7_checkSpot a2 a3 a4 r1.2).bind fun r8 => Sum.elim (fun v10 => (fgI r8.2 a0 7 7).bind fun x13 => (fobj r8.2 a0 7).bind fun b17 => (f_X7_coversAt b17 v5 a2 a3 a4 x13 r8.2).bind fun r15 => if r15.1 = 0 ∨ r15.1 = 1 then some (.inl r15.1, r15.2) else none) (fun k11 => some (.inr k11, r8.2)) r8.1) (fun k6 => some (.inr k6, r1.2)) r1.1
noncomputable def f_X7_covers (o : Nat) (p0 : Int32) (p1 : Int32) (p2 : Int32) (p3 : Int32) (h : fSt) : Option ((Int32 ⊕ Nat) × fSt) := f_X7_covers_L0 (some o) p0 p1 p2 p3 h
noncomputable def f_X7_mixed_L0 (a0 : Int64) (a2 : Int64) (h : fSt) : Option (Int64 × fSt) := some (((a0 * (31 : Int64)) + a2), h)
noncomputable def f_X7_mixed (p0 : Int64) (p1 : Int64) (h : fSt) : Option (Int64 × fSt) := f_X7_mixed_L0 p0 p1 h
noncomputable def f_X4_depth_L7 (n : Nat) : Int32 → Option Nat → fSt → Option (Int32 × fSt) := Nat.rec (motive := fun _ => Int32 → Option Nat → fSt → Option (Int32 × fSt)) (fun _ _ _ => none) (fun _ k7 (a1 : Int32) (a2 : Option Nat) (h : fSt) => (if a2 = none then some (a1, h) else (fgR h a2 4 14).bind fun x2 => k7 (a1 + (1 : Int32)) x2 h)) n
noncomputable def f_X4_depth_L0 (a0 : Option Nat) (h : fSt) : Option (Int32 × fSt) := (fgR h a0 4 14).bind fun x4 => f_X4_depth_L7 4096 (0 : Int32) x4 h
noncomputable def f_X4_depth (o : Nat) (h : fSt) : Option (Int32 × fSt) := f_X4_depth_L0 (some o) h
noncomputable def f_X7_mixedWithPoint_L5 (n : Nat) : Option Nat → Int64 → Int32 → fSt → Option (Int64 × fSt) := Nat.rec (motive := fun _ => Option Nat → Int64 → Int32 → fSt → Option (Int64 × fSt)) (fun _ _ _ _ => none) (fun _ k5 (a0 : Option Nat) (a3 : Int64) (a5 : Int32) (h : fSt) => (if (3 : Int32) < a5 then some (a3, h) else (fgR h a0 7 3).bind fun x2 => (fobj h x2 5).bind fun b6 => (f_X5_part b6 a5 h).bind fun r4 => (f_X7_mixed a3 r4.1 r4.2).bind fun r8 => k5 a0 r8.1 (a5 + (1 : Int32)) r8.2)) n
noncomputable def f_X7_mixedWithPoint_L0 (a0 : Option Nat) (a1 : Int64) (h : fSt) : Option (Int64 × fSt) := f_X7_mixedWithPoint_L5 4096 a0 a1 (0 : Int32) h
noncomputable def f_X7_mixedWithPoint (o : Nat) (p0 : Int64) (h : fSt) : Option (Int64 × fSt) := f_X7_mixedWithPoint_L0 (some o) p0 h
noncomputable def f_X7_parentNumber_L18 (s0 : Int32) (h : fSt) : Option (Int32 × fSt) := some (s0, h)
noncomputable def f_X7_parentNumber_L0 (a0 : Option Nat) (h : fSt) : Option (Int32 × fSt) := (fgR h a0 4 14).bind fun x1 => (if x1 = none then f_X7_parentNumber_L18 (-1 : Int32) h else (fgR h a0 4 14).bind fun x4 => (fgI h x4 4 0).bind fun x6 => f_X7_parentNumber_L18 x6 h)
noncomputable def f_X7_parentNumber (p0 : Option Nat) (h : fSt) : Option (Int32 × fSt) := f_X7_parentNumber_L0 p0 h
noncomputable def f_X7_strengthOf_L38 (self : Option Nat → Int32 → Int32 → fSt → Option (Int32 × fSt)) (a0 : Option Nat) (a1 : Int32) (s0 : Int32) (h : fSt) : Option (Int32 × fSt) := (fgR h a0 4 6).bind fun x1 => (fobj h x1 6).bind fun b5 => (f_X6_at b5 a1 h).bind fun r3 => some (((s0 * r3.1) / (100 : Int32)), r3.2)
noncomputable def f_X7_strengthOf_L17 (self : Option Nat → Int32 → Int32 → fSt → Option (Int32 × fSt)) (a0 : Option Nat) (a1 : Int32) (a2 : Int32) (s0 : Int32) (h : fSt) : Option (Int32 × fSt) := (if s0 = 0 then (fgR h a0 4 14).bind fun x8 => (self x8 a1 (a2 + (1 : Int32)) h).bind fun r10 => f_X7_strengthOf_L38 self a0 a1 r10.1 r10.2 else f_X7_strengthOf_L38 self a0 a1 (100 : Int32) h)
noncomputable def f_X7_strengthOf_L12 (self : Option Nat → Int32 → Int32 → fSt → Option (Int32 × fSt)) (a0 : Option Nat) (a1 : Int32) (a2 : Int32) (h : fSt) : Option (Int32 × fSt) := f_X7_strengthOf_L17 self a0 a1 a2 (1 : Int32) h
noncomputable def f_X7_strengthOf_L0 (self : Option Nat → Int32 → Int32 → fSt → Option (Int32 × fSt)) (a0 : Option Nat) (a1 : Int32) (a2 : Int32) (h : fSt) : Option (Int32 × fSt) := (fgR h a0 4 14).bind fun x12 => (if x12 = none then f_X7_strengthOf_L12 self a0 a1 a2 h else (if a2 < (4 : Int32) then f_X7_strengthOf_L17 self a0 a1 a2 (0 : Int32) h else f_X7_strengthOf_L12 self a0 a1 a2 h))
noncomputable def f_X7_strengthOf (d : Nat) : Option Nat → Int32 → Int32 → fSt → Option (Int32 × fSt) := Nat.rec (motive := fun _ => Option Nat → Int32 → Int32 → fSt → Option (Int32 × fSt)) (fun _ _ _ _ => none) (fun _ self (p0 : Option Nat) (p1 : Int32) (p2 : Int32) (h : fSt) => f_X7_strengthOf_L0 self p0 p1 p2 h) d
noncomputable def f_X7_mixedWithNode_L219 (n : Nat) : Option Nat → Int64 → Int32 → fSt → Option (Int64 × fSt) := Nat.rec (motive := fun _ => Option Nat → Int64 → Int32 → fSt → Option (Int64 × fSt)) (fun _ _ _ _ => none) (fun _ k219 (a0 : Option Nat) (a4 : Int64) (a6 : Int32) (h : fSt) => (if (3 : Int32) < a6 then some (a4, h) else (fgR h a0 7 4).bind fun x2 => (fobj h x2 0).bind fun b6 => (f_X0_side b6 a6 h).bind fun r4 => (fgJ r4.2 r4.1 1 0).bind fun x8 => (f_X7_mixed a4 x8 r4.2).bind fun r10 => (fgJ r10.2 r4.1 1 1).bind fun x12 => (f_X7_mixed r10.1 x12 r10.2).bind fun r14 => k219 a0 r14.1 (a6 + (1 : Int32)) r14.2)) n
noncomputable def f_X7_mixedWithNode_L129 (a0 : Option Nat) (a3 : Option Nat) (s1 : Int64) (s0 : Int64) (h : fSt) : Option (Int64 × fSt) := (f_X7_mixed s0 s1 h).bind fun r16 => (fgI r16.2 a0 7 7).bind fun x18 => (f_X7_strengthOf 8 a3 x18 (0 : Int32) r16.2).bind fun r20 => (f_X7_mixed r16.1 (Int32.toInt64 r20.1) r20.2).bind fun r22 => (fgI r22.2 a3 4 18).bind fun x24 => (f_X7_mixed r22.1 (Int32.toInt64 x24) r22.2).bind fun r26 => (fobj r26.2 a0 7).bind fun b30 => (f_X7_raise b30 a3 (1 : Int32) (2 : Int32) r26.2).bind fun r28 => (fobj r28.2 a0 7).bind fun b34 => (f_X7_mixedWithPoint b34 r26.1 r28.2).bind fun r32 => (fgR r32.2 a0 7 3).bind fun x36 => (fobj r32.2 x36 5).bind fun b40 => (f_X5_set b40 (1 : Int64) (2 : Int64) (1 : Int64) r32.2).bind fun r38 => (fgR r38.2 a0 7 3).bind fun x42 => (fgI r38.2 a0 7 7).bind fun x44 => (f_X7_sink 8 x42 a3 x44 (0 : Int32) r38.2).bind fun r46 => (fobj r46.2 a0 7).bind fun b50 => (f_X7_mixedWithPoint b50 r32.1 r46.2).bind fun r48 => (fobj r48.2 a0 7).bind fun b54 => (f_X7_gatherBounds b54 a3 r48.2).bind fun r52 => f_X7_mixedWithNode_L219 4096 a0 r48.1 (0 : Int32) r52.2
noncomputable def f_X7_mixedWithNode_L0 (a0 : Option Nat) (a1 : Int64) (a3 : Option Nat) (h : fSt) : Option (Int64 × fSt) := (fgI h a3 4 0).bind fun x56 => (f_X7_mixed a1 (Int32.toInt64 x56) h).bind fun r58 => (f_X7_parentNumber a3 r58.2).bind fun r60 => (f_X7_mixed r58.1 (Int32.toInt64 r60.1) r60.2).bind fun r62 => (fobj r62.2 a3 4).bind fun b66 => (f_X4_depth b66 r62.2).bind fun r64 => (f_X7_mixed r62.1 (Int32.toInt64 r64.1) r64.2).bind fun r68 => (fgR r68.2 a3 4 3).bind fun x70 => (fgI r68.2 a0 7 7).bind fun x72 => (fobj r68.2 x70 6).bind fun b76 => (f_X6_at b76 x72 r68.2).bind fun r74 => (f_X7_mixed r68.1 (Int32.toInt64 r74.1) r74.2).bind fun r78 => (fgR r78.2 a3 4 4).bind fun x80 => (fgI r78.2 a0 7 7).bind fun x82 => (fobj r78.2 x80 6).bind fun b86 => (f_X6_at b86 x82 r78.2).bind fun r84 => (f_X7_mixed r78.1 (Int32.toInt64 r84.1) r84.2).bind fun r88 => (fgR r88.2 a3 4 5).bind fun x90 => (fgI r88.2 a0 7 7).bind fun x92 => (fobj r88.2 x90 6).bind fun b96 => (f_X6_at b96 x92 r88.2).bind fun r94 => (f_X7_mixed r88.1 (Int32.toInt64 r94.1) r94.2).bind fun r98 => (fgR r98.2 a3 4 6).bind fun x100 => (fgI r98.2 a0 7 7).bind fun x102 => (fobj r98.2 x100 6).bind fun b106 => (f_X6_at b106 x102 r98.2).bind fun r104 => (f_X7_mixed r98.1 (Int32.toInt64 r104.1) r104.2).bind fun r108 => (fgI r108.2 a0 7 7).bind fun x110 => (fobj r108.2 a3 4).bind fun b114 => (f_X4_isShownAt b114 x110 r108.2).bind fun r112 => (if r112.1 = 0 then f_X7_mixedWithNode_L129 a0 a3 (0 : Int64) r108.1 r112.2 else f_X7_mixedWithNode_L129 a0 a3 (1 : Int64) r108.1 r112.2)
noncomputable def f_X7_mixedWithNode (o : Nat) (p0 : Int64) (p1 : Option Nat) (h : fSt) : Option (Int64 × fSt) := f_X7_mixedWithNode_L0 (some o) p0 p1 h
noncomputable def f_X6_nextKeyTime_L5 (n : Nat) : Int32 → Option Nat → fSt → Option (Int32 × fSt) := Nat.rec (motive := fun _ => Int32 → Option Nat → fSt → Option (Int32 × fSt)) (fun _ _ _ => none) (fun _ k5 (a1 : Int32) (a2 : Option Nat) (h : fSt) => (if a2 = none then some ((-1 : Int32), h) else (fgI h a2 3 0).bind fun x2 => (if x2 ≤ a1 then (fgR h a2 3 2).bind fun x5 => k5 a1 x5 h else (fgI h a2 3 0).bind fun x7 => some (x7, h)))) n
noncomputable def f_X6_nextKeyTime_L0 (a0 : Option Nat) (a1 : Int32) (h : fSt) : Option (Int32 × fSt) := (fgR h a0 6 7).bind fun x9 => f_X6_nextKeyTime_L5 4096 a1 x9 h
noncomputable def f_X6_nextKeyTime (o : Nat) (p0 : Int32) (h : fSt) : Option (Int32 × fSt) := f_X6_nextKeyTime_L0 (some o) p0 h
noncomputable def f_X7_nextKey_L65 (k4 : Option Nat → Int32 → Int32 → fSt → Option (Int32 × fSt)) (a0 : Option Nat) (a1 : Int32) (a2 : Int32) (h : fSt) : Option (Int32 × fSt) := k4 a0 a1 (a2 + (1 : Int32)) h
noncomputable def f_X7_nextKey_L63 (k4 : Option Nat → Int32 → Int32 → fSt → Option (Int32 × fSt)) (a0 : Option Nat) (a2 : Int32) (a3 : Int32) (h : fSt) : Option (Int32 × fSt) := f_X7_nextKey_L65 k4 a0 a3 a2 h
noncomputable def f_X7_nextKey_L47 (k4 : Option Nat → Int32 → Int32 → fSt → Option (Int32 × fSt)) (a0 : Option Nat) (a1 : Int32) (a2 : Int32) (s0 : Int32) (h : fSt) : Option (Int32 × fSt) := (if s0 = (-1 : Int32) then f_X7_nextKey_L65 k4 a0 a1 a2 h else (if a1 = (-1 : Int32) then f_X7_nextKey_L63 k4 a0 a2 s0 h else (if a1 ≤ s0 then f_X7_nextKey_L65 k4 a0 a1 a2 h else f_X7_nextKey_L63 k4 a0 a2 s0 h)))
noncomputable def f_X7_nextKey_L71 (a1 : Int32) (h : fSt) : Option (Int32 × fSt) := some (a1, h)
noncomputable def f_X7_nextKey_L4 (n : Nat) : Option Nat → Int32 → Int32 → fSt → Option (Int32 × fSt) := Nat.rec (motive := fun _ => Option Nat → Int32 → Int32 → fSt → Option (Int32 × fSt)) (fun _ _ _ _ => none) (fun _ k4 (a0 : Option Nat) (a1 : Int32) (a2 : Int32) (h : fSt) => (fgI h a0 7 6).bind fun x4 => (if x4 ≤ a2 then f_X7_nextKey_L71 a1 h else (fgR h a0 7 1).bind fun x7 => (flen h x7 3).bind fun x9 => (if x9 ≤ a2 then f_X7_nextKey_L71 a1 h else (fgR h a0 7 1).bind fun x12 => (faR h x12 3 a2).bind fun x14 => (if x14 = none then f_X7_nextKey_L47 k4 a0 a1 a2 (-1 : Int32) h else (fgR h a0 7 1).bind fun x17 => (faR h x17 3 a2).bind fun x19 => (fgI h a0 7 7).bind fun x21 => (fobj h x19 6).bind fun b25 => (f_X6_nextKeyTime b25 x21 h).bind fun r23 => f_X7_nextKey_L47 k4 a0 a1 a2 r23.1 r23.2)))) n
noncomputable def f_X7_nextKey_L0 (a0 : Option Nat) (h : fSt) : Option (Int32 × fSt) := f_X7_nextKey_L4 4096 a0 (-1 : Int32) (0 : Int32) h
noncomputable def f_X7_nextKey (o : Nat) (h : fSt) : Option (Int32 × fSt) := f_X7_nextKey_L0 (some o) h
set_option maxHeartbeats 4000000 in
set_option maxRecDepth 100000 in
theorem w_X1_lowerTo_L31 {p : Program} {l : Launch} {e : Env} {s : State} {m : MethodId} {args : Array Value} {below : List Frame} {meth : Method} {c : Code} {D : va_G} {cA : Nat → ClassId} {h0 : fSt} {r : (Unit × fSt)} (M : fM p s m args meth c D cA h0 { frames := 2, cells := fCB h0 - fZ h0, slots := fLB h0 - fL h0, locals := 56 } cX1_lowerTo 5 none RX1) (hfl : l.stackTraces = false)  (h : fSt) (hf : f_X1_lowerTo_L31  h = some r) : ∀ (H : Heap) (locs : List Loc) (cells slots : Nat) (ls : Array Slot), fCur D cA s h0 h H locs → lv_has ls 5 [] → W p l e { frames := 2, cells := fCB h0 - fZ h0, slots := fLB h0 - fL h0, locals := 56 } s m args below meth c H locs cells slots (MQ below (fQ D cA h0 r.2 none) args s (fCB h0 - fZ h0) (fLB h0 - fL h0) (fA h0)) (F0 m 31 ls []) := by
  obtain ⟨hx, hb, hml, hr, hlocks, hts, hown, K, hR⟩ := id M
  intro H locs cells slots ls hC hl
  obtain rfl := Option.some.inj hf
  exact fr_vret hx hb hr hlocks hC dX1_lowerTo_31
set_option maxHeartbeats 4000000 in
set_option maxRecDepth 100000 in
theorem w_X1_lowerTo_L25 {p : Program} {l : Launch} {e : Env} {s : State} {m : MethodId} {args : Array Value} {below : List Frame} {meth : Method} {c : Code} {D : va_G} {cA : Nat → ClassId} {h0 : fSt} {r : (Unit × fSt)} (M : fM p s m args meth c D cA h0 { frames := 2, cells := fCB h0 - fZ h0, slots := fLB h0 - fL h0, locals := 56 } cX1_lowerTo 5 none RX1) (hfl : l.stackTraces = false) (a0 : Option Nat) (a1 : Int64) (a3 : Int64) (h : fSt) (hf : f_X1_lowerTo_L25 a0 a1 a3 h = some r) : ∀ (H : Heap) (locs : List Loc) (cells slots : Nat) (ls : Array Slot), fCur D cA s h0 h H locs → lv_has ls 5 [(0, va_rf a0), (1, .long a1), (3, .long a3)] → W p l e { frames := 2, cells := fCB h0 - fZ h0, slots := fLB h0 - fL h0, locals := 56 } s m args below meth c H locs cells slots (MQ below (fQ D cA h0 r.2 none) args s (fCB h0 - fZ h0) (fLB h0 - fL h0) (fA h0)) (F0 m 25 ls []) := by
  obtain ⟨hx, hb, hml, hr, hlocks, hts, hown, K, hR⟩ := id M
  intro H locs cells slots ls hC hl
  refine fr_aload_n hx hb dX1_lowerTo_25 rfl (lv_at hl 0 rfl) ?_
  refine lv_lload_n hx hb dX1_lowerTo_26 rfl (lv_at hl 1 rfl) ?_
  refine lv_lload_n hx hb dX1_lowerTo_27 rfl (lv_at hl 2 rfl) ?_
  obtain ⟨b3, q4, hf⟩ := obind hf
  obtain ⟨r1, g2, hf⟩ := obind hf
  refine fr_callV hx hb hml hts hown K hC hR ct_1 (c_X1_set hfl D cA g2) 2 q4 kw258 kw273 kw256 kw257 kw29 (by decide +kernel) ⟨by exact Nat.le_of_ble_eq_true rfl, by exact Nat.le_of_ble_eq_true rfl⟩ rfl hl.1 (cat8 _ (by exact Nat.le_of_ble_eq_true rfl)) dX1_lowerTo_28 rfl (fun H locs _ _ hC => ?_)
  exact w_X1_lowerTo_L31 M hfl _ hf _ _ _ _ _ hC (lv_sub hl [] rfl)
set_option maxHeartbeats 4000000 in
set_option maxRecDepth 100000 in
theorem w_X1_lowerTo_L0 {p : Program} {l : Launch} {e : Env} {s : State} {m : MethodId} {args : Array Value} {below : List Frame} {meth : Method} {c : Code} {D : va_G} {cA : Nat → ClassId} {h0 : fSt} {r : (Unit × fSt)} (M : fM p s m args meth c D cA h0 { frames := 2, cells := fCB h0 - fZ h0, slots := fLB h0 - fL h0, locals := 56 } cX1_lowerTo 5 none RX1) (hfl : l.stackTraces = false) (a0 : Option Nat) (a1 : Int64) (a3 : Int64) (h : fSt) (hf : f_X1_lowerTo_L0 a0 a1 a3 h = some r) : ∀ (H : Heap) (locs : List Loc) (cells slots : Nat) (ls : Array Slot), fCur D cA s h0 h H locs → lv_has ls 5 [(0, va_rf a0), (1, .long a1), (3, .long a3)] → W p l e { frames := 2, cells := fCB h0 - fZ h0, slots := fLB h0 - fL h0, locals := 56 } s m args below meth c H locs cells slots (MQ below (fQ D cA h0 r.2 none) args s (fCB h0 - fZ h0) (fLB h0 - fL h0) (fA h0)) (F0 m 0 ls []) := by
  obtain ⟨hx, hb, hml, hr, hlocks, hts, hown, K, hR⟩ := id M
  intro H locs cells slots ls hC hl
  refine fr_aload_n hx hb dX1_lowerTo_0 rfl (lv_at hl 0 rfl) ?_
  obtain ⟨x5, g6, hf⟩ := obind hf
  refine fr_get hx hb hts hown K hC ct_1 (fgJ_get g6) (by decide) kw597 rfl dX1_lowerTo_1 ?_
  refine lv_lconst (v := (0 : Int64)) hx hb dX1_lowerTo_4 (by decide) ?_
  refine fr_lcmp_eq (tgt := 25) hx hb dX1_lowerTo_5 dX1_lowerTo_6 (by decide) (fun c7 => ?_) (fun c7 => ?_)
  · replace hf := opos c7 hf
    exact w_X1_lowerTo_L25 M hfl _ _ _ _ hf _ _ _ _ _ hC (lv_sub hl [0, 1, 2] rfl)
  · replace hf := oneg c7 hf
    refine lv_lload_n hx hb dX1_lowerTo_9 rfl (lv_at hl 1 rfl) ?_
    refine fr_aload_n hx hb dX1_lowerTo_10 rfl (lv_at hl 0 rfl) ?_
    obtain ⟨x8, g9, hf⟩ := obind hf
    refine fr_get hx hb hts hown K hC ct_1 (fgJ_get g9) (by decide) kw597 rfl dX1_lowerTo_11 ?_
    refine lv_lmul hx hb dX1_lowerTo_14 ?_
    refine fr_aload_n hx hb dX1_lowerTo_15 rfl (lv_at hl 0 rfl) ?_
    obtain ⟨x10, g11, hf⟩ := obind hf
    refine fr_get hx hb hts hown K hC ct_1 (fgJ_get g11) (by decide) kw595 rfl dX1_lowerTo_16 ?_
    refine lv_lload_n hx hb dX1_lowerTo_19 rfl (lv_at hl 2 rfl) ?_
    refine lv_lmul hx hb dX1_lowerTo_20 ?_
    refine fr_lcmp_ge (tgt := 31) hx hb dX1_lowerTo_21 dX1_lowerTo_22 (by decide) (fun c12 => ?_) (fun c12 => ?_)
    · replace hf := opos c12 hf
      exact w_X1_lowerTo_L31 M hfl _ hf _ _ _ _ _ hC (lv_sub hl [] rfl)
    · replace hf := oneg c12 hf
      exact w_X1_lowerTo_L25 M hfl _ _ _ _ hf _ _ _ _ _ hC (lv_sub hl [0, 1, 2] rfl)
set_option maxRecDepth 100000 in
theorem c_X1_lowerTo {l : Launch} (hfl : l.stackTraces = false) (D : va_G) (cA : Nat → ClassId) {o : Nat} {p0 : Int64} {p1 : Int64} {h : fSt} {r : (Unit × fSt)} (hf : f_X1_lowerTo o p0 p1 h = some r) : fMet l yX1_lowerTo (wsC yX1_lowerTo cX1_lowerTo 5 none) (2) (56) D cA [.ref o, .long p0, .long p1] h r.2 none := by
  exact fMet.of (own := RX1) (by decide +kernel) rfl (lva1 rfl (lva2 rfl (lva2 rfl lva0))) (lgl1 rfl (lgl2 rfl (lgl2 rfl lgl0))) (Nat.le_of_ble_eq_true rfl) (fun p e s m args below meth c ls hnm _ M hC hl => by
    have hl : lv_has ls 5 [(0, va_rf (some o)), (1, .long p0), (3, .long p1)] := hl
    exact w_X1_lowerTo_L0 M hfl _ _ _ _ hf _ _ _ _ _ hC (lv_sub hl [0, 1, 2] rfl))
set_option maxHeartbeats 4000000 in
set_option maxRecDepth 100000 in
theorem w_X1_raiseTo_L31 {p : Program} {l : Launch} {e : Env} {s : State} {m : MethodId} {args : Array Value} {below : List Frame} {meth : Method} {c : Code} {D : va_G} {cA : Nat → ClassId} {h0 : fSt} {r : (Unit × fSt)} (M : fM p s m args meth c D cA h0 { frames := 2, cells := fCB h0 - fZ h0, slots := fLB h0 - fL h0, locals := 56 } cX1_raiseTo 5 none RX1) (hfl : l.stackTraces = false)  (h : fSt) (hf : f_X1_raiseTo_L31  h = some r) : ∀ (H : Heap) (locs : List Loc) (cells slots : Nat) (ls : Array Slot), fCur D cA s h0 h H locs → lv_has ls 5 [] → W p l e { frames := 2, cells := fCB h0 - fZ h0, slots := fLB h0 - fL h0, locals := 56 } s m args below meth c H locs cells slots (MQ below (fQ D cA h0 r.2 none) args s (fCB h0 - fZ h0) (fLB h0 - fL h0) (fA h0)) (F0 m 31 ls []) := by
  obtain ⟨hx, hb, hml, hr, hlocks, hts, hown, K, hR⟩ := id M
  intro H locs cells slots ls hC hl
  obtain rfl := Option.some.inj hf
  exact fr_vret hx hb hr hlocks hC dX1_raiseTo_31
set_option maxHeartbeats 4000000 in
set_option maxRecDepth 100000 in
theorem w_X1_raiseTo_L25 {p : Program} {l : Launch} {e : Env} {s : State} {m : MethodId} {args : Array Value} {below : List Frame} {meth : Method} {c : Code} {D : va_G} {cA : Nat → ClassId} {h0 : fSt} {r : (Unit × fSt)} (M : fM p s m args meth c D cA h0 { frames := 2, cells := fCB h0 - fZ h0, slots := fLB h0 - fL h0, locals := 56 } cX1_raiseTo 5 none RX1) (hfl : l.stackTraces = false) (a0 : Option Nat) (a1 : Int64) (a3 : Int64) (h : fSt) (hf : f_X1_raiseTo_L25 a0 a1 a3 h = some r) : ∀ (H : Heap) (locs : List Loc) (cells slots : Nat) (ls : Array Slot), fCur D cA s h0 h H locs → lv_has ls 5 [(0, va_rf a0), (1, .long a1), (3, .long a3)] → W p l e { frames := 2, cells := fCB h0 - fZ h0, slots := fLB h0 - fL h0, locals := 56 } s m args below meth c H locs cells slots (MQ below (fQ D cA h0 r.2 none) args s (fCB h0 - fZ h0) (fLB h0 - fL h0) (fA h0)) (F0 m 25 ls []) := by
  obtain ⟨hx, hb, hml, hr, hlocks, hts, hown, K, hR⟩ := id M
  intro H locs cells slots ls hC hl
  refine fr_aload_n hx hb dX1_raiseTo_25 rfl (lv_at hl 0 rfl) ?_
  refine lv_lload_n hx hb dX1_raiseTo_26 rfl (lv_at hl 1 rfl) ?_
  refine lv_lload_n hx hb dX1_raiseTo_27 rfl (lv_at hl 2 rfl) ?_
  obtain ⟨b3, q4, hf⟩ := obind hf
  obtain ⟨r1, g2, hf⟩ := obind hf
  refine fr_callV hx hb hml hts hown K hC hR ct_1 (c_X1_set hfl D cA g2) 2 q4 kw258 kw273 kw256 kw257 kw29 (by decide +kernel) ⟨by exact Nat.le_of_ble_eq_true rfl, by exact Nat.le_of_ble_eq_true rfl⟩ rfl hl.1 (cat8 _ (by exact Nat.le_of_ble_eq_true rfl)) dX1_raiseTo_28 rfl (fun H locs _ _ hC => ?_)
  exact w_X1_raiseTo_L31 M hfl _ hf _ _ _ _ _ hC (lv_sub hl [] rfl)
set_option maxHeartbeats 4000000 in
set_option maxRecDepth 100000 in
theorem w_X1_raiseTo_L0 {p : Program} {l : Launch} {e : Env} {s : State} {m : MethodId} {args : Array Value} {below : List Frame} {meth : Method} {c : Code} {D : va_G} {cA : Nat → ClassId} {h0 : fSt} {r : (Unit × fSt)} (M : fM p s m args meth c D cA h0 { frames := 2, cells := fCB h0 - fZ h0, slots := fLB h0 - fL h0, locals := 56 } cX1_raiseTo 5 none RX1) (hfl : l.stackTraces = false) (a0 : Option Nat) (a1 : Int64) (a3 : Int64) (h : fSt) (hf : f_X1_raiseTo_L0 a0 a1 a3 h = some r) : ∀ (H : Heap) (locs : List Loc) (cells slots : Nat) (ls : Array Slot), fCur D cA s h0 h H locs → lv_has ls 5 [(0, va_rf a0), (1, .long a1), (3, .long a3)] → W p l e { frames := 2, cells := fCB h0 - fZ h0, slots := fLB h0 - fL h0, locals := 56 } s m args below meth c H locs cells slots (MQ below (fQ D cA h0 r.2 none) args s (fCB h0 - fZ h0) (fLB h0 - fL h0) (fA h0)) (F0 m 0 ls []) := by
  obtain ⟨hx, hb, hml, hr, hlocks, hts, hown, K, hR⟩ := id M
  intro H locs cells slots ls hC hl
  refine fr_aload_n hx hb dX1_raiseTo_0 rfl (lv_at hl 0 rfl) ?_
  obtain ⟨x5, g6, hf⟩ := obind hf
  refine fr_get hx hb hts hown K hC ct_1 (fgJ_get g6) (by decide) kw597 rfl dX1_raiseTo_1 ?_
  refine lv_lconst (v := (0 : Int64)) hx hb dX1_raiseTo_4 (by decide) ?_
  refine fr_lcmp_eq (tgt := 25) hx hb dX1_raiseTo_5 dX1_raiseTo_6 (by decide) (fun c7 => ?_) (fun c7 => ?_)
  · replace hf := opos c7 hf
    exact w_X1_raiseTo_L25 M hfl _ _ _ _ hf _ _ _ _ _ hC (lv_sub hl [0, 1, 2] rfl)
  · replace hf := oneg c7 hf
    refine lv_lload_n hx hb dX1_raiseTo_9 rfl (lv_at hl 1 rfl) ?_
    refine fr_aload_n hx hb dX1_raiseTo_10 rfl (lv_at hl 0 rfl) ?_
    obtain ⟨x8, g9, hf⟩ := obind hf
    refine fr_get hx hb hts hown K hC ct_1 (fgJ_get g9) (by decide) kw597 rfl dX1_raiseTo_11 ?_
    refine lv_lmul hx hb dX1_raiseTo_14 ?_
    refine fr_aload_n hx hb dX1_raiseTo_15 rfl (lv_at hl 0 rfl) ?_
    obtain ⟨x10, g11, hf⟩ := obind hf
    refine fr_get hx hb hts hown K hC ct_1 (fgJ_get g11) (by decide) kw595 rfl dX1_raiseTo_16 ?_
    refine lv_lload_n hx hb dX1_raiseTo_19 rfl (lv_at hl 2 rfl) ?_
    refine lv_lmul hx hb dX1_raiseTo_20 ?_
    refine fr_lcmp_le (tgt := 31) hx hb dX1_raiseTo_21 dX1_raiseTo_22 (by decide) (fun c12 => ?_) (fun c12 => ?_)
    · replace hf := opos c12 hf
      exact w_X1_raiseTo_L31 M hfl _ hf _ _ _ _ _ hC (lv_sub hl [] rfl)
    · replace hf := oneg c12 hf
      exact w_X1_raiseTo_L25 M hfl _ _ _ _ hf _ _ _ _ _ hC (lv_sub hl [0, 1, 2] rfl)
set_option maxRecDepth 100000 in
theorem c_X1_raiseTo {l : Launch} (hfl : l.stackTraces = false) (D : va_G) (cA : Nat → ClassId) {o : Nat} {p0 : Int64} {p1 : Int64} {h : fSt} {r : (Unit × fSt)} (hf : f_X1_raiseTo o p0 p1 h = some r) : fMet l yX1_raiseTo (wsC yX1_raiseTo cX1_raiseTo 5 none) (2) (56) D cA [.ref o, .long p0, .long p1] h r.2 none := by
  exact fMet.of (own := RX1) (by decide +kernel) rfl (lva1 rfl (lva2 rfl (lva2 rfl lva0))) (lgl1 rfl (lgl2 rfl (lgl2 rfl lgl0))) (Nat.le_of_ble_eq_true rfl) (fun p e s m args below meth c ls hnm _ M hC hl => by
    have hl : lv_has ls 5 [(0, va_rf (some o)), (1, .long p0), (3, .long p1)] := hl
    exact w_X1_raiseTo_L0 M hfl _ _ _ _ hf _ _ _ _ _ hC (lv_sub hl [0, 1, 2] rfl))
set_option maxHeartbeats 4000000 in
set_option maxRecDepth 100000 in
theorem w_X0_include_L0 {p : Program} {l : Launch} {e : Env} {s : State} {m : MethodId} {args : Array Value} {below : List Frame} {meth : Method} {c : Code} {D : va_G} {cA : Nat → ClassId} {h0 : fSt} {r : (Unit × fSt)} (M : fM p s m args meth c D cA h0 { frames := 3, cells := fCB h0 - fZ h0, slots := fLB h0 - fL h0, locals := 80 } cX0_include 2 none RX0) (hfl : l.stackTraces = false) (a0 : Option Nat) (a1 : Option Nat) (h : fSt) (hf : f_X0_include_L0 a0 a1 h = some r) : ∀ (H : Heap) (locs : List Loc) (cells slots : Nat) (ls : Array Slot), fCur D cA s h0 h H locs → lv_has ls 2 [(0, va_rf a0), (1, va_rf a1)] → W p l e { frames := 3, cells := fCB h0 - fZ h0, slots := fLB h0 - fL h0, locals := 80 } s m args below meth c H locs cells slots (MQ below (fQ D cA h0 r.2 none) args s (fCB h0 - fZ h0) (fLB h0 - fL h0) (fA h0)) (F0 m 0 ls []) := by
  obtain ⟨hx, hb, hml, hr, hlocks, hts, hown, K, hR⟩ := id M
  intro H locs cells slots ls hC hl
  refine fr_aload_n hx hb dX0_include_0 rfl (lv_at hl 0 rfl) ?_
  obtain ⟨x1, g2, hf⟩ := obind hf
  refine fr_get hx hb hts hown K hC ct_0 (fgR_get g2) (by decide) kw604 rfl dX0_include_1 ?_
  refine fr_aload_n hx hb dX0_include_4 rfl (lv_at hl 1 rfl) ?_
  obtain ⟨x3, g4, hf⟩ := obind hf
  refine fr_get hx hb hts hown K hC ct_5 (fgJ_get g4) (by decide) kw565 rfl dX0_include_5 ?_
  refine fr_aload_n hx hb dX0_include_8 rfl (lv_at hl 1 rfl) ?_
  obtain ⟨x5, g6, hf⟩ := obind hf
  refine fr_get hx hb hts hown K hC ct_5 (fgJ_get g6) (by decide) kw571 rfl dX0_include_9 ?_
  obtain ⟨b9, q10, hf⟩ := obind hf
  obtain ⟨r7, g8, hf⟩ := obind hf
  refine fr_callV hx hb hml hts hown K hC hR ct_1 (c_X1_lowerTo hfl D cA g8) 2 q10 kw272 kw269 kw270 kw271 kw29 (by decide +kernel) ⟨by exact Nat.le_of_ble_eq_true rfl, by exact Nat.le_of_ble_eq_true rfl⟩ rfl hl.1 (cat8 _ (by exact Nat.le_of_ble_eq_true rfl)) dX0_include_12 rfl (fun H locs _ _ hC => ?_)
  refine fr_aload_n hx hb dX0_include_15 rfl (lv_at hl 0 rfl) ?_
  obtain ⟨x11, g12, hf⟩ := obind hf
  refine fr_get hx hb hts hown K hC ct_0 (fgR_get g12) (by decide) kw605 rfl dX0_include_16 ?_
  refine fr_aload_n hx hb dX0_include_19 rfl (lv_at hl 1 rfl) ?_
  obtain ⟨x13, g14, hf⟩ := obind hf
  refine fr_get hx hb hts hown K hC ct_5 (fgJ_get g14) (by decide) kw568 rfl dX0_include_20 ?_
  refine fr_aload_n hx hb dX0_include_23 rfl (lv_at hl 1 rfl) ?_
  obtain ⟨x15, g16, hf⟩ := obind hf
  refine fr_get hx hb hts hown K hC ct_5 (fgJ_get g16) (by decide) kw571 rfl dX0_include_24 ?_
  obtain ⟨b19, q20, hf⟩ := obind hf
  obtain ⟨r17, g18, hf⟩ := obind hf
  refine fr_callV hx hb hml hts hown K hC hR ct_1 (c_X1_lowerTo hfl D cA g18) 2 q20 kw272 kw269 kw270 kw271 kw29 (by decide +kernel) ⟨by exact Nat.le_of_ble_eq_true rfl, by exact Nat.le_of_ble_eq_true rfl⟩ rfl hl.1 (cat8 _ (by exact Nat.le_of_ble_eq_true rfl)) dX0_include_27 rfl (fun H locs _ _ hC => ?_)
  refine fr_aload_n hx hb dX0_include_30 rfl (lv_at hl 0 rfl) ?_
  obtain ⟨x21, g22, hf⟩ := obind hf
  refine fr_get hx hb hts hown K hC ct_0 (fgR_get g22) (by decide) kw606 rfl dX0_include_31 ?_
  refine fr_aload_n hx hb dX0_include_34 rfl (lv_at hl 1 rfl) ?_
  obtain ⟨x23, g24, hf⟩ := obind hf
  refine fr_get hx hb hts hown K hC ct_5 (fgJ_get g24) (by decide) kw565 rfl dX0_include_35 ?_
  refine fr_aload_n hx hb dX0_include_38 rfl (lv_at hl 1 rfl) ?_
  obtain ⟨x25, g26, hf⟩ := obind hf
  refine fr_get hx hb hts hown K hC ct_5 (fgJ_get g26) (by decide) kw571 rfl dX0_include_39 ?_
  obtain ⟨b29, q30, hf⟩ := obind hf
  obtain ⟨r27, g28, hf⟩ := obind hf
  refine fr_callV hx hb hml hts hown K hC hR ct_1 (c_X1_raiseTo hfl D cA g28) 2 q30 kw277 kw274 kw275 kw276 kw29 (by decide +kernel) ⟨by exact Nat.le_of_ble_eq_true rfl, by exact Nat.le_of_ble_eq_true rfl⟩ rfl hl.1 (cat8 _ (by exact Nat.le_of_ble_eq_true rfl)) dX0_include_42 rfl (fun H locs _ _ hC => ?_)
  refine fr_aload_n hx hb dX0_include_45 rfl (lv_at hl 0 rfl) ?_
  obtain ⟨x31, g32, hf⟩ := obind hf
  refine fr_get hx hb hts hown K hC ct_0 (fgR_get g32) (by decide) kw607 rfl dX0_include_46 ?_
  refine fr_aload_n hx hb dX0_include_49 rfl (lv_at hl 1 rfl) ?_
  obtain ⟨x33, g34, hf⟩ := obind hf
  refine fr_get hx hb hts hown K hC ct_5 (fgJ_get g34) (by decide) kw568 rfl dX0_include_50 ?_
  refine fr_aload_n hx hb dX0_include_53 rfl (lv_at hl 1 rfl) ?_
  obtain ⟨x35, g36, hf⟩ := obind hf
  refine fr_get hx hb hts hown K hC ct_5 (fgJ_get g36) (by decide) kw571 rfl dX0_include_54 ?_
  obtain ⟨b39, q40, hf⟩ := obind hf
  obtain ⟨r37, g38, hf⟩ := obind hf
  refine fr_callV hx hb hml hts hown K hC hR ct_1 (c_X1_raiseTo hfl D cA g38) 2 q40 kw277 kw274 kw275 kw276 kw29 (by decide +kernel) ⟨by exact Nat.le_of_ble_eq_true rfl, by exact Nat.le_of_ble_eq_true rfl⟩ rfl hl.1 (cat8 _ (by exact Nat.le_of_ble_eq_true rfl)) dX0_include_57 rfl (fun H locs _ _ hC => ?_)
  obtain rfl := Option.some.inj hf
  exact fr_vret hx hb hr hlocks hC dX0_include_60
set_option maxRecDepth 100000 in
theorem c_X0_include {l : Launch} (hfl : l.stackTraces = false) (D : va_G) (cA : Nat → ClassId) {o : Nat} {p0 : Option Nat} {h : fSt} {r : (Unit × fSt)} (hf : f_X0_include o p0 h = some r) : fMet l yX0_include (wsC yX0_include cX0_include 2 none) (3) (80) D cA [.ref o, va_rf p0] h r.2 none := by
  exact fMet.of (own := RX0) (by decide +kernel) rfl (lva1 rfl (lva1 (va_rf_cat _) lva0)) (lgl1 rfl (lgl1 (va_rf_cat _) lgl0)) (Nat.le_of_ble_eq_true rfl) (fun p e s m args below meth c ls hnm _ M hC hl => by
    have hl : lv_has ls 2 [(0, va_rf (some o)), (1, va_rf p0)] := hl
    exact w_X0_include_L0 M hfl _ _ _ hf _ _ _ _ _ hC (lv_sub hl [0, 1] rfl))
set_option maxHeartbeats 4000000 in
set_option maxRecDepth 100000 in
theorem w_X4_isShownAt_L24 {p : Program} {l : Launch} {e : Env} {s : State} {m : MethodId} {args : Array Value} {below : List Frame} {meth : Method} {c : Code} {D : va_G} {cA : Nat → ClassId} {h0 : fSt} {r : (Int32 × fSt)} (M : fM p s m args meth c D cA h0 { frames := 2, cells := fCB h0 - fZ h0, slots := fLB h0 - fL h0, locals := 52 } cX4_isShownAt 3 (some (.boolean)) RX4) (hfl : l.stackTraces = false)  (h : fSt) (hf : f_X4_isShownAt_L24  h = some r) : ∀ (H : Heap) (locs : List Loc) (cells slots : Nat) (ls : Array Slot), fCur D cA s h0 h H locs → lv_has ls 3 [] → W p l e { frames := 2, cells := fCB h0 - fZ h0, slots := fLB h0 - fL h0, locals := 52 } s m args below meth c H locs cells slots (MQ below (fQ D cA h0 r.2 (some (.int r.1))) args s (fCB h0 - fZ h0) (fLB h0 - fL h0) (fA h0)) (F0 m 24 ls []) := by
  obtain ⟨hx, hb, hml, hr, hlocks, hts, hown, K, hR⟩ := id M
  intro H locs cells slots ls hC hl
  refine lv_iconst (v := (0 : Int32)) hx hb dX4_isShownAt_24 (by decide) ?_
  obtain rfl := Option.some.inj hf
  exact fr_zret hx hb hr hlocks hC (Or.inl rfl) dX4_isShownAt_25
set_option maxHeartbeats 4000000 in
set_option maxRecDepth 100000 in
theorem w_X4_isShownAt_L2 {p : Program} {l : Launch} {e : Env} {s : State} {m : MethodId} {args : Array Value} {below : List Frame} {meth : Method} {c : Code} {D : va_G} {cA : Nat → ClassId} {h0 : fSt} {r : (Int32 × fSt)} (M : fM p s m args meth c D cA h0 { frames := 2, cells := fCB h0 - fZ h0, slots := fLB h0 - fL h0, locals := 52 } cX4_isShownAt 3 (some (.boolean)) RX4) (hfl : l.stackTraces = false) : ∀ (n : Nat) (a1 : Int32) (a2 : Option Nat) (h : fSt), f_X4_isShownAt_L2 n a1 a2 h = some r → ∀ (H : Heap) (locs : List Loc) (cells slots : Nat) (ls : Array Slot), fCur D cA s h0 h H locs → lv_has ls 3 [(1, .int a1), (2, va_rf a2)] → W p l e { frames := 2, cells := fCB h0 - fZ h0, slots := fLB h0 - fL h0, locals := 52 } s m args below meth c H locs cells slots (MQ below (fQ D cA h0 r.2 (some (.int r.1))) args s (fCB h0 - fZ h0) (fLB h0 - fL h0) (fA h0)) (F0 m 2 ls []) := by
  obtain ⟨hx, hb, hml, hr, hlocks, hts, hown, K, hR⟩ := id M
  intro n
  induction n with
  | zero =>
    intro a1 a2 h hf
    exact nomatch (show (none : Option (Int32 × fSt)) = some r from hf)
  | succ n hk2 =>
    intro a1 a2 h hf H locs cells slots ls hC hl
    refine fr_aload_n hx hb dX4_isShownAt_2 rfl (lv_at hl 1 rfl) ?_
    refine fr_ifnull (tgt := 34) hx hb dX4_isShownAt_3 (by decide) (fun c1 => ?_) (fun c1 => ?_)
    · replace hf := opos c1 hf
      refine lv_iconst (v := (1 : Int32)) hx hb dX4_isShownAt_34 (by decide) ?_
      obtain rfl := Option.some.inj hf
      exact fr_zret hx hb hr hlocks hC (Or.inr rfl) dX4_isShownAt_35
    · replace hf := oneg c1 hf
      refine fr_aload_n hx hb dX4_isShownAt_6 rfl (lv_at hl 1 rfl) ?_
      obtain ⟨x2, g3, hf⟩ := obind hf
      refine fr_get hx hb hts hown K hC ct_4 (fgI_get g3) (by decide) kw506 rfl dX4_isShownAt_7 ?_
      refine lv_if_ne (tgt := 24) hx hb dX4_isShownAt_10 (by decide) (fun c4 => ?_) (fun c4 => ?_)
      · replace hf := oneg c4 hf
        exact w_X4_isShownAt_L24 M hfl _ hf _ _ _ _ _ hC (lv_sub hl [] rfl)
      · replace hf := opos c4 hf
        refine fr_aload_n hx hb dX4_isShownAt_13 rfl (lv_at hl 1 rfl) ?_
        obtain ⟨x5, g6, hf⟩ := obind hf
        refine fr_get hx hb hts hown K hC ct_4 (fgR_get g6) (by decide) kw494 rfl dX4_isShownAt_14 ?_
        refine lv_iload_n hx hb dX4_isShownAt_17 rfl (lv_at hl 0 rfl) ?_
        obtain ⟨b9, q10, hf⟩ := obind hf
        obtain ⟨r7, g8, hf⟩ := obind hf
        refine fr_callV hx hb hml hts hown K hC hR ct_6 (c_X6_at hfl D cA g8) 1 q10 kw195 kw264 kw193 kw194 kw25 (by decide +kernel) ⟨by exact Nat.le_of_ble_eq_true rfl, by exact Nat.le_of_ble_eq_true rfl⟩ rfl hl.1 (cat8 _ (by exact Nat.le_of_ble_eq_true rfl)) dX4_isShownAt_18 rfl (fun H locs _ _ hC => ?_)
        refine lv_if_ne (tgt := 26) hx hb dX4_isShownAt_21 (by decide) (fun c11 => ?_) (fun c11 => ?_)
        · replace hf := oneg c11 hf
          refine fr_aload_n hx hb dX4_isShownAt_26 rfl (lv_at hl 1 rfl) ?_
          obtain ⟨x12, g13, hf⟩ := obind hf
          refine fr_get hx hb hts hown K hC ct_4 (fgR_get g13) (by decide) kw511 rfl dX4_isShownAt_27 ?_
          refine fr_astore_n (lv' := [(2, va_rf x12), (1, .int a1)]) hx hb dX4_isShownAt_30 rfl hl (by decide) (congrArg (List.cons _) (flk rfl (fld rfl fln))) (fun ls hl => ?_)
          refine lv_goto (tgt := 2) hx hb dX4_isShownAt_31 (by decide) ?_
          exact hk2 _ _ _ hf _ _ _ _ _ hC (lv_sub hl [1, 0] rfl)
        · replace hf := opos c11 hf
          exact w_X4_isShownAt_L24 M hfl _ hf _ _ _ _ _ hC (lv_sub hl [] rfl)
set_option maxHeartbeats 4000000 in
set_option maxRecDepth 100000 in
theorem w_X4_isShownAt_L0 {p : Program} {l : Launch} {e : Env} {s : State} {m : MethodId} {args : Array Value} {below : List Frame} {meth : Method} {c : Code} {D : va_G} {cA : Nat → ClassId} {h0 : fSt} {r : (Int32 × fSt)} (M : fM p s m args meth c D cA h0 { frames := 2, cells := fCB h0 - fZ h0, slots := fLB h0 - fL h0, locals := 52 } cX4_isShownAt 3 (some (.boolean)) RX4) (hfl : l.stackTraces = false) (a0 : Option Nat) (a1 : Int32) (h : fSt) (hf : f_X4_isShownAt_L0 a0 a1 h = some r) : ∀ (H : Heap) (locs : List Loc) (cells slots : Nat) (ls : Array Slot), fCur D cA s h0 h H locs → lv_has ls 3 [(0, va_rf a0), (1, .int a1)] → W p l e { frames := 2, cells := fCB h0 - fZ h0, slots := fLB h0 - fL h0, locals := 52 } s m args below meth c H locs cells slots (MQ below (fQ D cA h0 r.2 (some (.int r.1))) args s (fCB h0 - fZ h0) (fLB h0 - fL h0) (fA h0)) (F0 m 0 ls []) := by
  obtain ⟨hx, hb, hml, hr, hlocks, hts, hown, K, hR⟩ := id M
  intro H locs cells slots ls hC hl
  refine fr_aload_n hx hb dX4_isShownAt_0 rfl (lv_at hl 0 rfl) ?_
  refine fr_astore_n (lv' := [(2, va_rf a0), (0, va_rf a0), (1, .int a1)]) hx hb dX4_isShownAt_1 rfl hl (by decide) (congrArg (List.cons _) (flk rfl (flk rfl fln))) (fun ls hl => ?_)
  exact w_X4_isShownAt_L2 M hfl 4096 _ _ _ hf _ _ _ _ _ hC (lv_sub hl [2, 0] rfl)
set_option maxRecDepth 100000 in
theorem c_X4_isShownAt {l : Launch} (hfl : l.stackTraces = false) (D : va_G) (cA : Nat → ClassId) {o : Nat} {p0 : Int32} {h : fSt} {r : (Int32 × fSt)} (hf : f_X4_isShownAt o p0 h = some r) : fMet l yX4_isShownAt (wsC yX4_isShownAt cX4_isShownAt 3 (some (.boolean))) (2) (52) D cA [.ref o, .int p0] h r.2 (some (.int r.1)) := by
  exact fMet.of (own := RX4) (by decide +kernel) rfl (lva1 rfl (lva1 rfl lva0)) (lgl1 rfl (lgl1 rfl lgl0)) (Nat.le_of_ble_eq_true rfl) (fun p e s m args below meth c ls hnm _ M hC hl => by
    have hl : lv_has ls 3 [(0, va_rf (some o)), (1, .int p0)] := hl
    exact w_X4_isShownAt_L0 M hfl _ _ _ hf _ _ _ _ _ hC (lv_sub hl [0, 1] rfl))
set_option maxHeartbeats 4000000 in
set_option maxRecDepth 100000 in
theorem w_X4_isWithin_L2 {p : Program} {l : Launch} {e : Env} {s : State} {m : MethodId} {args : Array Value} {below : List Frame} {meth : Method} {c : Code} {D : va_G} {cA : Nat → ClassId} {h0 : fSt} {r : (Int32 × fSt)} (M : fM p s m args meth c D cA h0 { frames := 0, cells := fCB h0 - fZ h0, slots := fLB h0 - fL h0, locals := 0 } cX4_isWithin 3 (some (.boolean)) RX4) (hfl : l.stackTraces = false) : ∀ (n : Nat) (a1 : Option Nat) (a2 : Option Nat) (h : fSt), f_X4_isWithin_L2 n a1 a2 h = some r → ∀ (H : Heap) (locs : List Loc) (cells slots : Nat) (ls : Array Slot), fCur D cA s h0 h H locs → lv_has ls 3 [(1, va_rf a1), (2, va_rf a2)] → W p l e { frames := 0, cells := fCB h0 - fZ h0, slots := fLB h0 - fL h0, locals := 0 } s m args below meth c H locs cells slots (MQ below (fQ D cA h0 r.2 (some (.int r.1))) args s (fCB h0 - fZ h0) (fLB h0 - fL h0) (fA h0)) (F0 m 2 ls []) := by
  obtain ⟨hx, hb, hml, hr, hlocks, hts, hown, K, hR⟩ := id M
  intro n
  induction n with
  | zero =>
    intro a1 a2 h hf
    exact nomatch (show (none : Option (Int32 × fSt)) = some r from hf)
  | succ n hk2 =>
    intro a1 a2 h hf H locs cells slots ls hC hl
    refine fr_aload_n hx hb dX4_isWithin_2 rfl (lv_at hl 1 rfl) ?_
    refine fr_ifnull (tgt := 21) hx hb dX4_isWithin_3 (by decide) (fun c1 => ?_) (fun c1 => ?_)
    · replace hf := opos c1 hf
      refine lv_iconst (v := (0 : Int32)) hx hb dX4_isWithin_21 (by decide) ?_
      obtain rfl := Option.some.inj hf
      exact fr_zret hx hb hr hlocks hC (Or.inl rfl) dX4_isWithin_22
    · replace hf := oneg c1 hf
      refine fr_aload_n hx hb dX4_isWithin_6 rfl (lv_at hl 1 rfl) ?_
      refine fr_aload_n hx hb dX4_isWithin_7 rfl (lv_at hl 0 rfl) ?_
      refine lv_acmp_ne (tgt := 13) hx hb dX4_isWithin_8 (by decide) (fun c2 => ?_) (fun c2 => ?_)
      · replace hf := oneg c2 hf
        refine fr_aload_n hx hb dX4_isWithin_13 rfl (lv_at hl 1 rfl) ?_
        obtain ⟨x3, g4, hf⟩ := obind hf
        refine fr_get hx hb hts hown K hC ct_4 (fgR_get g4) (by decide) kw511 rfl dX4_isWithin_14 ?_
        refine fr_astore_n (lv' := [(2, va_rf x3), (1, va_rf a1)]) hx hb dX4_isWithin_17 rfl hl (by decide) (congrArg (List.cons _) (flk (adj1 _ _) (fld rfl fln))) (fun ls hl => ?_)
        refine lv_goto (tgt := 2) hx hb dX4_isWithin_18 (by decide) ?_
        exact hk2 _ _ _ hf _ _ _ _ _ hC (lv_sub hl [1, 0] rfl)
      · replace hf := opos c2 hf
        refine lv_iconst (v := (1 : Int32)) hx hb dX4_isWithin_11 (by decide) ?_
        obtain rfl := Option.some.inj hf
        exact fr_zret hx hb hr hlocks hC (Or.inr rfl) dX4_isWithin_12
set_option maxHeartbeats 4000000 in
set_option maxRecDepth 100000 in
theorem w_X4_isWithin_L0 {p : Program} {l : Launch} {e : Env} {s : State} {m : MethodId} {args : Array Value} {below : List Frame} {meth : Method} {c : Code} {D : va_G} {cA : Nat → ClassId} {h0 : fSt} {r : (Int32 × fSt)} (M : fM p s m args meth c D cA h0 { frames := 0, cells := fCB h0 - fZ h0, slots := fLB h0 - fL h0, locals := 0 } cX4_isWithin 3 (some (.boolean)) RX4) (hfl : l.stackTraces = false) (a0 : Option Nat) (a1 : Option Nat) (h : fSt) (hf : f_X4_isWithin_L0 a0 a1 h = some r) : ∀ (H : Heap) (locs : List Loc) (cells slots : Nat) (ls : Array Slot), fCur D cA s h0 h H locs → lv_has ls 3 [(0, va_rf a0), (1, va_rf a1)] → W p l e { frames := 0, cells := fCB h0 - fZ h0, slots := fLB h0 - fL h0, locals := 0 } s m args below meth c H locs cells slots (MQ below (fQ D cA h0 r.2 (some (.int r.1))) args s (fCB h0 - fZ h0) (fLB h0 - fL h0) (fA h0)) (F0 m 0 ls []) := by
  obtain ⟨hx, hb, hml, hr, hlocks, hts, hown, K, hR⟩ := id M
  intro H locs cells slots ls hC hl
  refine fr_aload_n hx hb dX4_isWithin_0 rfl (lv_at hl 0 rfl) ?_
  refine fr_astore_n (lv' := [(2, va_rf a0), (0, va_rf a0), (1, va_rf a1)]) hx hb dX4_isWithin_1 rfl hl (by decide) (congrArg (List.cons _) (flk rfl (flk (adj1 _ _) fln))) (fun ls hl => ?_)
  exact w_X4_isWithin_L2 M hfl 4096 _ _ _ hf _ _ _ _ _ hC (lv_sub hl [2, 0] rfl)
set_option maxRecDepth 100000 in
theorem c_X4_isWithin {l : Launch} (hfl : l.stackTraces = false) (D : va_G) (cA : Nat → ClassId) {o : Nat} {p0 : Option Nat} {h : fSt} {r : (Int32 × fSt)} (hf : f_X4_isWithin o p0 h = some r) : fMet l yX4_isWithin (wsC yX4_isWithin cX4_isWithin 3 (some (.boolean))) (0) (0) D cA [.ref o, va_rf p0] h r.2 (some (.int r.1)) := by
  exact fMet.of (own := RX4) (by decide +kernel) rfl (lva1 rfl (lva1 (va_rf_cat _) lva0)) (lgl1 rfl (lgl1 (va_rf_cat _) lgl0)) (Nat.le_of_ble_eq_true rfl) (fun p e s m args below meth c ls hnm _ M hC hl => by
    have hl : lv_has ls 3 [(0, va_rf (some o)), (1, va_rf p0)] := hl
    exact w_X4_isWithin_L0 M hfl _ _ _ hf _ _ _ _ _ hC (lv_sub hl [0, 1] rfl))
set_option maxHeartbeats 4000000 in
set_option maxRecDepth 100000 in
theorem w_X7_gatherBounds_L102 {p : Program} {l : Launch} {e : Env} {s : State} {m : MethodId} {args : Array Value} {below : List Frame} {meth : Method} {c : Code} {D : va_G} {cA : Nat → ClassId} {h0 : fSt} {r : (Unit × fSt)} (M : fM p s m args meth c D cA h0 { frames := 4, cells := fCB h0 - fZ h0, slots := fLB h0 - fL h0, locals := 101 } cX7_gatherBounds 3 none RX7) (hfl : l.stackTraces = false) {k12 : Option Nat → Option Nat → Option Nat → fSt → Option (Unit × fSt)} (hk12 : ∀ (a0 : Option Nat) (a1 : Option Nat) (a2 : Option Nat) (h : fSt), k12 a0 a1 a2 h = some r → ∀ (H : Heap) (locs : List Loc) (cells slots : Nat) (ls : Array Slot), fCur D cA s h0 h H locs → lv_has ls 3 [(0, va_rf a0), (1, va_rf a1), (2, va_rf a2)] → W p l e { frames := 4, cells := fCB h0 - fZ h0, slots := fLB h0 - fL h0, locals := 101 } s m args below meth c H locs cells slots (MQ below (fQ D cA h0 r.2 none) args s (fCB h0 - fZ h0) (fLB h0 - fL h0) (fA h0)) (F0 m 12 ls [])) (a0 : Option Nat) (a1 : Option Nat) (a2 : Option Nat) (h : fSt) (hf : f_X7_gatherBounds_L102 k12 a0 a1 a2 h = some r) : ∀ (H : Heap) (locs : List Loc) (cells slots : Nat) (ls : Array Slot), fCur D cA s h0 h H locs → lv_has ls 3 [(0, va_rf a0), (1, va_rf a1), (2, va_rf a2)] → W p l e { frames := 4, cells := fCB h0 - fZ h0, slots := fLB h0 - fL h0, locals := 101 } s m args below meth c H locs cells slots (MQ below (fQ D cA h0 r.2 none) args s (fCB h0 - fZ h0) (fLB h0 - fL h0) (fA h0)) (F0 m 102 ls []) := by
  obtain ⟨hx, hb, hml, hr, hlocks, hts, hown, K, hR⟩ := id M
  intro H locs cells slots ls hC hl
  refine fr_aload_n hx hb dX7_gatherBounds_102 rfl (lv_at hl 2 rfl) ?_
  obtain ⟨x1, g2, hf⟩ := obind hf
  refine fr_get hx hb hts hown K hC ct_4 (fgR_get g2) (by decide) kw517 rfl dX7_gatherBounds_103 ?_
  refine fr_astore_n (lv' := [(2, va_rf x1), (0, va_rf a0), (1, va_rf a1)]) hx hb dX7_gatherBounds_106 rfl hl (by decide) (congrArg (List.cons _) (flk rfl (flk (adj1 _ _) (fld rfl fln)))) (fun ls hl => ?_)
  refine lv_goto (tgt := 12) hx hb dX7_gatherBounds_107 (by decide) ?_
  exact hk12 _ _ _ _ hf _ _ _ _ _ hC (lv_sub hl [1, 2, 0] rfl)
set_option maxHeartbeats 4000000 in
set_option maxRecDepth 100000 in
theorem w_X7_gatherBounds_L12 {p : Program} {l : Launch} {e : Env} {s : State} {m : MethodId} {args : Array Value} {below : List Frame} {meth : Method} {c : Code} {D : va_G} {cA : Nat → ClassId} {h0 : fSt} {r : (Unit × fSt)} (M : fM p s m args meth c D cA h0 { frames := 4, cells := fCB h0 - fZ h0, slots := fLB h0 - fL h0, locals := 101 } cX7_gatherBounds 3 none RX7) (hfl : l.stackTraces = false) : ∀ (n : Nat) (a0 : Option Nat) (a1 : Option Nat) (a2 : Option Nat) (h : fSt), f_X7_gatherBounds_L12 n a0 a1 a2 h = some r → ∀ (H : Heap) (locs : List Loc) (cells slots : Nat) (ls : Array Slot), fCur D cA s h0 h H locs → lv_has ls 3 [(0, va_rf a0), (1, va_rf a1), (2, va_rf a2)] → W p l e { frames := 4, cells := fCB h0 - fZ h0, slots := fLB h0 - fL h0, locals := 101 } s m args below meth c H locs cells slots (MQ below (fQ D cA h0 r.2 none) args s (fCB h0 - fZ h0) (fLB h0 - fL h0) (fA h0)) (F0 m 12 ls []) := by
  obtain ⟨hx, hb, hml, hr, hlocks, hts, hown, K, hR⟩ := id M
  intro n
  induction n with
  | zero =>
    intro a0 a1 a2 h hf
    exact nomatch (show (none : Option (Unit × fSt)) = some r from hf)
  | succ n hk12 =>
    intro a0 a1 a2 h hf H locs cells slots ls hC hl
    refine fr_aload_n hx hb dX7_gatherBounds_12 rfl (lv_at hl 2 rfl) ?_
    refine fr_ifnull (tgt := 110) hx hb dX7_gatherBounds_13 (by decide) (fun c3 => ?_) (fun c3 => ?_)
    · replace hf := opos c3 hf
      obtain rfl := Option.some.inj hf
      exact fr_vret hx hb hr hlocks hC dX7_gatherBounds_110
    · replace hf := oneg c3 hf
      refine fr_aload_n hx hb dX7_gatherBounds_16 rfl (lv_at hl 2 rfl) ?_
      obtain ⟨x4, g5, hf⟩ := obind hf
      refine fr_get hx hb hts hown K hC ct_4 (fgI_get g5) (by decide) kw482 rfl dX7_gatherBounds_17 ?_
      refine lv_if_eq (tgt := 102) hx hb dX7_gatherBounds_20 (by decide) (fun c6 => ?_) (fun c6 => ?_)
      · replace hf := opos c6 hf
        exact w_X7_gatherBounds_L102 M hfl hk12 _ _ _ _ hf _ _ _ _ _ hC (lv_sub hl [0, 1, 2] rfl)
      · replace hf := oneg c6 hf
        refine fr_aload_n hx hb dX7_gatherBounds_23 rfl (lv_at hl 2 rfl) ?_
        refine fr_aload_n hx hb dX7_gatherBounds_24 rfl (lv_at hl 1 rfl) ?_
        obtain ⟨b9, q10, hf⟩ := obind hf
        obtain ⟨r7, g8, hf⟩ := obind hf
        refine fr_callV hx hb hml hts hown K hC hR ct_4 (c_X4_isWithin hfl D cA g8) 1 q10 kw144 kw141 kw142 kw143 kw24 (by decide +kernel) ⟨by exact Nat.le_of_ble_eq_true rfl, by exact Nat.le_of_ble_eq_true rfl⟩ rfl hl.1 (cat8 _ (by exact Nat.le_of_ble_eq_true rfl)) dX7_gatherBounds_25 rfl (fun H locs _ _ hC => ?_)
        refine lv_if_eq (tgt := 102) hx hb dX7_gatherBounds_28 (by decide) (fun c11 => ?_) (fun c11 => ?_)
        · replace hf := opos c11 hf
          exact w_X7_gatherBounds_L102 M hfl hk12 _ _ _ _ hf _ _ _ _ _ hC (lv_sub hl [0, 1, 2] rfl)
        · replace hf := oneg c11 hf
          refine fr_aload_n hx hb dX7_gatherBounds_31 rfl (lv_at hl 2 rfl) ?_
          refine fr_aload_n hx hb dX7_gatherBounds_32 rfl (lv_at hl 0 rfl) ?_
          obtain ⟨x12, g13, hf⟩ := obind hf
          refine fr_get hx hb hts hown K hC ct_7 (fgI_get g13) (by decide) kw624 rfl dX7_gatherBounds_33 ?_
          obtain ⟨b16, q17, hf⟩ := obind hf
          obtain ⟨r14, g15, hf⟩ := obind hf
          refine fr_callV hx hb hml hts hown K hC hR ct_4 (c_X4_isShownAt hfl D cA g15) 1 q17 kw263 kw260 kw261 kw262 kw24 (by decide +kernel) ⟨by exact Nat.le_of_ble_eq_true rfl, by exact Nat.le_of_ble_eq_true rfl⟩ rfl hl.1 (cat8 _ (by exact Nat.le_of_ble_eq_true rfl)) dX7_gatherBounds_36 rfl (fun H locs _ _ hC => ?_)
          refine lv_if_eq (tgt := 102) hx hb dX7_gatherBounds_39 (by decide) (fun c18 => ?_) (fun c18 => ?_)
          · replace hf := opos c18 hf
            exact w_X7_gatherBounds_L102 M hfl hk12 _ _ _ _ hf _ _ _ _ _ hC (lv_sub hl [0, 1, 2] rfl)
          · replace hf := oneg c18 hf
            refine fr_aload_n hx hb dX7_gatherBounds_42 rfl (lv_at hl 0 rfl) ?_
            refine fr_aload_n hx hb dX7_gatherBounds_43 rfl (lv_at hl 2 rfl) ?_
            refine fr_aload_n hx hb dX7_gatherBounds_44 rfl (lv_at hl 2 rfl) ?_
            obtain ⟨x19, g20, hf⟩ := obind hf
            refine fr_get hx hb hts hown K hC ct_4 (fgR_get g20) (by decide) kw484 rfl dX7_gatherBounds_45 ?_
            obtain ⟨x21, g22, hf⟩ := obind hf
            refine fr_get hx hb hts hown K hC ct_2 (fgI_get g22) (by decide) kw463 rfl dX7_gatherBounds_48 ?_
            refine fr_aload_n hx hb dX7_gatherBounds_51 rfl (lv_at hl 2 rfl) ?_
            obtain ⟨x23, g24, hf⟩ := obind hf
            refine fr_get hx hb hts hown K hC ct_4 (fgR_get g24) (by decide) kw484 rfl dX7_gatherBounds_52 ?_
            obtain ⟨x25, g26, hf⟩ := obind hf
            refine fr_get hx hb hts hown K hC ct_2 (fgI_get g26) (by decide) kw465 rfl dX7_gatherBounds_55 ?_
            obtain ⟨b29, q30, hf⟩ := obind hf
            obtain ⟨r27, g28, hf⟩ := obind hf
            refine fr_callV hx hb hml hts hown K hC hR ct_7 (c_X7_raise hfl D cA g28) 3 q30 kw183 kw180 kw182 kw3 kw23 (by decide +kernel) ⟨by exact Nat.le_of_ble_eq_true rfl, by exact Nat.le_of_ble_eq_true rfl⟩ rfl hl.1 (cat8 _ (by exact Nat.le_of_ble_eq_true rfl)) dX7_gatherBounds_58 rfl (fun H locs _ _ hC => ?_)
            refine fr_aload_n hx hb dX7_gatherBounds_61 rfl (lv_at hl 0 rfl) ?_
            obtain ⟨x31, g32, hf⟩ := obind hf
            refine fr_get hx hb hts hown K hC ct_7 (fgR_get g32) (by decide) kw621 rfl dX7_gatherBounds_62 ?_
            refine fr_aload_n hx hb dX7_gatherBounds_65 rfl (lv_at hl 0 rfl) ?_
            obtain ⟨x33, g34, hf⟩ := obind hf
            refine fr_get hx hb hts hown K hC ct_7 (fgR_get g34) (by decide) kw620 rfl dX7_gatherBounds_66 ?_
            obtain ⟨b37, q38, hf⟩ := obind hf
            obtain ⟨r35, g36, hf⟩ := obind hf
            refine fr_callV hx hb hml hts hown K hC hR ct_0 (c_X0_include hfl D cA g36) 1 q38 kw268 kw265 kw266 kw267 kw28 (by decide +kernel) ⟨by exact Nat.le_of_ble_eq_true rfl, by exact Nat.le_of_ble_eq_true rfl⟩ rfl hl.1 (cat8 _ (by exact Nat.le_of_ble_eq_true rfl)) dX7_gatherBounds_69 rfl (fun H locs _ _ hC => ?_)
            refine fr_aload_n hx hb dX7_gatherBounds_72 rfl (lv_at hl 0 rfl) ?_
            refine fr_aload_n hx hb dX7_gatherBounds_73 rfl (lv_at hl 2 rfl) ?_
            refine fr_aload_n hx hb dX7_gatherBounds_74 rfl (lv_at hl 2 rfl) ?_
            obtain ⟨x39, g40, hf⟩ := obind hf
            refine fr_get hx hb hts hown K hC ct_4 (fgR_get g40) (by decide) kw484 rfl dX7_gatherBounds_75 ?_
            obtain ⟨x41, g42, hf⟩ := obind hf
            refine fr_get hx hb hts hown K hC ct_2 (fgI_get g42) (by decide) kw467 rfl dX7_gatherBounds_78 ?_
            refine fr_aload_n hx hb dX7_gatherBounds_81 rfl (lv_at hl 2 rfl) ?_
            obtain ⟨x43, g44, hf⟩ := obind hf
            refine fr_get hx hb hts hown K hC ct_4 (fgR_get g44) (by decide) kw484 rfl dX7_gatherBounds_82 ?_
            obtain ⟨x45, g46, hf⟩ := obind hf
            refine fr_get hx hb hts hown K hC ct_2 (fgI_get g46) (by decide) kw469 rfl dX7_gatherBounds_85 ?_
            obtain ⟨b49, q50, hf⟩ := obind hf
            obtain ⟨r47, g48, hf⟩ := obind hf
            refine fr_callV hx hb hml hts hown K hC hR ct_7 (c_X7_raise hfl D cA g48) 3 q50 kw183 kw180 kw182 kw3 kw23 (by decide +kernel) ⟨by exact Nat.le_of_ble_eq_true rfl, by exact Nat.le_of_ble_eq_true rfl⟩ rfl hl.1 (cat8 _ (by exact Nat.le_of_ble_eq_true rfl)) dX7_gatherBounds_88 rfl (fun H locs _ _ hC => ?_)
            refine fr_aload_n hx hb dX7_gatherBounds_91 rfl (lv_at hl 0 rfl) ?_
            obtain ⟨x51, g52, hf⟩ := obind hf
            refine fr_get hx hb hts hown K hC ct_7 (fgR_get g52) (by decide) kw621 rfl dX7_gatherBounds_92 ?_
            refine fr_aload_n hx hb dX7_gatherBounds_95 rfl (lv_at hl 0 rfl) ?_
            obtain ⟨x53, g54, hf⟩ := obind hf
            refine fr_get hx hb hts hown K hC ct_7 (fgR_get g54) (by decide) kw620 rfl dX7_gatherBounds_96 ?_
            obtain ⟨b57, q58, hf⟩ := obind hf
            obtain ⟨r55, g56, hf⟩ := obind hf
            refine fr_callV hx hb hml hts hown K hC hR ct_0 (c_X0_include hfl D cA g56) 1 q58 kw268 kw265 kw266 kw267 kw28 (by decide +kernel) ⟨by exact Nat.le_of_ble_eq_true rfl, by exact Nat.le_of_ble_eq_true rfl⟩ rfl hl.1 (cat8 _ (by exact Nat.le_of_ble_eq_true rfl)) dX7_gatherBounds_99 rfl (fun H locs _ _ hC => ?_)
            exact w_X7_gatherBounds_L102 M hfl hk12 _ _ _ _ hf _ _ _ _ _ hC (lv_sub hl [0, 1, 2] rfl)
set_option maxHeartbeats 4000000 in
set_option maxRecDepth 100000 in
theorem w_X7_gatherBounds_L0 {p : Program} {l : Launch} {e : Env} {s : State} {m : MethodId} {args : Array Value} {below : List Frame} {meth : Method} {c : Code} {D : va_G} {cA : Nat → ClassId} {h0 : fSt} {r : (Unit × fSt)} (M : fM p s m args meth c D cA h0 { frames := 4, cells := fCB h0 - fZ h0, slots := fLB h0 - fL h0, locals := 101 } cX7_gatherBounds 3 none RX7) (hfl : l.stackTraces = false) (a0 : Option Nat) (a1 : Option Nat) (h : fSt) (hf : f_X7_gatherBounds_L0 a0 a1 h = some r) : ∀ (H : Heap) (locs : List Loc) (cells slots : Nat) (ls : Array Slot), fCur D cA s h0 h H locs → lv_has ls 3 [(0, va_rf a0), (1, va_rf a1)] → W p l e { frames := 4, cells := fCB h0 - fZ h0, slots := fLB h0 - fL h0, locals := 101 } s m args below meth c H locs cells slots (MQ below (fQ D cA h0 r.2 none) args s (fCB h0 - fZ h0) (fLB h0 - fL h0) (fA h0)) (F0 m 0 ls []) := by
  obtain ⟨hx, hb, hml, hr, hlocks, hts, hown, K, hR⟩ := id M
  intro H locs cells slots ls hC hl
  refine fr_aload_n hx hb dX7_gatherBounds_0 rfl (lv_at hl 0 rfl) ?_
  obtain ⟨x59, g60, hf⟩ := obind hf
  refine fr_get hx hb hts hown K hC ct_7 (fgR_get g60) (by decide) kw621 rfl dX7_gatherBounds_1 ?_
  obtain ⟨b63, q64, hf⟩ := obind hf
  obtain ⟨r61, g62, hf⟩ := obind hf
  refine fr_callV hx hb hml hts hown K hC hR ct_0 (c_X0_clear hfl D cA g62) 0 q64 kw254 kw251 kw252 kw253 kw28 (by decide +kernel) ⟨by exact Nat.le_of_ble_eq_true rfl, by exact Nat.le_of_ble_eq_true rfl⟩ rfl hl.1 (cat8 _ (by exact Nat.le_of_ble_eq_true rfl)) dX7_gatherBounds_4 rfl (fun H locs _ _ hC => ?_)
  refine fr_aload_n hx hb dX7_gatherBounds_7 rfl (lv_at hl 0 rfl) ?_
  obtain ⟨x65, g66, hf⟩ := obind hf
  refine fr_get hx hb hts hown K hC ct_7 (fgR_get g66) (by decide) kw625 rfl dX7_gatherBounds_8 ?_
  refine fr_astore_n (lv' := [(2, va_rf x65), (0, va_rf a0), (1, va_rf a1)]) hx hb dX7_gatherBounds_11 rfl hl (by decide) (congrArg (List.cons _) (flk rfl (flk (adj1 _ _) fln))) (fun ls hl => ?_)
  exact w_X7_gatherBounds_L12 M hfl 4096 _ _ _ _ hf _ _ _ _ _ hC (lv_sub hl [1, 2, 0] rfl)
set_option maxRecDepth 100000 in
theorem c_X7_gatherBounds {l : Launch} (hfl : l.stackTraces = false) (D : va_G) (cA : Nat → ClassId) {o : Nat} {p0 : Option Nat} {h : fSt} {r : (Unit × fSt)} (hf : f_X7_gatherBounds o p0 h = some r) : fMet l yX7_gatherBounds (wsC yX7_gatherBounds cX7_gatherBounds 3 none) (4) (101) D cA [.ref o, va_rf p0] h r.2 none := by
  exact fMet.of (own := RX7) (by decide +kernel) rfl (lva1 rfl (lva1 (va_rf_cat _) lva0)) (lgl1 rfl (lgl1 (va_rf_cat _) lgl0)) (Nat.le_of_ble_eq_true rfl) (fun p e s m args below meth c ls hnm _ M hC hl => by
    have hl : lv_has ls 3 [(0, va_rf (some o)), (1, va_rf p0)] := hl
    exact w_X7_gatherBounds_L0 M hfl _ _ _ hf _ _ _ _ _ hC (lv_sub hl [0, 1] rfl))
set_option maxHeartbeats 4000000 in
set_option maxRecDepth 100000 in
theorem w_X7_bound_L60 {p : Program} {l : Launch} {e : Env} {s : State} {m : MethodId} {args : Array Value} {below : List Frame} {meth : Method} {c : Code} {D : va_G} {cA : Nat → ClassId} {h0 : fSt} {r : ((Int32 ⊕ Nat) × fSt)} (M : fM p s m args meth c D cA h0 { frames := 7, cells := fCB h0 - fZ h0, slots := fLB h0 - fL h0, locals := 123 } cX7_bound 6 (some (.int)) RX7) (hfl : l.stackTraces = false) (hno : ∀ x ∈ c.exceptionTable.toList, False) (s0 : Int64) (h : fSt) (hf : f_X7_bound_L60 s0 h = some r) : ∀ (H : Heap) (locs : List Loc) (cells slots : Nat) (ls : Array Slot), fCur D cA s h0 h H locs → lv_has ls 6 [] → W p l e { frames := 7, cells := fCB h0 - fZ h0, slots := fLB h0 - fL h0, locals := 123 } s m args below meth c H locs cells slots (vx_MQ below (fQX D cA h0 r.2 (rI r.1)) (fXC D cA h0 r.2 (rI r.1)) args s (fCB h0 - fZ h0) (fLB h0 - fL h0) (fA h0)) (F0 m 60 ls [.long s0]) := by
  obtain ⟨hx, hb, hml, hr, hlocks, hts, hown, K, hR⟩ := id M
  intro H locs cells slots ls hC hl
  refine lv_l2i (v := (Int64.toInt32 s0)) hx hb dX7_bound_60 rfl ?_
  obtain rfl := Option.some.inj hf
  exact fr_retQ (fr_iret hx hb hr hlocks hC dX7_bound_61)
set_option maxHeartbeats 4000000 in
set_option maxRecDepth 100000 in
theorem w_X7_bound_L0 {p : Program} {l : Launch} {e : Env} {s : State} {m : MethodId} {args : Array Value} {below : List Frame} {meth : Method} {c : Code} {D : va_G} {cA : Nat → ClassId} {h0 : fSt} {r : ((Int32 ⊕ Nat) × fSt)} (M : fM p s m args meth c D cA h0 { frames := 7, cells := fCB h0 - fZ h0, slots := fLB h0 - fL h0, locals := 123 } cX7_bound 6 (some (.int)) RX7) (hfl : l.stackTraces = false) (hno : ∀ x ∈ c.exceptionTable.toList, False) (a0 : Option Nat) (a1 : Int32) (a2 : Int32) (a3 : Int32) (h : fSt) (hf : f_X7_bound_L0 a0 a1 a2 a3 h = some r) : ∀ (H : Heap) (locs : List Loc) (cells slots : Nat) (ls : Array Slot), fCur D cA s h0 h H locs → lv_has ls 6 [(0, va_rf a0), (1, .int a1), (2, .int a2), (3, .int a3)] → W p l e { frames := 7, cells := fCB h0 - fZ h0, slots := fLB h0 - fL h0, locals := 123 } s m args below meth c H locs cells slots (vx_MQ below (fQX D cA h0 r.2 (rI r.1)) (fXC D cA h0 r.2 (rI r.1)) args s (fCB h0 - fZ h0) (fLB h0 - fL h0) (fA h0)) (F0 m 0 ls []) := by
  obtain ⟨hx, hb, hml, hr, hlocks, hts, hown, K, hR⟩ := id M
  intro H locs cells slots ls hC hl
  refine fr_aload_n hx hb dX7_bound_0 rfl (lv_at hl 0 rfl) ?_
  refine lv_iload_n hx hb dX7_bound_1 rfl (lv_at hl 1 rfl) ?_
  obtain ⟨b3, q4, hf⟩ := obind hf
  obtain ⟨⟨v5 | k6, h7⟩, g2, hf⟩ := obind hf
  · refine fr_callVX hx hb hml hts hown K hC hR ct_7 (c_X7_found hfl D cA g2) 1 q4 kw51 kw47 kw49 kw0 kw23 (by decide +kernel) ⟨by exact Nat.le_of_ble_eq_true rfl, by exact Nat.le_of_ble_eq_true rfl⟩ rfl hl.1 (cat8 _ (by exact Nat.le_of_ble_eq_true rfl)) dX7_bound_2 rfl (fun H locs _ _ hC => ?_)
    refine fr_astore (lv' := [(4, va_rf v5), (0, va_rf a0), (1, .int a1), (2, .int a2), (3, .int a3)]) hx hb dX7_bound_5 hl (by decide) (congrArg (List.cons _) (flk rfl (flk rfl (flk rfl (flk rfl fln))))) (fun ls hl => ?_)
    refine lv_iload_n hx hb dX7_bound_7 rfl (lv_at hl 3 rfl) ?_
    refine lv_iconst (v := (0 : Int32)) hx hb dX7_bound_8 (by decide) ?_
    refine lv_iconst (v := (3 : Int32)) hx hb dX7_bound_9 (by decide) ?_
    obtain ⟨r8, g9, hf⟩ := obind hf
    refine fr_callS hx hb hml hts hown K hC hR (c_X7_isFrom hfl D cA g9) 3 kw154 kw152 kw153 kw23 (by decide +kernel) ⟨by exact Nat.le_of_ble_eq_true rfl, by exact Nat.le_of_ble_eq_true rfl⟩ rfl hl.1 (cat8 _ (by exact Nat.le_of_ble_eq_true rfl)) dX7_bound_10 rfl (fun H locs _ _ hC => ?_)
    refine lv_if_ne (tgt := 27) hx hb dX7_bound_13 (by decide) (fun c10 => ?_) (fun c10 => ?_)
    · replace hf := oneg c10 hf
      refine fr_aload_n hx hb dX7_bound_27 rfl (lv_at hl 1 rfl) ?_
      refine fr_aload hx hb dX7_bound_28 (lv_at hl 0 rfl) ?_
      obtain ⟨b13, q14, hf⟩ := obind hf
      obtain ⟨r11, g12, hf⟩ := obind hf
      refine fr_callV hx hb hml hts hown K hC hR ct_7 (c_X7_gatherBounds hfl D cA g12) 1 q14 kw250 kw247 kw249 kw8 kw23 (by decide +kernel) ⟨by exact Nat.le_of_ble_eq_true rfl, by exact Nat.le_of_ble_eq_true rfl⟩ rfl hl.1 (cat8 _ (by exact Nat.le_of_ble_eq_true rfl)) dX7_bound_30 rfl (fun H locs _ _ hC => ?_)
      refine fr_aload_n hx hb dX7_bound_33 rfl (lv_at hl 1 rfl) ?_
      obtain ⟨x15, g16, hf⟩ := obind hf
      refine fr_get hx hb hts hown K hC ct_7 (fgR_get g16) (by decide) kw621 rfl dX7_bound_34 ?_
      refine lv_iload_n hx hb dX7_bound_37 rfl (lv_at hl 3 rfl) ?_
      obtain ⟨b19, q20, hf⟩ := obind hf
      obtain ⟨r17, g18, hf⟩ := obind hf
      refine fr_callV hx hb hml hts hown K hC hR ct_0 (c_X0_side hfl D cA g18) 1 q20 kw281 kw278 kw279 kw280 kw28 (by decide +kernel) ⟨by exact Nat.le_of_ble_eq_true rfl, by exact Nat.le_of_ble_eq_true rfl⟩ rfl hl.1 (cat8 _ (by exact Nat.le_of_ble_eq_true rfl)) dX7_bound_38 rfl (fun H locs _ _ hC => ?_)
      refine fr_astore (lv' := [(5, va_rf r17.1), (4, va_rf v5), (0, va_rf a0), (1, .int a1), (2, .int a2), (3, .int a3)]) hx hb dX7_bound_41 hl (by decide) (congrArg (List.cons _) (flk (adj1 _ _) (flk rfl (flk rfl (flk rfl (flk rfl fln)))))) (fun ls hl => ?_)
      refine lv_iload_n hx hb dX7_bound_43 rfl (lv_at hl 5 rfl) ?_
      refine lv_if_eq (tgt := 55) hx hb dX7_bound_44 (by decide) (fun c21 => ?_) (fun c21 => ?_)
      · replace hf := opos c21 hf
        refine fr_aload hx hb dX7_bound_55 (lv_at hl 0 rfl) ?_
        obtain ⟨x22, g23, hf⟩ := obind hf
        refine fr_get hx hb hts hown K hC ct_1 (fgJ_get g23) (by decide) kw596 rfl dX7_bound_57 ?_
        exact w_X7_bound_L60 M hfl hno _ _ hf _ _ _ _ _ hC (lv_sub hl [] rfl)
      · replace hf := oneg c21 hf
        refine fr_aload hx hb dX7_bound_47 (lv_at hl 0 rfl) ?_
        obtain ⟨x24, g25, hf⟩ := obind hf
        refine fr_get hx hb hts hown K hC ct_1 (fgJ_get g25) (by decide) kw598 rfl dX7_bound_49 ?_
        refine lv_goto (tgt := 60) hx hb dX7_bound_52 (by decide) ?_
        exact w_X7_bound_L60 M hfl hno _ _ hf _ _ _ _ _ hC (lv_sub hl [] rfl)
    · replace hf := opos c10 hf
      obtain ⟨h26, g27, hf⟩ := obind hf
      obtain rfl := Option.some.inj hf
      exact fr_throwSW hx hb hml hts hfl hown K hC hR th_RX7_60_64_1 st_RX7_264 hl.1 dX7_bound_16 dX7_bound_19 dX7_bound_20 dX7_bound_23 dX7_bound_26 hno (by exact Nat.le_of_ble_eq_true rfl) (catL _ _ (by exact Nat.le_of_ble_eq_true rfl) (by exact Nat.le_of_ble_eq_true rfl)) hlocks g27
  · obtain rfl := Option.some.inj hf
    refine fr_callVT hx hb hml hts hown K hC hR ct_7 (c_X7_found hfl D cA g2) 1 q4 kw51 kw47 kw49 kw0 kw23 (by decide +kernel) ⟨by exact Nat.le_of_ble_eq_true rfl, by exact Nat.le_of_ble_eq_true rfl⟩ rfl hl.1 (cat8 _ (by exact Nat.le_of_ble_eq_true rfl)) dX7_bound_2 rfl (fun H locs _ _ q ce hC e1 e2 e3 => ?_)
    exact fr_out (fun x hx9 => (hno x hx9).elim) hlocks hC e1 e2 e3
set_option maxRecDepth 100000 in
theorem c_X7_bound {l : Launch} (hfl : l.stackTraces = false) (D : va_G) (cA : Nat → ClassId) {o : Nat} {p0 : Int32} {p1 : Int32} {p2 : Int32} {h : fSt} {r : ((Int32 ⊕ Nat) × fSt)} (hf : f_X7_bound o p0 p1 p2 h = some r) : fMetX l yX7_bound (wsC yX7_bound cX7_bound 6 (some (.int))) (7) (123) D cA [.ref o, .int p0, .int p1, .int p2] h r.2 (rI r.1) := by
  exact fMetX.of (own := RX7) (by decide +kernel) rfl (lva1 rfl (lva1 rfl (lva1 rfl (lva1 rfl lva0)))) (lgl1 rfl (lgl1 rfl (lgl1 rfl (lgl1 rfl lgl0)))) (Nat.le_of_ble_eq_true rfl) (fun p e s m args below meth c ls hno M hC hl => by
    have hl : lv_has ls 6 [(0, va_rf (some o)), (1, .int p0), (2, .int p1), (3, .int p2)] := hl
    exact w_X7_bound_L0 M hfl hno _ _ _ _ _ hf _ _ _ _ _ hC (lv_sub hl [0, 1, 2, 3] rfl))
set_option maxHeartbeats 4000000 in
set_option maxRecDepth 100000 in
theorem w_X6_differs_L25 {p : Program} {l : Launch} {e : Env} {s : State} {m : MethodId} {args : Array Value} {below : List Frame} {meth : Method} {c : Code} {D : va_G} {cA : Nat → ClassId} {h0 : fSt} {r : (Int32 × fSt)} (M : fM p s m args meth c D cA h0 { frames := 2, cells := fCB h0 - fZ h0, slots := fLB h0 - fL h0, locals := 52 } cX6_differs 3 (some (.boolean)) RX6) (hfl : l.stackTraces = false) (s0 : Int32) (h : fSt) (hf : f_X6_differs_L25 s0 h = some r) : ∀ (H : Heap) (locs : List Loc) (cells slots : Nat) (ls : Array Slot), fCur D cA s h0 h H locs → lv_has ls 3 [] → W p l e { frames := 2, cells := fCB h0 - fZ h0, slots := fLB h0 - fL h0, locals := 52 } s m args below meth c H locs cells slots (MQ below (fQ D cA h0 r.2 (some (.int r.1))) args s (fCB h0 - fZ h0) (fLB h0 - fL h0) (fA h0)) (F0 m 25 ls [.int s0]) := by
  obtain ⟨hx, hb, hml, hr, hlocks, hts, hown, K, hR⟩ := id M
  intro H locs cells slots ls hC hl
  by_cases c1 : s0 = 0 ∨ s0 = 1
  rotate_left
  · exact nomatch (oneg c1 hf)
  obtain rfl := Option.some.inj (opos c1 hf)
  exact fr_zret hx hb hr hlocks hC c1 dX6_differs_25
set_option maxHeartbeats 4000000 in
set_option maxRecDepth 100000 in
theorem w_X6_differs_L24 {p : Program} {l : Launch} {e : Env} {s : State} {m : MethodId} {args : Array Value} {below : List Frame} {meth : Method} {c : Code} {D : va_G} {cA : Nat → ClassId} {h0 : fSt} {r : (Int32 × fSt)} (M : fM p s m args meth c D cA h0 { frames := 2, cells := fCB h0 - fZ h0, slots := fLB h0 - fL h0, locals := 52 } cX6_differs 3 (some (.boolean)) RX6) (hfl : l.stackTraces = false)  (h : fSt) (hf : f_X6_differs_L24  h = some r) : ∀ (H : Heap) (locs : List Loc) (cells slots : Nat) (ls : Array Slot), fCur D cA s h0 h H locs → lv_has ls 3 [] → W p l e { frames := 2, cells := fCB h0 - fZ h0, slots := fLB h0 - fL h0, locals := 52 } s m args below meth c H locs cells slots (MQ below (fQ D cA h0 r.2 (some (.int r.1))) args s (fCB h0 - fZ h0) (fLB h0 - fL h0) (fA h0)) (F0 m 24 ls []) := by
  obtain ⟨hx, hb, hml, hr, hlocks, hts, hown, K, hR⟩ := id M
  intro H locs cells slots ls hC hl
  refine lv_iconst (v := (0 : Int32)) hx hb dX6_differs_24 (by decide) ?_
  exact w_X6_differs_L25 M hfl _ _ hf _ _ _ _ _ hC (lv_sub hl [] rfl)
set_option maxHeartbeats 4000000 in
set_option maxRecDepth 100000 in
theorem w_X6_differs_L0 {p : Program} {l : Launch} {e : Env} {s : State} {m : MethodId} {args : Array Value} {below : List Frame} {meth : Method} {c : Code} {D : va_G} {cA : Nat → ClassId} {h0 : fSt} {r : (Int32 × fSt)} (M : fM p s m args meth c D cA h0 { frames := 2, cells := fCB h0 - fZ h0, slots := fLB h0 - fL h0, locals := 52 } cX6_differs 3 (some (.boolean)) RX6) (hfl : l.stackTraces = false) (a0 : Option Nat) (a1 : Int32) (a2 : Int32) (h : fSt) (hf : f_X6_differs_L0 a0 a1 a2 h = some r) : ∀ (H : Heap) (locs : List Loc) (cells slots : Nat) (ls : Array Slot), fCur D cA s h0 h H locs → lv_has ls 3 [(0, va_rf a0), (1, .int a1), (2, .int a2)] → W p l e { frames := 2, cells := fCB h0 - fZ h0, slots := fLB h0 - fL h0, locals := 52 } s m args below meth c H locs cells slots (MQ below (fQ D cA h0 r.2 (some (.int r.1))) args s (fCB h0 - fZ h0) (fLB h0 - fL h0) (fA h0)) (F0 m 0 ls []) := by
  obtain ⟨hx, hb, hml, hr, hlocks, hts, hown, K, hR⟩ := id M
  intro H locs cells slots ls hC hl
  refine fr_aload_n hx hb dX6_differs_0 rfl (lv_at hl 0 rfl) ?_
  obtain ⟨x2, g3, hf⟩ := obind hf
  refine fr_get hx hb hts hown K hC ct_6 (fgR_get g3) (by decide) kw434 rfl dX6_differs_1 ?_
  refine fr_ifnull (tgt := 24) hx hb dX6_differs_4 (by decide) (fun c4 => ?_) (fun c4 => ?_)
  · replace hf := opos c4 hf
    exact w_X6_differs_L24 M hfl _ hf _ _ _ _ _ hC (lv_sub hl [] rfl)
  · replace hf := oneg c4 hf
    refine fr_aload_n hx hb dX6_differs_7 rfl (lv_at hl 0 rfl) ?_
    refine lv_iload_n hx hb dX6_differs_8 rfl (lv_at hl 1 rfl) ?_
    obtain ⟨b7, q8, hf⟩ := obind hf
    obtain ⟨r5, g6, hf⟩ := obind hf
    refine fr_callV hx hb hml hts hown K hC hR ct_6 (c_X6_at hfl D cA g6) 1 q8 kw195 kw353 kw193 kw194 kw25 (by decide +kernel) ⟨by exact Nat.le_of_ble_eq_true rfl, by exact Nat.le_of_ble_eq_true rfl⟩ rfl hl.1 (cat8 _ (by exact Nat.le_of_ble_eq_true rfl)) dX6_differs_9 rfl (fun H locs _ _ hC => ?_)
    refine fr_aload_n hx hb dX6_differs_12 rfl (lv_at hl 0 rfl) ?_
    refine lv_iload_n hx hb dX6_differs_13 rfl (lv_at hl 2 rfl) ?_
    obtain ⟨b11, q12, hf⟩ := obind hf
    obtain ⟨r9, g10, hf⟩ := obind hf
    refine fr_callV hx hb hml hts hown K hC hR ct_6 (c_X6_at hfl D cA g10) 1 q12 kw195 kw353 kw193 kw194 kw25 (by decide +kernel) ⟨by exact Nat.le_of_ble_eq_true rfl, by exact Nat.le_of_ble_eq_true rfl⟩ rfl hl.1 (cat8 _ (by exact Nat.le_of_ble_eq_true rfl)) dX6_differs_14 rfl (fun H locs _ _ hC => ?_)
    refine lv_icmp_eq (tgt := 24) hx hb dX6_differs_17 (by decide) (fun c13 => ?_) (fun c13 => ?_)
    · replace hf := opos c13 hf
      exact w_X6_differs_L24 M hfl _ hf _ _ _ _ _ hC (lv_sub hl [] rfl)
    · replace hf := oneg c13 hf
      refine lv_iconst (v := (1 : Int32)) hx hb dX6_differs_20 (by decide) ?_
      refine lv_goto (tgt := 25) hx hb dX6_differs_21 (by decide) ?_
      exact w_X6_differs_L25 M hfl _ _ hf _ _ _ _ _ hC (lv_sub hl [] rfl)
set_option maxRecDepth 100000 in
theorem c_X6_differs {l : Launch} (hfl : l.stackTraces = false) (D : va_G) (cA : Nat → ClassId) {o : Nat} {p0 : Int32} {p1 : Int32} {h : fSt} {r : (Int32 × fSt)} (hf : f_X6_differs o p0 p1 h = some r) : fMet l yX6_differs (wsC yX6_differs cX6_differs 3 (some (.boolean))) (2) (52) D cA [.ref o, .int p0, .int p1] h r.2 (some (.int r.1)) := by
  exact fMet.of (own := RX6) (by decide +kernel) rfl (lva1 rfl (lva1 rfl (lva1 rfl lva0))) (lgl1 rfl (lgl1 rfl (lgl1 rfl lgl0))) (Nat.le_of_ble_eq_true rfl) (fun p e s m args below meth c ls hnm _ M hC hl => by
    have hl : lv_has ls 3 [(0, va_rf (some o)), (1, .int p0), (2, .int p1)] := hl
    exact w_X6_differs_L0 M hfl _ _ _ _ hf _ _ _ _ _ hC (lv_sub hl [0, 1, 2] rfl))
set_option maxHeartbeats 4000000 in
set_option maxRecDepth 100000 in
theorem w_X4_differs_L54 {p : Program} {l : Launch} {e : Env} {s : State} {m : MethodId} {args : Array Value} {below : List Frame} {meth : Method} {c : Code} {D : va_G} {cA : Nat → ClassId} {h0 : fSt} {r : (Int32 × fSt)} (M : fM p s m args meth c D cA h0 { frames := 3, cells := fCB h0 - fZ h0, slots := fLB h0 - fL h0, locals := 74 } cX4_differs 4 (some (.boolean)) RX4) (hfl : l.stackTraces = false)  (h : fSt) (hf : f_X4_differs_L54  h = some r) : ∀ (H : Heap) (locs : List Loc) (cells slots : Nat) (ls : Array Slot), fCur D cA s h0 h H locs → lv_has ls 4 [] → W p l e { frames := 3, cells := fCB h0 - fZ h0, slots := fLB h0 - fL h0, locals := 74 } s m args below meth c H locs cells slots (MQ below (fQ D cA h0 r.2 (some (.int r.1))) args s (fCB h0 - fZ h0) (fLB h0 - fL h0) (fA h0)) (F0 m 54 ls []) := by
  obtain ⟨hx, hb, hml, hr, hlocks, hts, hown, K, hR⟩ := id M
  intro H locs cells slots ls hC hl
  refine lv_iconst (v := (1 : Int32)) hx hb dX4_differs_54 (by decide) ?_
  obtain rfl := Option.some.inj hf
  exact fr_zret hx hb hr hlocks hC (Or.inr rfl) dX4_differs_55
set_option maxHeartbeats 4000000 in
set_option maxRecDepth 100000 in
theorem w_X4_differs_L2 {p : Program} {l : Launch} {e : Env} {s : State} {m : MethodId} {args : Array Value} {below : List Frame} {meth : Method} {c : Code} {D : va_G} {cA : Nat → ClassId} {h0 : fSt} {r : (Int32 × fSt)} (M : fM p s m args meth c D cA h0 { frames := 3, cells := fCB h0 - fZ h0, slots := fLB h0 - fL h0, locals := 74 } cX4_differs 4 (some (.boolean)) RX4) (hfl : l.stackTraces = false) : ∀ (n : Nat) (a1 : Int32) (a2 : Int32) (a3 : Option Nat) (h : fSt), f_X4_differs_L2 n a1 a2 a3 h = some r → ∀ (H : Heap) (locs : List Loc) (cells slots : Nat) (ls : Array Slot), fCur D cA s h0 h H locs → lv_has ls 4 [(1, .int a1), (2, .int a2), (3, va_rf a3)] → W p l e { frames := 3, cells := fCB h0 - fZ h0, slots := fLB h0 - fL h0, locals := 74 } s m args below meth c H locs cells slots (MQ below (fQ D cA h0 r.2 (some (.int r.1))) args s (fCB h0 - fZ h0) (fLB h0 - fL h0) (fA h0)) (F0 m 2 ls []) := by
  obtain ⟨hx, hb, hml, hr, hlocks, hts, hown, K, hR⟩ := id M
  intro n
  induction n with
  | zero =>
    intro a1 a2 a3 h hf
    exact nomatch (show (none : Option (Int32 × fSt)) = some r from hf)
  | succ n hk2 =>
    intro a1 a2 a3 h hf H locs cells slots ls hC hl
    refine fr_aload_n hx hb dX4_differs_2 rfl (lv_at hl 2 rfl) ?_
    refine fr_ifnull (tgt := 64) hx hb dX4_differs_3 (by decide) (fun c1 => ?_) (fun c1 => ?_)
    · replace hf := opos c1 hf
      refine lv_iconst (v := (0 : Int32)) hx hb dX4_differs_64 (by decide) ?_
      obtain rfl := Option.some.inj hf
      exact fr_zret hx hb hr hlocks hC (Or.inl rfl) dX4_differs_65
    · replace hf := oneg c1 hf
      refine fr_aload_n hx hb dX4_differs_6 rfl (lv_at hl 2 rfl) ?_
      obtain ⟨x2, g3, hf⟩ := obind hf
      refine fr_get hx hb hts hown K hC ct_4 (fgR_get g3) (by decide) kw485 rfl dX4_differs_7 ?_
      refine lv_iload_n hx hb dX4_differs_10 rfl (lv_at hl 0 rfl) ?_
      refine lv_iload_n hx hb dX4_differs_11 rfl (lv_at hl 1 rfl) ?_
      obtain ⟨b6, q7, hf⟩ := obind hf
      obtain ⟨r4, g5, hf⟩ := obind hf
      refine fr_callV hx hb hml hts hown K hC hR ct_6 (c_X6_differs hfl D cA g5) 2 q7 kw352 kw349 kw350 kw351 kw25 (by decide +kernel) ⟨by exact Nat.le_of_ble_eq_true rfl, by exact Nat.le_of_ble_eq_true rfl⟩ rfl hl.1 (cat8 _ (by exact Nat.le_of_ble_eq_true rfl)) dX4_differs_12 rfl (fun H locs _ _ hC => ?_)
      refine lv_if_ne (tgt := 54) hx hb dX4_differs_15 (by decide) (fun c8 => ?_) (fun c8 => ?_)
      · replace hf := oneg c8 hf
        exact w_X4_differs_L54 M hfl _ hf _ _ _ _ _ hC (lv_sub hl [] rfl)
      · replace hf := opos c8 hf
        refine fr_aload_n hx hb dX4_differs_18 rfl (lv_at hl 2 rfl) ?_
        obtain ⟨x9, g10, hf⟩ := obind hf
        refine fr_get hx hb hts hown K hC ct_4 (fgR_get g10) (by decide) kw488 rfl dX4_differs_19 ?_
        refine lv_iload_n hx hb dX4_differs_22 rfl (lv_at hl 0 rfl) ?_
        refine lv_iload_n hx hb dX4_differs_23 rfl (lv_at hl 1 rfl) ?_
        obtain ⟨b13, q14, hf⟩ := obind hf
        obtain ⟨r11, g12, hf⟩ := obind hf
        refine fr_callV hx hb hml hts hown K hC hR ct_6 (c_X6_differs hfl D cA g12) 2 q14 kw352 kw349 kw350 kw351 kw25 (by decide +kernel) ⟨by exact Nat.le_of_ble_eq_true rfl, by exact Nat.le_of_ble_eq_true rfl⟩ rfl hl.1 (cat8 _ (by exact Nat.le_of_ble_eq_true rfl)) dX4_differs_24 rfl (fun H locs _ _ hC => ?_)
        refine lv_if_ne (tgt := 54) hx hb dX4_differs_27 (by decide) (fun c15 => ?_) (fun c15 => ?_)
        · replace hf := oneg c15 hf
          exact w_X4_differs_L54 M hfl _ hf _ _ _ _ _ hC (lv_sub hl [] rfl)
        · replace hf := opos c15 hf
          refine fr_aload_n hx hb dX4_differs_30 rfl (lv_at hl 2 rfl) ?_
          obtain ⟨x16, g17, hf⟩ := obind hf
          refine fr_get hx hb hts hown K hC ct_4 (fgR_get g17) (by decide) kw491 rfl dX4_differs_31 ?_
          refine lv_iload_n hx hb dX4_differs_34 rfl (lv_at hl 0 rfl) ?_
          refine lv_iload_n hx hb dX4_differs_35 rfl (lv_at hl 1 rfl) ?_
          obtain ⟨b20, q21, hf⟩ := obind hf
          obtain ⟨r18, g19, hf⟩ := obind hf
          refine fr_callV hx hb hml hts hown K hC hR ct_6 (c_X6_differs hfl D cA g19) 2 q21 kw352 kw349 kw350 kw351 kw25 (by decide +kernel) ⟨by exact Nat.le_of_ble_eq_true rfl, by exact Nat.le_of_ble_eq_true rfl⟩ rfl hl.1 (cat8 _ (by exact Nat.le_of_ble_eq_true rfl)) dX4_differs_36 rfl (fun H locs _ _ hC => ?_)
          refine lv_if_ne (tgt := 54) hx hb dX4_differs_39 (by decide) (fun c22 => ?_) (fun c22 => ?_)
          · replace hf := oneg c22 hf
            exact w_X4_differs_L54 M hfl _ hf _ _ _ _ _ hC (lv_sub hl [] rfl)
          · replace hf := opos c22 hf
            refine fr_aload_n hx hb dX4_differs_42 rfl (lv_at hl 2 rfl) ?_
            obtain ⟨x23, g24, hf⟩ := obind hf
            refine fr_get hx hb hts hown K hC ct_4 (fgR_get g24) (by decide) kw494 rfl dX4_differs_43 ?_
            refine lv_iload_n hx hb dX4_differs_46 rfl (lv_at hl 0 rfl) ?_
            refine lv_iload_n hx hb dX4_differs_47 rfl (lv_at hl 1 rfl) ?_
            obtain ⟨b27, q28, hf⟩ := obind hf
            obtain ⟨r25, g26, hf⟩ := obind hf
            refine fr_callV hx hb hml hts hown K hC hR ct_6 (c_X6_differs hfl D cA g26) 2 q28 kw352 kw349 kw350 kw351 kw25 (by decide +kernel) ⟨by exact Nat.le_of_ble_eq_true rfl, by exact Nat.le_of_ble_eq_true rfl⟩ rfl hl.1 (cat8 _ (by exact Nat.le_of_ble_eq_true rfl)) dX4_differs_48 rfl (fun H locs _ _ hC => ?_)
            refine lv_if_eq (tgt := 56) hx hb dX4_differs_51 (by decide) (fun c29 => ?_) (fun c29 => ?_)
            · replace hf := opos c29 hf
              refine fr_aload_n hx hb dX4_differs_56 rfl (lv_at hl 2 rfl) ?_
              obtain ⟨x30, g31, hf⟩ := obind hf
              refine fr_get hx hb hts hown K hC ct_4 (fgR_get g31) (by decide) kw511 rfl dX4_differs_57 ?_
              refine fr_astore_n (lv' := [(3, va_rf x30), (1, .int a1), (2, .int a2)]) hx hb dX4_differs_60 rfl hl (by decide) (congrArg (List.cons _) (flk rfl (flk rfl (fld rfl fln)))) (fun ls hl => ?_)
              refine lv_goto (tgt := 2) hx hb dX4_differs_61 (by decide) ?_
              exact hk2 _ _ _ _ hf _ _ _ _ _ hC (lv_sub hl [1, 2, 0] rfl)
            · replace hf := oneg c29 hf
              exact w_X4_differs_L54 M hfl _ hf _ _ _ _ _ hC (lv_sub hl [] rfl)
set_option maxHeartbeats 4000000 in
set_option maxRecDepth 100000 in
theorem w_X4_differs_L0 {p : Program} {l : Launch} {e : Env} {s : State} {m : MethodId} {args : Array Value} {below : List Frame} {meth : Method} {c : Code} {D : va_G} {cA : Nat → ClassId} {h0 : fSt} {r : (Int32 × fSt)} (M : fM p s m args meth c D cA h0 { frames := 3, cells := fCB h0 - fZ h0, slots := fLB h0 - fL h0, locals := 74 } cX4_differs 4 (some (.boolean)) RX4) (hfl : l.stackTraces = false) (a0 : Option Nat) (a1 : Int32) (a2 : Int32) (h : fSt) (hf : f_X4_differs_L0 a0 a1 a2 h = some r) : ∀ (H : Heap) (locs : List Loc) (cells slots : Nat) (ls : Array Slot), fCur D cA s h0 h H locs → lv_has ls 4 [(0, va_rf a0), (1, .int a1), (2, .int a2)] → W p l e { frames := 3, cells := fCB h0 - fZ h0, slots := fLB h0 - fL h0, locals := 74 } s m args below meth c H locs cells slots (MQ below (fQ D cA h0 r.2 (some (.int r.1))) args s (fCB h0 - fZ h0) (fLB h0 - fL h0) (fA h0)) (F0 m 0 ls []) := by
  obtain ⟨hx, hb, hml, hr, hlocks, hts, hown, K, hR⟩ := id M
  intro H locs cells slots ls hC hl
  refine fr_aload_n hx hb dX4_differs_0 rfl (lv_at hl 0 rfl) ?_
  refine fr_astore_n (lv' := [(3, va_rf a0), (0, va_rf a0), (1, .int a1), (2, .int a2)]) hx hb dX4_differs_1 rfl hl (by decide) (congrArg (List.cons _) (flk rfl (flk rfl (flk rfl fln)))) (fun ls hl => ?_)
  exact w_X4_differs_L2 M hfl 4096 _ _ _ _ hf _ _ _ _ _ hC (lv_sub hl [2, 3, 0] rfl)
set_option maxRecDepth 100000 in
theorem c_X4_differs {l : Launch} (hfl : l.stackTraces = false) (D : va_G) (cA : Nat → ClassId) {o : Nat} {p0 : Int32} {p1 : Int32} {h : fSt} {r : (Int32 × fSt)} (hf : f_X4_differs o p0 p1 h = some r) : fMet l yX4_differs (wsC yX4_differs cX4_differs 4 (some (.boolean))) (3) (74) D cA [.ref o, .int p0, .int p1] h r.2 (some (.int r.1)) := by
  exact fMet.of (own := RX4) (by decide +kernel) rfl (lva1 rfl (lva1 rfl (lva1 rfl lva0))) (lgl1 rfl (lgl1 rfl (lgl1 rfl lgl0))) (Nat.le_of_ble_eq_true rfl) (fun p e s m args below meth c ls hnm _ M hC hl => by
    have hl : lv_has ls 4 [(0, va_rf (some o)), (1, .int p0), (2, .int p1)] := hl
    exact w_X4_differs_L0 M hfl _ _ _ _ hf _ _ _ _ _ hC (lv_sub hl [0, 1, 2] rfl))
set_option maxHeartbeats 4000000 in
set_option maxRecDepth 100000 in
theorem w_X7_checkTime_L0 {p : Program} {l : Launch} {e : Env} {s : State} {m : MethodId} {args : Array Value} {below : List Frame} {meth : Method} {c : Code} {D : va_G} {cA : Nat → ClassId} {h0 : fSt} {r : ((Unit ⊕ Nat) × fSt)} (M : fM p s m args meth c D cA h0 { frames := 6, cells := fCB h0 - fZ h0, slots := fLB h0 - fL h0, locals := 90 } cX7_checkTime 1 none RX7) (hfl : l.stackTraces = false) (hno : ∀ x ∈ c.exceptionTable.toList, False) (a0 : Int32) (h : fSt) (hf : f_X7_checkTime_L0 a0 h = some r) : ∀ (H : Heap) (locs : List Loc) (cells slots : Nat) (ls : Array Slot), fCur D cA s h0 h H locs → lv_has ls 1 [(0, .int a0)] → W p l e { frames := 6, cells := fCB h0 - fZ h0, slots := fLB h0 - fL h0, locals := 90 } s m args below meth c H locs cells slots (vx_MQ below (fQX D cA h0 r.2 (rV r.1)) (fXC D cA h0 r.2 (rV r.1)) args s (fCB h0 - fZ h0) (fLB h0 - fL h0) (fA h0)) (F0 m 0 ls []) := by
  obtain ⟨hx, hb, hml, hr, hlocks, hts, hown, K, hR⟩ := id M
  intro H locs cells slots ls hC hl
  refine lv_iload_n hx hb dX7_checkTime_0 rfl (lv_at hl 0 rfl) ?_
  refine lv_iconst (v := (0 : Int32)) hx hb dX7_checkTime_1 (by decide) ?_
  refine lv_sipush (v := (9999 : Int32)) hx hb dX7_checkTime_2 (by decide) ?_
  obtain ⟨r1, g2, hf⟩ := obind hf
  refine fr_callS hx hb hml hts hown K hC hR (c_X7_isFrom hfl D cA g2) 3 kw154 kw152 kw153 kw23 (by decide +kernel) ⟨by exact Nat.le_of_ble_eq_true rfl, by exact Nat.le_of_ble_eq_true rfl⟩ rfl hl.1 (cat8 _ (by exact Nat.le_of_ble_eq_true rfl)) dX7_checkTime_5 rfl (fun H locs _ _ hC => ?_)
  refine lv_if_ne (tgt := 22) hx hb dX7_checkTime_8 (by decide) (fun c3 => ?_) (fun c3 => ?_)
  · replace hf := oneg c3 hf
    obtain rfl := Option.some.inj hf
    exact fr_retQ (fr_vret hx hb hr hlocks hC dX7_checkTime_22)
  · replace hf := opos c3 hf
    obtain ⟨h4, g5, hf⟩ := obind hf
    obtain rfl := Option.some.inj hf
    exact fr_throwSW hx hb hml hts hfl hown K hC hR th_RX7_60_64_1 st_RX7_349 hl.1 dX7_checkTime_11 dX7_checkTime_14 dX7_checkTime_15 dX7_checkTime_18 dX7_checkTime_21 hno (by exact Nat.le_of_ble_eq_true rfl) (catL _ _ (by exact Nat.le_of_ble_eq_true rfl) (by exact Nat.le_of_ble_eq_true rfl)) hlocks g5
set_option maxRecDepth 100000 in
theorem c_X7_checkTime {l : Launch} (hfl : l.stackTraces = false) (D : va_G) (cA : Nat → ClassId) {p0 : Int32} {h : fSt} {r : ((Unit ⊕ Nat) × fSt)} (hf : f_X7_checkTime p0 h = some r) : fMetX l yX7_checkTime (wsC yX7_checkTime cX7_checkTime 1 none) (6) (90) D cA [.int p0] h r.2 (rV r.1) := by
  exact fMetX.of (own := RX7) (by decide +kernel) rfl (lva1 rfl lva0) (lgl1 rfl lgl0) (Nat.le_of_ble_eq_true rfl) (fun p e s m args below meth c ls hno M hC hl => by
    have hl : lv_has ls 1 [(0, .int p0)] := hl
    exact w_X7_checkTime_L0 M hfl hno _ _ hf _ _ _ _ _ hC (lv_sub hl [0] rfl))
set_option maxHeartbeats 4000000 in
set_option maxRecDepth 100000 in
theorem w_X7_changes_L34 {p : Program} {l : Launch} {e : Env} {s : State} {m : MethodId} {args : Array Value} {below : List Frame} {meth : Method} {c : Code} {D : va_G} {cA : Nat → ClassId} {h0 : fSt} {r : ((Int32 ⊕ Nat) × fSt)} (M : fM p s m args meth c D cA h0 { frames := 7, cells := fCB h0 - fZ h0, slots := fLB h0 - fL h0, locals := 110 } cX7_changes 5 (some (.int)) RX7) (hfl : l.stackTraces = false) (hno : ∀ x ∈ c.exceptionTable.toList, False) {k16 : Int32 → Int32 → Int32 → Option Nat → fSt → Option ((Int32 ⊕ Nat) × fSt)} (hk16 : ∀ (a1 : Int32) (a2 : Int32) (a3 : Int32) (a4 : Option Nat) (h : fSt), k16 a1 a2 a3 a4 h = some r → ∀ (H : Heap) (locs : List Loc) (cells slots : Nat) (ls : Array Slot), fCur D cA s h0 h H locs → lv_has ls 5 [(1, .int a1), (2, .int a2), (3, .int a3), (4, va_rf a4)] → W p l e { frames := 7, cells := fCB h0 - fZ h0, slots := fLB h0 - fL h0, locals := 110 } s m args below meth c H locs cells slots (vx_MQ below (fQX D cA h0 r.2 (rI r.1)) (fXC D cA h0 r.2 (rI r.1)) args s (fCB h0 - fZ h0) (fLB h0 - fL h0) (fA h0)) (F0 m 16 ls [])) (a1 : Int32) (a2 : Int32) (a3 : Int32) (a4 : Option Nat) (h : fSt) (hf : f_X7_changes_L34 k16 a1 a2 a3 a4 h = some r) : ∀ (H : Heap) (locs : List Loc) (cells slots : Nat) (ls : Array Slot), fCur D cA s h0 h H locs → lv_has ls 5 [(1, .int a1), (2, .int a2), (3, .int a3), (4, va_rf a4)] → W p l e { frames := 7, cells := fCB h0 - fZ h0, slots := fLB h0 - fL h0, locals := 110 } s m args below meth c H locs cells slots (vx_MQ below (fQX D cA h0 r.2 (rI r.1)) (fXC D cA h0 r.2 (rI r.1)) args s (fCB h0 - fZ h0) (fLB h0 - fL h0) (fA h0)) (F0 m 34 ls []) := by
  obtain ⟨hx, hb, hml, hr, hlocks, hts, hown, K, hR⟩ := id M
  intro H locs cells slots ls hC hl
  refine fr_aload hx hb dX7_changes_34 (lv_at hl 3 rfl) ?_
  obtain ⟨x1, g2, hf⟩ := obind hf
  refine fr_get hx hb hts hown K hC ct_4 (fgR_get g2) (by decide) kw517 rfl dX7_changes_36 ?_
  refine fr_astore (lv' := [(4, va_rf x1), (1, .int a1), (2, .int a2), (3, .int a3)]) hx hb dX7_changes_39 hl (by decide) (congrArg (List.cons _) (flk rfl (flk rfl (flk rfl (fld rfl fln))))) (fun ls hl => ?_)
  refine lv_goto (tgt := 16) hx hb dX7_changes_41 (by decide) ?_
  exact hk16 _ _ _ _ _ hf _ _ _ _ _ hC (lv_sub hl [1, 2, 3, 0] rfl)
set_option maxHeartbeats 4000000 in
set_option maxRecDepth 100000 in
theorem w_X7_changes_L16 {p : Program} {l : Launch} {e : Env} {s : State} {m : MethodId} {args : Array Value} {below : List Frame} {meth : Method} {c : Code} {D : va_G} {cA : Nat → ClassId} {h0 : fSt} {r : ((Int32 ⊕ Nat) × fSt)} (M : fM p s m args meth c D cA h0 { frames := 7, cells := fCB h0 - fZ h0, slots := fLB h0 - fL h0, locals := 110 } cX7_changes 5 (some (.int)) RX7) (hfl : l.stackTraces = false) (hno : ∀ x ∈ c.exceptionTable.toList, False) : ∀ (n : Nat) (a1 : Int32) (a2 : Int32) (a3 : Int32) (a4 : Option Nat) (h : fSt), f_X7_changes_L16 n a1 a2 a3 a4 h = some r → ∀ (H : Heap) (locs : List Loc) (cells slots : Nat) (ls : Array Slot), fCur D cA s h0 h H locs → lv_has ls 5 [(1, .int a1), (2, .int a2), (3, .int a3), (4, va_rf a4)] → W p l e { frames := 7, cells := fCB h0 - fZ h0, slots := fLB h0 - fL h0, locals := 110 } s m args below meth c H locs cells slots (vx_MQ below (fQX D cA h0 r.2 (rI r.1)) (fXC D cA h0 r.2 (rI r.1)) args s (fCB h0 - fZ h0) (fLB h0 - fL h0) (fA h0)) (F0 m 16 ls []) := by
  obtain ⟨hx, hb, hml, hr, hlocks, hts, hown, K, hR⟩ := id M
  intro n
  induction n with
  | zero =>
    intro a1 a2 a3 a4 h hf
    exact nomatch (show (none : Option ((Int32 ⊕ Nat) × fSt)) = some r from hf)
  | succ n hk16 =>
    intro a1 a2 a3 a4 h hf H locs cells slots ls hC hl
    refine fr_aload hx hb dX7_changes_16 (lv_at hl 3 rfl) ?_
    refine fr_ifnull (tgt := 44) hx hb dX7_changes_18 (by decide) (fun c3 => ?_) (fun c3 => ?_)
    · replace hf := opos c3 hf
      refine lv_iload_n hx hb dX7_changes_44 rfl (lv_at hl 2 rfl) ?_
      obtain rfl := Option.some.inj hf
      exact fr_retQ (fr_iret hx hb hr hlocks hC dX7_changes_45)
    · replace hf := oneg c3 hf
      refine fr_aload hx hb dX7_changes_21 (lv_at hl 3 rfl) ?_
      refine lv_iload_n hx hb dX7_changes_23 rfl (lv_at hl 0 rfl) ?_
      refine lv_iload_n hx hb dX7_changes_24 rfl (lv_at hl 1 rfl) ?_
      obtain ⟨b6, q7, hf⟩ := obind hf
      obtain ⟨r4, g5, hf⟩ := obind hf
      refine fr_callV hx hb hml hts hown K hC hR ct_4 (c_X4_differs hfl D cA g5) 2 q7 kw348 kw345 kw346 kw347 kw24 (by decide +kernel) ⟨by exact Nat.le_of_ble_eq_true rfl, by exact Nat.le_of_ble_eq_true rfl⟩ rfl hl.1 (cat8 _ (by exact Nat.le_of_ble_eq_true rfl)) dX7_changes_25 rfl (fun H locs _ _ hC => ?_)
      refine lv_if_eq (tgt := 34) hx hb dX7_changes_28 (by decide) (fun c8 => ?_) (fun c8 => ?_)
      · replace hf := opos c8 hf
        exact w_X7_changes_L34 M hfl hno hk16 _ _ _ _ _ hf _ _ _ _ _ hC (lv_sub hl [0, 1, 2, 3] rfl)
      · replace hf := oneg c8 hf
        refine lv_iinc (v := (a3 + (1 : Int32))) (lv' := [(3, .int (a3 + (1 : Int32))), (1, .int a1), (2, .int a2), (4, va_rf a4)]) hx hb dX7_changes_31 hl (k := 2) rfl rfl (by decide) (congrArg (List.cons _) (flk rfl (flk rfl (fld rfl (flk rfl fln))))) (fun ls hl => ?_)
        exact w_X7_changes_L34 M hfl hno hk16 _ _ _ _ _ hf _ _ _ _ _ hC (lv_sub hl [1, 2, 0, 3] rfl)
set_option maxHeartbeats 4000000 in
set_option maxRecDepth 100000 in
theorem w_X7_changes_L0 {p : Program} {l : Launch} {e : Env} {s : State} {m : MethodId} {args : Array Value} {below : List Frame} {meth : Method} {c : Code} {D : va_G} {cA : Nat → ClassId} {h0 : fSt} {r : ((Int32 ⊕ Nat) × fSt)} (M : fM p s m args meth c D cA h0 { frames := 7, cells := fCB h0 - fZ h0, slots := fLB h0 - fL h0, locals := 110 } cX7_changes 5 (some (.int)) RX7) (hfl : l.stackTraces = false) (hno : ∀ x ∈ c.exceptionTable.toList, False) (a0 : Option Nat) (a1 : Int32) (a2 : Int32) (h : fSt) (hf : f_X7_changes_L0 a0 a1 a2 h = some r) : ∀ (H : Heap) (locs : List Loc) (cells slots : Nat) (ls : Array Slot), fCur D cA s h0 h H locs → lv_has ls 5 [(0, va_rf a0), (1, .int a1), (2, .int a2)] → W p l e { frames := 7, cells := fCB h0 - fZ h0, slots := fLB h0 - fL h0, locals := 110 } s m args below meth c H locs cells slots (vx_MQ below (fQX D cA h0 r.2 (rI r.1)) (fXC D cA h0 r.2 (rI r.1)) args s (fCB h0 - fZ h0) (fLB h0 - fL h0) (fA h0)) (F0 m 0 ls []) := by
  obtain ⟨hx, hb, hml, hr, hlocks, hts, hown, K, hR⟩ := id M
  intro H locs cells slots ls hC hl
  refine lv_iload_n hx hb dX7_changes_0 rfl (lv_at hl 1 rfl) ?_
  obtain ⟨⟨v11 | k12, h13⟩, g10, hf⟩ := obind hf
  · refine fr_callSX hx hb hml hts hown K hC hR (c_X7_checkTime hfl D cA g10) 1 kw151 kw149 kw150 kw23 (by decide +kernel) ⟨by exact Nat.le_of_ble_eq_true rfl, by exact Nat.le_of_ble_eq_true rfl⟩ rfl hl.1 (cat8 _ (by exact Nat.le_of_ble_eq_true rfl)) dX7_changes_1 rfl (fun H locs _ _ hC => ?_)
    refine lv_iload_n hx hb dX7_changes_4 rfl (lv_at hl 2 rfl) ?_
    obtain ⟨⟨v16 | k17, h18⟩, g15, hf⟩ := obind hf
    · refine fr_callSX hx hb hml hts hown K hC hR (c_X7_checkTime hfl D cA g15) 1 kw151 kw149 kw150 kw23 (by decide +kernel) ⟨by exact Nat.le_of_ble_eq_true rfl, by exact Nat.le_of_ble_eq_true rfl⟩ rfl hl.1 (cat8 _ (by exact Nat.le_of_ble_eq_true rfl)) dX7_changes_5 rfl (fun H locs _ _ hC => ?_)
      refine lv_iconst (v := (0 : Int32)) hx hb dX7_changes_8 (by decide) ?_
      refine lv_istore_n (lv' := [(3, .int (0 : Int32)), (0, va_rf a0), (1, .int a1), (2, .int a2)]) hx hb dX7_changes_9 rfl hl (by decide) (congrArg (List.cons _) (flk rfl (flk rfl (flk rfl fln)))) (fun ls hl => ?_)
      refine fr_aload_n hx hb dX7_changes_10 rfl (lv_at hl 1 rfl) ?_
      obtain ⟨x19, g20, hf⟩ := obind hf
      refine fr_get hx hb hts hown K hC ct_7 (fgR_get g20) (by decide) kw625 rfl dX7_changes_11 ?_
      refine fr_astore (lv' := [(4, va_rf x19), (3, .int (0 : Int32)), (0, va_rf a0), (1, .int a1), (2, .int a2)]) hx hb dX7_changes_14 hl (by decide) (congrArg (List.cons _) (flk rfl (flk rfl (flk rfl (flk rfl fln))))) (fun ls hl => ?_)
      exact w_X7_changes_L16 M hfl hno 4096 _ _ _ _ _ hf _ _ _ _ _ hC (lv_sub hl [3, 4, 1, 0] rfl)
    · obtain rfl := Option.some.inj hf
      refine fr_callST hx hb hml hts hown K hC hR (c_X7_checkTime hfl D cA g15) 1 kw151 kw149 kw150 kw23 (by decide +kernel) ⟨by exact Nat.le_of_ble_eq_true rfl, by exact Nat.le_of_ble_eq_true rfl⟩ rfl hl.1 (cat8 _ (by exact Nat.le_of_ble_eq_true rfl)) dX7_changes_5 rfl (fun H locs _ _ q ce hC e1 e2 e3 => ?_)
      exact fr_out (fun x hx9 => (hno x hx9).elim) hlocks hC e1 e2 e3
  · obtain rfl := Option.some.inj hf
    refine fr_callST hx hb hml hts hown K hC hR (c_X7_checkTime hfl D cA g10) 1 kw151 kw149 kw150 kw23 (by decide +kernel) ⟨by exact Nat.le_of_ble_eq_true rfl, by exact Nat.le_of_ble_eq_true rfl⟩ rfl hl.1 (cat8 _ (by exact Nat.le_of_ble_eq_true rfl)) dX7_changes_1 rfl (fun H locs _ _ q ce hC e1 e2 e3 => ?_)
    exact fr_out (fun x hx9 => (hno x hx9).elim) hlocks hC e1 e2 e3
set_option maxRecDepth 100000 in
theorem c_X7_changes {l : Launch} (hfl : l.stackTraces = false) (D : va_G) (cA : Nat → ClassId) {o : Nat} {p0 : Int32} {p1 : Int32} {h : fSt} {r : ((Int32 ⊕ Nat) × fSt)} (hf : f_X7_changes o p0 p1 h = some r) : fMetX l yX7_changes (wsC yX7_changes cX7_changes 5 (some (.int))) (7) (110) D cA [.ref o, .int p0, .int p1] h r.2 (rI r.1) := by
  exact fMetX.of (own := RX7) (by decide +kernel) rfl (lva1 rfl (lva1 rfl (lva1 rfl lva0))) (lgl1 rfl (lgl1 rfl (lgl1 rfl lgl0))) (Nat.le_of_ble_eq_true rfl) (fun p e s m args below meth c ls hno M hC hl => by
    have hl : lv_has ls 5 [(0, va_rf (some o)), (1, .int p0), (2, .int p1)] := hl
    exact w_X7_changes_L0 M hfl hno _ _ _ _ hf _ _ _ _ _ hC (lv_sub hl [0, 1, 2] rfl))
set_option maxHeartbeats 4000000 in
set_option maxRecDepth 100000 in
theorem w_X7_common_L16 {p : Program} {l : Launch} {e : Env} {s : State} {m : MethodId} {args : Array Value} {below : List Frame} {meth : Method} {c : Code} {D : va_G} {cA : Nat → ClassId} {h0 : fSt} {r : ((Int32 ⊕ Nat) × fSt)} (M : fM p s m args meth c D cA h0 { frames := 7, cells := fCB h0 - fZ h0, slots := fLB h0 - fL h0, locals := 112 } cX7_common 6 (some (.int)) RX7) (hfl : l.stackTraces = false) (hno : ∀ x ∈ c.exceptionTable.toList, False) : ∀ (n : Nat) (a0 : Option Nat) (a4 : Option Nat) (a5 : Option Nat) (h : fSt), f_X7_common_L16 n a0 a4 a5 h = some r → ∀ (H : Heap) (locs : List Loc) (cells slots : Nat) (ls : Array Slot), fCur D cA s h0 h H locs → lv_has ls 6 [(0, va_rf a0), (4, va_rf a4), (5, va_rf a5)] → W p l e { frames := 7, cells := fCB h0 - fZ h0, slots := fLB h0 - fL h0, locals := 112 } s m args below meth c H locs cells slots (vx_MQ below (fQX D cA h0 r.2 (rI r.1)) (fXC D cA h0 r.2 (rI r.1)) args s (fCB h0 - fZ h0) (fLB h0 - fL h0) (fA h0)) (F0 m 16 ls []) := by
  obtain ⟨hx, hb, hml, hr, hlocks, hts, hown, K, hR⟩ := id M
  intro n
  induction n with
  | zero =>
    intro a0 a4 a5 h hf
    exact nomatch (show (none : Option ((Int32 ⊕ Nat) × fSt)) = some r from hf)
  | succ n hk16 =>
    intro a0 a4 a5 h hf H locs cells slots ls hC hl
    refine fr_aload hx hb dX7_common_16 (lv_at hl 2 rfl) ?_
    refine fr_ifnull (tgt := 47) hx hb dX7_common_18 (by decide) (fun c1 => ?_) (fun c1 => ?_)
    · replace hf := opos c1 hf
      refine fr_aload_n hx hb dX7_common_47 rfl (lv_at hl 0 rfl) ?_
      obtain ⟨x2, g3, hf⟩ := obind hf
      refine fr_get hx hb hts hown K hC ct_7 (fgR_get g3) (by decide) kw619 rfl dX7_common_48 ?_
      obtain ⟨x4, g5, hf⟩ := obind hf
      refine fr_get hx hb hts hown K hC ct_4 (fgI_get g5) (by decide) kw480 rfl dX7_common_51 ?_
      obtain rfl := Option.some.inj hf
      exact fr_retQ (fr_iret hx hb hr hlocks hC dX7_common_54)
    · replace hf := oneg c1 hf
      refine fr_aload hx hb dX7_common_21 (lv_at hl 1 rfl) ?_
      refine fr_aload hx hb dX7_common_23 (lv_at hl 2 rfl) ?_
      obtain ⟨b8, q9, hf⟩ := obind hf
      obtain ⟨r6, g7, hf⟩ := obind hf
      refine fr_callV hx hb hml hts hown K hC hR ct_4 (c_X4_isWithin hfl D cA g7) 1 q9 kw144 kw141 kw142 kw143 kw24 (by decide +kernel) ⟨by exact Nat.le_of_ble_eq_true rfl, by exact Nat.le_of_ble_eq_true rfl⟩ rfl hl.1 (cat8 _ (by exact Nat.le_of_ble_eq_true rfl)) dX7_common_25 rfl (fun H locs _ _ hC => ?_)
      refine lv_if_eq (tgt := 37) hx hb dX7_common_28 (by decide) (fun c10 => ?_) (fun c10 => ?_)
      · replace hf := opos c10 hf
        refine fr_aload hx hb dX7_common_37 (lv_at hl 2 rfl) ?_
        obtain ⟨x11, g12, hf⟩ := obind hf
        refine fr_get hx hb hts hown K hC ct_4 (fgR_get g12) (by decide) kw512 rfl dX7_common_39 ?_
        refine fr_astore (lv' := [(5, va_rf x11), (0, va_rf a0), (4, va_rf a4)]) hx hb dX7_common_42 hl (by decide) (congrArg (List.cons _) (flk rfl (flk (adj1 _ _) (fld rfl fln)))) (fun ls hl => ?_)
        refine lv_goto (tgt := 16) hx hb dX7_common_44 (by decide) ?_
        exact hk16 _ _ _ _ hf _ _ _ _ _ hC (lv_sub hl [1, 2, 0] rfl)
      · replace hf := oneg c10 hf
        refine fr_aload hx hb dX7_common_31 (lv_at hl 2 rfl) ?_
        obtain ⟨x13, g14, hf⟩ := obind hf
        refine fr_get hx hb hts hown K hC ct_4 (fgI_get g14) (by decide) kw480 rfl dX7_common_33 ?_
        obtain rfl := Option.some.inj hf
        exact fr_retQ (fr_iret hx hb hr hlocks hC dX7_common_36)
set_option maxHeartbeats 4000000 in
set_option maxRecDepth 100000 in
theorem w_X7_common_L0 {p : Program} {l : Launch} {e : Env} {s : State} {m : MethodId} {args : Array Value} {below : List Frame} {meth : Method} {c : Code} {D : va_G} {cA : Nat → ClassId} {h0 : fSt} {r : ((Int32 ⊕ Nat) × fSt)} (M : fM p s m args meth c D cA h0 { frames := 7, cells := fCB h0 - fZ h0, slots := fLB h0 - fL h0, locals := 112 } cX7_common 6 (some (.int)) RX7) (hfl : l.stackTraces = false) (hno : ∀ x ∈ c.exceptionTable.toList, False) (a0 : Option Nat) (a1 : Int32) (a2 : Int32) (h : fSt) (hf : f_X7_common_L0 a0 a1 a2 h = some r) : ∀ (H : Heap) (locs : List Loc) (cells slots : Nat) (ls : Array Slot), fCur D cA s h0 h H locs → lv_has ls 6 [(0, va_rf a0), (1, .int a1), (2, .int a2)] → W p l e { frames := 7, cells := fCB h0 - fZ h0, slots := fLB h0 - fL h0, locals := 112 } s m args below meth c H locs cells slots (vx_MQ below (fQX D cA h0 r.2 (rI r.1)) (fXC D cA h0 r.2 (rI r.1)) args s (fCB h0 - fZ h0) (fLB h0 - fL h0) (fA h0)) (F0 m 0 ls []) := by
  obtain ⟨hx, hb, hml, hr, hlocks, hts, hown, K, hR⟩ := id M
  intro H locs cells slots ls hC hl
  refine fr_aload_n hx hb dX7_common_0 rfl (lv_at hl 0 rfl) ?_
  refine lv_iload_n hx hb dX7_common_1 rfl (lv_at hl 1 rfl) ?_
  obtain ⟨b17, q18, hf⟩ := obind hf
  obtain ⟨⟨v19 | k20, h21⟩, g16, hf⟩ := obind hf
  · refine fr_callVX hx hb hml hts hown K hC hR ct_7 (c_X7_found hfl D cA g16) 1 q18 kw51 kw47 kw49 kw0 kw23 (by decide +kernel) ⟨by exact Nat.le_of_ble_eq_true rfl, by exact Nat.le_of_ble_eq_true rfl⟩ rfl hl.1 (cat8 _ (by exact Nat.le_of_ble_eq_true rfl)) dX7_common_2 rfl (fun H locs _ _ hC => ?_)
    refine fr_astore_n (lv' := [(3, va_rf v19), (0, va_rf a0), (1, .int a1), (2, .int a2)]) hx hb dX7_common_5 rfl hl (by decide) (congrArg (List.cons _) (flk rfl (flk rfl (flk rfl fln)))) (fun ls hl => ?_)
    refine fr_aload_n hx hb dX7_common_6 rfl (lv_at hl 1 rfl) ?_
    refine lv_iload_n hx hb dX7_common_7 rfl (lv_at hl 3 rfl) ?_
    obtain ⟨b24, q25, hf⟩ := obind hf
    obtain ⟨⟨v26 | k27, h28⟩, g23, hf⟩ := obind hf
    · refine fr_callVX hx hb hml hts hown K hC hR ct_7 (c_X7_found hfl D cA g23) 1 q25 kw51 kw47 kw49 kw0 kw23 (by decide +kernel) ⟨by exact Nat.le_of_ble_eq_true rfl, by exact Nat.le_of_ble_eq_true rfl⟩ rfl hl.1 (cat8 _ (by exact Nat.le_of_ble_eq_true rfl)) dX7_common_8 rfl (fun H locs _ _ hC => ?_)
      refine fr_astore (lv' := [(4, va_rf v26), (3, va_rf v19), (0, va_rf a0), (1, .int a1), (2, .int a2)]) hx hb dX7_common_11 hl (by decide) (congrArg (List.cons _) (flk (adj1 _ _) (flk rfl (flk rfl (flk rfl fln))))) (fun ls hl => ?_)
      refine fr_aload_n hx hb dX7_common_13 rfl (lv_at hl 1 rfl) ?_
      refine fr_astore (lv' := [(5, va_rf v19), (4, va_rf v26), (3, va_rf v19), (0, va_rf a0), (1, .int a1), (2, .int a2)]) hx hb dX7_common_14 hl (by decide) (congrArg (List.cons _) (flk (adj1 _ _) (flk rfl (flk rfl (flk rfl (flk rfl fln)))))) (fun ls hl => ?_)
      exact w_X7_common_L16 M hfl hno 4096 _ _ _ _ hf _ _ _ _ _ hC (lv_sub hl [3, 1, 0] rfl)
    · obtain rfl := Option.some.inj hf
      refine fr_callVT hx hb hml hts hown K hC hR ct_7 (c_X7_found hfl D cA g23) 1 q25 kw51 kw47 kw49 kw0 kw23 (by decide +kernel) ⟨by exact Nat.le_of_ble_eq_true rfl, by exact Nat.le_of_ble_eq_true rfl⟩ rfl hl.1 (cat8 _ (by exact Nat.le_of_ble_eq_true rfl)) dX7_common_8 rfl (fun H locs _ _ q ce hC e1 e2 e3 => ?_)
      exact fr_out (fun x hx9 => (hno x hx9).elim) hlocks hC e1 e2 e3
  · obtain rfl := Option.some.inj hf
    refine fr_callVT hx hb hml hts hown K hC hR ct_7 (c_X7_found hfl D cA g16) 1 q18 kw51 kw47 kw49 kw0 kw23 (by decide +kernel) ⟨by exact Nat.le_of_ble_eq_true rfl, by exact Nat.le_of_ble_eq_true rfl⟩ rfl hl.1 (cat8 _ (by exact Nat.le_of_ble_eq_true rfl)) dX7_common_2 rfl (fun H locs _ _ q ce hC e1 e2 e3 => ?_)
    exact fr_out (fun x hx9 => (hno x hx9).elim) hlocks hC e1 e2 e3
set_option maxRecDepth 100000 in
theorem c_X7_common {l : Launch} (hfl : l.stackTraces = false) (D : va_G) (cA : Nat → ClassId) {o : Nat} {p0 : Int32} {p1 : Int32} {h : fSt} {r : ((Int32 ⊕ Nat) × fSt)} (hf : f_X7_common o p0 p1 h = some r) : fMetX l yX7_common (wsC yX7_common cX7_common 6 (some (.int))) (7) (112) D cA [.ref o, .int p0, .int p1] h r.2 (rI r.1) := by
  exact fMetX.of (own := RX7) (by decide +kernel) rfl (lva1 rfl (lva1 rfl (lva1 rfl lva0))) (lgl1 rfl (lgl1 rfl (lgl1 rfl lgl0))) (Nat.le_of_ble_eq_true rfl) (fun p e s m args below meth c ls hno M hC hl => by
    have hl : lv_has ls 6 [(0, va_rf (some o)), (1, .int p0), (2, .int p1)] := hl
    exact w_X7_common_L0 M hfl hno _ _ _ _ hf _ _ _ _ _ hC (lv_sub hl [0, 1, 2] rfl))
set_option maxHeartbeats 4000000 in
set_option maxRecDepth 100000 in
theorem w_X7_checkSpot_L26 {p : Program} {l : Launch} {e : Env} {s : State} {m : MethodId} {args : Array Value} {below : List Frame} {meth : Method} {c : Code} {D : va_G} {cA : Nat → ClassId} {h0 : fSt} {r : ((Unit ⊕ Nat) × fSt)} (M : fM p s m args meth c D cA h0 { frames := 6, cells := fCB h0 - fZ h0, slots := fLB h0 - fL h0, locals := 90 } cX7_checkSpot 3 none RX7) (hfl : l.stackTraces = false) (hno : ∀ x ∈ c.exceptionTable.toList, False)  (h : fSt) (hf : f_X7_checkSpot_L26  h = some r) : ∀ (H : Heap) (locs : List Loc) (cells slots : Nat) (ls : Array Slot), fCur D cA s h0 h H locs → lv_has ls 3 [] → W p l e { frames := 6, cells := fCB h0 - fZ h0, slots := fLB h0 - fL h0, locals := 90 } s m args below meth c H locs cells slots (vx_MQ below (fQX D cA h0 r.2 (rV r.1)) (fXC D cA h0 r.2 (rV r.1)) args s (fCB h0 - fZ h0) (fLB h0 - fL h0) (fA h0)) (F0 m 26 ls []) := by
  obtain ⟨hx, hb, hml, hr, hlocks, hts, hown, K, hR⟩ := id M
  intro H locs cells slots ls hC hl
  obtain ⟨h1, g2, hf⟩ := obind hf
  obtain rfl := Option.some.inj hf
  exact fr_throwSW hx hb hml hts hfl hown K hC hR th_RX7_60_64_1 st_RX7_355 hl.1 dX7_checkSpot_26 dX7_checkSpot_29 dX7_checkSpot_30 dX7_checkSpot_33 dX7_checkSpot_36 hno (by exact Nat.le_of_ble_eq_true rfl) (catL _ _ (by exact Nat.le_of_ble_eq_true rfl) (by exact Nat.le_of_ble_eq_true rfl)) hlocks g2
set_option maxHeartbeats 4000000 in
set_option maxRecDepth 100000 in
theorem w_X7_checkSpot_L0 {p : Program} {l : Launch} {e : Env} {s : State} {m : MethodId} {args : Array Value} {below : List Frame} {meth : Method} {c : Code} {D : va_G} {cA : Nat → ClassId} {h0 : fSt} {r : ((Unit ⊕ Nat) × fSt)} (M : fM p s m args meth c D cA h0 { frames := 6, cells := fCB h0 - fZ h0, slots := fLB h0 - fL h0, locals := 90 } cX7_checkSpot 3 none RX7) (hfl : l.stackTraces = false) (hno : ∀ x ∈ c.exceptionTable.toList, False) (a0 : Int32) (a1 : Int32) (a2 : Int32) (h : fSt) (hf : f_X7_checkSpot_L0 a0 a1 a2 h = some r) : ∀ (H : Heap) (locs : List Loc) (cells slots : Nat) (ls : Array Slot), fCur D cA s h0 h H locs → lv_has ls 3 [(0, .int a0), (1, .int a1), (2, .int a2)] → W p l e { frames := 6, cells := fCB h0 - fZ h0, slots := fLB h0 - fL h0, locals := 90 } s m args below meth c H locs cells slots (vx_MQ below (fQX D cA h0 r.2 (rV r.1)) (fXC D cA h0 r.2 (rV r.1)) args s (fCB h0 - fZ h0) (fLB h0 - fL h0) (fA h0)) (F0 m 0 ls []) := by
  obtain ⟨hx, hb, hml, hr, hlocks, hts, hown, K, hR⟩ := id M
  intro H locs cells slots ls hC hl
  refine lv_iload_n hx hb dX7_checkSpot_0 rfl (lv_at hl 0 rfl) ?_
  refine lv_sipush (v := (-10000 : Int32)) hx hb dX7_checkSpot_1 (by decide) ?_
  refine lv_sipush (v := (10000 : Int32)) hx hb dX7_checkSpot_4 (by decide) ?_
  obtain ⟨r3, g4, hf⟩ := obind hf
  refine fr_callS hx hb hml hts hown K hC hR (c_X7_isFrom hfl D cA g4) 3 kw154 kw152 kw153 kw23 (by decide +kernel) ⟨by exact Nat.le_of_ble_eq_true rfl, by exact Nat.le_of_ble_eq_true rfl⟩ rfl hl.1 (cat8 _ (by exact Nat.le_of_ble_eq_true rfl)) dX7_checkSpot_7 rfl (fun H locs _ _ hC => ?_)
  refine lv_if_eq (tgt := 26) hx hb dX7_checkSpot_10 (by decide) (fun c5 => ?_) (fun c5 => ?_)
  · replace hf := opos c5 hf
    exact w_X7_checkSpot_L26 M hfl hno _ hf _ _ _ _ _ hC (lv_sub hl [] rfl)
  · replace hf := oneg c5 hf
    refine lv_iload_n hx hb dX7_checkSpot_13 rfl (lv_at hl 1 rfl) ?_
    refine lv_sipush (v := (-10000 : Int32)) hx hb dX7_checkSpot_14 (by decide) ?_
    refine lv_sipush (v := (10000 : Int32)) hx hb dX7_checkSpot_17 (by decide) ?_
    obtain ⟨r6, g7, hf⟩ := obind hf
    refine fr_callS hx hb hml hts hown K hC hR (c_X7_isFrom hfl D cA g7) 3 kw154 kw152 kw153 kw23 (by decide +kernel) ⟨by exact Nat.le_of_ble_eq_true rfl, by exact Nat.le_of_ble_eq_true rfl⟩ rfl hl.1 (cat8 _ (by exact Nat.le_of_ble_eq_true rfl)) dX7_checkSpot_20 rfl (fun H locs _ _ hC => ?_)
    refine lv_if_ne (tgt := 37) hx hb dX7_checkSpot_23 (by decide) (fun c8 => ?_) (fun c8 => ?_)
    · replace hf := oneg c8 hf
      refine lv_iload_n hx hb dX7_checkSpot_37 rfl (lv_at hl 2 rfl) ?_
      refine lv_iconst (v := (1 : Int32)) hx hb dX7_checkSpot_38 (by decide) ?_
      refine lv_bipush (v := (60 : Int32)) hx hb dX7_checkSpot_39 (by decide) ?_
      obtain ⟨r9, g10, hf⟩ := obind hf
      refine fr_callS hx hb hml hts hown K hC hR (c_X7_isFrom hfl D cA g10) 3 kw154 kw152 kw153 kw23 (by decide +kernel) ⟨by exact Nat.le_of_ble_eq_true rfl, by exact Nat.le_of_ble_eq_true rfl⟩ rfl hl.1 (cat8 _ (by exact Nat.le_of_ble_eq_true rfl)) dX7_checkSpot_41 rfl (fun H locs _ _ hC => ?_)
      refine lv_if_ne (tgt := 58) hx hb dX7_checkSpot_44 (by decide) (fun c11 => ?_) (fun c11 => ?_)
      · replace hf := oneg c11 hf
        obtain rfl := Option.some.inj hf
        exact fr_retQ (fr_vret hx hb hr hlocks hC dX7_checkSpot_58)
      · replace hf := opos c11 hf
        obtain ⟨h12, g13, hf⟩ := obind hf
        obtain rfl := Option.some.inj hf
        exact fr_throwSW hx hb hml hts hfl hown K hC hR th_RX7_60_64_1 st_RX7_357 hl.1 dX7_checkSpot_47 dX7_checkSpot_50 dX7_checkSpot_51 dX7_checkSpot_54 dX7_checkSpot_57 hno (by exact Nat.le_of_ble_eq_true rfl) (catL _ _ (by exact Nat.le_of_ble_eq_true rfl) (by exact Nat.le_of_ble_eq_true rfl)) hlocks g13
    · replace hf := opos c8 hf
      exact w_X7_checkSpot_L26 M hfl hno _ hf _ _ _ _ _ hC (lv_sub hl [] rfl)
set_option maxRecDepth 100000 in
theorem c_X7_checkSpot {l : Launch} (hfl : l.stackTraces = false) (D : va_G) (cA : Nat → ClassId) {p0 : Int32} {p1 : Int32} {p2 : Int32} {h : fSt} {r : ((Unit ⊕ Nat) × fSt)} (hf : f_X7_checkSpot p0 p1 p2 h = some r) : fMetX l yX7_checkSpot (wsC yX7_checkSpot cX7_checkSpot 3 none) (6) (90) D cA [.int p0, .int p1, .int p2] h r.2 (rV r.1) := by
  exact fMetX.of (own := RX7) (by decide +kernel) rfl (lva1 rfl (lva1 rfl (lva1 rfl lva0))) (lgl1 rfl (lgl1 rfl (lgl1 rfl lgl0))) (Nat.le_of_ble_eq_true rfl) (fun p e s m args below meth c ls hno M hC hl => by
    have hl : lv_has ls 3 [(0, .int p0), (1, .int p1), (2, .int p2)] := hl
    exact w_X7_checkSpot_L0 M hfl hno _ _ _ _ hf _ _ _ _ _ hC (lv_sub hl [0, 1, 2] rfl))
set_option maxHeartbeats 4000000 in
set_option maxRecDepth 100000 in
theorem w_X2_isAheadOfSlope_L46 {p : Program} {l : Launch} {e : Env} {s : State} {m : MethodId} {args : Array Value} {below : List Frame} {meth : Method} {c : Code} {D : va_G} {cA : Nat → ClassId} {h0 : fSt} {r : (Int32 × fSt)} (M : fM p s m args meth c D cA h0 { frames := 0, cells := fCB h0 - fZ h0, slots := fLB h0 - fL h0, locals := 0 } cX2_isAheadOfSlope 2 (some (.boolean)) RX2) (hfl : l.stackTraces = false) (s0 : Int32) (h : fSt) (hf : f_X2_isAheadOfSlope_L46 s0 h = some r) : ∀ (H : Heap) (locs : List Loc) (cells slots : Nat) (ls : Array Slot), fCur D cA s h0 h H locs → lv_has ls 2 [] → W p l e { frames := 0, cells := fCB h0 - fZ h0, slots := fLB h0 - fL h0, locals := 0 } s m args below meth c H locs cells slots (MQ below (fQ D cA h0 r.2 (some (.int r.1))) args s (fCB h0 - fZ h0) (fLB h0 - fL h0) (fA h0)) (F0 m 46 ls [.int s0]) := by
  obtain ⟨hx, hb, hml, hr, hlocks, hts, hown, K, hR⟩ := id M
  intro H locs cells slots ls hC hl
  by_cases c1 : s0 = 0 ∨ s0 = 1
  rotate_left
  · exact nomatch (oneg c1 hf)
  obtain rfl := Option.some.inj (opos c1 hf)
  exact fr_zret hx hb hr hlocks hC c1 dX2_isAheadOfSlope_46
set_option maxHeartbeats 4000000 in
set_option maxRecDepth 100000 in
theorem w_X2_isAheadOfSlope_L0 {p : Program} {l : Launch} {e : Env} {s : State} {m : MethodId} {args : Array Value} {below : List Frame} {meth : Method} {c : Code} {D : va_G} {cA : Nat → ClassId} {h0 : fSt} {r : (Int32 × fSt)} (M : fM p s m args meth c D cA h0 { frames := 0, cells := fCB h0 - fZ h0, slots := fLB h0 - fL h0, locals := 0 } cX2_isAheadOfSlope 2 (some (.boolean)) RX2) (hfl : l.stackTraces = false) (a0 : Option Nat) (a1 : Option Nat) (h : fSt) (hf : f_X2_isAheadOfSlope_L0 a0 a1 h = some r) : ∀ (H : Heap) (locs : List Loc) (cells slots : Nat) (ls : Array Slot), fCur D cA s h0 h H locs → lv_has ls 2 [(0, va_rf a0), (1, va_rf a1)] → W p l e { frames := 0, cells := fCB h0 - fZ h0, slots := fLB h0 - fL h0, locals := 0 } s m args below meth c H locs cells slots (MQ below (fQ D cA h0 r.2 (some (.int r.1))) args s (fCB h0 - fZ h0) (fLB h0 - fL h0) (fA h0)) (F0 m 0 ls []) := by
  obtain ⟨hx, hb, hml, hr, hlocks, hts, hown, K, hR⟩ := id M
  intro H locs cells slots ls hC hl
  refine fr_aload_n hx hb dX2_isAheadOfSlope_0 rfl (lv_at hl 1 rfl) ?_
  obtain ⟨x2, g3, hf⟩ := obind hf
  refine fr_get hx hb hts hown K hC ct_5 (fgJ_get g3) (by decide) kw563 rfl dX2_isAheadOfSlope_1 ?_
  refine fr_aload_n hx hb dX2_isAheadOfSlope_4 rfl (lv_at hl 0 rfl) ?_
  obtain ⟨x4, g5, hf⟩ := obind hf
  refine fr_get hx hb hts hown K hC ct_2 (fgI_get g5) (by decide) kw468 rfl dX2_isAheadOfSlope_5 ?_
  refine lv_i2l (v := (Int32.toInt64 x4)) hx hb dX2_isAheadOfSlope_8 rfl ?_
  refine lv_lmul hx hb dX2_isAheadOfSlope_9 ?_
  refine fr_aload_n hx hb dX2_isAheadOfSlope_10 rfl (lv_at hl 1 rfl) ?_
  obtain ⟨x6, g7, hf⟩ := obind hf
  refine fr_get hx hb hts hown K hC ct_5 (fgJ_get g7) (by decide) kw567 rfl dX2_isAheadOfSlope_11 ?_
  refine fr_aload_n hx hb dX2_isAheadOfSlope_14 rfl (lv_at hl 0 rfl) ?_
  obtain ⟨x8, g9, hf⟩ := obind hf
  refine fr_get hx hb hts hown K hC ct_2 (fgI_get g9) (by decide) kw466 rfl dX2_isAheadOfSlope_15 ?_
  refine lv_i2l (v := (Int32.toInt64 x8)) hx hb dX2_isAheadOfSlope_18 rfl ?_
  refine lv_lmul hx hb dX2_isAheadOfSlope_19 ?_
  refine lv_ladd hx hb dX2_isAheadOfSlope_20 ?_
  refine fr_aload_n hx hb dX2_isAheadOfSlope_21 rfl (lv_at hl 1 rfl) ?_
  obtain ⟨x10, g11, hf⟩ := obind hf
  refine fr_get hx hb hts hown K hC ct_5 (fgJ_get g11) (by decide) kw570 rfl dX2_isAheadOfSlope_22 ?_
  refine fr_aload_n hx hb dX2_isAheadOfSlope_25 rfl (lv_at hl 0 rfl) ?_
  obtain ⟨x12, g13, hf⟩ := obind hf
  refine fr_get hx hb hts hown K hC ct_2 (fgI_get g13) (by decide) kw466 rfl dX2_isAheadOfSlope_26 ?_
  refine lv_i2l (v := (Int32.toInt64 x12)) hx hb dX2_isAheadOfSlope_29 rfl ?_
  refine lv_lmul hx hb dX2_isAheadOfSlope_30 ?_
  refine fr_aload_n hx hb dX2_isAheadOfSlope_31 rfl (lv_at hl 0 rfl) ?_
  obtain ⟨x14, g15, hf⟩ := obind hf
  refine fr_get hx hb hts hown K hC ct_2 (fgI_get g15) (by decide) kw468 rfl dX2_isAheadOfSlope_32 ?_
  refine lv_i2l (v := (Int32.toInt64 x14)) hx hb dX2_isAheadOfSlope_35 rfl ?_
  refine lv_lmul hx hb dX2_isAheadOfSlope_36 ?_
  refine fr_lcmp_gt (tgt := 45) hx hb dX2_isAheadOfSlope_37 dX2_isAheadOfSlope_38 (by decide) (fun c16 => ?_) (fun c16 => ?_)
  · replace hf := opos c16 hf
    refine lv_iconst (v := (0 : Int32)) hx hb dX2_isAheadOfSlope_45 (by decide) ?_
    exact w_X2_isAheadOfSlope_L46 M hfl _ _ hf _ _ _ _ _ hC (lv_sub hl [] rfl)
  · replace hf := oneg c16 hf
    refine lv_iconst (v := (1 : Int32)) hx hb dX2_isAheadOfSlope_41 (by decide) ?_
    refine lv_goto (tgt := 46) hx hb dX2_isAheadOfSlope_42 (by decide) ?_
    exact w_X2_isAheadOfSlope_L46 M hfl _ _ hf _ _ _ _ _ hC (lv_sub hl [] rfl)
set_option maxRecDepth 100000 in
theorem c_X2_isAheadOfSlope {l : Launch} (hfl : l.stackTraces = false) (D : va_G) (cA : Nat → ClassId) {o : Nat} {p0 : Option Nat} {h : fSt} {r : (Int32 × fSt)} (hf : f_X2_isAheadOfSlope o p0 h = some r) : fMet l yX2_isAheadOfSlope (wsC yX2_isAheadOfSlope cX2_isAheadOfSlope 2 (some (.boolean))) (0) (0) D cA [.ref o, va_rf p0] h r.2 (some (.int r.1)) := by
  exact fMet.of (own := RX2) (by decide +kernel) rfl (lva1 rfl (lva1 (va_rf_cat _) lva0)) (lgl1 rfl (lgl1 (va_rf_cat _) lgl0)) (Nat.le_of_ble_eq_true rfl) (fun p e s m args below meth c ls hnm _ M hC hl => by
    have hl : lv_has ls 2 [(0, va_rf (some o)), (1, va_rf p0)] := hl
    exact w_X2_isAheadOfSlope_L0 M hfl _ _ _ hf _ _ _ _ _ hC (lv_sub hl [0, 1] rfl))
set_option maxHeartbeats 4000000 in
set_option maxRecDepth 100000 in
theorem w_X4_owns_L42 {p : Program} {l : Launch} {e : Env} {s : State} {m : MethodId} {args : Array Value} {below : List Frame} {meth : Method} {c : Code} {D : va_G} {cA : Nat → ClassId} {h0 : fSt} {r : (Int32 × fSt)} (M : fM p s m args meth c D cA h0 { frames := 1, cells := fCB h0 - fZ h0, slots := fLB h0 - fL h0, locals := 21 } cX4_owns 2 (some (.boolean)) RX4) (hfl : l.stackTraces = false) (s0 : Int32) (h : fSt) (hf : f_X4_owns_L42 s0 h = some r) : ∀ (H : Heap) (locs : List Loc) (cells slots : Nat) (ls : Array Slot), fCur D cA s h0 h H locs → lv_has ls 2 [] → W p l e { frames := 1, cells := fCB h0 - fZ h0, slots := fLB h0 - fL h0, locals := 21 } s m args below meth c H locs cells slots (MQ below (fQ D cA h0 r.2 (some (.int r.1))) args s (fCB h0 - fZ h0) (fLB h0 - fL h0) (fA h0)) (F0 m 42 ls [.int s0]) := by
  obtain ⟨hx, hb, hml, hr, hlocks, hts, hown, K, hR⟩ := id M
  intro H locs cells slots ls hC hl
  by_cases c1 : s0 = 0 ∨ s0 = 1
  rotate_left
  · exact nomatch (oneg c1 hf)
  obtain rfl := Option.some.inj (opos c1 hf)
  exact fr_zret hx hb hr hlocks hC c1 dX4_owns_42
set_option maxHeartbeats 4000000 in
set_option maxRecDepth 100000 in
theorem w_X4_owns_L37 {p : Program} {l : Launch} {e : Env} {s : State} {m : MethodId} {args : Array Value} {below : List Frame} {meth : Method} {c : Code} {D : va_G} {cA : Nat → ClassId} {h0 : fSt} {r : (Int32 × fSt)} (M : fM p s m args meth c D cA h0 { frames := 1, cells := fCB h0 - fZ h0, slots := fLB h0 - fL h0, locals := 21 } cX4_owns 2 (some (.boolean)) RX4) (hfl : l.stackTraces = false)  (h : fSt) (hf : f_X4_owns_L37  h = some r) : ∀ (H : Heap) (locs : List Loc) (cells slots : Nat) (ls : Array Slot), fCur D cA s h0 h H locs → lv_has ls 2 [] → W p l e { frames := 1, cells := fCB h0 - fZ h0, slots := fLB h0 - fL h0, locals := 21 } s m args below meth c H locs cells slots (MQ below (fQ D cA h0 r.2 (some (.int r.1))) args s (fCB h0 - fZ h0) (fLB h0 - fL h0) (fA h0)) (F0 m 37 ls []) := by
  obtain ⟨hx, hb, hml, hr, hlocks, hts, hown, K, hR⟩ := id M
  intro H locs cells slots ls hC hl
  refine lv_iconst (v := (1 : Int32)) hx hb dX4_owns_37 (by decide) ?_
  refine lv_goto (tgt := 42) hx hb dX4_owns_38 (by decide) ?_
  exact w_X4_owns_L42 M hfl _ _ hf _ _ _ _ _ hC (lv_sub hl [] rfl)
set_option maxHeartbeats 4000000 in
set_option maxRecDepth 100000 in
theorem w_X4_owns_L41 {p : Program} {l : Launch} {e : Env} {s : State} {m : MethodId} {args : Array Value} {below : List Frame} {meth : Method} {c : Code} {D : va_G} {cA : Nat → ClassId} {h0 : fSt} {r : (Int32 × fSt)} (M : fM p s m args meth c D cA h0 { frames := 1, cells := fCB h0 - fZ h0, slots := fLB h0 - fL h0, locals := 21 } cX4_owns 2 (some (.boolean)) RX4) (hfl : l.stackTraces = false)  (h : fSt) (hf : f_X4_owns_L41  h = some r) : ∀ (H : Heap) (locs : List Loc) (cells slots : Nat) (ls : Array Slot), fCur D cA s h0 h H locs → lv_has ls 2 [] → W p l e { frames := 1, cells := fCB h0 - fZ h0, slots := fLB h0 - fL h0, locals := 21 } s m args below meth c H locs cells slots (MQ below (fQ D cA h0 r.2 (some (.int r.1))) args s (fCB h0 - fZ h0) (fLB h0 - fL h0) (fA h0)) (F0 m 41 ls []) := by
  obtain ⟨hx, hb, hml, hr, hlocks, hts, hown, K, hR⟩ := id M
  intro H locs cells slots ls hC hl
  refine lv_iconst (v := (0 : Int32)) hx hb dX4_owns_41 (by decide) ?_
  exact w_X4_owns_L42 M hfl _ _ hf _ _ _ _ _ hC (lv_sub hl [] rfl)
set_option maxHeartbeats 4000000 in
set_option maxRecDepth 100000 in
theorem w_X4_owns_L0 {p : Program} {l : Launch} {e : Env} {s : State} {m : MethodId} {args : Array Value} {below : List Frame} {meth : Method} {c : Code} {D : va_G} {cA : Nat → ClassId} {h0 : fSt} {r : (Int32 × fSt)} (M : fM p s m args meth c D cA h0 { frames := 1, cells := fCB h0 - fZ h0, slots := fLB h0 - fL h0, locals := 21 } cX4_owns 2 (some (.boolean)) RX4) (hfl : l.stackTraces = false) (a0 : Option Nat) (a1 : Option Nat) (h : fSt) (hf : f_X4_owns_L0 a0 a1 h = some r) : ∀ (H : Heap) (locs : List Loc) (cells slots : Nat) (ls : Array Slot), fCur D cA s h0 h H locs → lv_has ls 2 [(0, va_rf a0), (1, va_rf a1)] → W p l e { frames := 1, cells := fCB h0 - fZ h0, slots := fLB h0 - fL h0, locals := 21 } s m args below meth c H locs cells slots (MQ below (fQ D cA h0 r.2 (some (.int r.1))) args s (fCB h0 - fZ h0) (fLB h0 - fL h0) (fA h0)) (F0 m 0 ls []) := by
  obtain ⟨hx, hb, hml, hr, hlocks, hts, hown, K, hR⟩ := id M
  intro H locs cells slots ls hC hl
  refine fr_aload_n hx hb dX4_owns_0 rfl (lv_at hl 0 rfl) ?_
  obtain ⟨x2, g3, hf⟩ := obind hf
  refine fr_get hx hb hts hown K hC ct_4 (fgI_get g3) (by decide) kw481 rfl dX4_owns_1 ?_
  refine lv_if_eq (tgt := 41) hx hb dX4_owns_4 (by decide) (fun c4 => ?_) (fun c4 => ?_)
  · replace hf := opos c4 hf
    exact w_X4_owns_L41 M hfl _ hf _ _ _ _ _ hC (lv_sub hl [] rfl)
  · replace hf := oneg c4 hf
    refine fr_aload_n hx hb dX4_owns_7 rfl (lv_at hl 0 rfl) ?_
    obtain ⟨x5, g6, hf⟩ := obind hf
    refine fr_get hx hb hts hown K hC ct_4 (fgR_get g6) (by decide) kw483 rfl dX4_owns_8 ?_
    refine fr_aload_n hx hb dX4_owns_11 rfl (lv_at hl 1 rfl) ?_
    obtain ⟨b9, q10, hf⟩ := obind hf
    obtain ⟨r7, g8, hf⟩ := obind hf
    refine fr_callV hx hb hml hts hown K hC hR ct_2 (c_X2_holds hfl D cA g8) 1 q10 kw237 kw320 kw235 kw236 kw26 (by decide +kernel) ⟨by exact Nat.le_of_ble_eq_true rfl, by exact Nat.le_of_ble_eq_true rfl⟩ rfl hl.1 (cat8 _ (by exact Nat.le_of_ble_eq_true rfl)) dX4_owns_12 rfl (fun H locs _ _ hC => ?_)
    refine lv_if_eq (tgt := 41) hx hb dX4_owns_15 (by decide) (fun c11 => ?_) (fun c11 => ?_)
    · replace hf := opos c11 hf
      exact w_X4_owns_L41 M hfl _ hf _ _ _ _ _ hC (lv_sub hl [] rfl)
    · replace hf := oneg c11 hf
      refine fr_aload_n hx hb dX4_owns_18 rfl (lv_at hl 0 rfl) ?_
      obtain ⟨x12, g13, hf⟩ := obind hf
      refine fr_get hx hb hts hown K hC ct_4 (fgI_get g13) (by decide) kw481 rfl dX4_owns_19 ?_
      refine lv_iconst (v := (1 : Int32)) hx hb dX4_owns_22 (by decide) ?_
      refine lv_icmp_eq (tgt := 37) hx hb dX4_owns_23 (by decide) (fun c14 => ?_) (fun c14 => ?_)
      · replace hf := opos c14 hf
        exact w_X4_owns_L37 M hfl _ hf _ _ _ _ _ hC (lv_sub hl [] rfl)
      · replace hf := oneg c14 hf
        refine fr_aload_n hx hb dX4_owns_26 rfl (lv_at hl 0 rfl) ?_
        obtain ⟨x15, g16, hf⟩ := obind hf
        refine fr_get hx hb hts hown K hC ct_4 (fgR_get g16) (by decide) kw483 rfl dX4_owns_27 ?_
        refine fr_aload_n hx hb dX4_owns_30 rfl (lv_at hl 1 rfl) ?_
        obtain ⟨b19, q20, hf⟩ := obind hf
        obtain ⟨r17, g18, hf⟩ := obind hf
        refine fr_callV hx hb hml hts hown K hC hR ct_2 (c_X2_isAheadOfSlope hfl D cA g18) 1 q20 kw324 kw321 kw322 kw323 kw26 (by decide +kernel) ⟨by exact Nat.le_of_ble_eq_true rfl, by exact Nat.le_of_ble_eq_true rfl⟩ rfl hl.1 (cat8 _ (by exact Nat.le_of_ble_eq_true rfl)) dX4_owns_31 rfl (fun H locs _ _ hC => ?_)
        refine lv_if_eq (tgt := 41) hx hb dX4_owns_34 (by decide) (fun c21 => ?_) (fun c21 => ?_)
        · replace hf := opos c21 hf
          exact w_X4_owns_L41 M hfl _ hf _ _ _ _ _ hC (lv_sub hl [] rfl)
        · replace hf := oneg c21 hf
          exact w_X4_owns_L37 M hfl _ hf _ _ _ _ _ hC (lv_sub hl [] rfl)
set_option maxRecDepth 100000 in
theorem c_X4_owns {l : Launch} (hfl : l.stackTraces = false) (D : va_G) (cA : Nat → ClassId) {o : Nat} {p0 : Option Nat} {h : fSt} {r : (Int32 × fSt)} (hf : f_X4_owns o p0 h = some r) : fMet l yX4_owns (wsC yX4_owns cX4_owns 2 (some (.boolean))) (1) (21) D cA [.ref o, va_rf p0] h r.2 (some (.int r.1)) := by
  exact fMet.of (own := RX4) (by decide +kernel) rfl (lva1 rfl (lva1 (va_rf_cat _) lva0)) (lgl1 rfl (lgl1 (va_rf_cat _) lgl0)) (Nat.le_of_ble_eq_true rfl) (fun p e s m args below meth c ls hnm _ M hC hl => by
    have hl : lv_has ls 2 [(0, va_rf (some o)), (1, va_rf p0)] := hl
    exact w_X4_owns_L0 M hfl _ _ _ hf _ _ _ _ _ hC (lv_sub hl [0, 1] rfl))
set_option maxHeartbeats 4000000 in
set_option maxRecDepth 100000 in
theorem w_X7_coversAt_L16 {p : Program} {l : Launch} {e : Env} {s : State} {m : MethodId} {args : Array Value} {below : List Frame} {meth : Method} {c : Code} {D : va_G} {cA : Nat → ClassId} {h0 : fSt} {r : (Int32 × fSt)} (M : fM p s m args meth c D cA h0 { frames := 25, cells := fCB h0 - fZ h0, slots := fLB h0 - fL h0, locals := 615 } cX7_coversAt 6 (some (.boolean)) RX7) (hfl : l.stackTraces = false)  (h : fSt) (hf : f_X7_coversAt_L16  h = some r) : ∀ (H : Heap) (locs : List Loc) (cells slots : Nat) (ls : Array Slot), fCur D cA s h0 h H locs → lv_has ls 6 [] → W p l e { frames := 25, cells := fCB h0 - fZ h0, slots := fLB h0 - fL h0, locals := 615 } s m args below meth c H locs cells slots (MQ below (fQ D cA h0 r.2 (some (.int r.1))) args s (fCB h0 - fZ h0) (fLB h0 - fL h0) (fA h0)) (F0 m 16 ls []) := by
  obtain ⟨hx, hb, hml, hr, hlocks, hts, hown, K, hR⟩ := id M
  intro H locs cells slots ls hC hl
  refine lv_iconst (v := (0 : Int32)) hx hb dX7_coversAt_16 (by decide) ?_
  obtain rfl := Option.some.inj hf
  exact fr_zret hx hb hr hlocks hC (Or.inl rfl) dX7_coversAt_17
set_option maxHeartbeats 4000000 in
set_option maxRecDepth 100000 in
theorem w_X7_coversAt_L69 {p : Program} {l : Launch} {e : Env} {s : State} {m : MethodId} {args : Array Value} {below : List Frame} {meth : Method} {c : Code} {D : va_G} {cA : Nat → ClassId} {h0 : fSt} {r : (Int32 × fSt)} (M : fM p s m args meth c D cA h0 { frames := 25, cells := fCB h0 - fZ h0, slots := fLB h0 - fL h0, locals := 615 } cX7_coversAt 6 (some (.boolean)) RX7) (hfl : l.stackTraces = false) (s0 : Int32) (h : fSt) (hf : f_X7_coversAt_L69 s0 h = some r) : ∀ (H : Heap) (locs : List Loc) (cells slots : Nat) (ls : Array Slot), fCur D cA s h0 h H locs → lv_has ls 6 [] → W p l e { frames := 25, cells := fCB h0 - fZ h0, slots := fLB h0 - fL h0, locals := 615 } s m args below meth c H locs cells slots (MQ below (fQ D cA h0 r.2 (some (.int r.1))) args s (fCB h0 - fZ h0) (fLB h0 - fL h0) (fA h0)) (F0 m 69 ls [.int s0]) := by
  obtain ⟨hx, hb, hml, hr, hlocks, hts, hown, K, hR⟩ := id M
  intro H locs cells slots ls hC hl
  by_cases c1 : s0 = 0 ∨ s0 = 1
  rotate_left
  · exact nomatch (oneg c1 hf)
  obtain rfl := Option.some.inj (opos c1 hf)
  exact fr_zret hx hb hr hlocks hC c1 dX7_coversAt_69
set_option maxHeartbeats 4000000 in
set_option maxRecDepth 100000 in
theorem w_X7_coversAt_L68 {p : Program} {l : Launch} {e : Env} {s : State} {m : MethodId} {args : Array Value} {below : List Frame} {meth : Method} {c : Code} {D : va_G} {cA : Nat → ClassId} {h0 : fSt} {r : (Int32 × fSt)} (M : fM p s m args meth c D cA h0 { frames := 25, cells := fCB h0 - fZ h0, slots := fLB h0 - fL h0, locals := 615 } cX7_coversAt 6 (some (.boolean)) RX7) (hfl : l.stackTraces = false)  (h : fSt) (hf : f_X7_coversAt_L68  h = some r) : ∀ (H : Heap) (locs : List Loc) (cells slots : Nat) (ls : Array Slot), fCur D cA s h0 h H locs → lv_has ls 6 [] → W p l e { frames := 25, cells := fCB h0 - fZ h0, slots := fLB h0 - fL h0, locals := 615 } s m args below meth c H locs cells slots (MQ below (fQ D cA h0 r.2 (some (.int r.1))) args s (fCB h0 - fZ h0) (fLB h0 - fL h0) (fA h0)) (F0 m 68 ls []) := by
  obtain ⟨hx, hb, hml, hr, hlocks, hts, hown, K, hR⟩ := id M
  intro H locs cells slots ls hC hl
  refine lv_iconst (v := (0 : Int32)) hx hb dX7_coversAt_68 (by decide) ?_
  exact w_X7_coversAt_L69 M hfl _ _ hf _ _ _ _ _ hC (lv_sub hl [] rfl)
set_option maxHeartbeats 4000000 in
set_option maxRecDepth 100000 in
theorem w_X7_coversAt_L0 {p : Program} {l : Launch} {e : Env} {s : State} {m : MethodId} {args : Array Value} {below : List Frame} {meth : Method} {c : Code} {D : va_G} {cA : Nat → ClassId} {h0 : fSt} {r : (Int32 × fSt)} (M : fM p s m args meth c D cA h0 { frames := 25, cells := fCB h0 - fZ h0, slots := fLB h0 - fL h0, locals := 615 } cX7_coversAt 6 (some (.boolean)) RX7) (hfl : l.stackTraces = false) (a0 : Option Nat) (a1 : Option Nat) (a2 : Int32) (a3 : Int32) (a4 : Int32) (a5 : Int32) (h : fSt) (hf : f_X7_coversAt_L0 a0 a1 a2 a3 a4 a5 h = some r) : ∀ (H : Heap) (locs : List Loc) (cells slots : Nat) (ls : Array Slot), fCur D cA s h0 h H locs → lv_has ls 6 [(0, va_rf a0), (1, va_rf a1), (2, .int a2), (3, .int a3), (4, .int a4), (5, .int a5)] → W p l e { frames := 25, cells := fCB h0 - fZ h0, slots := fLB h0 - fL h0, locals := 615 } s m args below meth c H locs cells slots (MQ below (fQ D cA h0 r.2 (some (.int r.1))) args s (fCB h0 - fZ h0) (fLB h0 - fL h0) (fA h0)) (F0 m 0 ls []) := by
  obtain ⟨hx, hb, hml, hr, hlocks, hts, hown, K, hR⟩ := id M
  intro H locs cells slots ls hC hl
  refine fr_aload_n hx hb dX7_coversAt_0 rfl (lv_at hl 1 rfl) ?_
  obtain ⟨x2, g3, hf⟩ := obind hf
  refine fr_get hx hb hts hown K hC ct_4 (fgI_get g3) (by decide) kw482 rfl dX7_coversAt_1 ?_
  refine lv_if_eq (tgt := 16) hx hb dX7_coversAt_4 (by decide) (fun c4 => ?_) (fun c4 => ?_)
  · replace hf := opos c4 hf
    exact w_X7_coversAt_L16 M hfl _ hf _ _ _ _ _ hC (lv_sub hl [] rfl)
  · replace hf := oneg c4 hf
    refine fr_aload_n hx hb dX7_coversAt_7 rfl (lv_at hl 1 rfl) ?_
    refine lv_iload hx hb dX7_coversAt_8 (lv_at hl 5 rfl) ?_
    obtain ⟨b7, q8, hf⟩ := obind hf
    obtain ⟨r5, g6, hf⟩ := obind hf
    refine fr_callV hx hb hml hts hown K hC hR ct_4 (c_X4_isShownAt hfl D cA g6) 1 q8 kw263 kw260 kw261 kw262 kw24 (by decide +kernel) ⟨by exact Nat.le_of_ble_eq_true rfl, by exact Nat.le_of_ble_eq_true rfl⟩ rfl hl.1 (cat8 _ (by exact Nat.le_of_ble_eq_true rfl)) dX7_coversAt_10 rfl (fun H locs _ _ hC => ?_)
    refine lv_if_ne (tgt := 18) hx hb dX7_coversAt_13 (by decide) (fun c9 => ?_) (fun c9 => ?_)
    · replace hf := oneg c9 hf
      refine fr_aload_n hx hb dX7_coversAt_18 rfl (lv_at hl 0 rfl) ?_
      obtain ⟨x10, g11, hf⟩ := obind hf
      refine fr_get hx hb hts hown K hC ct_7 (fgR_get g11) (by decide) kw620 rfl dX7_coversAt_19 ?_
      refine lv_iload_n hx hb dX7_coversAt_22 rfl (lv_at hl 2 rfl) ?_
      refine lv_i2l (v := (Int32.toInt64 a2)) hx hb dX7_coversAt_23 rfl ?_
      refine lv_iload_n hx hb dX7_coversAt_24 rfl (lv_at hl 3 rfl) ?_
      refine lv_i2l (v := (Int32.toInt64 a3)) hx hb dX7_coversAt_25 rfl ?_
      refine lv_iload hx hb dX7_coversAt_26 (lv_at hl 4 rfl) ?_
      refine lv_i2l (v := (Int32.toInt64 a4)) hx hb dX7_coversAt_28 rfl ?_
      obtain ⟨b14, q15, hf⟩ := obind hf
      obtain ⟨r12, g13, hf⟩ := obind hf
      refine fr_callV hx hb hml hts hown K hC hR ct_5 (c_X5_set hfl D cA g13) 3 q15 kw187 kw184 kw185 kw186 kw27 (by decide +kernel) ⟨by exact Nat.le_of_ble_eq_true rfl, by exact Nat.le_of_ble_eq_true rfl⟩ rfl hl.1 (cat8 _ (by exact Nat.le_of_ble_eq_true rfl)) dX7_coversAt_29 rfl (fun H locs _ _ hC => ?_)
      refine fr_aload_n hx hb dX7_coversAt_32 rfl (lv_at hl 0 rfl) ?_
      obtain ⟨x16, g17, hf⟩ := obind hf
      refine fr_get hx hb hts hown K hC ct_7 (fgR_get g17) (by decide) kw620 rfl dX7_coversAt_33 ?_
      refine fr_aload_n hx hb dX7_coversAt_36 rfl (lv_at hl 1 rfl) ?_
      refine lv_iload hx hb dX7_coversAt_37 (lv_at hl 5 rfl) ?_
      refine lv_iconst (v := (0 : Int32)) hx hb dX7_coversAt_39 (by decide) ?_
      obtain ⟨r18, g19, hf⟩ := obind hf
      refine fr_callS hx hb hml hts hown K hC hR (c_X7_sink hfl D cA 8 g19) 4 kw229 kw227 kw228 kw23 (by decide +kernel) ⟨by exact Nat.le_of_ble_eq_true rfl, by exact Nat.le_of_ble_eq_true rfl⟩ rfl hl.1 (cat8 _ (by exact Nat.le_of_ble_eq_true rfl)) dX7_coversAt_40 rfl (fun H locs _ _ hC => ?_)
      refine fr_aload_n hx hb dX7_coversAt_43 rfl (lv_at hl 0 rfl) ?_
      obtain ⟨x20, g21, hf⟩ := obind hf
      refine fr_get hx hb hts hown K hC ct_7 (fgR_get g21) (by decide) kw620 rfl dX7_coversAt_44 ?_
      obtain ⟨x22, g23, hf⟩ := obind hf
      refine fr_get hx hb hts hown K hC ct_5 (fgI_get g23) (by decide) kw573 rfl dX7_coversAt_47 ?_
      refine lv_if_ne (tgt := 68) hx hb dX7_coversAt_50 (by decide) (fun c24 => ?_) (fun c24 => ?_)
      · replace hf := oneg c24 hf
        exact w_X7_coversAt_L68 M hfl _ hf _ _ _ _ _ hC (lv_sub hl [] rfl)
      · replace hf := opos c24 hf
        refine fr_aload_n hx hb dX7_coversAt_53 rfl (lv_at hl 1 rfl) ?_
        refine fr_aload_n hx hb dX7_coversAt_54 rfl (lv_at hl 0 rfl) ?_
        obtain ⟨x25, g26, hf⟩ := obind hf
        refine fr_get hx hb hts hown K hC ct_7 (fgR_get g26) (by decide) kw620 rfl dX7_coversAt_55 ?_
        obtain ⟨b29, q30, hf⟩ := obind hf
        obtain ⟨r27, g28, hf⟩ := obind hf
        refine fr_callV hx hb hml hts hown K hC hR ct_4 (c_X4_owns hfl D cA g28) 1 q30 kw319 kw316 kw317 kw318 kw24 (by decide +kernel) ⟨by exact Nat.le_of_ble_eq_true rfl, by exact Nat.le_of_ble_eq_true rfl⟩ rfl hl.1 (cat8 _ (by exact Nat.le_of_ble_eq_true rfl)) dX7_coversAt_58 rfl (fun H locs _ _ hC => ?_)
        refine lv_if_eq (tgt := 68) hx hb dX7_coversAt_61 (by decide) (fun c31 => ?_) (fun c31 => ?_)
        · replace hf := opos c31 hf
          exact w_X7_coversAt_L68 M hfl _ hf _ _ _ _ _ hC (lv_sub hl [] rfl)
        · replace hf := oneg c31 hf
          refine lv_iconst (v := (1 : Int32)) hx hb dX7_coversAt_64 (by decide) ?_
          refine lv_goto (tgt := 69) hx hb dX7_coversAt_65 (by decide) ?_
          exact w_X7_coversAt_L69 M hfl _ _ hf _ _ _ _ _ hC (lv_sub hl [] rfl)
    · replace hf := opos c9 hf
      exact w_X7_coversAt_L16 M hfl _ hf _ _ _ _ _ hC (lv_sub hl [] rfl)
set_option maxRecDepth 100000 in
theorem c_X7_coversAt {l : Launch} (hfl : l.stackTraces = false) (D : va_G) (cA : Nat → ClassId) {o : Nat} {p0 : Option Nat} {p1 : Int32} {p2 : Int32} {p3 : Int32} {p4 : Int32} {h : fSt} {r : (Int32 × fSt)} (hf : f_X7_coversAt o p0 p1 p2 p3 p4 h = some r) : fMet l yX7_coversAt (wsC yX7_coversAt cX7_coversAt 6 (some (.boolean))) (25) (615) D cA [.ref o, va_rf p0, .int p1, .int p2, .int p3, .int p4] h r.2 (some (.int r.1)) := by
  exact fMet.of (own := RX7) (by decide +kernel) rfl (lva1 rfl (lva1 (va_rf_cat _) (lva1 rfl (lva1 rfl (lva1 rfl (lva1 rfl lva0)))))) (lgl1 rfl (lgl1 (va_rf_cat _) (lgl1 rfl (lgl1 rfl (lgl1 rfl (lgl1 rfl lgl0)))))) (Nat.le_of_ble_eq_true rfl) (fun p e s m args below meth c ls hnm _ M hC hl => by
    have hl : lv_has ls 6 [(0, va_rf (some o)), (1, va_rf p0), (2, .int p1), (3, .int p2), (4, .int p3), (5, .int p4)] := hl
    exact w_X7_coversAt_L0 M hfl _ _ _ _ _ _ _ hf _ _ _ _ _ hC (lv_sub hl [0, 1, 2, 3, 4, 5] rfl))
set_option maxHeartbeats 4000000 in
set_option maxRecDepth 100000 in
theorem w_X7_covers_L0 {p : Program} {l : Launch} {e : Env} {s : State} {m : MethodId} {args : Array Value} {below : List Frame} {meth : Method} {c : Code} {D : va_G} {cA : Nat → ClassId} {h0 : fSt} {r : ((Int32 ⊕ Nat) × fSt)} (M : fM p s m args meth c D cA h0 { frames := 26, cells := fCB h0 - fZ h0, slots := fLB h0 - fL h0, locals := 640 } cX7_covers 6 (some (.boolean)) RX7) (hfl : l.stackTraces = false) (hno : ∀ x ∈ c.exceptionTable.toList, False) (a0 : Option Nat) (a1 : Int32) (a2 : Int32) (a3 : Int32) (a4 : Int32) (h : fSt) (hf : f_X7_covers_L0 a0 a1 a2 a3 a4 h = some r) : ∀ (H : Heap) (locs : List Loc) (cells slots : Nat) (ls : Array Slot), fCur D cA s h0 h H locs → lv_has ls 6 [(0, va_rf a0), (1, .int a1), (2, .int a2), (3, .int a3), (4, .int a4)] → W p l e { frames := 26, cells := fCB h0 - fZ h0, slots := fLB h0 - fL h0, locals := 640 } s m args below meth c H locs cells slots (vx_MQ below (fQX D cA h0 r.2 (rI r.1)) (fXC D cA h0 r.2 (rI r.1)) args s (fCB h0 - fZ h0) (fLB h0 - fL h0) (fA h0)) (F0 m 0 ls []) := by
  obtain ⟨hx, hb, hml, hr, hlocks, hts, hown, K, hR⟩ := id M
  intro H locs cells slots ls hC hl
  refine fr_aload_n hx hb dX7_covers_0 rfl (lv_at hl 0 rfl) ?_
  refine lv_iload_n hx hb dX7_covers_1 rfl (lv_at hl 1 rfl) ?_
  obtain ⟨b3, q4, hf⟩ := obind hf
  obtain ⟨⟨v5 | k6, h7⟩, g2, hf⟩ := obind hf
  · refine fr_callVX hx hb hml hts hown K hC hR ct_7 (c_X7_found hfl D cA g2) 1 q4 kw51 kw47 kw49 kw0 kw23 (by decide +kernel) ⟨by exact Nat.le_of_ble_eq_true rfl, by exact Nat.le_of_ble_eq_true rfl⟩ rfl hl.1 (cat8 _ (by exact Nat.le_of_ble_eq_true rfl)) dX7_covers_2 rfl (fun H locs _ _ hC => ?_)
    refine fr_astore (lv' := [(5, va_rf v5), (0, va_rf a0), (1, .int a1), (2, .int a2), (3, .int a3), (4, .int a4)]) hx hb dX7_covers_5 hl (by decide) (congrArg (List.cons _) (flk rfl (flk rfl (flk rfl (flk rfl (flk rfl fln)))))) (fun ls hl => ?_)
    refine lv_iload_n hx hb dX7_covers_7 rfl (lv_at hl 3 rfl) ?_
    refine lv_iload_n hx hb dX7_covers_8 rfl (lv_at hl 4 rfl) ?_
    refine lv_iload hx hb dX7_covers_9 (lv_at hl 5 rfl) ?_
    obtain ⟨⟨v10 | k11, h12⟩, g9, hf⟩ := obind hf
    · refine fr_callSX hx hb hml hts hown K hC hR (c_X7_checkSpot hfl D cA g9) 3 kw309 kw307 kw308 kw23 (by decide +kernel) ⟨by exact Nat.le_of_ble_eq_true rfl, by exact Nat.le_of_ble_eq_true rfl⟩ rfl hl.1 (cat8 _ (by exact Nat.le_of_ble_eq_true rfl)) dX7_covers_11 rfl (fun H locs _ _ hC => ?_)
      refine fr_aload_n hx hb dX7_covers_14 rfl (lv_at hl 1 rfl) ?_
      refine fr_aload hx hb dX7_covers_15 (lv_at hl 0 rfl) ?_
      refine lv_iload_n hx hb dX7_covers_17 rfl (lv_at hl 3 rfl) ?_
      refine lv_iload_n hx hb dX7_covers_18 rfl (lv_at hl 4 rfl) ?_
      refine lv_iload hx hb dX7_covers_19 (lv_at hl 5 rfl) ?_
      refine fr_aload_n hx hb dX7_covers_21 rfl (lv_at hl 1 rfl) ?_
      obtain ⟨x13, g14, hf⟩ := obind hf
      refine fr_get hx hb hts hown K hC ct_7 (fgI_get g14) (by decide) kw624 rfl dX7_covers_22 ?_
      obtain ⟨b17, q18, hf⟩ := obind hf
      obtain ⟨r15, g16, hf⟩ := obind hf
      refine fr_callV hx hb hml hts hown K hC hR ct_7 (c_X7_coversAt hfl D cA g16) 5 q18 kw315 kw312 kw314 kw9 kw23 (by decide +kernel) ⟨by exact Nat.le_of_ble_eq_true rfl, by exact Nat.le_of_ble_eq_true rfl⟩ rfl hl.1 (cat8 _ (by exact Nat.le_of_ble_eq_true rfl)) dX7_covers_25 rfl (fun H locs _ _ hC => ?_)
      by_cases c19 : r15.1 = 0 ∨ r15.1 = 1
      rotate_left
      · exact nomatch (oneg c19 hf)
      obtain rfl := Option.some.inj (opos c19 hf)
      exact fr_retQ (fr_zret hx hb hr hlocks hC c19 dX7_covers_28)
    · obtain rfl := Option.some.inj hf
      refine fr_callST hx hb hml hts hown K hC hR (c_X7_checkSpot hfl D cA g9) 3 kw309 kw307 kw308 kw23 (by decide +kernel) ⟨by exact Nat.le_of_ble_eq_true rfl, by exact Nat.le_of_ble_eq_true rfl⟩ rfl hl.1 (cat8 _ (by exact Nat.le_of_ble_eq_true rfl)) dX7_covers_11 rfl (fun H locs _ _ q ce hC e1 e2 e3 => ?_)
      exact fr_out (fun x hx9 => (hno x hx9).elim) hlocks hC e1 e2 e3
  · obtain rfl := Option.some.inj hf
    refine fr_callVT hx hb hml hts hown K hC hR ct_7 (c_X7_found hfl D cA g2) 1 q4 kw51 kw47 kw49 kw0 kw23 (by decide +kernel) ⟨by exact Nat.le_of_ble_eq_true rfl, by exact Nat.le_of_ble_eq_true rfl⟩ rfl hl.1 (cat8 _ (by exact Nat.le_of_ble_eq_true rfl)) dX7_covers_2 rfl (fun H locs _ _ q ce hC e1 e2 e3 => ?_)
    exact fr_out (fun x hx9 => (hno x hx9).elim) hlocks hC e1 e2 e3
set_option maxRecDepth 100000 in
theorem c_X7_covers {l : Launch} (hfl : l.stackTraces = false) (D : va_G) (cA : Nat → ClassId) {o : Nat} {p0 : Int32} {p1 : Int32} {p2 : Int32} {p3 : Int32} {h : fSt} {r : ((Int32 ⊕ Nat) × fSt)} (hf : f_X7_covers o p0 p1 p2 p3 h = some r) : fMetX l yX7_covers (wsC yX7_covers cX7_covers 6 (some (.boolean))) (26) (640) D cA [.ref o, .int p0, .int p1, .int p2, .int p3] h r.2 (rI r.1) := by
  exact fMetX.of (own := RX7) (by decide +kernel) rfl (lva1 rfl (lva1 rfl (lva1 rfl (lva1 rfl (lva1 rfl lva0))))) (lgl1 rfl (lgl1 rfl (lgl1 rfl (lgl1 rfl (lgl1 rfl lgl0))))) (Nat.le_of_ble_eq_true rfl) (fun p e s m args below meth c ls hno M hC hl => by
    have hl : lv_has ls 6 [(0, va_rf (some o)), (1, .int p0), (2, .int p1), (3, .int p2), (4, .int p3)] := hl
    exact w_X7_covers_L0 M hfl hno _ _ _ _ _ _ hf _ _ _ _ _ hC (lv_sub hl [0, 1, 2, 3, 4] rfl))
set_option maxHeartbeats 4000000 in
set_option maxRecDepth 100000 in
theorem w_X7_mixed_L0 {p : Program} {l : Launch} {e : Env} {s : State} {m : MethodId} {args : Array Value} {below : List Frame} {meth : Method} {c : Code} {D : va_G} {cA : Nat → ClassId} {h0 : fSt} {r : (Int64 × fSt)} (M : fM p s m args meth c D cA h0 { frames := 0, cells := fCB h0 - fZ h0, slots := fLB h0 - fL h0, locals := 0 } cX7_mixed 4 (some (.long)) RX7) (hfl : l.stackTraces = false) (a0 : Int64) (a2 : Int64) (h : fSt) (hf : f_X7_mixed_L0 a0 a2 h = some r) : ∀ (H : Heap) (locs : List Loc) (cells slots : Nat) (ls : Array Slot), fCur D cA s h0 h H locs → lv_has ls 4 [(0, .long a0), (2, .long a2)] → W p l e { frames := 0, cells := fCB h0 - fZ h0, slots := fLB h0 - fL h0, locals := 0 } s m args below meth c H locs cells slots (MQ below (fQ D cA h0 r.2 (some (.long r.1))) args s (fCB h0 - fZ h0) (fLB h0 - fL h0) (fA h0)) (F0 m 0 ls []) := by
  obtain ⟨hx, hb, hml, hr, hlocks, hts, hown, K, hR⟩ := id M
  intro H locs cells slots ls hC hl
  refine lv_lload_n hx hb dX7_mixed_0 rfl (lv_at hl 0 rfl) ?_
  refine fr_ldc2 (v := (31 : Int64)) hx hb hts hown kw379 dX7_mixed_1 ?_
  refine lv_lmul hx hb dX7_mixed_4 ?_
  refine lv_lload_n hx hb dX7_mixed_5 rfl (lv_at hl 1 rfl) ?_
  refine lv_ladd hx hb dX7_mixed_6 ?_
  obtain rfl := Option.some.inj hf
  exact fr_lret hx hb hr hlocks hC dX7_mixed_7
set_option maxRecDepth 100000 in
theorem c_X7_mixed {l : Launch} (hfl : l.stackTraces = false) (D : va_G) (cA : Nat → ClassId) {p0 : Int64} {p1 : Int64} {h : fSt} {r : (Int64 × fSt)} (hf : f_X7_mixed p0 p1 h = some r) : fMet l yX7_mixed (wsC yX7_mixed cX7_mixed 4 (some (.long))) (0) (0) D cA [.long p0, .long p1] h r.2 (some (.long r.1)) := by
  exact fMet.of (own := RX7) (by decide +kernel) rfl (lva2 rfl (lva2 rfl lva0)) (lgl2 rfl (lgl2 rfl lgl0)) (Nat.le_of_ble_eq_true rfl) (fun p e s m args below meth c ls hnm _ M hC hl => by
    have hl : lv_has ls 4 [(0, .long p0), (2, .long p1)] := hl
    exact w_X7_mixed_L0 M hfl _ _ _ hf _ _ _ _ _ hC (lv_sub hl [0, 1] rfl))
set_option maxHeartbeats 4000000 in
set_option maxRecDepth 100000 in
theorem w_X4_depth_L7 {p : Program} {l : Launch} {e : Env} {s : State} {m : MethodId} {args : Array Value} {below : List Frame} {meth : Method} {c : Code} {D : va_G} {cA : Nat → ClassId} {h0 : fSt} {r : (Int32 × fSt)} (M : fM p s m args meth c D cA h0 { frames := 0, cells := fCB h0 - fZ h0, slots := fLB h0 - fL h0, locals := 0 } cX4_depth 3 (some (.int)) RX4) (hfl : l.stackTraces = false) : ∀ (n : Nat) (a1 : Int32) (a2 : Option Nat) (h : fSt), f_X4_depth_L7 n a1 a2 h = some r → ∀ (H : Heap) (locs : List Loc) (cells slots : Nat) (ls : Array Slot), fCur D cA s h0 h H locs → lv_has ls 3 [(1, .int a1), (2, va_rf a2)] → W p l e { frames := 0, cells := fCB h0 - fZ h0, slots := fLB h0 - fL h0, locals := 0 } s m args below meth c H locs cells slots (MQ below (fQ D cA h0 r.2 (some (.int r.1))) args s (fCB h0 - fZ h0) (fLB h0 - fL h0) (fA h0)) (F0 m 7 ls []) := by
  obtain ⟨hx, hb, hml, hr, hlocks, hts, hown, K, hR⟩ := id M
  intro n
  induction n with
  | zero =>
    intro a1 a2 h hf
    exact nomatch (show (none : Option (Int32 × fSt)) = some r from hf)
  | succ n hk7 =>
    intro a1 a2 h hf H locs cells slots ls hC hl
    refine fr_aload_n hx hb dX4_depth_7 rfl (lv_at hl 1 rfl) ?_
    refine fr_ifnull (tgt := 22) hx hb dX4_depth_8 (by decide) (fun c1 => ?_) (fun c1 => ?_)
    · replace hf := opos c1 hf
      refine lv_iload_n hx hb dX4_depth_22 rfl (lv_at hl 0 rfl) ?_
      obtain rfl := Option.some.inj hf
      exact fr_iret hx hb hr hlocks hC dX4_depth_23
    · replace hf := oneg c1 hf
      refine lv_iinc (v := (a1 + (1 : Int32))) (lv' := [(1, .int (a1 + (1 : Int32))), (2, va_rf a2)]) hx hb dX4_depth_11 hl (k := 0) rfl rfl (by decide) (congrArg (List.cons _) (fld rfl (flk rfl fln))) (fun ls hl => ?_)
      refine fr_aload_n hx hb dX4_depth_14 rfl (lv_at hl 1 rfl) ?_
      obtain ⟨x2, g3, hf⟩ := obind hf
      refine fr_get hx hb hts hown K hC ct_4 (fgR_get g3) (by decide) kw511 rfl dX4_depth_15 ?_
      refine fr_astore_n (lv' := [(2, va_rf x2), (1, .int (a1 + (1 : Int32)))]) hx hb dX4_depth_18 rfl hl (by decide) (congrArg (List.cons _) (flk rfl (fld rfl fln))) (fun ls hl => ?_)
      refine lv_goto (tgt := 7) hx hb dX4_depth_19 (by decide) ?_
      exact hk7 _ _ _ hf _ _ _ _ _ hC (lv_sub hl [1, 0] rfl)
set_option maxHeartbeats 4000000 in
set_option maxRecDepth 100000 in
theorem w_X4_depth_L0 {p : Program} {l : Launch} {e : Env} {s : State} {m : MethodId} {args : Array Value} {below : List Frame} {meth : Method} {c : Code} {D : va_G} {cA : Nat → ClassId} {h0 : fSt} {r : (Int32 × fSt)} (M : fM p s m args meth c D cA h0 { frames := 0, cells := fCB h0 - fZ h0, slots := fLB h0 - fL h0, locals := 0 } cX4_depth 3 (some (.int)) RX4) (hfl : l.stackTraces = false) (a0 : Option Nat) (h : fSt) (hf : f_X4_depth_L0 a0 h = some r) : ∀ (H : Heap) (locs : List Loc) (cells slots : Nat) (ls : Array Slot), fCur D cA s h0 h H locs → lv_has ls 3 [(0, va_rf a0)] → W p l e { frames := 0, cells := fCB h0 - fZ h0, slots := fLB h0 - fL h0, locals := 0 } s m args below meth c H locs cells slots (MQ below (fQ D cA h0 r.2 (some (.int r.1))) args s (fCB h0 - fZ h0) (fLB h0 - fL h0) (fA h0)) (F0 m 0 ls []) := by
  obtain ⟨hx, hb, hml, hr, hlocks, hts, hown, K, hR⟩ := id M
  intro H locs cells slots ls hC hl
  refine lv_iconst (v := (0 : Int32)) hx hb dX4_depth_0 (by decide) ?_
  refine lv_istore_n (lv' := [(1, .int (0 : Int32)), (0, va_rf a0)]) hx hb dX4_depth_1 rfl hl (by decide) (congrArg (List.cons _) (flk (adj1 _ _) fln)) (fun ls hl => ?_)
  refine fr_aload_n hx hb dX4_depth_2 rfl (lv_at hl 1 rfl) ?_
  obtain ⟨x4, g5, hf⟩ := obind hf
  refine fr_get hx hb hts hown K hC ct_4 (fgR_get g5) (by decide) kw511 rfl dX4_depth_3 ?_
  refine fr_astore_n (lv' := [(2, va_rf x4), (1, .int (0 : Int32)), (0, va_rf a0)]) hx hb dX4_depth_6 rfl hl (by decide) (congrArg (List.cons _) (flk rfl (flk rfl fln))) (fun ls hl => ?_)
  exact w_X4_depth_L7 M hfl 4096 _ _ _ hf _ _ _ _ _ hC (lv_sub hl [1, 0] rfl)
set_option maxRecDepth 100000 in
theorem c_X4_depth {l : Launch} (hfl : l.stackTraces = false) (D : va_G) (cA : Nat → ClassId) {o : Nat} {h : fSt} {r : (Int32 × fSt)} (hf : f_X4_depth o h = some r) : fMet l yX4_depth (wsC yX4_depth cX4_depth 3 (some (.int))) (0) (0) D cA [.ref o] h r.2 (some (.int r.1)) := by
  exact fMet.of (own := RX4) (by decide +kernel) rfl (lva1 rfl lva0) (lgl1 rfl lgl0) (Nat.le_of_ble_eq_true rfl) (fun p e s m args below meth c ls hnm _ M hC hl => by
    have hl : lv_has ls 3 [(0, va_rf (some o))] := hl
    exact w_X4_depth_L0 M hfl _ _ hf _ _ _ _ _ hC (lv_sub hl [0] rfl))
set_option maxHeartbeats 4000000 in
set_option maxRecDepth 100000 in
theorem w_X7_mixedWithPoint_L5 {p : Program} {l : Launch} {e : Env} {s : State} {m : MethodId} {args : Array Value} {below : List Frame} {meth : Method} {c : Code} {D : va_G} {cA : Nat → ClassId} {h0 : fSt} {r : (Int64 × fSt)} (M : fM p s m args meth c D cA h0 { frames := 2, cells := fCB h0 - fZ h0, slots := fLB h0 - fL h0, locals := 55 } cX7_mixedWithPoint 6 (some (.long)) RX7) (hfl : l.stackTraces = false) : ∀ (n : Nat) (a0 : Option Nat) (a3 : Int64) (a5 : Int32) (h : fSt), f_X7_mixedWithPoint_L5 n a0 a3 a5 h = some r → ∀ (H : Heap) (locs : List Loc) (cells slots : Nat) (ls : Array Slot), fCur D cA s h0 h H locs → lv_has ls 6 [(0, va_rf a0), (3, .long a3), (5, .int a5)] → W p l e { frames := 2, cells := fCB h0 - fZ h0, slots := fLB h0 - fL h0, locals := 55 } s m args below meth c H locs cells slots (MQ below (fQ D cA h0 r.2 (some (.long r.1))) args s (fCB h0 - fZ h0) (fLB h0 - fL h0) (fA h0)) (F0 m 5 ls []) := by
  obtain ⟨hx, hb, hml, hr, hlocks, hts, hown, K, hR⟩ := id M
  intro n
  induction n with
  | zero =>
    intro a0 a3 a5 h hf
    exact nomatch (show (none : Option (Int64 × fSt)) = some r from hf)
  | succ n hk5 =>
    intro a0 a3 a5 h hf H locs cells slots ls hC hl
    refine lv_iload hx hb dX7_mixedWithPoint_5 (lv_at hl 2 rfl) ?_
    refine lv_iconst (v := (3 : Int32)) hx hb dX7_mixedWithPoint_7 (by decide) ?_
    refine lv_icmp_gt (tgt := 31) hx hb dX7_mixedWithPoint_8 (by decide) (fun c1 => ?_) (fun c1 => ?_)
    · replace hf := opos c1 hf
      refine lv_lload_n hx hb dX7_mixedWithPoint_31 rfl (lv_at hl 1 rfl) ?_
      obtain rfl := Option.some.inj hf
      exact fr_lret hx hb hr hlocks hC dX7_mixedWithPoint_32
    · replace hf := oneg c1 hf
      refine lv_lload_n hx hb dX7_mixedWithPoint_11 rfl (lv_at hl 1 rfl) ?_
      refine fr_aload_n hx hb dX7_mixedWithPoint_12 rfl (lv_at hl 0 rfl) ?_
      obtain ⟨x2, g3, hf⟩ := obind hf
      refine fr_get hx hb hts hown K hC ct_7 (fgR_get g3) (by decide) kw620 rfl dX7_mixedWithPoint_13 ?_
      refine lv_iload hx hb dX7_mixedWithPoint_16 (lv_at hl 2 rfl) ?_
      obtain ⟨b6, q7, hf⟩ := obind hf
      obtain ⟨r4, g5, hf⟩ := obind hf
      refine fr_callV hx hb hml hts hown K hC hR ct_5 (c_X5_part hfl D cA g5) 1 q7 kw219 kw216 kw217 kw218 kw27 (by decide +kernel) ⟨by exact Nat.le_of_ble_eq_true rfl, by exact Nat.le_of_ble_eq_true rfl⟩ rfl hl.1 (cat8 _ (by exact Nat.le_of_ble_eq_true rfl)) dX7_mixedWithPoint_18 rfl (fun H locs _ _ hC => ?_)
      obtain ⟨r8, g9, hf⟩ := obind hf
      refine fr_callS hx hb hml hts hown K hC hR (c_X7_mixed hfl D cA g9) 2 kw378 kw376 kw377 kw23 (by decide +kernel) ⟨by exact Nat.le_of_ble_eq_true rfl, by exact Nat.le_of_ble_eq_true rfl⟩ rfl hl.1 (cat8 _ (by exact Nat.le_of_ble_eq_true rfl)) dX7_mixedWithPoint_21 rfl (fun H locs _ _ hC => ?_)
      refine lv_lstore_n (lv' := [(3, .long r8.1), (0, va_rf a0), (5, .int a5)]) hx hb dX7_mixedWithPoint_24 rfl hl (by decide) (congrArg (List.cons _) (flk rfl (fld rfl (flk rfl fln)))) (fun ls hl => ?_)
      refine lv_iinc (v := (a5 + (1 : Int32))) (lv' := [(5, .int (a5 + (1 : Int32))), (3, .long r8.1), (0, va_rf a0)]) hx hb dX7_mixedWithPoint_25 hl (k := 2) rfl rfl (by decide) (congrArg (List.cons _) (flk rfl (flk rfl (fld rfl fln)))) (fun ls hl => ?_)
      refine lv_goto (tgt := 5) hx hb dX7_mixedWithPoint_28 (by decide) ?_
      exact hk5 _ _ _ _ hf _ _ _ _ _ hC (lv_sub hl [2, 1, 0] rfl)
set_option maxHeartbeats 4000000 in
set_option maxRecDepth 100000 in
theorem w_X7_mixedWithPoint_L0 {p : Program} {l : Launch} {e : Env} {s : State} {m : MethodId} {args : Array Value} {below : List Frame} {meth : Method} {c : Code} {D : va_G} {cA : Nat → ClassId} {h0 : fSt} {r : (Int64 × fSt)} (M : fM p s m args meth c D cA h0 { frames := 2, cells := fCB h0 - fZ h0, slots := fLB h0 - fL h0, locals := 55 } cX7_mixedWithPoint 6 (some (.long)) RX7) (hfl : l.stackTraces = false) (a0 : Option Nat) (a1 : Int64) (h : fSt) (hf : f_X7_mixedWithPoint_L0 a0 a1 h = some r) : ∀ (H : Heap) (locs : List Loc) (cells slots : Nat) (ls : Array Slot), fCur D cA s h0 h H locs → lv_has ls 6 [(0, va_rf a0), (1, .long a1)] → W p l e { frames := 2, cells := fCB h0 - fZ h0, slots := fLB h0 - fL h0, locals := 55 } s m args below meth c H locs cells slots (MQ below (fQ D cA h0 r.2 (some (.long r.1))) args s (fCB h0 - fZ h0) (fLB h0 - fL h0) (fA h0)) (F0 m 0 ls []) := by
  obtain ⟨hx, hb, hml, hr, hlocks, hts, hown, K, hR⟩ := id M
  intro H locs cells slots ls hC hl
  refine lv_lload_n hx hb dX7_mixedWithPoint_0 rfl (lv_at hl 1 rfl) ?_
  refine lv_lstore_n (lv' := [(3, .long a1), (0, va_rf a0), (1, .long a1)]) hx hb dX7_mixedWithPoint_1 rfl hl (by decide) (congrArg (List.cons _) (flk rfl (flk rfl fln))) (fun ls hl => ?_)
  refine lv_iconst (v := (0 : Int32)) hx hb dX7_mixedWithPoint_2 (by decide) ?_
  refine lv_istore (lv' := [(5, .int (0 : Int32)), (3, .long a1), (0, va_rf a0), (1, .long a1)]) hx hb dX7_mixedWithPoint_3 hl (by decide) (congrArg (List.cons _) (flk rfl (flk rfl (flk rfl fln)))) (fun ls hl => ?_)
  exact w_X7_mixedWithPoint_L5 M hfl 4096 _ _ _ _ hf _ _ _ _ _ hC (lv_sub hl [2, 1, 0] rfl)
set_option maxRecDepth 100000 in
theorem c_X7_mixedWithPoint {l : Launch} (hfl : l.stackTraces = false) (D : va_G) (cA : Nat → ClassId) {o : Nat} {p0 : Int64} {h : fSt} {r : (Int64 × fSt)} (hf : f_X7_mixedWithPoint o p0 h = some r) : fMet l yX7_mixedWithPoint (wsC yX7_mixedWithPoint cX7_mixedWithPoint 6 (some (.long))) (2) (55) D cA [.ref o, .long p0] h r.2 (some (.long r.1)) := by
  exact fMet.of (own := RX7) (by decide +kernel) rfl (lva1 rfl (lva2 rfl lva0)) (lgl1 rfl (lgl2 rfl lgl0)) (Nat.le_of_ble_eq_true rfl) (fun p e s m args below meth c ls hnm _ M hC hl => by
    have hl : lv_has ls 6 [(0, va_rf (some o)), (1, .long p0)] := hl
    exact w_X7_mixedWithPoint_L0 M hfl _ _ _ hf _ _ _ _ _ hC (lv_sub hl [0, 1] rfl))
set_option maxHeartbeats 4000000 in
set_option maxRecDepth 100000 in
theorem w_X7_parentNumber_L18 {p : Program} {l : Launch} {e : Env} {s : State} {m : MethodId} {args : Array Value} {below : List Frame} {meth : Method} {c : Code} {D : va_G} {cA : Nat → ClassId} {h0 : fSt} {r : (Int32 × fSt)} (M : fM p s m args meth c D cA h0 { frames := 0, cells := fCB h0 - fZ h0, slots := fLB h0 - fL h0, locals := 0 } cX7_parentNumber 1 (some (.int)) RX7) (hfl : l.stackTraces = false) (s0 : Int32) (h : fSt) (hf : f_X7_parentNumber_L18 s0 h = some r) : ∀ (H : Heap) (locs : List Loc) (cells slots : Nat) (ls : Array Slot), fCur D cA s h0 h H locs → lv_has ls 1 [] → W p l e { frames := 0, cells := fCB h0 - fZ h0, slots := fLB h0 - fL h0, locals := 0 } s m args below meth c H locs cells slots (MQ below (fQ D cA h0 r.2 (some (.int r.1))) args s (fCB h0 - fZ h0) (fLB h0 - fL h0) (fA h0)) (F0 m 18 ls [.int s0]) := by
  obtain ⟨hx, hb, hml, hr, hlocks, hts, hown, K, hR⟩ := id M
  intro H locs cells slots ls hC hl
  obtain rfl := Option.some.inj hf
  exact fr_iret hx hb hr hlocks hC dX7_parentNumber_18
set_option maxHeartbeats 4000000 in
set_option maxRecDepth 100000 in
theorem w_X7_parentNumber_L0 {p : Program} {l : Launch} {e : Env} {s : State} {m : MethodId} {args : Array Value} {below : List Frame} {meth : Method} {c : Code} {D : va_G} {cA : Nat → ClassId} {h0 : fSt} {r : (Int32 × fSt)} (M : fM p s m args meth c D cA h0 { frames := 0, cells := fCB h0 - fZ h0, slots := fLB h0 - fL h0, locals := 0 } cX7_parentNumber 1 (some (.int)) RX7) (hfl : l.stackTraces = false) (a0 : Option Nat) (h : fSt) (hf : f_X7_parentNumber_L0 a0 h = some r) : ∀ (H : Heap) (locs : List Loc) (cells slots : Nat) (ls : Array Slot), fCur D cA s h0 h H locs → lv_has ls 1 [(0, va_rf a0)] → W p l e { frames := 0, cells := fCB h0 - fZ h0, slots := fLB h0 - fL h0, locals := 0 } s m args below meth c H locs cells slots (MQ below (fQ D cA h0 r.2 (some (.int r.1))) args s (fCB h0 - fZ h0) (fLB h0 - fL h0) (fA h0)) (F0 m 0 ls []) := by
  obtain ⟨hx, hb, hml, hr, hlocks, hts, hown, K, hR⟩ := id M
  intro H locs cells slots ls hC hl
  refine fr_aload_n hx hb dX7_parentNumber_0 rfl (lv_at hl 0 rfl) ?_
  obtain ⟨x1, g2, hf⟩ := obind hf
  refine fr_get hx hb hts hown K hC ct_4 (fgR_get g2) (by decide) kw512 rfl dX7_parentNumber_1 ?_
  refine fr_ifnonnull (tgt := 11) hx hb dX7_parentNumber_4 (by decide) (fun c3 => ?_) (fun c3 => ?_)
  · replace hf := oneg c3 hf
    refine fr_aload_n hx hb dX7_parentNumber_11 rfl (lv_at hl 0 rfl) ?_
    obtain ⟨x4, g5, hf⟩ := obind hf
    refine fr_get hx hb hts hown K hC ct_4 (fgR_get g5) (by decide) kw512 rfl dX7_parentNumber_12 ?_
    obtain ⟨x6, g7, hf⟩ := obind hf
    refine fr_get hx hb hts hown K hC ct_4 (fgI_get g7) (by decide) kw480 rfl dX7_parentNumber_15 ?_
    exact w_X7_parentNumber_L18 M hfl _ _ hf _ _ _ _ _ hC (lv_sub hl [] rfl)
  · replace hf := opos c3 hf
    refine lv_iconst (v := (-1 : Int32)) hx hb dX7_parentNumber_7 (by decide) ?_
    refine lv_goto (tgt := 18) hx hb dX7_parentNumber_8 (by decide) ?_
    exact w_X7_parentNumber_L18 M hfl _ _ hf _ _ _ _ _ hC (lv_sub hl [] rfl)
set_option maxRecDepth 100000 in
theorem c_X7_parentNumber {l : Launch} (hfl : l.stackTraces = false) (D : va_G) (cA : Nat → ClassId) {p0 : Option Nat} {h : fSt} {r : (Int32 × fSt)} (hf : f_X7_parentNumber p0 h = some r) : fMet l yX7_parentNumber (wsC yX7_parentNumber cX7_parentNumber 1 (some (.int))) (0) (0) D cA [va_rf p0] h r.2 (some (.int r.1)) := by
  exact fMet.of (own := RX7) (by decide +kernel) rfl (lva1 (va_rf_cat _) lva0) (lgl1 (va_rf_cat _) lgl0) (Nat.le_of_ble_eq_true rfl) (fun p e s m args below meth c ls hnm _ M hC hl => by
    have hl : lv_has ls 1 [(0, va_rf p0)] := hl
    exact w_X7_parentNumber_L0 M hfl _ _ hf _ _ _ _ _ hC (lv_sub hl [0] rfl))
set_option maxHeartbeats 4000000 in
set_option maxRecDepth 100000 in
theorem w_X7_strengthOf_L38 {p : Program} {l : Launch} {e : Env} {s : State} {m : MethodId} {args : Array Value} {below : List Frame} {meth : Method} {c : Code} {D : va_G} {cA : Nat → ClassId} {h0 : fSt} {self : Option Nat → Int32 → Int32 → fSt → Option (Int32 × fSt)} {fd ld : Nat} {r : (Int32 × fSt)} (hself : ∀ {p0 : Option Nat} {p1 : Int32} {p2 : Int32} {h : fSt} {r : (Int32 × fSt)}, self p0 p1 p2 h = some r → fMet l yX7_strengthOf (wsC yX7_strengthOf cX7_strengthOf 5 (some (.int))) fd ld D cA [va_rf p0, .int p1, .int p2] h r.2 (some (.int r.1))) (M : fM p s m args meth c D cA h0 { frames := fd + 2, cells := fCB h0 - fZ h0, slots := fLB h0 - fL h0, locals := ld + 52 } cX7_strengthOf 5 (some (.int)) RX7) (hfl : l.stackTraces = false) (a0 : Option Nat) (a1 : Int32) (s0 : Int32) (h : fSt) (hf : f_X7_strengthOf_L38 self a0 a1 s0 h = some r) : ∀ (H : Heap) (locs : List Loc) (cells slots : Nat) (ls : Array Slot), fCur D cA s h0 h H locs → lv_has ls 5 [(0, va_rf a0), (1, .int a1)] → W p l e { frames := fd + 2, cells := fCB h0 - fZ h0, slots := fLB h0 - fL h0, locals := ld + 52 } s m args below meth c H locs cells slots (MQ below (fQ D cA h0 r.2 (some (.int r.1))) args s (fCB h0 - fZ h0) (fLB h0 - fL h0) (fA h0)) (F0 m 38 ls [.int s0]) := by
  obtain ⟨hx, hb, hml, hr, hlocks, hts, hown, K, hR⟩ := id M
  intro H locs cells slots ls hC hl
  refine lv_istore (lv' := [(4, .int s0), (0, va_rf a0), (1, .int a1)]) hx hb dX7_strengthOf_38 hl (by decide) (congrArg (List.cons _) (flk rfl (flk rfl fln))) (fun ls hl => ?_)
  refine lv_iload hx hb dX7_strengthOf_40 (lv_at hl 0 rfl) ?_
  refine fr_aload_n hx hb dX7_strengthOf_42 rfl (lv_at hl 1 rfl) ?_
  obtain ⟨x1, g2, hf⟩ := obind hf
  refine fr_get hx hb hts hown K hC ct_4 (fgR_get g2) (by decide) kw495 rfl dX7_strengthOf_43 ?_
  refine lv_iload_n hx hb dX7_strengthOf_46 rfl (lv_at hl 2 rfl) ?_
  obtain ⟨b5, q6, hf⟩ := obind hf
  obtain ⟨r3, g4, hf⟩ := obind hf
  refine fr_callV hx hb hml hts hown K hC hR ct_6 (c_X6_at hfl D cA g4) 1 q6 kw195 kw293 kw193 kw194 kw25 (by decide +kernel) ⟨by dsimp only; omega, by dsimp only; omega⟩ rfl hl.1 (cat8 _ (by exact Nat.le_of_ble_eq_true rfl)) dX7_strengthOf_47 rfl (fun H locs _ _ hC => ?_)
  refine lv_imul hx hb dX7_strengthOf_50 ?_
  refine lv_bipush (v := (100 : Int32)) hx hb dX7_strengthOf_51 (by decide) ?_
  refine lv_idiv hx hb dX7_strengthOf_53 (by decide) ?_
  obtain rfl := Option.some.inj hf
  exact fr_iret hx hb hr hlocks hC dX7_strengthOf_54
set_option maxHeartbeats 4000000 in
set_option maxRecDepth 100000 in
theorem w_X7_strengthOf_L17 {p : Program} {l : Launch} {e : Env} {s : State} {m : MethodId} {args : Array Value} {below : List Frame} {meth : Method} {c : Code} {D : va_G} {cA : Nat → ClassId} {h0 : fSt} {self : Option Nat → Int32 → Int32 → fSt → Option (Int32 × fSt)} {fd ld : Nat} {r : (Int32 × fSt)} (hself : ∀ {p0 : Option Nat} {p1 : Int32} {p2 : Int32} {h : fSt} {r : (Int32 × fSt)}, self p0 p1 p2 h = some r → fMet l yX7_strengthOf (wsC yX7_strengthOf cX7_strengthOf 5 (some (.int))) fd ld D cA [va_rf p0, .int p1, .int p2] h r.2 (some (.int r.1))) (M : fM p s m args meth c D cA h0 { frames := fd + 2, cells := fCB h0 - fZ h0, slots := fLB h0 - fL h0, locals := ld + 52 } cX7_strengthOf 5 (some (.int)) RX7) (hfl : l.stackTraces = false) (a0 : Option Nat) (a1 : Int32) (a2 : Int32) (s0 : Int32) (h : fSt) (hf : f_X7_strengthOf_L17 self a0 a1 a2 s0 h = some r) : ∀ (H : Heap) (locs : List Loc) (cells slots : Nat) (ls : Array Slot), fCur D cA s h0 h H locs → lv_has ls 5 [(0, va_rf a0), (1, .int a1), (2, .int a2)] → W p l e { frames := fd + 2, cells := fCB h0 - fZ h0, slots := fLB h0 - fL h0, locals := ld + 52 } s m args below meth c H locs cells slots (MQ below (fQ D cA h0 r.2 (some (.int r.1))) args s (fCB h0 - fZ h0) (fLB h0 - fL h0) (fA h0)) (F0 m 17 ls [.int s0]) := by
  obtain ⟨hx, hb, hml, hr, hlocks, hts, hown, K, hR⟩ := id M
  intro H locs cells slots ls hC hl
  refine lv_istore_n (lv' := [(3, .int s0), (0, va_rf a0), (1, .int a1), (2, .int a2)]) hx hb dX7_strengthOf_17 rfl hl (by decide) (congrArg (List.cons _) (flk rfl (flk rfl (flk rfl fln)))) (fun ls hl => ?_)
  refine lv_iload_n hx hb dX7_strengthOf_18 rfl (lv_at hl 0 rfl) ?_
  refine lv_if_eq (tgt := 27) hx hb dX7_strengthOf_19 (by decide) (fun c7 => ?_) (fun c7 => ?_)
  · replace hf := opos c7 hf
    refine fr_aload_n hx hb dX7_strengthOf_27 rfl (lv_at hl 1 rfl) ?_
    obtain ⟨x8, g9, hf⟩ := obind hf
    refine fr_get hx hb hts hown K hC ct_4 (fgR_get g9) (by decide) kw512 rfl dX7_strengthOf_28 ?_
    refine lv_iload_n hx hb dX7_strengthOf_31 rfl (lv_at hl 2 rfl) ?_
    refine lv_iload_n hx hb dX7_strengthOf_32 rfl (lv_at hl 3 rfl) ?_
    refine lv_iconst (v := (1 : Int32)) hx hb dX7_strengthOf_33 (by decide) ?_
    refine lv_iadd hx hb dX7_strengthOf_34 ?_
    obtain ⟨r10, g11, hf⟩ := obind hf
    refine fr_callS hx hb hml hts hown K hC hR (hself g11) 3 kw292 kw290 kw291 kw23 (by decide +kernel) ⟨by dsimp only; omega, by dsimp only; omega⟩ rfl hl.1 (cat8 _ (by exact Nat.le_of_ble_eq_true rfl)) dX7_strengthOf_35 rfl (fun H locs _ _ hC => ?_)
    exact w_X7_strengthOf_L38 @hself M hfl _ _ _ _ hf _ _ _ _ _ hC (lv_sub hl [1, 2] rfl)
  · replace hf := oneg c7 hf
    refine lv_bipush (v := (100 : Int32)) hx hb dX7_strengthOf_22 (by decide) ?_
    refine lv_goto (tgt := 38) hx hb dX7_strengthOf_24 (by decide) ?_
    exact w_X7_strengthOf_L38 @hself M hfl _ _ _ _ hf _ _ _ _ _ hC (lv_sub hl [1, 2] rfl)
set_option maxHeartbeats 4000000 in
set_option maxRecDepth 100000 in
theorem w_X7_strengthOf_L12 {p : Program} {l : Launch} {e : Env} {s : State} {m : MethodId} {args : Array Value} {below : List Frame} {meth : Method} {c : Code} {D : va_G} {cA : Nat → ClassId} {h0 : fSt} {self : Option Nat → Int32 → Int32 → fSt → Option (Int32 × fSt)} {fd ld : Nat} {r : (Int32 × fSt)} (hself : ∀ {p0 : Option Nat} {p1 : Int32} {p2 : Int32} {h : fSt} {r : (Int32 × fSt)}, self p0 p1 p2 h = some r → fMet l yX7_strengthOf (wsC yX7_strengthOf cX7_strengthOf 5 (some (.int))) fd ld D cA [va_rf p0, .int p1, .int p2] h r.2 (some (.int r.1))) (M : fM p s m args meth c D cA h0 { frames := fd + 2, cells := fCB h0 - fZ h0, slots := fLB h0 - fL h0, locals := ld + 52 } cX7_strengthOf 5 (some (.int)) RX7) (hfl : l.stackTraces = false) (a0 : Option Nat) (a1 : Int32) (a2 : Int32) (h : fSt) (hf : f_X7_strengthOf_L12 self a0 a1 a2 h = some r) : ∀ (H : Heap) (locs : List Loc) (cells slots : Nat) (ls : Array Slot), fCur D cA s h0 h H locs → lv_has ls 5 [(0, va_rf a0), (1, .int a1), (2, .int a2)] → W p l e { frames := fd + 2, cells := fCB h0 - fZ h0, slots := fLB h0 - fL h0, locals := ld + 52 } s m args below meth c H locs cells slots (MQ below (fQ D cA h0 r.2 (some (.int r.1))) args s (fCB h0 - fZ h0) (fLB h0 - fL h0) (fA h0)) (F0 m 12 ls []) := by
  obtain ⟨hx, hb, hml, hr, hlocks, hts, hown, K, hR⟩ := id M
  intro H locs cells slots ls hC hl
  refine lv_iconst (v := (1 : Int32)) hx hb dX7_strengthOf_12 (by decide) ?_
  refine lv_goto (tgt := 17) hx hb dX7_strengthOf_13 (by decide) ?_
  exact w_X7_strengthOf_L17 @hself M hfl _ _ _ _ _ hf _ _ _ _ _ hC (lv_sub hl [0, 1, 2] rfl)
set_option maxHeartbeats 4000000 in
set_option maxRecDepth 100000 in
theorem w_X7_strengthOf_L0 {p : Program} {l : Launch} {e : Env} {s : State} {m : MethodId} {args : Array Value} {below : List Frame} {meth : Method} {c : Code} {D : va_G} {cA : Nat → ClassId} {h0 : fSt} {self : Option Nat → Int32 → Int32 → fSt → Option (Int32 × fSt)} {fd ld : Nat} {r : (Int32 × fSt)} (hself : ∀ {p0 : Option Nat} {p1 : Int32} {p2 : Int32} {h : fSt} {r : (Int32 × fSt)}, self p0 p1 p2 h = some r → fMet l yX7_strengthOf (wsC yX7_strengthOf cX7_strengthOf 5 (some (.int))) fd ld D cA [va_rf p0, .int p1, .int p2] h r.2 (some (.int r.1))) (M : fM p s m args meth c D cA h0 { frames := fd + 2, cells := fCB h0 - fZ h0, slots := fLB h0 - fL h0, locals := ld + 52 } cX7_strengthOf 5 (some (.int)) RX7) (hfl : l.stackTraces = false) (a0 : Option Nat) (a1 : Int32) (a2 : Int32) (h : fSt) (hf : f_X7_strengthOf_L0 self a0 a1 a2 h = some r) : ∀ (H : Heap) (locs : List Loc) (cells slots : Nat) (ls : Array Slot), fCur D cA s h0 h H locs → lv_has ls 5 [(0, va_rf a0), (1, .int a1), (2, .int a2)] → W p l e { frames := fd + 2, cells := fCB h0 - fZ h0, slots := fLB h0 - fL h0, locals := ld + 52 } s m args below meth c H locs cells slots (MQ below (fQ D cA h0 r.2 (some (.int r.1))) args s (fCB h0 - fZ h0) (fLB h0 - fL h0) (fA h0)) (F0 m 0 ls []) := by
  obtain ⟨hx, hb, hml, hr, hlocks, hts, hown, K, hR⟩ := id M
  intro H locs cells slots ls hC hl
  refine fr_aload_n hx hb dX7_strengthOf_0 rfl (lv_at hl 0 rfl) ?_
  obtain ⟨x12, g13, hf⟩ := obind hf
  refine fr_get hx hb hts hown K hC ct_4 (fgR_get g13) (by decide) kw512 rfl dX7_strengthOf_1 ?_
  refine fr_ifnull (tgt := 12) hx hb dX7_strengthOf_4 (by decide) (fun c14 => ?_) (fun c14 => ?_)
  · replace hf := opos c14 hf
    exact w_X7_strengthOf_L12 @hself M hfl _ _ _ _ hf _ _ _ _ _ hC (lv_sub hl [0, 1, 2] rfl)
  · replace hf := oneg c14 hf
    refine lv_iload_n hx hb dX7_strengthOf_7 rfl (lv_at hl 2 rfl) ?_
    refine lv_iconst (v := (4 : Int32)) hx hb dX7_strengthOf_8 (by decide) ?_
    refine lv_icmp_lt (tgt := 16) hx hb dX7_strengthOf_9 (by decide) (fun c15 => ?_) (fun c15 => ?_)
    · replace hf := opos c15 hf
      refine lv_iconst (v := (0 : Int32)) hx hb dX7_strengthOf_16 (by decide) ?_
      exact w_X7_strengthOf_L17 @hself M hfl _ _ _ _ _ hf _ _ _ _ _ hC (lv_sub hl [0, 1, 2] rfl)
    · replace hf := oneg c15 hf
      exact w_X7_strengthOf_L12 @hself M hfl _ _ _ _ hf _ _ _ _ _ hC (lv_sub hl [0, 1, 2] rfl)
set_option maxRecDepth 100000 in
theorem c_X7_strengthOf {l : Launch} (hfl : l.stackTraces = false) (D : va_G) (cA : Nat → ClassId) (d : Nat) : ∀ {p0 : Option Nat} {p1 : Int32} {p2 : Int32} {h : fSt} {r : (Int32 × fSt)}, f_X7_strengthOf d p0 p1 p2 h = some r → fMet l yX7_strengthOf (wsC yX7_strengthOf cX7_strengthOf 5 (some (.int))) (2 * d) (52 * d) D cA [va_rf p0, .int p1, .int p2] h r.2 (some (.int r.1)) := by
  induction d with
  | zero =>
    intro p0 p1 p2 h r hf
    exact nomatch (show (none : Option (Int32 × fSt)) = some r from hf)
  | succ d hself =>
    intro p0 p1 p2 h r hf
    have hf : f_X7_strengthOf_L0 (f_X7_strengthOf d) p0 p1 p2 h = some r := hf
    exact fMet.of (own := RX7) (by decide +kernel) rfl (lva1 (va_rf_cat _) (lva1 rfl (lva1 rfl lva0))) (lgl1 (va_rf_cat _) (lgl1 rfl (lgl1 rfl lgl0))) (Nat.le_of_ble_eq_true rfl) (fun p e s m args below meth c ls hnm _ M hC hl => by
    have hl : lv_has ls 5 [(0, va_rf p0), (1, .int p1), (2, .int p2)] := hl
    exact w_X7_strengthOf_L0 @hself M hfl _ _ _ _ hf _ _ _ _ _ hC (lv_sub hl [0, 1, 2] rfl))
set_option maxHeartbeats 4000000 in
set_option maxRecDepth 100000 in
theorem w_X7_mixedWithNode_L219 {p : Program} {l : Launch} {e : Env} {s : State} {m : MethodId} {args : Array Value} {below : List Frame} {meth : Method} {c : Code} {D : va_G} {cA : Nat → ClassId} {h0 : fSt} {r : (Int64 × fSt)} (M : fM p s m args meth c D cA h0 { frames := 25, cells := fCB h0 - fZ h0, slots := fLB h0 - fL h0, locals := 615 } cX7_mixedWithNode 8 (some (.long)) RX7) (hfl : l.stackTraces = false) : ∀ (n : Nat) (a0 : Option Nat) (a4 : Int64) (a6 : Int32) (h : fSt), f_X7_mixedWithNode_L219 n a0 a4 a6 h = some r → ∀ (H : Heap) (locs : List Loc) (cells slots : Nat) (ls : Array Slot), fCur D cA s h0 h H locs → lv_has ls 8 [(0, va_rf a0), (4, .long a4), (6, .int a6)] → W p l e { frames := 25, cells := fCB h0 - fZ h0, slots := fLB h0 - fL h0, locals := 615 } s m args below meth c H locs cells slots (MQ below (fQ D cA h0 r.2 (some (.long r.1))) args s (fCB h0 - fZ h0) (fLB h0 - fL h0) (fA h0)) (F0 m 219 ls []) := by
  obtain ⟨hx, hb, hml, hr, hlocks, hts, hown, K, hR⟩ := id M
  intro n
  induction n with
  | zero =>
    intro a0 a4 a6 h hf
    exact nomatch (show (none : Option (Int64 × fSt)) = some r from hf)
  | succ n hk219 =>
    intro a0 a4 a6 h hf H locs cells slots ls hC hl
    refine lv_iload hx hb dX7_mixedWithNode_219 (lv_at hl 2 rfl) ?_
    refine lv_iconst (v := (3 : Int32)) hx hb dX7_mixedWithNode_221 (by decide) ?_
    refine lv_icmp_gt (tgt := 262) hx hb dX7_mixedWithNode_222 (by decide) (fun c1 => ?_) (fun c1 => ?_)
    · replace hf := opos c1 hf
      refine lv_lload hx hb dX7_mixedWithNode_262 (lv_at hl 1 rfl) ?_
      obtain rfl := Option.some.inj hf
      exact fr_lret hx hb hr hlocks hC dX7_mixedWithNode_264
    · replace hf := oneg c1 hf
      refine fr_aload_n hx hb dX7_mixedWithNode_225 rfl (lv_at hl 0 rfl) ?_
      obtain ⟨x2, g3, hf⟩ := obind hf
      refine fr_get hx hb hts hown K hC ct_7 (fgR_get g3) (by decide) kw621 rfl dX7_mixedWithNode_226 ?_
      refine lv_iload hx hb dX7_mixedWithNode_229 (lv_at hl 2 rfl) ?_
      obtain ⟨b6, q7, hf⟩ := obind hf
      obtain ⟨r4, g5, hf⟩ := obind hf
      refine fr_callV hx hb hml hts hown K hC hR ct_0 (c_X0_side hfl D cA g5) 1 q7 kw281 kw278 kw279 kw280 kw28 (by decide +kernel) ⟨by exact Nat.le_of_ble_eq_true rfl, by exact Nat.le_of_ble_eq_true rfl⟩ rfl hl.1 (cat8 _ (by exact Nat.le_of_ble_eq_true rfl)) dX7_mixedWithNode_231 rfl (fun H locs _ _ hC => ?_)
      refine fr_astore (lv' := [(7, va_rf r4.1), (0, va_rf a0), (4, .long a4), (6, .int a6)]) hx hb dX7_mixedWithNode_234 hl (by decide) (congrArg (List.cons _) (flk rfl (flk rfl (flk rfl fln)))) (fun ls hl => ?_)
      refine lv_lload hx hb dX7_mixedWithNode_236 (lv_at hl 2 rfl) ?_
      refine fr_aload hx hb dX7_mixedWithNode_238 (lv_at hl 0 rfl) ?_
      obtain ⟨x8, g9, hf⟩ := obind hf
      refine fr_get hx hb hts hown K hC ct_1 (fgJ_get g9) (by decide) kw596 rfl dX7_mixedWithNode_240 ?_
      obtain ⟨r10, g11, hf⟩ := obind hf
      refine fr_callS hx hb hml hts hown K hC hR (c_X7_mixed hfl D cA g11) 2 kw378 kw376 kw377 kw23 (by decide +kernel) ⟨by exact Nat.le_of_ble_eq_true rfl, by exact Nat.le_of_ble_eq_true rfl⟩ rfl hl.1 (cat8 _ (by exact Nat.le_of_ble_eq_true rfl)) dX7_mixedWithNode_243 rfl (fun H locs _ _ hC => ?_)
      refine fr_aload hx hb dX7_mixedWithNode_246 (lv_at hl 0 rfl) ?_
      obtain ⟨x12, g13, hf⟩ := obind hf
      refine fr_get hx hb hts hown K hC ct_1 (fgJ_get g13) (by decide) kw598 rfl dX7_mixedWithNode_248 ?_
      obtain ⟨r14, g15, hf⟩ := obind hf
      refine fr_callS hx hb hml hts hown K hC hR (c_X7_mixed hfl D cA g15) 2 kw378 kw376 kw377 kw23 (by decide +kernel) ⟨by exact Nat.le_of_ble_eq_true rfl, by exact Nat.le_of_ble_eq_true rfl⟩ rfl hl.1 (cat8 _ (by exact Nat.le_of_ble_eq_true rfl)) dX7_mixedWithNode_251 rfl (fun H locs _ _ hC => ?_)
      refine lv_lstore (lv' := [(4, .long r14.1), (7, va_rf r4.1), (0, va_rf a0), (6, .int a6)]) hx hb dX7_mixedWithNode_254 hl (by decide) (congrArg (List.cons _) (flk rfl (flk rfl (fld rfl (flk rfl fln))))) (fun ls hl => ?_)
      refine lv_iinc (v := (a6 + (1 : Int32))) (lv' := [(6, .int (a6 + (1 : Int32))), (4, .long r14.1), (7, va_rf r4.1), (0, va_rf a0)]) hx hb dX7_mixedWithNode_256 hl (k := 3) rfl rfl (by decide) (congrArg (List.cons _) (flk rfl (flk rfl (flk rfl (fld rfl fln))))) (fun ls hl => ?_)
      refine lv_goto (tgt := 219) hx hb dX7_mixedWithNode_259 (by decide) ?_
      exact hk219 _ _ _ _ hf _ _ _ _ _ hC (lv_sub hl [3, 1, 0] rfl)
set_option maxHeartbeats 4000000 in
set_option maxRecDepth 100000 in
theorem w_X7_mixedWithNode_L129 {p : Program} {l : Launch} {e : Env} {s : State} {m : MethodId} {args : Array Value} {below : List Frame} {meth : Method} {c : Code} {D : va_G} {cA : Nat → ClassId} {h0 : fSt} {r : (Int64 × fSt)} (M : fM p s m args meth c D cA h0 { frames := 25, cells := fCB h0 - fZ h0, slots := fLB h0 - fL h0, locals := 615 } cX7_mixedWithNode 8 (some (.long)) RX7) (hfl : l.stackTraces = false) (a0 : Option Nat) (a3 : Option Nat) (s1 : Int64) (s0 : Int64) (h : fSt) (hf : f_X7_mixedWithNode_L129 a0 a3 s1 s0 h = some r) : ∀ (H : Heap) (locs : List Loc) (cells slots : Nat) (ls : Array Slot), fCur D cA s h0 h H locs → lv_has ls 8 [(0, va_rf a0), (3, va_rf a3)] → W p l e { frames := 25, cells := fCB h0 - fZ h0, slots := fLB h0 - fL h0, locals := 615 } s m args below meth c H locs cells slots (MQ below (fQ D cA h0 r.2 (some (.long r.1))) args s (fCB h0 - fZ h0) (fLB h0 - fL h0) (fA h0)) (F0 m 129 ls [.long s1, .long s0]) := by
  obtain ⟨hx, hb, hml, hr, hlocks, hts, hown, K, hR⟩ := id M
  intro H locs cells slots ls hC hl
  obtain ⟨r16, g17, hf⟩ := obind hf
  refine fr_callS hx hb hml hts hown K hC hR (c_X7_mixed hfl D cA g17) 2 kw378 kw376 kw377 kw23 (by decide +kernel) ⟨by exact Nat.le_of_ble_eq_true rfl, by exact Nat.le_of_ble_eq_true rfl⟩ rfl hl.1 (cat8 _ (by exact Nat.le_of_ble_eq_true rfl)) dX7_mixedWithNode_129 rfl (fun H locs _ _ hC => ?_)
  refine lv_lstore (lv' := [(4, .long r16.1), (0, va_rf a0), (3, va_rf a3)]) hx hb dX7_mixedWithNode_132 hl (by decide) (congrArg (List.cons _) (flk rfl (flk (adj2 _ _) fln))) (fun ls hl => ?_)
  refine lv_lload hx hb dX7_mixedWithNode_134 (lv_at hl 0 rfl) ?_
  refine fr_aload_n hx hb dX7_mixedWithNode_136 rfl (lv_at hl 2 rfl) ?_
  refine fr_aload_n hx hb dX7_mixedWithNode_137 rfl (lv_at hl 1 rfl) ?_
  obtain ⟨x18, g19, hf⟩ := obind hf
  refine fr_get hx hb hts hown K hC ct_7 (fgI_get g19) (by decide) kw624 rfl dX7_mixedWithNode_138 ?_
  refine lv_iconst (v := (0 : Int32)) hx hb dX7_mixedWithNode_141 (by decide) ?_
  obtain ⟨r20, g21, hf⟩ := obind hf
  refine fr_callS hx hb hml hts hown K hC hR (c_X7_strengthOf hfl D cA 8 g21) 3 kw292 kw290 kw291 kw23 (by decide +kernel) ⟨by exact Nat.le_of_ble_eq_true rfl, by exact Nat.le_of_ble_eq_true rfl⟩ rfl hl.1 (cat8 _ (by exact Nat.le_of_ble_eq_true rfl)) dX7_mixedWithNode_142 rfl (fun H locs _ _ hC => ?_)
  refine lv_i2l (v := (Int32.toInt64 r20.1)) hx hb dX7_mixedWithNode_145 rfl ?_
  obtain ⟨r22, g23, hf⟩ := obind hf
  refine fr_callS hx hb hml hts hown K hC hR (c_X7_mixed hfl D cA g23) 2 kw378 kw376 kw377 kw23 (by decide +kernel) ⟨by exact Nat.le_of_ble_eq_true rfl, by exact Nat.le_of_ble_eq_true rfl⟩ rfl hl.1 (cat8 _ (by exact Nat.le_of_ble_eq_true rfl)) dX7_mixedWithNode_146 rfl (fun H locs _ _ hC => ?_)
  refine lv_lstore (lv' := [(4, .long r22.1), (0, va_rf a0), (3, va_rf a3)]) hx hb dX7_mixedWithNode_149 hl (by decide) (congrArg (List.cons _) (fld rfl (flk rfl (flk (adj2 _ _) fln)))) (fun ls hl => ?_)
  refine lv_lload hx hb dX7_mixedWithNode_151 (lv_at hl 0 rfl) ?_
  refine fr_aload_n hx hb dX7_mixedWithNode_153 rfl (lv_at hl 2 rfl) ?_
  obtain ⟨x24, g25, hf⟩ := obind hf
  refine fr_get hx hb hts hown K hC ct_4 (fgI_get g25) (by decide) kw518 rfl dX7_mixedWithNode_154 ?_
  refine lv_i2l (v := (Int32.toInt64 x24)) hx hb dX7_mixedWithNode_157 rfl ?_
  obtain ⟨r26, g27, hf⟩ := obind hf
  refine fr_callS hx hb hml hts hown K hC hR (c_X7_mixed hfl D cA g27) 2 kw378 kw376 kw377 kw23 (by decide +kernel) ⟨by exact Nat.le_of_ble_eq_true rfl, by exact Nat.le_of_ble_eq_true rfl⟩ rfl hl.1 (cat8 _ (by exact Nat.le_of_ble_eq_true rfl)) dX7_mixedWithNode_158 rfl (fun H locs _ _ hC => ?_)
  refine lv_lstore (lv' := [(4, .long r26.1), (0, va_rf a0), (3, va_rf a3)]) hx hb dX7_mixedWithNode_161 hl (by decide) (congrArg (List.cons _) (fld rfl (flk rfl (flk (adj2 _ _) fln)))) (fun ls hl => ?_)
  refine fr_aload_n hx hb dX7_mixedWithNode_163 rfl (lv_at hl 1 rfl) ?_
  refine fr_aload_n hx hb dX7_mixedWithNode_164 rfl (lv_at hl 2 rfl) ?_
  refine lv_iconst (v := (1 : Int32)) hx hb dX7_mixedWithNode_165 (by decide) ?_
  refine lv_iconst (v := (2 : Int32)) hx hb dX7_mixedWithNode_166 (by decide) ?_
  obtain ⟨b30, q31, hf⟩ := obind hf
  obtain ⟨r28, g29, hf⟩ := obind hf
  refine fr_callV hx hb hml hts hown K hC hR ct_7 (c_X7_raise hfl D cA g29) 3 q31 kw183 kw180 kw182 kw3 kw23 (by decide +kernel) ⟨by exact Nat.le_of_ble_eq_true rfl, by exact Nat.le_of_ble_eq_true rfl⟩ rfl hl.1 (cat8 _ (by exact Nat.le_of_ble_eq_true rfl)) dX7_mixedWithNode_167 rfl (fun H locs _ _ hC => ?_)
  refine fr_aload_n hx hb dX7_mixedWithNode_170 rfl (lv_at hl 1 rfl) ?_
  refine lv_lload hx hb dX7_mixedWithNode_171 (lv_at hl 0 rfl) ?_
  obtain ⟨b34, q35, hf⟩ := obind hf
  obtain ⟨r32, g33, hf⟩ := obind hf
  refine fr_callV hx hb hml hts hown K hC hR ct_7 (c_X7_mixedWithPoint hfl D cA g33) 1 q35 kw395 kw392 kw394 kw13 kw23 (by decide +kernel) ⟨by exact Nat.le_of_ble_eq_true rfl, by exact Nat.le_of_ble_eq_true rfl⟩ rfl hl.1 (cat8 _ (by exact Nat.le_of_ble_eq_true rfl)) dX7_mixedWithNode_173 rfl (fun H locs _ _ hC => ?_)
  refine lv_lstore (lv' := [(4, .long r32.1), (0, va_rf a0), (3, va_rf a3)]) hx hb dX7_mixedWithNode_176 hl (by decide) (congrArg (List.cons _) (fld rfl (flk rfl (flk (adj2 _ _) fln)))) (fun ls hl => ?_)
  refine fr_aload_n hx hb dX7_mixedWithNode_178 rfl (lv_at hl 1 rfl) ?_
  obtain ⟨x36, g37, hf⟩ := obind hf
  refine fr_get hx hb hts hown K hC ct_7 (fgR_get g37) (by decide) kw620 rfl dX7_mixedWithNode_179 ?_
  refine lv_lconst (v := (1 : Int64)) hx hb dX7_mixedWithNode_182 (by decide) ?_
  refine fr_ldc2 (v := (2 : Int64)) hx hb hts hown kw396 dX7_mixedWithNode_183 ?_
  refine lv_lconst (v := (1 : Int64)) hx hb dX7_mixedWithNode_186 (by decide) ?_
  obtain ⟨b40, q41, hf⟩ := obind hf
  obtain ⟨r38, g39, hf⟩ := obind hf
  refine fr_callV hx hb hml hts hown K hC hR ct_5 (c_X5_set hfl D cA g39) 3 q41 kw187 kw184 kw185 kw186 kw27 (by decide +kernel) ⟨by exact Nat.le_of_ble_eq_true rfl, by exact Nat.le_of_ble_eq_true rfl⟩ rfl hl.1 (cat8 _ (by exact Nat.le_of_ble_eq_true rfl)) dX7_mixedWithNode_187 rfl (fun H locs _ _ hC => ?_)
  refine fr_aload_n hx hb dX7_mixedWithNode_190 rfl (lv_at hl 1 rfl) ?_
  obtain ⟨x42, g43, hf⟩ := obind hf
  refine fr_get hx hb hts hown K hC ct_7 (fgR_get g43) (by decide) kw620 rfl dX7_mixedWithNode_191 ?_
  refine fr_aload_n hx hb dX7_mixedWithNode_194 rfl (lv_at hl 2 rfl) ?_
  refine fr_aload_n hx hb dX7_mixedWithNode_195 rfl (lv_at hl 1 rfl) ?_
  obtain ⟨x44, g45, hf⟩ := obind hf
  refine fr_get hx hb hts hown K hC ct_7 (fgI_get g45) (by decide) kw624 rfl dX7_mixedWithNode_196 ?_
  refine lv_iconst (v := (0 : Int32)) hx hb dX7_mixedWithNode_199 (by decide) ?_
  obtain ⟨r46, g47, hf⟩ := obind hf
  refine fr_callS hx hb hml hts hown K hC hR (c_X7_sink hfl D cA 8 g47) 4 kw229 kw227 kw228 kw23 (by decide +kernel) ⟨by exact Nat.le_of_ble_eq_true rfl, by exact Nat.le_of_ble_eq_true rfl⟩ rfl hl.1 (cat8 _ (by exact Nat.le_of_ble_eq_true rfl)) dX7_mixedWithNode_200 rfl (fun H locs _ _ hC => ?_)
  refine fr_aload_n hx hb dX7_mixedWithNode_203 rfl (lv_at hl 1 rfl) ?_
  refine lv_lload hx hb dX7_mixedWithNode_204 (lv_at hl 0 rfl) ?_
  obtain ⟨b50, q51, hf⟩ := obind hf
  obtain ⟨r48, g49, hf⟩ := obind hf
  refine fr_callV hx hb hml hts hown K hC hR ct_7 (c_X7_mixedWithPoint hfl D cA g49) 1 q51 kw395 kw392 kw394 kw13 kw23 (by decide +kernel) ⟨by exact Nat.le_of_ble_eq_true rfl, by exact Nat.le_of_ble_eq_true rfl⟩ rfl hl.1 (cat8 _ (by exact Nat.le_of_ble_eq_true rfl)) dX7_mixedWithNode_206 rfl (fun H locs _ _ hC => ?_)
  refine lv_lstore (lv' := [(4, .long r48.1), (0, va_rf a0), (3, va_rf a3)]) hx hb dX7_mixedWithNode_209 hl (by decide) (congrArg (List.cons _) (fld rfl (flk rfl (flk (adj2 _ _) fln)))) (fun ls hl => ?_)
  refine fr_aload_n hx hb dX7_mixedWithNode_211 rfl (lv_at hl 1 rfl) ?_
  refine fr_aload_n hx hb dX7_mixedWithNode_212 rfl (lv_at hl 2 rfl) ?_
  obtain ⟨b54, q55, hf⟩ := obind hf
  obtain ⟨r52, g53, hf⟩ := obind hf
  refine fr_callV hx hb hml hts hown K hC hR ct_7 (c_X7_gatherBounds hfl D cA g53) 1 q55 kw250 kw247 kw249 kw8 kw23 (by decide +kernel) ⟨by exact Nat.le_of_ble_eq_true rfl, by exact Nat.le_of_ble_eq_true rfl⟩ rfl hl.1 (cat8 _ (by exact Nat.le_of_ble_eq_true rfl)) dX7_mixedWithNode_213 rfl (fun H locs _ _ hC => ?_)
  refine lv_iconst (v := (0 : Int32)) hx hb dX7_mixedWithNode_216 (by decide) ?_
  refine lv_istore (lv' := [(6, .int (0 : Int32)), (4, .long r48.1), (0, va_rf a0), (3, va_rf a3)]) hx hb dX7_mixedWithNode_217 hl (by decide) (congrArg (List.cons _) (flk rfl (flk rfl (flk rfl fln)))) (fun ls hl => ?_)
  exact w_X7_mixedWithNode_L219 M hfl 4096 _ _ _ _ hf _ _ _ _ _ hC (lv_sub hl [2, 1, 0] rfl)
set_option maxHeartbeats 4000000 in
set_option maxRecDepth 100000 in
theorem w_X7_mixedWithNode_L0 {p : Program} {l : Launch} {e : Env} {s : State} {m : MethodId} {args : Array Value} {below : List Frame} {meth : Method} {c : Code} {D : va_G} {cA : Nat → ClassId} {h0 : fSt} {r : (Int64 × fSt)} (M : fM p s m args meth c D cA h0 { frames := 25, cells := fCB h0 - fZ h0, slots := fLB h0 - fL h0, locals := 615 } cX7_mixedWithNode 8 (some (.long)) RX7) (hfl : l.stackTraces = false) (a0 : Option Nat) (a1 : Int64) (a3 : Option Nat) (h : fSt) (hf : f_X7_mixedWithNode_L0 a0 a1 a3 h = some r) : ∀ (H : Heap) (locs : List Loc) (cells slots : Nat) (ls : Array Slot), fCur D cA s h0 h H locs → lv_has ls 8 [(0, va_rf a0), (1, .long a1), (3, va_rf a3)] → W p l e { frames := 25, cells := fCB h0 - fZ h0, slots := fLB h0 - fL h0, locals := 615 } s m args below meth c H locs cells slots (MQ below (fQ D cA h0 r.2 (some (.long r.1))) args s (fCB h0 - fZ h0) (fLB h0 - fL h0) (fA h0)) (F0 m 0 ls []) := by
  obtain ⟨hx, hb, hml, hr, hlocks, hts, hown, K, hR⟩ := id M
  intro H locs cells slots ls hC hl
  refine lv_lload_n hx hb dX7_mixedWithNode_0 rfl (lv_at hl 1 rfl) ?_
  refine fr_aload_n hx hb dX7_mixedWithNode_1 rfl (lv_at hl 2 rfl) ?_
  obtain ⟨x56, g57, hf⟩ := obind hf
  refine fr_get hx hb hts hown K hC ct_4 (fgI_get g57) (by decide) kw480 rfl dX7_mixedWithNode_2 ?_
  refine lv_i2l (v := (Int32.toInt64 x56)) hx hb dX7_mixedWithNode_5 rfl ?_
  obtain ⟨r58, g59, hf⟩ := obind hf
  refine fr_callS hx hb hml hts hown K hC hR (c_X7_mixed hfl D cA g59) 2 kw378 kw376 kw377 kw23 (by decide +kernel) ⟨by exact Nat.le_of_ble_eq_true rfl, by exact Nat.le_of_ble_eq_true rfl⟩ rfl hl.1 (cat8 _ (by exact Nat.le_of_ble_eq_true rfl)) dX7_mixedWithNode_6 rfl (fun H locs _ _ hC => ?_)
  refine lv_lstore (lv' := [(4, .long r58.1), (0, va_rf a0), (1, .long a1), (3, va_rf a3)]) hx hb dX7_mixedWithNode_9 hl (by decide) (congrArg (List.cons _) (flk rfl (flk rfl (flk (adj2 _ _) fln)))) (fun ls hl => ?_)
  refine lv_lload hx hb dX7_mixedWithNode_11 (lv_at hl 0 rfl) ?_
  refine fr_aload_n hx hb dX7_mixedWithNode_13 rfl (lv_at hl 3 rfl) ?_
  obtain ⟨r60, g61, hf⟩ := obind hf
  refine fr_callS hx hb hml hts hown K hC hR (c_X7_parentNumber hfl D cA g61) 1 kw128 kw126 kw127 kw23 (by decide +kernel) ⟨by exact Nat.le_of_ble_eq_true rfl, by exact Nat.le_of_ble_eq_true rfl⟩ rfl hl.1 (cat8 _ (by exact Nat.le_of_ble_eq_true rfl)) dX7_mixedWithNode_14 rfl (fun H locs _ _ hC => ?_)
  refine lv_i2l (v := (Int32.toInt64 r60.1)) hx hb dX7_mixedWithNode_17 rfl ?_
  obtain ⟨r62, g63, hf⟩ := obind hf
  refine fr_callS hx hb hml hts hown K hC hR (c_X7_mixed hfl D cA g63) 2 kw378 kw376 kw377 kw23 (by decide +kernel) ⟨by exact Nat.le_of_ble_eq_true rfl, by exact Nat.le_of_ble_eq_true rfl⟩ rfl hl.1 (cat8 _ (by exact Nat.le_of_ble_eq_true rfl)) dX7_mixedWithNode_18 rfl (fun H locs _ _ hC => ?_)
  refine lv_lstore (lv' := [(4, .long r62.1), (0, va_rf a0), (1, .long a1), (3, va_rf a3)]) hx hb dX7_mixedWithNode_21 hl (by decide) (congrArg (List.cons _) (fld rfl (flk rfl (flk rfl (flk (adj2 _ _) fln))))) (fun ls hl => ?_)
  refine lv_lload hx hb dX7_mixedWithNode_23 (lv_at hl 0 rfl) ?_
  refine fr_aload_n hx hb dX7_mixedWithNode_25 rfl (lv_at hl 3 rfl) ?_
  obtain ⟨b66, q67, hf⟩ := obind hf
  obtain ⟨r64, g65, hf⟩ := obind hf
  refine fr_callV hx hb hml hts hown K hC hR ct_4 (c_X4_depth hfl D cA g65) 0 q67 kw136 kw133 kw134 kw135 kw24 (by decide +kernel) ⟨by exact Nat.le_of_ble_eq_true rfl, by exact Nat.le_of_ble_eq_true rfl⟩ rfl hl.1 (cat8 _ (by exact Nat.le_of_ble_eq_true rfl)) dX7_mixedWithNode_26 rfl (fun H locs _ _ hC => ?_)
  refine lv_i2l (v := (Int32.toInt64 r64.1)) hx hb dX7_mixedWithNode_29 rfl ?_
  obtain ⟨r68, g69, hf⟩ := obind hf
  refine fr_callS hx hb hml hts hown K hC hR (c_X7_mixed hfl D cA g69) 2 kw378 kw376 kw377 kw23 (by decide +kernel) ⟨by exact Nat.le_of_ble_eq_true rfl, by exact Nat.le_of_ble_eq_true rfl⟩ rfl hl.1 (cat8 _ (by exact Nat.le_of_ble_eq_true rfl)) dX7_mixedWithNode_30 rfl (fun H locs _ _ hC => ?_)
  refine lv_lstore (lv' := [(4, .long r68.1), (0, va_rf a0), (1, .long a1), (3, va_rf a3)]) hx hb dX7_mixedWithNode_33 hl (by decide) (congrArg (List.cons _) (fld rfl (flk rfl (flk rfl (flk (adj2 _ _) fln))))) (fun ls hl => ?_)
  refine lv_lload hx hb dX7_mixedWithNode_35 (lv_at hl 0 rfl) ?_
  refine fr_aload_n hx hb dX7_mixedWithNode_37 rfl (lv_at hl 3 rfl) ?_
  obtain ⟨x70, g71, hf⟩ := obind hf
  refine fr_get hx hb hts hown K hC ct_4 (fgR_get g71) (by decide) kw487 rfl dX7_mixedWithNode_38 ?_
  refine fr_aload_n hx hb dX7_mixedWithNode_41 rfl (lv_at hl 1 rfl) ?_
  obtain ⟨x72, g73, hf⟩ := obind hf
  refine fr_get hx hb hts hown K hC ct_7 (fgI_get g73) (by decide) kw624 rfl dX7_mixedWithNode_42 ?_
  obtain ⟨b76, q77, hf⟩ := obind hf
  obtain ⟨r74, g75, hf⟩ := obind hf
  refine fr_callV hx hb hml hts hown K hC hR ct_6 (c_X6_at hfl D cA g75) 1 q77 kw195 kw293 kw193 kw194 kw25 (by decide +kernel) ⟨by exact Nat.le_of_ble_eq_true rfl, by exact Nat.le_of_ble_eq_true rfl⟩ rfl hl.1 (cat8 _ (by exact Nat.le_of_ble_eq_true rfl)) dX7_mixedWithNode_45 rfl (fun H locs _ _ hC => ?_)
  refine lv_i2l (v := (Int32.toInt64 r74.1)) hx hb dX7_mixedWithNode_48 rfl ?_
  obtain ⟨r78, g79, hf⟩ := obind hf
  refine fr_callS hx hb hml hts hown K hC hR (c_X7_mixed hfl D cA g79) 2 kw378 kw376 kw377 kw23 (by decide +kernel) ⟨by exact Nat.le_of_ble_eq_true rfl, by exact Nat.le_of_ble_eq_true rfl⟩ rfl hl.1 (cat8 _ (by exact Nat.le_of_ble_eq_true rfl)) dX7_mixedWithNode_49 rfl (fun H locs _ _ hC => ?_)
  refine lv_lstore (lv' := [(4, .long r78.1), (0, va_rf a0), (1, .long a1), (3, va_rf a3)]) hx hb dX7_mixedWithNode_52 hl (by decide) (congrArg (List.cons _) (fld rfl (flk rfl (flk rfl (flk (adj2 _ _) fln))))) (fun ls hl => ?_)
  refine lv_lload hx hb dX7_mixedWithNode_54 (lv_at hl 0 rfl) ?_
  refine fr_aload_n hx hb dX7_mixedWithNode_56 rfl (lv_at hl 3 rfl) ?_
  obtain ⟨x80, g81, hf⟩ := obind hf
  refine fr_get hx hb hts hown K hC ct_4 (fgR_get g81) (by decide) kw490 rfl dX7_mixedWithNode_57 ?_
  refine fr_aload_n hx hb dX7_mixedWithNode_60 rfl (lv_at hl 1 rfl) ?_
  obtain ⟨x82, g83, hf⟩ := obind hf
  refine fr_get hx hb hts hown K hC ct_7 (fgI_get g83) (by decide) kw624 rfl dX7_mixedWithNode_61 ?_
  obtain ⟨b86, q87, hf⟩ := obind hf
  obtain ⟨r84, g85, hf⟩ := obind hf
  refine fr_callV hx hb hml hts hown K hC hR ct_6 (c_X6_at hfl D cA g85) 1 q87 kw195 kw293 kw193 kw194 kw25 (by decide +kernel) ⟨by exact Nat.le_of_ble_eq_true rfl, by exact Nat.le_of_ble_eq_true rfl⟩ rfl hl.1 (cat8 _ (by exact Nat.le_of_ble_eq_true rfl)) dX7_mixedWithNode_64 rfl (fun H locs _ _ hC => ?_)
  refine lv_i2l (v := (Int32.toInt64 r84.1)) hx hb dX7_mixedWithNode_67 rfl ?_
  obtain ⟨r88, g89, hf⟩ := obind hf
  refine fr_callS hx hb hml hts hown K hC hR (c_X7_mixed hfl D cA g89) 2 kw378 kw376 kw377 kw23 (by decide +kernel) ⟨by exact Nat.le_of_ble_eq_true rfl, by exact Nat.le_of_ble_eq_true rfl⟩ rfl hl.1 (cat8 _ (by exact Nat.le_of_ble_eq_true rfl)) dX7_mixedWithNode_68 rfl (fun H locs _ _ hC => ?_)
  refine lv_lstore (lv' := [(4, .long r88.1), (0, va_rf a0), (1, .long a1), (3, va_rf a3)]) hx hb dX7_mixedWithNode_71 hl (by decide) (congrArg (List.cons _) (fld rfl (flk rfl (flk rfl (flk (adj2 _ _) fln))))) (fun ls hl => ?_)
  refine lv_lload hx hb dX7_mixedWithNode_73 (lv_at hl 0 rfl) ?_
  refine fr_aload_n hx hb dX7_mixedWithNode_75 rfl (lv_at hl 3 rfl) ?_
  obtain ⟨x90, g91, hf⟩ := obind hf
  refine fr_get hx hb hts hown K hC ct_4 (fgR_get g91) (by decide) kw493 rfl dX7_mixedWithNode_76 ?_
  refine fr_aload_n hx hb dX7_mixedWithNode_79 rfl (lv_at hl 1 rfl) ?_
  obtain ⟨x92, g93, hf⟩ := obind hf
  refine fr_get hx hb hts hown K hC ct_7 (fgI_get g93) (by decide) kw624 rfl dX7_mixedWithNode_80 ?_
  obtain ⟨b96, q97, hf⟩ := obind hf
  obtain ⟨r94, g95, hf⟩ := obind hf
  refine fr_callV hx hb hml hts hown K hC hR ct_6 (c_X6_at hfl D cA g95) 1 q97 kw195 kw293 kw193 kw194 kw25 (by decide +kernel) ⟨by exact Nat.le_of_ble_eq_true rfl, by exact Nat.le_of_ble_eq_true rfl⟩ rfl hl.1 (cat8 _ (by exact Nat.le_of_ble_eq_true rfl)) dX7_mixedWithNode_83 rfl (fun H locs _ _ hC => ?_)
  refine lv_i2l (v := (Int32.toInt64 r94.1)) hx hb dX7_mixedWithNode_86 rfl ?_
  obtain ⟨r98, g99, hf⟩ := obind hf
  refine fr_callS hx hb hml hts hown K hC hR (c_X7_mixed hfl D cA g99) 2 kw378 kw376 kw377 kw23 (by decide +kernel) ⟨by exact Nat.le_of_ble_eq_true rfl, by exact Nat.le_of_ble_eq_true rfl⟩ rfl hl.1 (cat8 _ (by exact Nat.le_of_ble_eq_true rfl)) dX7_mixedWithNode_87 rfl (fun H locs _ _ hC => ?_)
  refine lv_lstore (lv' := [(4, .long r98.1), (0, va_rf a0), (1, .long a1), (3, va_rf a3)]) hx hb dX7_mixedWithNode_90 hl (by decide) (congrArg (List.cons _) (fld rfl (flk rfl (flk rfl (flk (adj2 _ _) fln))))) (fun ls hl => ?_)
  refine lv_lload hx hb dX7_mixedWithNode_92 (lv_at hl 0 rfl) ?_
  refine fr_aload_n hx hb dX7_mixedWithNode_94 rfl (lv_at hl 3 rfl) ?_
  obtain ⟨x100, g101, hf⟩ := obind hf
  refine fr_get hx hb hts hown K hC ct_4 (fgR_get g101) (by decide) kw495 rfl dX7_mixedWithNode_95 ?_
  refine fr_aload_n hx hb dX7_mixedWithNode_98 rfl (lv_at hl 1 rfl) ?_
  obtain ⟨x102, g103, hf⟩ := obind hf
  refine fr_get hx hb hts hown K hC ct_7 (fgI_get g103) (by decide) kw624 rfl dX7_mixedWithNode_99 ?_
  obtain ⟨b106, q107, hf⟩ := obind hf
  obtain ⟨r104, g105, hf⟩ := obind hf
  refine fr_callV hx hb hml hts hown K hC hR ct_6 (c_X6_at hfl D cA g105) 1 q107 kw195 kw293 kw193 kw194 kw25 (by decide +kernel) ⟨by exact Nat.le_of_ble_eq_true rfl, by exact Nat.le_of_ble_eq_true rfl⟩ rfl hl.1 (cat8 _ (by exact Nat.le_of_ble_eq_true rfl)) dX7_mixedWithNode_102 rfl (fun H locs _ _ hC => ?_)
  refine lv_i2l (v := (Int32.toInt64 r104.1)) hx hb dX7_mixedWithNode_105 rfl ?_
  obtain ⟨r108, g109, hf⟩ := obind hf
  refine fr_callS hx hb hml hts hown K hC hR (c_X7_mixed hfl D cA g109) 2 kw378 kw376 kw377 kw23 (by decide +kernel) ⟨by exact Nat.le_of_ble_eq_true rfl, by exact Nat.le_of_ble_eq_true rfl⟩ rfl hl.1 (cat8 _ (by exact Nat.le_of_ble_eq_true rfl)) dX7_mixedWithNode_106 rfl (fun H locs _ _ hC => ?_)
  refine lv_lstore (lv' := [(4, .long r108.1), (0, va_rf a0), (1, .long a1), (3, va_rf a3)]) hx hb dX7_mixedWithNode_109 hl (by decide) (congrArg (List.cons _) (fld rfl (flk rfl (flk rfl (flk (adj2 _ _) fln))))) (fun ls hl => ?_)
  refine lv_lload hx hb dX7_mixedWithNode_111 (lv_at hl 0 rfl) ?_
  refine fr_aload_n hx hb dX7_mixedWithNode_113 rfl (lv_at hl 3 rfl) ?_
  refine fr_aload_n hx hb dX7_mixedWithNode_114 rfl (lv_at hl 1 rfl) ?_
  obtain ⟨x110, g111, hf⟩ := obind hf
  refine fr_get hx hb hts hown K hC ct_7 (fgI_get g111) (by decide) kw624 rfl dX7_mixedWithNode_115 ?_
  obtain ⟨b114, q115, hf⟩ := obind hf
  obtain ⟨r112, g113, hf⟩ := obind hf
  refine fr_callV hx hb hml hts hown K hC hR ct_4 (c_X4_isShownAt hfl D cA g113) 1 q115 kw263 kw260 kw261 kw262 kw24 (by decide +kernel) ⟨by exact Nat.le_of_ble_eq_true rfl, by exact Nat.le_of_ble_eq_true rfl⟩ rfl hl.1 (cat8 _ (by exact Nat.le_of_ble_eq_true rfl)) dX7_mixedWithNode_118 rfl (fun H locs _ _ hC => ?_)
  refine lv_if_eq (tgt := 128) hx hb dX7_mixedWithNode_121 (by decide) (fun c116 => ?_) (fun c116 => ?_)
  · replace hf := opos c116 hf
    refine lv_lconst (v := (0 : Int64)) hx hb dX7_mixedWithNode_128 (by decide) ?_
    exact w_X7_mixedWithNode_L129 M hfl _ _ _ _ _ hf _ _ _ _ _ hC (lv_sub hl [1, 3] rfl)
  · replace hf := oneg c116 hf
    refine lv_lconst (v := (1 : Int64)) hx hb dX7_mixedWithNode_124 (by decide) ?_
    refine lv_goto (tgt := 129) hx hb dX7_mixedWithNode_125 (by decide) ?_
    exact w_X7_mixedWithNode_L129 M hfl _ _ _ _ _ hf _ _ _ _ _ hC (lv_sub hl [1, 3] rfl)
set_option maxRecDepth 100000 in
theorem c_X7_mixedWithNode {l : Launch} (hfl : l.stackTraces = false) (D : va_G) (cA : Nat → ClassId) {o : Nat} {p0 : Int64} {p1 : Option Nat} {h : fSt} {r : (Int64 × fSt)} (hf : f_X7_mixedWithNode o p0 p1 h = some r) : fMet l yX7_mixedWithNode (wsC yX7_mixedWithNode cX7_mixedWithNode 8 (some (.long))) (25) (615) D cA [.ref o, .long p0, va_rf p1] h r.2 (some (.long r.1)) := by
  exact fMet.of (own := RX7) (by decide +kernel) rfl (lva1 rfl (lva2 rfl (lva1 (va_rf_cat _) lva0))) (lgl1 rfl (lgl2 rfl (lgl1 (va_rf_cat _) lgl0))) (Nat.le_of_ble_eq_true rfl) (fun p e s m args below meth c ls hnm _ M hC hl => by
    have hl : lv_has ls 8 [(0, va_rf (some o)), (1, .long p0), (3, va_rf p1)] := hl
    exact w_X7_mixedWithNode_L0 M hfl _ _ _ _ hf _ _ _ _ _ hC (lv_sub hl [0, 1, 2] rfl))
set_option maxHeartbeats 4000000 in
set_option maxRecDepth 100000 in
theorem w_X6_nextKeyTime_L5 {p : Program} {l : Launch} {e : Env} {s : State} {m : MethodId} {args : Array Value} {below : List Frame} {meth : Method} {c : Code} {D : va_G} {cA : Nat → ClassId} {h0 : fSt} {r : (Int32 × fSt)} (M : fM p s m args meth c D cA h0 { frames := 0, cells := fCB h0 - fZ h0, slots := fLB h0 - fL h0, locals := 0 } cX6_nextKeyTime 3 (some (.int)) RX6) (hfl : l.stackTraces = false) : ∀ (n : Nat) (a1 : Int32) (a2 : Option Nat) (h : fSt), f_X6_nextKeyTime_L5 n a1 a2 h = some r → ∀ (H : Heap) (locs : List Loc) (cells slots : Nat) (ls : Array Slot), fCur D cA s h0 h H locs → lv_has ls 3 [(1, .int a1), (2, va_rf a2)] → W p l e { frames := 0, cells := fCB h0 - fZ h0, slots := fLB h0 - fL h0, locals := 0 } s m args below meth c H locs cells slots (MQ below (fQ D cA h0 r.2 (some (.int r.1))) args s (fCB h0 - fZ h0) (fLB h0 - fL h0) (fA h0)) (F0 m 5 ls []) := by
  obtain ⟨hx, hb, hml, hr, hlocks, hts, hown, K, hR⟩ := id M
  intro n
  induction n with
  | zero =>
    intro a1 a2 h hf
    exact nomatch (show (none : Option (Int32 × fSt)) = some r from hf)
  | succ n hk5 =>
    intro a1 a2 h hf H locs cells slots ls hC hl
    refine fr_aload_n hx hb dX6_nextKeyTime_5 rfl (lv_at hl 1 rfl) ?_
    refine fr_ifnull (tgt := 30) hx hb dX6_nextKeyTime_6 (by decide) (fun c1 => ?_) (fun c1 => ?_)
    · replace hf := opos c1 hf
      refine lv_iconst (v := (-1 : Int32)) hx hb dX6_nextKeyTime_30 (by decide) ?_
      obtain rfl := Option.some.inj hf
      exact fr_iret hx hb hr hlocks hC dX6_nextKeyTime_31
    · replace hf := oneg c1 hf
      refine fr_aload_n hx hb dX6_nextKeyTime_9 rfl (lv_at hl 1 rfl) ?_
      obtain ⟨x2, g3, hf⟩ := obind hf
      refine fr_get hx hb hts hown K hC ct_3 (fgI_get g3) (by decide) kw912 rfl dX6_nextKeyTime_10 ?_
      refine lv_iload_n hx hb dX6_nextKeyTime_13 rfl (lv_at hl 0 rfl) ?_
      refine lv_icmp_le (tgt := 22) hx hb dX6_nextKeyTime_14 (by decide) (fun c4 => ?_) (fun c4 => ?_)
      · replace hf := opos c4 hf
        refine fr_aload_n hx hb dX6_nextKeyTime_22 rfl (lv_at hl 1 rfl) ?_
        obtain ⟨x5, g6, hf⟩ := obind hf
        refine fr_get hx hb hts hown K hC ct_3 (fgR_get g6) (by decide) kw915 rfl dX6_nextKeyTime_23 ?_
        refine fr_astore_n (lv' := [(2, va_rf x5), (1, .int a1)]) hx hb dX6_nextKeyTime_26 rfl hl (by decide) (congrArg (List.cons _) (flk rfl (fld rfl fln))) (fun ls hl => ?_)
        refine lv_goto (tgt := 5) hx hb dX6_nextKeyTime_27 (by decide) ?_
        exact hk5 _ _ _ hf _ _ _ _ _ hC (lv_sub hl [1, 0] rfl)
      · replace hf := oneg c4 hf
        refine fr_aload_n hx hb dX6_nextKeyTime_17 rfl (lv_at hl 1 rfl) ?_
        obtain ⟨x7, g8, hf⟩ := obind hf
        refine fr_get hx hb hts hown K hC ct_3 (fgI_get g8) (by decide) kw912 rfl dX6_nextKeyTime_18 ?_
        obtain rfl := Option.some.inj hf
        exact fr_iret hx hb hr hlocks hC dX6_nextKeyTime_21
set_option maxHeartbeats 4000000 in
set_option maxRecDepth 100000 in
theorem w_X6_nextKeyTime_L0 {p : Program} {l : Launch} {e : Env} {s : State} {m : MethodId} {args : Array Value} {below : List Frame} {meth : Method} {c : Code} {D : va_G} {cA : Nat → ClassId} {h0 : fSt} {r : (Int32 × fSt)} (M : fM p s m args meth c D cA h0 { frames := 0, cells := fCB h0 - fZ h0, slots := fLB h0 - fL h0, locals := 0 } cX6_nextKeyTime 3 (some (.int)) RX6) (hfl : l.stackTraces = false) (a0 : Option Nat) (a1 : Int32) (h : fSt) (hf : f_X6_nextKeyTime_L0 a0 a1 h = some r) : ∀ (H : Heap) (locs : List Loc) (cells slots : Nat) (ls : Array Slot), fCur D cA s h0 h H locs → lv_has ls 3 [(0, va_rf a0), (1, .int a1)] → W p l e { frames := 0, cells := fCB h0 - fZ h0, slots := fLB h0 - fL h0, locals := 0 } s m args below meth c H locs cells slots (MQ below (fQ D cA h0 r.2 (some (.int r.1))) args s (fCB h0 - fZ h0) (fLB h0 - fL h0) (fA h0)) (F0 m 0 ls []) := by
  obtain ⟨hx, hb, hml, hr, hlocks, hts, hown, K, hR⟩ := id M
  intro H locs cells slots ls hC hl
  refine fr_aload_n hx hb dX6_nextKeyTime_0 rfl (lv_at hl 0 rfl) ?_
  obtain ⟨x9, g10, hf⟩ := obind hf
  refine fr_get hx hb hts hown K hC ct_6 (fgR_get g10) (by decide) kw434 rfl dX6_nextKeyTime_1 ?_
  refine fr_astore_n (lv' := [(2, va_rf x9), (0, va_rf a0), (1, .int a1)]) hx hb dX6_nextKeyTime_4 rfl hl (by decide) (congrArg (List.cons _) (flk rfl (flk rfl fln))) (fun ls hl => ?_)
  exact w_X6_nextKeyTime_L5 M hfl 4096 _ _ _ hf _ _ _ _ _ hC (lv_sub hl [2, 0] rfl)
set_option maxRecDepth 100000 in
theorem c_X6_nextKeyTime {l : Launch} (hfl : l.stackTraces = false) (D : va_G) (cA : Nat → ClassId) {o : Nat} {p0 : Int32} {h : fSt} {r : (Int32 × fSt)} (hf : f_X6_nextKeyTime o p0 h = some r) : fMet l yX6_nextKeyTime (wsC yX6_nextKeyTime cX6_nextKeyTime 3 (some (.int))) (0) (0) D cA [.ref o, .int p0] h r.2 (some (.int r.1)) := by
  exact fMet.of (own := RX6) (by decide +kernel) rfl (lva1 rfl (lva1 rfl lva0)) (lgl1 rfl (lgl1 rfl lgl0)) (Nat.le_of_ble_eq_true rfl) (fun p e s m args below meth c ls hnm _ M hC hl => by
    have hl : lv_has ls 3 [(0, va_rf (some o)), (1, .int p0)] := hl
    exact w_X6_nextKeyTime_L0 M hfl _ _ _ hf _ _ _ _ _ hC (lv_sub hl [0, 1] rfl))
set_option maxHeartbeats 4000000 in
set_option maxRecDepth 100000 in
theorem w_X7_nextKey_L65 {p : Program} {l : Launch} {e : Env} {s : State} {m : MethodId} {args : Array Value} {below : List Frame} {meth : Method} {c : Code} {D : va_G} {cA : Nat → ClassId} {h0 : fSt} {r : (Int32 × fSt)} (M : fM p s m args meth c D cA h0 { frames := 1, cells := fCB h0 - fZ h0, slots := fLB h0 - fL h0, locals := 22 } cX7_nextKey 4 (some (.int)) RX7) (hfl : l.stackTraces = false) {k4 : Option Nat → Int32 → Int32 → fSt → Option (Int32 × fSt)} (hk4 : ∀ (a0 : Option Nat) (a1 : Int32) (a2 : Int32) (h : fSt), k4 a0 a1 a2 h = some r → ∀ (H : Heap) (locs : List Loc) (cells slots : Nat) (ls : Array Slot), fCur D cA s h0 h H locs → lv_has ls 4 [(0, va_rf a0), (1, .int a1), (2, .int a2)] → W p l e { frames := 1, cells := fCB h0 - fZ h0, slots := fLB h0 - fL h0, locals := 22 } s m args below meth c H locs cells slots (MQ below (fQ D cA h0 r.2 (some (.int r.1))) args s (fCB h0 - fZ h0) (fLB h0 - fL h0) (fA h0)) (F0 m 4 ls [])) (a0 : Option Nat) (a1 : Int32) (a2 : Int32) (h : fSt) (hf : f_X7_nextKey_L65 k4 a0 a1 a2 h = some r) : ∀ (H : Heap) (locs : List Loc) (cells slots : Nat) (ls : Array Slot), fCur D cA s h0 h H locs → lv_has ls 4 [(0, va_rf a0), (1, .int a1), (2, .int a2)] → W p l e { frames := 1, cells := fCB h0 - fZ h0, slots := fLB h0 - fL h0, locals := 22 } s m args below meth c H locs cells slots (MQ below (fQ D cA h0 r.2 (some (.int r.1))) args s (fCB h0 - fZ h0) (fLB h0 - fL h0) (fA h0)) (F0 m 65 ls []) := by
  obtain ⟨hx, hb, hml, hr, hlocks, hts, hown, K, hR⟩ := id M
  intro H locs cells slots ls hC hl
  refine lv_iinc (v := (a2 + (1 : Int32))) (lv' := [(2, .int (a2 + (1 : Int32))), (0, va_rf a0), (1, .int a1)]) hx hb dX7_nextKey_65 hl (k := 2) rfl rfl (by decide) (congrArg (List.cons _) (flk rfl (flk rfl (fld rfl fln)))) (fun ls hl => ?_)
  refine lv_goto (tgt := 4) hx hb dX7_nextKey_68 (by decide) ?_
  exact hk4 _ _ _ _ hf _ _ _ _ _ hC (lv_sub hl [1, 2, 0] rfl)
set_option maxHeartbeats 4000000 in
set_option maxRecDepth 100000 in
theorem w_X7_nextKey_L63 {p : Program} {l : Launch} {e : Env} {s : State} {m : MethodId} {args : Array Value} {below : List Frame} {meth : Method} {c : Code} {D : va_G} {cA : Nat → ClassId} {h0 : fSt} {r : (Int32 × fSt)} (M : fM p s m args meth c D cA h0 { frames := 1, cells := fCB h0 - fZ h0, slots := fLB h0 - fL h0, locals := 22 } cX7_nextKey 4 (some (.int)) RX7) (hfl : l.stackTraces = false) {k4 : Option Nat → Int32 → Int32 → fSt → Option (Int32 × fSt)} (hk4 : ∀ (a0 : Option Nat) (a1 : Int32) (a2 : Int32) (h : fSt), k4 a0 a1 a2 h = some r → ∀ (H : Heap) (locs : List Loc) (cells slots : Nat) (ls : Array Slot), fCur D cA s h0 h H locs → lv_has ls 4 [(0, va_rf a0), (1, .int a1), (2, .int a2)] → W p l e { frames := 1, cells := fCB h0 - fZ h0, slots := fLB h0 - fL h0, locals := 22 } s m args below meth c H locs cells slots (MQ below (fQ D cA h0 r.2 (some (.int r.1))) args s (fCB h0 - fZ h0) (fLB h0 - fL h0) (fA h0)) (F0 m 4 ls [])) (a0 : Option Nat) (a2 : Int32) (a3 : Int32) (h : fSt) (hf : f_X7_nextKey_L63 k4 a0 a2 a3 h = some r) : ∀ (H : Heap) (locs : List Loc) (cells slots : Nat) (ls : Array Slot), fCur D cA s h0 h H locs → lv_has ls 4 [(0, va_rf a0), (2, .int a2), (3, .int a3)] → W p l e { frames := 1, cells := fCB h0 - fZ h0, slots := fLB h0 - fL h0, locals := 22 } s m args below meth c H locs cells slots (MQ below (fQ D cA h0 r.2 (some (.int r.1))) args s (fCB h0 - fZ h0) (fLB h0 - fL h0) (fA h0)) (F0 m 63 ls []) := by
  obtain ⟨hx, hb, hml, hr, hlocks, hts, hown, K, hR⟩ := id M
  intro H locs cells slots ls hC hl
  refine lv_iload_n hx hb dX7_nextKey_63 rfl (lv_at hl 2 rfl) ?_
  refine lv_istore_n (lv' := [(1, .int a3), (0, va_rf a0), (2, .int a2), (3, .int a3)]) hx hb dX7_nextKey_64 rfl hl (by decide) (congrArg (List.cons _) (flk (adj1 _ _) (flk rfl (flk rfl fln)))) (fun ls hl => ?_)
  exact w_X7_nextKey_L65 M hfl hk4 _ _ _ _ hf _ _ _ _ _ hC (lv_sub hl [1, 0, 2] rfl)
set_option maxHeartbeats 4000000 in
set_option maxRecDepth 100000 in
theorem w_X7_nextKey_L47 {p : Program} {l : Launch} {e : Env} {s : State} {m : MethodId} {args : Array Value} {below : List Frame} {meth : Method} {c : Code} {D : va_G} {cA : Nat → ClassId} {h0 : fSt} {r : (Int32 × fSt)} (M : fM p s m args meth c D cA h0 { frames := 1, cells := fCB h0 - fZ h0, slots := fLB h0 - fL h0, locals := 22 } cX7_nextKey 4 (some (.int)) RX7) (hfl : l.stackTraces = false) {k4 : Option Nat → Int32 → Int32 → fSt → Option (Int32 × fSt)} (hk4 : ∀ (a0 : Option Nat) (a1 : Int32) (a2 : Int32) (h : fSt), k4 a0 a1 a2 h = some r → ∀ (H : Heap) (locs : List Loc) (cells slots : Nat) (ls : Array Slot), fCur D cA s h0 h H locs → lv_has ls 4 [(0, va_rf a0), (1, .int a1), (2, .int a2)] → W p l e { frames := 1, cells := fCB h0 - fZ h0, slots := fLB h0 - fL h0, locals := 22 } s m args below meth c H locs cells slots (MQ below (fQ D cA h0 r.2 (some (.int r.1))) args s (fCB h0 - fZ h0) (fLB h0 - fL h0) (fA h0)) (F0 m 4 ls [])) (a0 : Option Nat) (a1 : Int32) (a2 : Int32) (s0 : Int32) (h : fSt) (hf : f_X7_nextKey_L47 k4 a0 a1 a2 s0 h = some r) : ∀ (H : Heap) (locs : List Loc) (cells slots : Nat) (ls : Array Slot), fCur D cA s h0 h H locs → lv_has ls 4 [(0, va_rf a0), (1, .int a1), (2, .int a2)] → W p l e { frames := 1, cells := fCB h0 - fZ h0, slots := fLB h0 - fL h0, locals := 22 } s m args below meth c H locs cells slots (MQ below (fQ D cA h0 r.2 (some (.int r.1))) args s (fCB h0 - fZ h0) (fLB h0 - fL h0) (fA h0)) (F0 m 47 ls [.int s0]) := by
  obtain ⟨hx, hb, hml, hr, hlocks, hts, hown, K, hR⟩ := id M
  intro H locs cells slots ls hC hl
  refine lv_istore_n (lv' := [(3, .int s0), (0, va_rf a0), (1, .int a1), (2, .int a2)]) hx hb dX7_nextKey_47 rfl hl (by decide) (congrArg (List.cons _) (flk rfl (flk rfl (flk rfl fln)))) (fun ls hl => ?_)
  refine lv_iload_n hx hb dX7_nextKey_48 rfl (lv_at hl 0 rfl) ?_
  refine lv_iconst (v := (-1 : Int32)) hx hb dX7_nextKey_49 (by decide) ?_
  refine lv_icmp_eq (tgt := 65) hx hb dX7_nextKey_50 (by decide) (fun c1 => ?_) (fun c1 => ?_)
  · replace hf := opos c1 hf
    exact w_X7_nextKey_L65 M hfl hk4 _ _ _ _ hf _ _ _ _ _ hC (lv_sub hl [1, 2, 3] rfl)
  · replace hf := oneg c1 hf
    refine lv_iload_n hx hb dX7_nextKey_53 rfl (lv_at hl 2 rfl) ?_
    refine lv_iconst (v := (-1 : Int32)) hx hb dX7_nextKey_54 (by decide) ?_
    refine lv_icmp_eq (tgt := 63) hx hb dX7_nextKey_55 (by decide) (fun c2 => ?_) (fun c2 => ?_)
    · replace hf := opos c2 hf
      exact w_X7_nextKey_L63 M hfl hk4 _ _ _ _ hf _ _ _ _ _ hC (lv_sub hl [1, 3, 0] rfl)
    · replace hf := oneg c2 hf
      refine lv_iload_n hx hb dX7_nextKey_58 rfl (lv_at hl 0 rfl) ?_
      refine lv_iload_n hx hb dX7_nextKey_59 rfl (lv_at hl 2 rfl) ?_
      refine lv_icmp_ge (tgt := 65) hx hb dX7_nextKey_60 (by decide) (fun c3 => ?_) (fun c3 => ?_)
      · replace hf := opos c3 hf
        exact w_X7_nextKey_L65 M hfl hk4 _ _ _ _ hf _ _ _ _ _ hC (lv_sub hl [1, 2, 3] rfl)
      · replace hf := oneg c3 hf
        exact w_X7_nextKey_L63 M hfl hk4 _ _ _ _ hf _ _ _ _ _ hC (lv_sub hl [1, 3, 0] rfl)
set_option maxHeartbeats 4000000 in
set_option maxRecDepth 100000 in
theorem w_X7_nextKey_L71 {p : Program} {l : Launch} {e : Env} {s : State} {m : MethodId} {args : Array Value} {below : List Frame} {meth : Method} {c : Code} {D : va_G} {cA : Nat → ClassId} {h0 : fSt} {r : (Int32 × fSt)} (M : fM p s m args meth c D cA h0 { frames := 1, cells := fCB h0 - fZ h0, slots := fLB h0 - fL h0, locals := 22 } cX7_nextKey 4 (some (.int)) RX7) (hfl : l.stackTraces = false) (a1 : Int32) (h : fSt) (hf : f_X7_nextKey_L71 a1 h = some r) : ∀ (H : Heap) (locs : List Loc) (cells slots : Nat) (ls : Array Slot), fCur D cA s h0 h H locs → lv_has ls 4 [(1, .int a1)] → W p l e { frames := 1, cells := fCB h0 - fZ h0, slots := fLB h0 - fL h0, locals := 22 } s m args below meth c H locs cells slots (MQ below (fQ D cA h0 r.2 (some (.int r.1))) args s (fCB h0 - fZ h0) (fLB h0 - fL h0) (fA h0)) (F0 m 71 ls []) := by
  obtain ⟨hx, hb, hml, hr, hlocks, hts, hown, K, hR⟩ := id M
  intro H locs cells slots ls hC hl
  refine lv_iload_n hx hb dX7_nextKey_71 rfl (lv_at hl 0 rfl) ?_
  obtain rfl := Option.some.inj hf
  exact fr_iret hx hb hr hlocks hC dX7_nextKey_72
set_option maxHeartbeats 4000000 in
set_option maxRecDepth 100000 in
theorem w_X7_nextKey_L4 {p : Program} {l : Launch} {e : Env} {s : State} {m : MethodId} {args : Array Value} {below : List Frame} {meth : Method} {c : Code} {D : va_G} {cA : Nat → ClassId} {h0 : fSt} {r : (Int32 × fSt)} (M : fM p s m args meth c D cA h0 { frames := 1, cells := fCB h0 - fZ h0, slots := fLB h0 - fL h0, locals := 22 } cX7_nextKey 4 (some (.int)) RX7) (hfl : l.stackTraces = false) : ∀ (n : Nat) (a0 : Option Nat) (a1 : Int32) (a2 : Int32) (h : fSt), f_X7_nextKey_L4 n a0 a1 a2 h = some r → ∀ (H : Heap) (locs : List Loc) (cells slots : Nat) (ls : Array Slot), fCur D cA s h0 h H locs → lv_has ls 4 [(0, va_rf a0), (1, .int a1), (2, .int a2)] → W p l e { frames := 1, cells := fCB h0 - fZ h0, slots := fLB h0 - fL h0, locals := 22 } s m args below meth c H locs cells slots (MQ below (fQ D cA h0 r.2 (some (.int r.1))) args s (fCB h0 - fZ h0) (fLB h0 - fL h0) (fA h0)) (F0 m 4 ls []) := by
  obtain ⟨hx, hb, hml, hr, hlocks, hts, hown, K, hR⟩ := id M
  intro n
  induction n with
  | zero =>
    intro a0 a1 a2 h hf
    exact nomatch (show (none : Option (Int32 × fSt)) = some r from hf)
  | succ n hk4 =>
    intro a0 a1 a2 h hf H locs cells slots ls hC hl
    refine lv_iload_n hx hb dX7_nextKey_4 rfl (lv_at hl 2 rfl) ?_
    refine fr_aload_n hx hb dX7_nextKey_5 rfl (lv_at hl 0 rfl) ?_
    obtain ⟨x4, g5, hf⟩ := obind hf
    refine fr_get hx hb hts hown K hC ct_7 (fgI_get g5) (by decide) kw623 rfl dX7_nextKey_6 ?_
    refine lv_icmp_ge (tgt := 71) hx hb dX7_nextKey_9 (by decide) (fun c6 => ?_) (fun c6 => ?_)
    · replace hf := opos c6 hf
      exact w_X7_nextKey_L71 M hfl _ _ hf _ _ _ _ _ hC (lv_sub hl [1] rfl)
    · replace hf := oneg c6 hf
      refine lv_iload_n hx hb dX7_nextKey_12 rfl (lv_at hl 2 rfl) ?_
      refine fr_aload_n hx hb dX7_nextKey_13 rfl (lv_at hl 0 rfl) ?_
      obtain ⟨x7, g8, hf⟩ := obind hf
      refine fr_get hx hb hts hown K hC ct_7 (fgR_get g8) (by decide) kw618 rfl dX7_nextKey_14 ?_
      obtain ⟨x9, g10, hf⟩ := obind hf
      refine fr_alen hx hb K hC (t := 3) rfl g10 dX7_nextKey_17 ?_
      refine lv_icmp_ge (tgt := 71) hx hb dX7_nextKey_18 (by decide) (fun c11 => ?_) (fun c11 => ?_)
      · replace hf := opos c11 hf
        exact w_X7_nextKey_L71 M hfl _ _ hf _ _ _ _ _ hC (lv_sub hl [1] rfl)
      · replace hf := oneg c11 hf
        refine fr_aload_n hx hb dX7_nextKey_21 rfl (lv_at hl 0 rfl) ?_
        obtain ⟨x12, g13, hf⟩ := obind hf
        refine fr_get hx hb hts hown K hC ct_7 (fgR_get g13) (by decide) kw618 rfl dX7_nextKey_22 ?_
        refine lv_iload_n hx hb dX7_nextKey_25 rfl (lv_at hl 2 rfl) ?_
        obtain ⟨x14, g15, hf⟩ := obind hf
        refine fr_aald hx hb K hC (t := 3) rfl g15 dX7_nextKey_26 ?_
        refine fr_ifnonnull (tgt := 34) hx hb dX7_nextKey_27 (by decide) (fun c16 => ?_) (fun c16 => ?_)
        · replace hf := oneg c16 hf
          refine fr_aload_n hx hb dX7_nextKey_34 rfl (lv_at hl 0 rfl) ?_
          obtain ⟨x17, g18, hf⟩ := obind hf
          refine fr_get hx hb hts hown K hC ct_7 (fgR_get g18) (by decide) kw618 rfl dX7_nextKey_35 ?_
          refine lv_iload_n hx hb dX7_nextKey_38 rfl (lv_at hl 2 rfl) ?_
          obtain ⟨x19, g20, hf⟩ := obind hf
          refine fr_aald hx hb K hC (t := 3) rfl g20 dX7_nextKey_39 ?_
          refine fr_aload_n hx hb dX7_nextKey_40 rfl (lv_at hl 0 rfl) ?_
          obtain ⟨x21, g22, hf⟩ := obind hf
          refine fr_get hx hb hts hown K hC ct_7 (fgI_get g22) (by decide) kw624 rfl dX7_nextKey_41 ?_
          obtain ⟨b25, q26, hf⟩ := obind hf
          obtain ⟨r23, g24, hf⟩ := obind hf
          refine fr_callV hx hb hml hts hown K hC hR ct_6 (c_X6_nextKeyTime hfl D cA g24) 1 q26 kw387 kw384 kw385 kw386 kw25 (by decide +kernel) ⟨by exact Nat.le_of_ble_eq_true rfl, by exact Nat.le_of_ble_eq_true rfl⟩ rfl hl.1 (cat8 _ (by exact Nat.le_of_ble_eq_true rfl)) dX7_nextKey_44 rfl (fun H locs _ _ hC => ?_)
          exact w_X7_nextKey_L47 M hfl hk4 _ _ _ _ _ hf _ _ _ _ _ hC (lv_sub hl [0, 1, 2] rfl)
        · replace hf := opos c16 hf
          refine lv_iconst (v := (-1 : Int32)) hx hb dX7_nextKey_30 (by decide) ?_
          refine lv_goto (tgt := 47) hx hb dX7_nextKey_31 (by decide) ?_
          exact w_X7_nextKey_L47 M hfl hk4 _ _ _ _ _ hf _ _ _ _ _ hC (lv_sub hl [0, 1, 2] rfl)
set_option maxHeartbeats 4000000 in
set_option maxRecDepth 100000 in
theorem w_X7_nextKey_L0 {p : Program} {l : Launch} {e : Env} {s : State} {m : MethodId} {args : Array Value} {below : List Frame} {meth : Method} {c : Code} {D : va_G} {cA : Nat → ClassId} {h0 : fSt} {r : (Int32 × fSt)} (M : fM p s m args meth c D cA h0 { frames := 1, cells := fCB h0 - fZ h0, slots := fLB h0 - fL h0, locals := 22 } cX7_nextKey 4 (some (.int)) RX7) (hfl : l.stackTraces = false) (a0 : Option Nat) (h : fSt) (hf : f_X7_nextKey_L0 a0 h = some r) : ∀ (H : Heap) (locs : List Loc) (cells slots : Nat) (ls : Array Slot), fCur D cA s h0 h H locs → lv_has ls 4 [(0, va_rf a0)] → W p l e { frames := 1, cells := fCB h0 - fZ h0, slots := fLB h0 - fL h0, locals := 22 } s m args below meth c H locs cells slots (MQ below (fQ D cA h0 r.2 (some (.int r.1))) args s (fCB h0 - fZ h0) (fLB h0 - fL h0) (fA h0)) (F0 m 0 ls []) := by
  obtain ⟨hx, hb, hml, hr, hlocks, hts, hown, K, hR⟩ := id M
  intro H locs cells slots ls hC hl
  refine lv_iconst (v := (-1 : Int32)) hx hb dX7_nextKey_0 (by decide) ?_
  refine lv_istore_n (lv' := [(1, .int (-1 : Int32)), (0, va_rf a0)]) hx hb dX7_nextKey_1 rfl hl (by decide) (congrArg (List.cons _) (flk (adj1 _ _) fln)) (fun ls hl => ?_)
  refine lv_iconst (v := (0 : Int32)) hx hb dX7_nextKey_2 (by decide) ?_
  refine lv_istore_n (lv' := [(2, .int (0 : Int32)), (1, .int (-1 : Int32)), (0, va_rf a0)]) hx hb dX7_nextKey_3 rfl hl (by decide) (congrArg (List.cons _) (flk rfl (flk rfl fln))) (fun ls hl => ?_)
  exact w_X7_nextKey_L4 M hfl 4096 _ _ _ _ hf _ _ _ _ _ hC (lv_sub hl [2, 1, 0] rfl)
set_option maxRecDepth 100000 in
theorem c_X7_nextKey {l : Launch} (hfl : l.stackTraces = false) (D : va_G) (cA : Nat → ClassId) {o : Nat} {h : fSt} {r : (Int32 × fSt)} (hf : f_X7_nextKey o h = some r) : fMet l yX7_nextKey (wsC yX7_nextKey cX7_nextKey 4 (some (.int))) (1) (22) D cA [.ref o] h r.2 (some (.int r.1)) := by
  exact fMet.of (own := RX7) (by decide +kernel) rfl (lva1 rfl lva0) (lgl1 rfl lgl0) (Nat.le_of_ble_eq_true rfl) (fun p e s m args below meth c ls hnm _ M hC hl => by
    have hl : lv_has ls 4 [(0, va_rf (some o))] := hl
    exact w_X7_nextKey_L0 M hfl _ _ hf _ _ _ _ _ hC (lv_sub hl [0] rfl))
