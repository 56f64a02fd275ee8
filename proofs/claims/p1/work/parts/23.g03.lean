theorem dX7_many_0 : decode cX7_many 0 = .ok (.iload_n 1, 1) := by decide +kernel
theorem dX7_many_1 : decode cX7_many 1 = .ok (.iload_n 2, 1) := by decide +kernel
theorem dX7_many_2 : decode cX7_many 2 = .ok (.iload_n 3, 1) := by decide +kernel
theorem dX7_many_3 : decode cX7_many 3 = .ok (.invokestatic 295, 3) := by decide +kernel
theorem dX7_many_6 : decode cX7_many 6 = .ok (.iconst 0, 1) := by decide +kernel
theorem dX7_many_7 : decode cX7_many 7 = .ok (.istore 4, 2) := by decide +kernel
theorem dX7_many_9 : decode cX7_many 9 = .ok (.aload_n 0, 1) := by decide +kernel
theorem dX7_many_10 : decode cX7_many 10 = .ok (.getfield 46, 3) := by decide +kernel
theorem dX7_many_13 : decode cX7_many 13 = .ok (.astore 5, 2) := by decide +kernel
theorem dX7_many_15 : decode cX7_many 15 = .ok (.aload 5, 2) := by decide +kernel
theorem dX7_many_17 : decode cX7_many 17 = .ok (.ifnull 32, 3) := by decide +kernel
theorem dX7_many_20 : decode cX7_many 20 = .ok (.aload_n 0, 1) := by decide +kernel
theorem dX7_many_21 : decode cX7_many 21 = .ok (.aload 5, 2) := by decide +kernel
theorem dX7_many_23 : decode cX7_many 23 = .ok (.iload_n 1, 1) := by decide +kernel
theorem dX7_many_24 : decode cX7_many 24 = .ok (.iload_n 2, 1) := by decide +kernel
theorem dX7_many_25 : decode cX7_many 25 = .ok (.iload_n 3, 1) := by decide +kernel
theorem dX7_many_26 : decode cX7_many 26 = .ok (.aload_n 0, 1) := by decide +kernel
theorem dX7_many_27 : decode cX7_many 27 = .ok (.getfield 232, 3) := by decide +kernel
theorem dX7_many_30 : decode cX7_many 30 = .ok (.invokevirtual 298, 3) := by decide +kernel
theorem dX7_many_33 : decode cX7_many 33 = .ok (.ifCond .eq 6, 3) := by decide +kernel
theorem dX7_many_36 : decode cX7_many 36 = .ok (.iinc 4 1, 3) := by decide +kernel
theorem dX7_many_39 : decode cX7_many 39 = .ok (.aload 5, 2) := by decide +kernel
theorem dX7_many_41 : decode cX7_many 41 = .ok (.getfield 98, 3) := by decide +kernel
theorem dX7_many_44 : decode cX7_many 44 = .ok (.astore 5, 2) := by decide +kernel
theorem dX7_many_46 : decode cX7_many 46 = .ok (.goto (-31), 3) := by decide +kernel
theorem dX7_many_49 : decode cX7_many 49 = .ok (.iload 4, 2) := by decide +kernel
theorem dX7_many_51 : decode cX7_many 51 = .ok (.ireturn, 1) := by decide +kernel
theorem dL_many_0 : decode cL_many 0 = .ok (.aload 4, 2) := by decide +kernel
theorem dL_many_2 : decode cL_many 2 = .ok (.iconst 0, 1) := by decide +kernel
theorem dL_many_3 : decode cL_many 3 = .ok (.aload_n 0, 1) := by decide +kernel
theorem dL_many_4 : decode cL_many 4 = .ok (.iload_n 1, 1) := by decide +kernel
theorem dL_many_5 : decode cL_many 5 = .ok (.iload_n 2, 1) := by decide +kernel
theorem dL_many_6 : decode cL_many 6 = .ok (.iload_n 3, 1) := by decide +kernel
theorem dL_many_7 : decode cL_many 7 = .ok (.invokevirtual 106, 3) := by decide +kernel
theorem dL_many_10 : decode cL_many 10 = .ok (.i2l, 1) := by decide +kernel
theorem dL_many_11 : decode cL_many 11 = .ok (.lastore, 1) := by decide +kernel
theorem dL_many_12 : decode cL_many 12 = .ok (.goto 7, 3) := by decide +kernel
theorem dL_many_15 : decode cL_many 15 = .ok (.astore 5, 2) := by decide +kernel
theorem dL_many_17 : decode cL_many 17 = .ok (.iconst 1, 1) := by decide +kernel
theorem dL_many_18 : decode cL_many 18 = .ok (.ireturn, 1) := by decide +kernel
theorem dL_many_19 : decode cL_many 19 = .ok (.iconst 0, 1) := by decide +kernel
theorem dL_many_20 : decode cL_many 20 = .ok (.ireturn, 1) := by decide +kernel
theorem dX7_move_0 : decode cX7_move 0 = .ok (.aload_n 0, 1) := by decide +kernel
theorem dX7_move_1 : decode cX7_move 1 = .ok (.iload_n 1, 1) := by decide +kernel
theorem dX7_move_2 : decode cX7_move 2 = .ok (.invokevirtual 88, 3) := by decide +kernel
theorem dX7_move_5 : decode cX7_move 5 = .ok (.astore 4, 2) := by decide +kernel
theorem dX7_move_7 : decode cX7_move 7 = .ok (.aload 4, 2) := by decide +kernel
theorem dX7_move_9 : decode cX7_move 9 = .ok (.getfield 115, 3) := by decide +kernel
theorem dX7_move_12 : decode cX7_move 12 = .ok (.iload_n 2, 1) := by decide +kernel
theorem dX7_move_13 : decode cX7_move 13 = .ok (.invokevirtual 119, 3) := by decide +kernel
theorem dX7_move_16 : decode cX7_move 16 = .ok (.ifCond .eq 15, 3) := by decide +kernel
theorem dX7_move_19 : decode cX7_move 19 = .ok (.aload 4, 2) := by decide +kernel
theorem dX7_move_21 : decode cX7_move 21 = .ok (.getfield 123, 3) := by decide +kernel
theorem dX7_move_24 : decode cX7_move 24 = .ok (.iload_n 3, 1) := by decide +kernel
theorem dX7_move_25 : decode cX7_move 25 = .ok (.invokevirtual 119, 3) := by decide +kernel
theorem dX7_move_28 : decode cX7_move 28 = .ok (.ifCond .ne 13, 3) := by decide +kernel
theorem dX7_move_31 : decode cX7_move 31 = .ok (.new 60, 3) := by decide +kernel
theorem dX7_move_34 : decode cX7_move 34 = .ok (.dup, 1) := by decide +kernel
theorem dX7_move_35 : decode cX7_move 35 = .ok (.ldc 126, 2) := by decide +kernel
theorem dX7_move_37 : decode cX7_move 37 = .ok (.invokespecial 64, 3) := by decide +kernel
theorem dX7_move_40 : decode cX7_move 40 = .ok (.athrow, 1) := by decide +kernel
theorem dX7_move_41 : decode cX7_move 41 = .ok (.aload 4, 2) := by decide +kernel
theorem dX7_move_43 : decode cX7_move 43 = .ok (.getfield 115, 3) := by decide +kernel
theorem dX7_move_46 : decode cX7_move 46 = .ok (.getfield 128, 3) := by decide +kernel
theorem dX7_move_49 : decode cX7_move 49 = .ok (.istore 5, 2) := by decide +kernel
theorem dX7_move_51 : decode cX7_move 51 = .ok (.aload 4, 2) := by decide +kernel
theorem dX7_move_53 : decode cX7_move 53 = .ok (.getfield 115, 3) := by decide +kernel
theorem dX7_move_56 : decode cX7_move 56 = .ok (.iload_n 2, 1) := by decide +kernel
theorem dX7_move_57 : decode cX7_move 57 = .ok (.putfield 128, 3) := by decide +kernel
theorem dX7_move_60 : decode cX7_move 60 = .ok (.aload 4, 2) := by decide +kernel
theorem dX7_move_62 : decode cX7_move 62 = .ok (.getfield 123, 3) := by decide +kernel
theorem dX7_move_65 : decode cX7_move 65 = .ok (.iload_n 3, 1) := by decide +kernel
theorem dX7_move_66 : decode cX7_move 66 = .ok (.putfield 128, 3) := by decide +kernel
theorem dX7_move_69 : decode cX7_move 69 = .ok (.iload 5, 2) := by decide +kernel
theorem dX7_move_71 : decode cX7_move 71 = .ok (.ireturn, 1) := by decide +kernel
theorem dL_move_0 : decode cL_move 0 = .ok (.aload 4, 2) := by decide +kernel
theorem dL_move_2 : decode cL_move 2 = .ok (.iconst 0, 1) := by decide +kernel
theorem dL_move_3 : decode cL_move 3 = .ok (.aload_n 0, 1) := by decide +kernel
theorem dL_move_4 : decode cL_move 4 = .ok (.iload_n 1, 1) := by decide +kernel
theorem dL_move_5 : decode cL_move 5 = .ok (.iload_n 2, 1) := by decide +kernel
theorem dL_move_6 : decode cL_move 6 = .ok (.iload_n 3, 1) := by decide +kernel
theorem dL_move_7 : decode cL_move 7 = .ok (.invokevirtual 27, 3) := by decide +kernel
theorem dL_move_10 : decode cL_move 10 = .ok (.i2l, 1) := by decide +kernel
theorem dL_move_11 : decode cL_move 11 = .ok (.lastore, 1) := by decide +kernel
theorem dL_move_12 : decode cL_move 12 = .ok (.goto 15, 3) := by decide +kernel
theorem dL_move_15 : decode cL_move 15 = .ok (.astore 5, 2) := by decide +kernel
theorem dL_move_17 : decode cL_move 17 = .ok (.iconst 1, 1) := by decide +kernel
theorem dL_move_18 : decode cL_move 18 = .ok (.ireturn, 1) := by decide +kernel
theorem dL_move_19 : decode cL_move 19 = .ok (.astore 5, 2) := by decide +kernel
theorem dL_move_21 : decode cL_move 21 = .ok (.iconst 2, 1) := by decide +kernel
theorem dL_move_22 : decode cL_move 22 = .ok (.ireturn, 1) := by decide +kernel
theorem dL_move_23 : decode cL_move 23 = .ok (.astore 5, 2) := by decide +kernel
theorem dL_move_25 : decode cL_move 25 = .ok (.iconst 3, 1) := by decide +kernel
theorem dL_move_26 : decode cL_move 26 = .ok (.ireturn, 1) := by decide +kernel
theorem dL_move_27 : decode cL_move 27 = .ok (.iconst 0, 1) := by decide +kernel
theorem dL_move_28 : decode cL_move 28 = .ok (.ireturn, 1) := by decide +kernel
theorem dX7_isToldAnew_0 : decode cX7_isToldAnew 0 = .ok (.iconst 0, 1) := by decide +kernel
theorem dX7_isToldAnew_1 : decode cX7_isToldAnew 1 = .ok (.istore_n 2, 1) := by decide +kernel
theorem dX7_isToldAnew_2 : decode cX7_isToldAnew 2 = .ok (.iload_n 2, 1) := by decide +kernel
theorem dX7_isToldAnew_3 : decode cX7_isToldAnew 3 = .ok (.aload_n 0, 1) := by decide +kernel
theorem dX7_isToldAnew_4 : decode cX7_isToldAnew 4 = .ok (.getfield 185, 3) := by decide +kernel
theorem dX7_isToldAnew_7 : decode cX7_isToldAnew 7 = .ok (.if_icmp .ge 46, 3) := by decide +kernel
theorem dX7_isToldAnew_10 : decode cX7_isToldAnew 10 = .ok (.iload_n 2, 1) := by decide +kernel
theorem dX7_isToldAnew_11 : decode cX7_isToldAnew 11 = .ok (.aload_n 0, 1) := by decide +kernel
theorem dX7_isToldAnew_12 : decode cX7_isToldAnew 12 = .ok (.getfield 17, 3) := by decide +kernel
theorem dX7_isToldAnew_15 : decode cX7_isToldAnew 15 = .ok (.arraylength, 1) := by decide +kernel
theorem dX7_isToldAnew_16 : decode cX7_isToldAnew 16 = .ok (.if_icmp .ge 37, 3) := by decide +kernel
theorem dX7_isToldAnew_19 : decode cX7_isToldAnew 19 = .ok (.aload_n 0, 1) := by decide +kernel
theorem dX7_isToldAnew_20 : decode cX7_isToldAnew 20 = .ok (.getfield 17, 3) := by decide +kernel
theorem dX7_isToldAnew_23 : decode cX7_isToldAnew 23 = .ok (.iload_n 2, 1) := by decide +kernel
theorem dX7_isToldAnew_24 : decode cX7_isToldAnew 24 = .ok (.aaload, 1) := by decide +kernel
theorem dX7_isToldAnew_25 : decode cX7_isToldAnew 25 = .ok (.ifnull 22, 3) := by decide +kernel
theorem dX7_isToldAnew_28 : decode cX7_isToldAnew 28 = .ok (.aload_n 0, 1) := by decide +kernel
theorem dX7_isToldAnew_29 : decode cX7_isToldAnew 29 = .ok (.getfield 17, 3) := by decide +kernel
theorem dX7_isToldAnew_32 : decode cX7_isToldAnew 32 = .ok (.iload_n 2, 1) := by decide +kernel
theorem dX7_isToldAnew_33 : decode cX7_isToldAnew 33 = .ok (.aaload, 1) := by decide +kernel
theorem dX7_isToldAnew_34 : decode cX7_isToldAnew 34 = .ok (.aload_n 0, 1) := by decide +kernel
theorem dX7_isToldAnew_35 : decode cX7_isToldAnew 35 = .ok (.getfield 232, 3) := by decide +kernel
theorem dX7_isToldAnew_38 : decode cX7_isToldAnew 38 = .ok (.iload_n 1, 1) := by decide +kernel
theorem dX7_isToldAnew_39 : decode cX7_isToldAnew 39 = .ok (.invokevirtual 414, 3) := by decide +kernel
theorem dX7_isToldAnew_42 : decode cX7_isToldAnew 42 = .ok (.ifCond .eq 5, 3) := by decide +kernel
theorem dX7_isToldAnew_45 : decode cX7_isToldAnew 45 = .ok (.iconst 1, 1) := by decide +kernel
theorem dX7_isToldAnew_46 : decode cX7_isToldAnew 46 = .ok (.ireturn, 1) := by decide +kernel
theorem dX7_isToldAnew_47 : decode cX7_isToldAnew 47 = .ok (.iinc 2 1, 3) := by decide +kernel
theorem dX7_isToldAnew_50 : decode cX7_isToldAnew 50 = .ok (.goto (-48), 3) := by decide +kernel
theorem dX7_isToldAnew_53 : decode cX7_isToldAnew 53 = .ok (.iconst 0, 1) := by decide +kernel
theorem dX7_isToldAnew_54 : decode cX7_isToldAnew 54 = .ok (.ireturn, 1) := by decide +kernel
theorem dX7_topAt_0 : decode cX7_topAt 0 = .ok (.aload_n 0, 1) := by decide +kernel
theorem dX7_topAt_1 : decode cX7_topAt 1 = .ok (.getfield 46, 3) := by decide +kernel
theorem dX7_topAt_4 : decode cX7_topAt 4 = .ok (.astore 6, 2) := by decide +kernel
theorem dX7_topAt_6 : decode cX7_topAt 6 = .ok (.aload 6, 2) := by decide +kernel
theorem dX7_topAt_8 : decode cX7_topAt 8 = .ok (.ifnull 43, 3) := by decide +kernel
theorem dX7_topAt_11 : decode cX7_topAt 11 = .ok (.aload 6, 2) := by decide +kernel
theorem dX7_topAt_13 : decode cX7_topAt 13 = .ok (.aload 5, 2) := by decide +kernel
theorem dX7_topAt_15 : decode cX7_topAt 15 = .ok (.invokevirtual 91, 3) := by decide +kernel
theorem dX7_topAt_18 : decode cX7_topAt 18 = .ok (.ifCond .ne 23, 3) := by decide +kernel
theorem dX7_topAt_21 : decode cX7_topAt 21 = .ok (.aload_n 0, 1) := by decide +kernel
theorem dX7_topAt_22 : decode cX7_topAt 22 = .ok (.aload 6, 2) := by decide +kernel
theorem dX7_topAt_24 : decode cX7_topAt 24 = .ok (.iload_n 1, 1) := by decide +kernel
theorem dX7_topAt_25 : decode cX7_topAt 25 = .ok (.iload_n 2, 1) := by decide +kernel
theorem dX7_topAt_26 : decode cX7_topAt 26 = .ok (.iload_n 3, 1) := by decide +kernel
theorem dX7_topAt_27 : decode cX7_topAt 27 = .ok (.iload 4, 2) := by decide +kernel
theorem dX7_topAt_29 : decode cX7_topAt 29 = .ok (.invokevirtual 298, 3) := by decide +kernel
theorem dX7_topAt_32 : decode cX7_topAt 32 = .ok (.ifCond .eq 9, 3) := by decide +kernel
theorem dX7_topAt_35 : decode cX7_topAt 35 = .ok (.aload 6, 2) := by decide +kernel
theorem dX7_topAt_37 : decode cX7_topAt 37 = .ok (.getfield 85, 3) := by decide +kernel
theorem dX7_topAt_40 : decode cX7_topAt 40 = .ok (.ireturn, 1) := by decide +kernel
theorem dX7_topAt_41 : decode cX7_topAt 41 = .ok (.aload 6, 2) := by decide +kernel
theorem dX7_topAt_43 : decode cX7_topAt 43 = .ok (.getfield 98, 3) := by decide +kernel
theorem dX7_topAt_46 : decode cX7_topAt 46 = .ok (.astore 6, 2) := by decide +kernel
theorem dX7_topAt_48 : decode cX7_topAt 48 = .ok (.goto (-42), 3) := by decide +kernel
theorem dX7_topAt_51 : decode cX7_topAt 51 = .ok (.iconst (-1), 1) := by decide +kernel
theorem dX7_topAt_52 : decode cX7_topAt 52 = .ok (.ireturn, 1) := by decide +kernel
theorem dX7_nextPick_0 : decode cX7_nextPick 0 = .ok (.iload_n 1, 1) := by decide +kernel
theorem dX7_nextPick_1 : decode cX7_nextPick 1 = .ok (.iload_n 2, 1) := by decide +kernel
theorem dX7_nextPick_2 : decode cX7_nextPick 2 = .ok (.iload_n 3, 1) := by decide +kernel
theorem dX7_nextPick_3 : decode cX7_nextPick 3 = .ok (.invokestatic 295, 3) := by decide +kernel
theorem dX7_nextPick_6 : decode cX7_nextPick 6 = .ok (.iload 4, 2) := by decide +kernel
theorem dX7_nextPick_8 : decode cX7_nextPick 8 = .ok (.iconst 1, 1) := by decide +kernel
theorem dX7_nextPick_9 : decode cX7_nextPick 9 = .ok (.bipush 100, 2) := by decide +kernel
theorem dX7_nextPick_11 : decode cX7_nextPick 11 = .ok (.invokestatic 56, 3) := by decide +kernel
theorem dX7_nextPick_14 : decode cX7_nextPick 14 = .ok (.ifCond .ne 14, 3) := by decide +kernel
theorem dX7_nextPick_17 : decode cX7_nextPick 17 = .ok (.new 60, 3) := by decide +kernel
theorem dX7_nextPick_20 : decode cX7_nextPick 20 = .ok (.dup, 1) := by decide +kernel
theorem dX7_nextPick_21 : decode cX7_nextPick 21 = .ok (.ldc_w 310, 3) := by decide +kernel
theorem dX7_nextPick_24 : decode cX7_nextPick 24 = .ok (.invokespecial 64, 3) := by decide +kernel
theorem dX7_nextPick_27 : decode cX7_nextPick 27 = .ok (.athrow, 1) := by decide +kernel
theorem dX7_nextPick_28 : decode cX7_nextPick 28 = .ok (.aload_n 0, 1) := by decide +kernel
theorem dX7_nextPick_29 : decode cX7_nextPick 29 = .ok (.iload_n 1, 1) := by decide +kernel
theorem dX7_nextPick_30 : decode cX7_nextPick 30 = .ok (.iload_n 2, 1) := by decide +kernel
theorem dX7_nextPick_31 : decode cX7_nextPick 31 = .ok (.iload_n 3, 1) := by decide +kernel
theorem dX7_nextPick_32 : decode cX7_nextPick 32 = .ok (.aload_n 0, 1) := by decide +kernel
theorem dX7_nextPick_33 : decode cX7_nextPick 33 = .ok (.getfield 232, 3) := by decide +kernel
theorem dX7_nextPick_36 : decode cX7_nextPick 36 = .ok (.aconst_null, 1) := by decide +kernel
theorem dX7_nextPick_37 : decode cX7_nextPick 37 = .ok (.invokevirtual 302, 3) := by decide +kernel
theorem dX7_nextPick_40 : decode cX7_nextPick 40 = .ok (.istore 5, 2) := by decide +kernel
theorem dX7_nextPick_42 : decode cX7_nextPick 42 = .ok (.aload_n 0, 1) := by decide +kernel
theorem dX7_nextPick_43 : decode cX7_nextPick 43 = .ok (.getfield 232, 3) := by decide +kernel
theorem dX7_nextPick_46 : decode cX7_nextPick 46 = .ok (.iload 4, 2) := by decide +kernel
theorem dX7_nextPick_48 : decode cX7_nextPick 48 = .ok (.iadd, 1) := by decide +kernel
theorem dX7_nextPick_49 : decode cX7_nextPick 49 = .ok (.sipush 9999, 3) := by decide +kernel
theorem dX7_nextPick_52 : decode cX7_nextPick 52 = .ok (.invokestatic 312, 3) := by decide +kernel
theorem dX7_nextPick_55 : decode cX7_nextPick 55 = .ok (.istore 6, 2) := by decide +kernel
theorem dX7_nextPick_57 : decode cX7_nextPick 57 = .ok (.aload_n 0, 1) := by decide +kernel
theorem dX7_nextPick_58 : decode cX7_nextPick 58 = .ok (.getfield 232, 3) := by decide +kernel
theorem dX7_nextPick_61 : decode cX7_nextPick 61 = .ok (.iconst 1, 1) := by decide +kernel
theorem dX7_nextPick_62 : decode cX7_nextPick 62 = .ok (.iadd, 1) := by decide +kernel
theorem dX7_nextPick_63 : decode cX7_nextPick 63 = .ok (.istore 7, 2) := by decide +kernel
theorem dX7_nextPick_65 : decode cX7_nextPick 65 = .ok (.iload 7, 2) := by decide +kernel
theorem dX7_nextPick_67 : decode cX7_nextPick 67 = .ok (.iload 6, 2) := by decide +kernel
theorem dX7_nextPick_69 : decode cX7_nextPick 69 = .ok (.if_icmp .gt 36, 3) := by decide +kernel
theorem dX7_nextPick_72 : decode cX7_nextPick 72 = .ok (.aload_n 0, 1) := by decide +kernel
theorem dX7_nextPick_73 : decode cX7_nextPick 73 = .ok (.iload 7, 2) := by decide +kernel
theorem dX7_nextPick_75 : decode cX7_nextPick 75 = .ok (.invokevirtual 318, 3) := by decide +kernel
theorem dX7_nextPick_78 : decode cX7_nextPick 78 = .ok (.ifCond .eq 21, 3) := by decide +kernel
theorem dX7_nextPick_81 : decode cX7_nextPick 81 = .ok (.aload_n 0, 1) := by decide +kernel
theorem dX7_nextPick_82 : decode cX7_nextPick 82 = .ok (.iload_n 1, 1) := by decide +kernel
theorem dX7_nextPick_83 : decode cX7_nextPick 83 = .ok (.iload_n 2, 1) := by decide +kernel
theorem dX7_nextPick_84 : decode cX7_nextPick 84 = .ok (.iload_n 3, 1) := by decide +kernel
theorem dX7_nextPick_85 : decode cX7_nextPick 85 = .ok (.iload 7, 2) := by decide +kernel
theorem dX7_nextPick_87 : decode cX7_nextPick 87 = .ok (.aconst_null, 1) := by decide +kernel
theorem dX7_nextPick_88 : decode cX7_nextPick 88 = .ok (.invokevirtual 302, 3) := by decide +kernel
theorem dX7_nextPick_91 : decode cX7_nextPick 91 = .ok (.iload 5, 2) := by decide +kernel
theorem dX7_nextPick_93 : decode cX7_nextPick 93 = .ok (.if_icmp .eq 6, 3) := by decide +kernel
theorem dX7_nextPick_96 : decode cX7_nextPick 96 = .ok (.iload 7, 2) := by decide +kernel
theorem dX7_nextPick_98 : decode cX7_nextPick 98 = .ok (.ireturn, 1) := by decide +kernel
theorem dX7_nextPick_99 : decode cX7_nextPick 99 = .ok (.iinc 7 1, 3) := by decide +kernel
theorem dX7_nextPick_102 : decode cX7_nextPick 102 = .ok (.goto (-37), 3) := by decide +kernel
theorem dX7_nextPick_105 : decode cX7_nextPick 105 = .ok (.iconst (-1), 1) := by decide +kernel
theorem dX7_nextPick_106 : decode cX7_nextPick 106 = .ok (.ireturn, 1) := by decide +kernel
theorem dL_nextPick_0 : decode cL_nextPick 0 = .ok (.aload 5, 2) := by decide +kernel
theorem dL_nextPick_2 : decode cL_nextPick 2 = .ok (.iconst 0, 1) := by decide +kernel
theorem dL_nextPick_3 : decode cL_nextPick 3 = .ok (.aload_n 0, 1) := by decide +kernel
theorem dL_nextPick_4 : decode cL_nextPick 4 = .ok (.iload_n 1, 1) := by decide +kernel
theorem dL_nextPick_5 : decode cL_nextPick 5 = .ok (.iload_n 2, 1) := by decide +kernel
theorem dL_nextPick_6 : decode cL_nextPick 6 = .ok (.iload_n 3, 1) := by decide +kernel
theorem dL_nextPick_7 : decode cL_nextPick 7 = .ok (.iload 4, 2) := by decide +kernel
theorem dL_nextPick_9 : decode cL_nextPick 9 = .ok (.invokevirtual 118, 3) := by decide +kernel
theorem dL_nextPick_12 : decode cL_nextPick 12 = .ok (.i2l, 1) := by decide +kernel
theorem dL_nextPick_13 : decode cL_nextPick 13 = .ok (.lastore, 1) := by decide +kernel
theorem dL_nextPick_14 : decode cL_nextPick 14 = .ok (.goto 7, 3) := by decide +kernel
theorem dL_nextPick_17 : decode cL_nextPick 17 = .ok (.astore 6, 2) := by decide +kernel
theorem dL_nextPick_19 : decode cL_nextPick 19 = .ok (.iconst 1, 1) := by decide +kernel
theorem dL_nextPick_20 : decode cL_nextPick 20 = .ok (.ireturn, 1) := by decide +kernel
theorem dL_nextPick_21 : decode cL_nextPick 21 = .ok (.iconst 0, 1) := by decide +kernel
theorem dL_nextPick_22 : decode cL_nextPick 22 = .ok (.ireturn, 1) := by decide +kernel
theorem dX4_property_0 : decode cX4_property 0 = .ok (.iload_n 1, 1) := by decide +kernel
theorem dX4_property_1 : decode cX4_property 1 = .ok (.tableswitch 51 0 3 #[31, 36, 41, 46], 31) := by decide +kernel
theorem dX4_property_32 : decode cX4_property 32 = .ok (.aload_n 0, 1) := by decide +kernel
theorem dX4_property_33 : decode cX4_property 33 = .ok (.getfield 14, 3) := by decide +kernel
theorem dX4_property_36 : decode cX4_property 36 = .ok (.areturn, 1) := by decide +kernel
theorem dX4_property_37 : decode cX4_property 37 = .ok (.aload_n 0, 1) := by decide +kernel
theorem dX4_property_38 : decode cX4_property 38 = .ok (.getfield 20, 3) := by decide +kernel
theorem dX4_property_41 : decode cX4_property 41 = .ok (.areturn, 1) := by decide +kernel
theorem dX4_property_42 : decode cX4_property 42 = .ok (.aload_n 0, 1) := by decide +kernel
theorem dX4_property_43 : decode cX4_property 43 = .ok (.getfield 23, 3) := by decide +kernel
theorem dX4_property_46 : decode cX4_property 46 = .ok (.areturn, 1) := by decide +kernel
theorem dX4_property_47 : decode cX4_property 47 = .ok (.aload_n 0, 1) := by decide +kernel
theorem dX4_property_48 : decode cX4_property 48 = .ok (.getfield 26, 3) := by decide +kernel
theorem dX4_property_51 : decode cX4_property 51 = .ok (.areturn, 1) := by decide +kernel
theorem dX4_property_52 : decode cX4_property 52 = .ok (.aconst_null, 1) := by decide +kernel
theorem dX4_property_53 : decode cX4_property 53 = .ok (.areturn, 1) := by decide +kernel
theorem dX7_now_0 : decode cX7_now 0 = .ok (.aload_n 0, 1) := by decide +kernel
theorem dX7_now_1 : decode cX7_now 1 = .ok (.iload_n 1, 1) := by decide +kernel
theorem dX7_now_2 : decode cX7_now 2 = .ok (.invokevirtual 52, 3) := by decide +kernel
theorem dX7_now_5 : decode cX7_now 5 = .ok (.iload_n 2, 1) := by decide +kernel
theorem dX7_now_6 : decode cX7_now 6 = .ok (.invokevirtual 176, 3) := by decide +kernel
theorem dX7_now_9 : decode cX7_now 9 = .ok (.astore_n 3, 1) := by decide +kernel
theorem dX7_now_10 : decode cX7_now 10 = .ok (.aload_n 3, 1) := by decide +kernel
theorem dX7_now_11 : decode cX7_now 11 = .ok (.ifnonnull 13, 3) := by decide +kernel
theorem dX7_now_14 : decode cX7_now 14 = .ok (.new 60, 3) := by decide +kernel
theorem dX7_now_17 : decode cX7_now 17 = .ok (.dup, 1) := by decide +kernel
theorem dX7_now_18 : decode cX7_now 18 = .ok (.ldc 235, 2) := by decide +kernel
theorem dX7_now_20 : decode cX7_now 20 = .ok (.invokespecial 64, 3) := by decide +kernel
theorem dX7_now_23 : decode cX7_now 23 = .ok (.athrow, 1) := by decide +kernel
theorem dX7_now_24 : decode cX7_now 24 = .ok (.aload_n 3, 1) := by decide +kernel
theorem dX7_now_25 : decode cX7_now 25 = .ok (.aload_n 0, 1) := by decide +kernel
theorem dX7_now_26 : decode cX7_now 26 = .ok (.getfield 232, 3) := by decide +kernel
theorem dX7_now_29 : decode cX7_now 29 = .ok (.invokevirtual 237, 3) := by decide +kernel
theorem dX7_now_32 : decode cX7_now 32 = .ok (.ireturn, 1) := by decide +kernel
theorem dL_now_0 : decode cL_now 0 = .ok (.aload_n 3, 1) := by decide +kernel
theorem dL_now_1 : decode cL_now 1 = .ok (.iconst 0, 1) := by decide +kernel
theorem dL_now_2 : decode cL_now 2 = .ok (.aload_n 0, 1) := by decide +kernel
theorem dL_now_3 : decode cL_now 3 = .ok (.iload_n 1, 1) := by decide +kernel
theorem dL_now_4 : decode cL_now 4 = .ok (.iload_n 2, 1) := by decide +kernel
theorem dL_now_5 : decode cL_now 5 = .ok (.invokevirtual 71, 3) := by decide +kernel
theorem dL_now_8 : decode cL_now 8 = .ok (.i2l, 1) := by decide +kernel
theorem dL_now_9 : decode cL_now 9 = .ok (.lastore, 1) := by decide +kernel
theorem dL_now_10 : decode cL_now 10 = .ok (.goto 11, 3) := by decide +kernel
theorem dL_now_13 : decode cL_now 13 = .ok (.astore 4, 2) := by decide +kernel
theorem dL_now_15 : decode cL_now 15 = .ok (.iconst 1, 1) := by decide +kernel
theorem dL_now_16 : decode cL_now 16 = .ok (.ireturn, 1) := by decide +kernel
theorem dL_now_17 : decode cL_now 17 = .ok (.astore 4, 2) := by decide +kernel
theorem dL_now_19 : decode cL_now 19 = .ok (.iconst 2, 1) := by decide +kernel
theorem dL_now_20 : decode cL_now 20 = .ok (.ireturn, 1) := by decide +kernel
theorem dL_now_21 : decode cL_now 21 = .ok (.iconst 0, 1) := by decide +kernel
theorem dL_now_22 : decode cL_now 22 = .ok (.ireturn, 1) := by decide +kernel
theorem dX7_orderAt_0 : decode cX7_orderAt 0 = .ok (.aload_n 0, 1) := by decide +kernel
theorem dX7_orderAt_1 : decode cX7_orderAt 1 = .ok (.getfield 46, 3) := by decide +kernel
theorem dX7_orderAt_4 : decode cX7_orderAt 4 = .ok (.astore_n 2, 1) := by decide +kernel
theorem dX7_orderAt_5 : decode cX7_orderAt 5 = .ok (.aload_n 2, 1) := by decide +kernel
theorem dX7_orderAt_6 : decode cX7_orderAt 6 = .ok (.ifnull 24, 3) := by decide +kernel
theorem dX7_orderAt_9 : decode cX7_orderAt 9 = .ok (.aload_n 2, 1) := by decide +kernel
theorem dX7_orderAt_10 : decode cX7_orderAt 10 = .ok (.getfield 287, 3) := by decide +kernel
theorem dX7_orderAt_13 : decode cX7_orderAt 13 = .ok (.iload_n 1, 1) := by decide +kernel
theorem dX7_orderAt_14 : decode cX7_orderAt 14 = .ok (.if_icmp .ne 8, 3) := by decide +kernel
theorem dX7_orderAt_17 : decode cX7_orderAt 17 = .ok (.aload_n 2, 1) := by decide +kernel
theorem dX7_orderAt_18 : decode cX7_orderAt 18 = .ok (.getfield 85, 3) := by decide +kernel
theorem dX7_orderAt_21 : decode cX7_orderAt 21 = .ok (.ireturn, 1) := by decide +kernel
theorem dX7_orderAt_22 : decode cX7_orderAt 22 = .ok (.aload_n 2, 1) := by decide +kernel
theorem dX7_orderAt_23 : decode cX7_orderAt 23 = .ok (.getfield 98, 3) := by decide +kernel
theorem dX7_orderAt_26 : decode cX7_orderAt 26 = .ok (.astore_n 2, 1) := by decide +kernel
theorem dX7_orderAt_27 : decode cX7_orderAt 27 = .ok (.goto (-22), 3) := by decide +kernel
theorem dX7_orderAt_30 : decode cX7_orderAt 30 = .ok (.new 290, 3) := by decide +kernel
theorem dX7_orderAt_33 : decode cX7_orderAt 33 = .ok (.dup, 1) := by decide +kernel
theorem dX7_orderAt_34 : decode cX7_orderAt 34 = .ok (.ldc_w 292, 3) := by decide +kernel
theorem dX7_orderAt_37 : decode cX7_orderAt 37 = .ok (.invokespecial 294, 3) := by decide +kernel
theorem dX7_orderAt_40 : decode cX7_orderAt 40 = .ok (.athrow, 1) := by decide +kernel
theorem dL_orderAt_0 : decode cL_orderAt 0 = .ok (.aload_n 2, 1) := by decide +kernel
theorem dL_orderAt_1 : decode cL_orderAt 1 = .ok (.iconst 0, 1) := by decide +kernel
theorem dL_orderAt_2 : decode cL_orderAt 2 = .ok (.aload_n 0, 1) := by decide +kernel
theorem dL_orderAt_3 : decode cL_orderAt 3 = .ok (.iload_n 1, 1) := by decide +kernel
theorem dL_orderAt_4 : decode cL_orderAt 4 = .ok (.invokevirtual 93, 3) := by decide +kernel
theorem dL_orderAt_7 : decode cL_orderAt 7 = .ok (.i2l, 1) := by decide +kernel
theorem dL_orderAt_8 : decode cL_orderAt 8 = .ok (.lastore, 1) := by decide +kernel
theorem dL_orderAt_9 : decode cL_orderAt 9 = .ok (.goto 6, 3) := by decide +kernel
theorem dL_orderAt_12 : decode cL_orderAt 12 = .ok (.astore_n 3, 1) := by decide +kernel
theorem dL_orderAt_13 : decode cL_orderAt 13 = .ok (.iconst 1, 1) := by decide +kernel
theorem dL_orderAt_14 : decode cL_orderAt 14 = .ok (.ireturn, 1) := by decide +kernel
theorem dL_orderAt_15 : decode cL_orderAt 15 = .ok (.iconst 0, 1) := by decide +kernel
theorem dL_orderAt_16 : decode cL_orderAt 16 = .ok (.ireturn, 1) := by decide +kernel
theorem dX7_parentNumber_0 : decode cX7_parentNumber 0 = .ok (.aload_n 0, 1) := by decide +kernel
theorem dX7_parentNumber_1 : decode cX7_parentNumber 1 = .ok (.getfield 173, 3) := by decide +kernel
theorem dX7_parentNumber_4 : decode cX7_parentNumber 4 = .ok (.ifnonnull 7, 3) := by decide +kernel
theorem dX7_parentNumber_7 : decode cX7_parentNumber 7 = .ok (.iconst (-1), 1) := by decide +kernel
theorem dX7_parentNumber_8 : decode cX7_parentNumber 8 = .ok (.goto 10, 3) := by decide +kernel
theorem dX7_parentNumber_11 : decode cX7_parentNumber 11 = .ok (.aload_n 0, 1) := by decide +kernel
theorem dX7_parentNumber_12 : decode cX7_parentNumber 12 = .ok (.getfield 173, 3) := by decide +kernel
theorem dX7_parentNumber_15 : decode cX7_parentNumber 15 = .ok (.getfield 85, 3) := by decide +kernel
theorem dX7_parentNumber_18 : decode cX7_parentNumber 18 = .ok (.ireturn, 1) := by decide +kernel
theorem dX7_parent_0 : decode cX7_parent 0 = .ok (.aload_n 0, 1) := by decide +kernel
theorem dX7_parent_1 : decode cX7_parent 1 = .ok (.iload_n 1, 1) := by decide +kernel
theorem dX7_parent_2 : decode cX7_parent 2 = .ok (.invokevirtual 52, 3) := by decide +kernel
theorem dX7_parent_5 : decode cX7_parent 5 = .ok (.invokestatic 170, 3) := by decide +kernel
theorem dX7_parent_8 : decode cX7_parent 8 = .ok (.ireturn, 1) := by decide +kernel
theorem dL_parent_0 : decode cL_parent 0 = .ok (.aload_n 2, 1) := by decide +kernel
theorem dL_parent_1 : decode cL_parent 1 = .ok (.iconst 0, 1) := by decide +kernel
theorem dL_parent_2 : decode cL_parent 2 = .ok (.aload_n 0, 1) := by decide +kernel
theorem dL_parent_3 : decode cL_parent 3 = .ok (.iload_n 1, 1) := by decide +kernel
theorem dL_parent_4 : decode cL_parent 4 = .ok (.invokevirtual 50, 3) := by decide +kernel
theorem dL_parent_7 : decode cL_parent 7 = .ok (.i2l, 1) := by decide +kernel
theorem dL_parent_8 : decode cL_parent 8 = .ok (.lastore, 1) := by decide +kernel
theorem dL_parent_9 : decode cL_parent 9 = .ok (.goto 6, 3) := by decide +kernel
theorem dL_parent_12 : decode cL_parent 12 = .ok (.astore_n 3, 1) := by decide +kernel
theorem dL_parent_13 : decode cL_parent 13 = .ok (.iconst 1, 1) := by decide +kernel
theorem dL_parent_14 : decode cL_parent 14 = .ok (.ireturn, 1) := by decide +kernel
theorem dL_parent_15 : decode cL_parent 15 = .ok (.iconst 0, 1) := by decide +kernel
theorem dL_parent_16 : decode cL_parent 16 = .ok (.ireturn, 1) := by decide +kernel
theorem dX7_pick_0 : decode cX7_pick 0 = .ok (.iload_n 1, 1) := by decide +kernel
theorem dX7_pick_1 : decode cX7_pick 1 = .ok (.iload_n 2, 1) := by decide +kernel
theorem dX7_pick_2 : decode cX7_pick 2 = .ok (.iload_n 3, 1) := by decide +kernel
theorem dX7_pick_3 : decode cX7_pick 3 = .ok (.invokestatic 295, 3) := by decide +kernel
theorem dX7_pick_6 : decode cX7_pick 6 = .ok (.aload_n 0, 1) := by decide +kernel
theorem dX7_pick_7 : decode cX7_pick 7 = .ok (.iload_n 1, 1) := by decide +kernel
theorem dX7_pick_8 : decode cX7_pick 8 = .ok (.iload_n 2, 1) := by decide +kernel
theorem dX7_pick_9 : decode cX7_pick 9 = .ok (.iload_n 3, 1) := by decide +kernel
theorem dX7_pick_10 : decode cX7_pick 10 = .ok (.aload_n 0, 1) := by decide +kernel
theorem dX7_pick_11 : decode cX7_pick 11 = .ok (.getfield 232, 3) := by decide +kernel
theorem dX7_pick_14 : decode cX7_pick 14 = .ok (.aconst_null, 1) := by decide +kernel
theorem dX7_pick_15 : decode cX7_pick 15 = .ok (.invokevirtual 302, 3) := by decide +kernel
theorem dX7_pick_18 : decode cX7_pick 18 = .ok (.ireturn, 1) := by decide +kernel
theorem dL_pick_0 : decode cL_pick 0 = .ok (.aload 4, 2) := by decide +kernel
theorem dL_pick_2 : decode cL_pick 2 = .ok (.iconst 0, 1) := by decide +kernel
theorem dL_pick_3 : decode cL_pick 3 = .ok (.aload_n 0, 1) := by decide +kernel
theorem dL_pick_4 : decode cL_pick 4 = .ok (.iload_n 1, 1) := by decide +kernel
theorem dL_pick_5 : decode cL_pick 5 = .ok (.iload_n 2, 1) := by decide +kernel
theorem dL_pick_6 : decode cL_pick 6 = .ok (.iload_n 3, 1) := by decide +kernel
theorem dL_pick_7 : decode cL_pick 7 = .ok (.invokevirtual 103, 3) := by decide +kernel
theorem dL_pick_10 : decode cL_pick 10 = .ok (.i2l, 1) := by decide +kernel
theorem dL_pick_11 : decode cL_pick 11 = .ok (.lastore, 1) := by decide +kernel
theorem dL_pick_12 : decode cL_pick 12 = .ok (.goto 7, 3) := by decide +kernel
theorem dL_pick_15 : decode cL_pick 15 = .ok (.astore 5, 2) := by decide +kernel
theorem dL_pick_17 : decode cL_pick 17 = .ok (.iconst 1, 1) := by decide +kernel
theorem dL_pick_18 : decode cL_pick 18 = .ok (.ireturn, 1) := by decide +kernel
theorem dL_pick_19 : decode cL_pick 19 = .ok (.iconst 0, 1) := by decide +kernel
theorem dL_pick_20 : decode cL_pick 20 = .ok (.ireturn, 1) := by decide +kernel
theorem dX7_pickWithout_0 : decode cX7_pickWithout 0 = .ok (.aload_n 0, 1) := by decide +kernel
theorem dX7_pickWithout_1 : decode cX7_pickWithout 1 = .ok (.iload_n 1, 1) := by decide +kernel
theorem dX7_pickWithout_2 : decode cX7_pickWithout 2 = .ok (.invokevirtual 52, 3) := by decide +kernel
theorem dX7_pickWithout_5 : decode cX7_pickWithout 5 = .ok (.astore 5, 2) := by decide +kernel
theorem dX7_pickWithout_7 : decode cX7_pickWithout 7 = .ok (.iload_n 2, 1) := by decide +kernel
theorem dX7_pickWithout_8 : decode cX7_pickWithout 8 = .ok (.iload_n 3, 1) := by decide +kernel
theorem dX7_pickWithout_9 : decode cX7_pickWithout 9 = .ok (.iload 4, 2) := by decide +kernel
theorem dX7_pickWithout_11 : decode cX7_pickWithout 11 = .ok (.invokestatic 295, 3) := by decide +kernel
theorem dX7_pickWithout_14 : decode cX7_pickWithout 14 = .ok (.aload_n 0, 1) := by decide +kernel
theorem dX7_pickWithout_15 : decode cX7_pickWithout 15 = .ok (.iload_n 2, 1) := by decide +kernel
theorem dX7_pickWithout_16 : decode cX7_pickWithout 16 = .ok (.iload_n 3, 1) := by decide +kernel
theorem dX7_pickWithout_17 : decode cX7_pickWithout 17 = .ok (.iload 4, 2) := by decide +kernel
theorem dX7_pickWithout_19 : decode cX7_pickWithout 19 = .ok (.aload_n 0, 1) := by decide +kernel
theorem dX7_pickWithout_20 : decode cX7_pickWithout 20 = .ok (.getfield 232, 3) := by decide +kernel
theorem dX7_pickWithout_23 : decode cX7_pickWithout 23 = .ok (.aload 5, 2) := by decide +kernel
theorem dX7_pickWithout_25 : decode cX7_pickWithout 25 = .ok (.invokevirtual 302, 3) := by decide +kernel
theorem dX7_pickWithout_28 : decode cX7_pickWithout 28 = .ok (.ireturn, 1) := by decide +kernel
theorem dL_pickWithout_0 : decode cL_pickWithout 0 = .ok (.aload 5, 2) := by decide +kernel
theorem dL_pickWithout_2 : decode cL_pickWithout 2 = .ok (.iconst 0, 1) := by decide +kernel
theorem dL_pickWithout_3 : decode cL_pickWithout 3 = .ok (.aload_n 0, 1) := by decide +kernel
theorem dL_pickWithout_4 : decode cL_pickWithout 4 = .ok (.iload_n 1, 1) := by decide +kernel
theorem dL_pickWithout_5 : decode cL_pickWithout 5 = .ok (.iload_n 2, 1) := by decide +kernel
theorem dL_pickWithout_6 : decode cL_pickWithout 6 = .ok (.iload_n 3, 1) := by decide +kernel
theorem dL_pickWithout_7 : decode cL_pickWithout 7 = .ok (.iload 4, 2) := by decide +kernel
theorem dL_pickWithout_9 : decode cL_pickWithout 9 = .ok (.invokevirtual 115, 3) := by decide +kernel
theorem dL_pickWithout_12 : decode cL_pickWithout 12 = .ok (.i2l, 1) := by decide +kernel
theorem dL_pickWithout_13 : decode cL_pickWithout 13 = .ok (.lastore, 1) := by decide +kernel
theorem dL_pickWithout_14 : decode cL_pickWithout 14 = .ok (.goto 11, 3) := by decide +kernel
theorem dL_pickWithout_17 : decode cL_pickWithout 17 = .ok (.astore 6, 2) := by decide +kernel
theorem dL_pickWithout_19 : decode cL_pickWithout 19 = .ok (.iconst 1, 1) := by decide +kernel
theorem dL_pickWithout_20 : decode cL_pickWithout 20 = .ok (.ireturn, 1) := by decide +kernel
theorem dL_pickWithout_21 : decode cL_pickWithout 21 = .ok (.astore 6, 2) := by decide +kernel
theorem dL_pickWithout_23 : decode cL_pickWithout 23 = .ok (.iconst 2, 1) := by decide +kernel
theorem dL_pickWithout_24 : decode cL_pickWithout 24 = .ok (.ireturn, 1) := by decide +kernel
theorem dL_pickWithout_25 : decode cL_pickWithout 25 = .ok (.iconst 0, 1) := by decide +kernel
theorem dL_pickWithout_26 : decode cL_pickWithout 26 = .ok (.ireturn, 1) := by decide +kernel
theorem dX7_placeOf_0 : decode cX7_placeOf 0 = .ok (.aload_n 0, 1) := by decide +kernel
theorem dX7_placeOf_1 : decode cX7_placeOf 1 = .ok (.iload_n 1, 1) := by decide +kernel
theorem dX7_placeOf_2 : decode cX7_placeOf 2 = .ok (.invokevirtual 52, 3) := by decide +kernel
theorem dX7_placeOf_5 : decode cX7_placeOf 5 = .ok (.getfield 287, 3) := by decide +kernel
theorem dX7_placeOf_8 : decode cX7_placeOf 8 = .ok (.ireturn, 1) := by decide +kernel
theorem dL_placeOf_0 : decode cL_placeOf 0 = .ok (.aload_n 2, 1) := by decide +kernel
theorem dL_placeOf_1 : decode cL_placeOf 1 = .ok (.iconst 0, 1) := by decide +kernel
theorem dL_placeOf_2 : decode cL_placeOf 2 = .ok (.aload_n 0, 1) := by decide +kernel
theorem dL_placeOf_3 : decode cL_placeOf 3 = .ok (.iload_n 1, 1) := by decide +kernel
theorem dL_placeOf_4 : decode cL_placeOf 4 = .ok (.invokevirtual 96, 3) := by decide +kernel
theorem dL_placeOf_7 : decode cL_placeOf 7 = .ok (.i2l, 1) := by decide +kernel
theorem dL_placeOf_8 : decode cL_placeOf 8 = .ok (.lastore, 1) := by decide +kernel
theorem dL_placeOf_9 : decode cL_placeOf 9 = .ok (.goto 6, 3) := by decide +kernel
theorem dL_placeOf_12 : decode cL_placeOf 12 = .ok (.astore_n 3, 1) := by decide +kernel
theorem dL_placeOf_13 : decode cL_placeOf 13 = .ok (.iconst 1, 1) := by decide +kernel
theorem dL_placeOf_14 : decode cL_placeOf 14 = .ok (.ireturn, 1) := by decide +kernel
theorem dL_placeOf_15 : decode cL_placeOf 15 = .ok (.iconst 0, 1) := by decide +kernel
theorem dL_placeOf_16 : decode cL_placeOf 16 = .ok (.ireturn, 1) := by decide +kernel
theorem dX6_endTrack_0 : decode cX6_endTrack 0 = .ok (.aload_n 0, 1) := by decide +kernel
theorem dX6_endTrack_1 : decode cX6_endTrack 1 = .ok (.iconst 1, 1) := by decide +kernel
theorem dX6_endTrack_2 : decode cX6_endTrack 2 = .ok (.putfield 50, 3) := by decide +kernel
theorem dX6_endTrack_5 : decode cX6_endTrack 5 = .ok (.aload_n 0, 1) := by decide +kernel
theorem dX6_endTrack_6 : decode cX6_endTrack 6 = .ok (.aconst_null, 1) := by decide +kernel
theorem dX6_endTrack_7 : decode cX6_endTrack 7 = .ok (.putfield 40, 3) := by decide +kernel
theorem dX6_endTrack_10 : decode cX6_endTrack 10 = .ok (.aload_n 0, 1) := by decide +kernel
theorem dX6_endTrack_11 : decode cX6_endTrack 11 = .ok (.iconst 0, 1) := by decide +kernel
theorem dX6_endTrack_12 : decode cX6_endTrack 12 = .ok (.putfield 47, 3) := by decide +kernel
theorem dX6_endTrack_15 : decode cX6_endTrack 15 = .ok (.return_, 1) := by decide +kernel
theorem dX4_vanish_0 : decode cX4_vanish 0 = .ok (.aload_n 0, 1) := by decide +kernel
theorem dX4_vanish_1 : decode cX4_vanish 1 = .ok (.iconst 1, 1) := by decide +kernel
theorem dX4_vanish_2 : decode cX4_vanish 2 = .ok (.putfield 61, 3) := by decide +kernel
theorem dX4_vanish_5 : decode cX4_vanish 5 = .ok (.aload_n 0, 1) := by decide +kernel
theorem dX4_vanish_6 : decode cX4_vanish 6 = .ok (.getfield 14, 3) := by decide +kernel
theorem dX4_vanish_9 : decode cX4_vanish 9 = .ok (.invokevirtual 65, 3) := by decide +kernel
theorem dX4_vanish_12 : decode cX4_vanish 12 = .ok (.aload_n 0, 1) := by decide +kernel
theorem dX4_vanish_13 : decode cX4_vanish 13 = .ok (.getfield 20, 3) := by decide +kernel
theorem dX4_vanish_16 : decode cX4_vanish 16 = .ok (.invokevirtual 65, 3) := by decide +kernel
theorem dX4_vanish_19 : decode cX4_vanish 19 = .ok (.aload_n 0, 1) := by decide +kernel
theorem dX4_vanish_20 : decode cX4_vanish 20 = .ok (.getfield 23, 3) := by decide +kernel
theorem dX4_vanish_23 : decode cX4_vanish 23 = .ok (.invokevirtual 65, 3) := by decide +kernel
theorem dX4_vanish_26 : decode cX4_vanish 26 = .ok (.aload_n 0, 1) := by decide +kernel
theorem dX4_vanish_27 : decode cX4_vanish 27 = .ok (.getfield 26, 3) := by decide +kernel
theorem dX4_vanish_30 : decode cX4_vanish 30 = .ok (.invokevirtual 65, 3) := by decide +kernel
theorem dX4_vanish_33 : decode cX4_vanish 33 = .ok (.return_, 1) := by decide +kernel
theorem dX7_remove_0 : decode cX7_remove 0 = .ok (.aload_n 0, 1) := by decide +kernel
theorem dX7_remove_1 : decode cX7_remove 1 = .ok (.iload_n 1, 1) := by decide +kernel
theorem dX7_remove_2 : decode cX7_remove 2 = .ok (.invokevirtual 88, 3) := by decide +kernel
theorem dX7_remove_5 : decode cX7_remove 5 = .ok (.astore_n 2, 1) := by decide +kernel
theorem dX7_remove_6 : decode cX7_remove 6 = .ok (.iconst 0, 1) := by decide +kernel
theorem dX7_remove_7 : decode cX7_remove 7 = .ok (.istore_n 3, 1) := by decide +kernel
theorem dX7_remove_8 : decode cX7_remove 8 = .ok (.aload_n 0, 1) := by decide +kernel
theorem dX7_remove_9 : decode cX7_remove 9 = .ok (.getfield 46, 3) := by decide +kernel
theorem dX7_remove_12 : decode cX7_remove 12 = .ok (.astore 4, 2) := by decide +kernel
theorem dX7_remove_14 : decode cX7_remove 14 = .ok (.aload 4, 2) := by decide +kernel
theorem dX7_remove_16 : decode cX7_remove 16 = .ok (.ifnull 30, 3) := by decide +kernel
theorem dX7_remove_19 : decode cX7_remove 19 = .ok (.aload 4, 2) := by decide +kernel
theorem dX7_remove_21 : decode cX7_remove 21 = .ok (.aload_n 2, 1) := by decide +kernel
theorem dX7_remove_22 : decode cX7_remove 22 = .ok (.invokevirtual 91, 3) := by decide +kernel
theorem dX7_remove_25 : decode cX7_remove 25 = .ok (.ifCond .eq 11, 3) := by decide +kernel
theorem dX7_remove_28 : decode cX7_remove 28 = .ok (.aload 4, 2) := by decide +kernel
theorem dX7_remove_30 : decode cX7_remove 30 = .ok (.invokevirtual 95, 3) := by decide +kernel
theorem dX7_remove_33 : decode cX7_remove 33 = .ok (.iinc 3 1, 3) := by decide +kernel
theorem dX7_remove_36 : decode cX7_remove 36 = .ok (.aload 4, 2) := by decide +kernel
theorem dX7_remove_38 : decode cX7_remove 38 = .ok (.getfield 98, 3) := by decide +kernel
theorem dX7_remove_41 : decode cX7_remove 41 = .ok (.astore 4, 2) := by decide +kernel
theorem dX7_remove_43 : decode cX7_remove 43 = .ok (.goto (-29), 3) := by decide +kernel
theorem dX7_remove_46 : decode cX7_remove 46 = .ok (.aload_n 2, 1) := by decide +kernel
theorem dX7_remove_47 : decode cX7_remove 47 = .ok (.invokevirtual 101, 3) := by decide +kernel
theorem dX7_remove_50 : decode cX7_remove 50 = .ok (.aload_n 0, 1) := by decide +kernel
theorem dX7_remove_51 : decode cX7_remove 51 = .ok (.invokevirtual 82, 3) := by decide +kernel
theorem dX7_remove_54 : decode cX7_remove 54 = .ok (.iload_n 3, 1) := by decide +kernel
theorem dX7_remove_55 : decode cX7_remove 55 = .ok (.ireturn, 1) := by decide +kernel
theorem dL_remove_0 : decode cL_remove 0 = .ok (.aload_n 2, 1) := by decide +kernel
theorem dL_remove_1 : decode cL_remove 1 = .ok (.iconst 0, 1) := by decide +kernel
theorem dL_remove_2 : decode cL_remove 2 = .ok (.aload_n 0, 1) := by decide +kernel
theorem dL_remove_3 : decode cL_remove 3 = .ok (.iload_n 1, 1) := by decide +kernel
theorem dL_remove_4 : decode cL_remove 4 = .ok (.invokevirtual 19, 3) := by decide +kernel
theorem dL_remove_7 : decode cL_remove 7 = .ok (.i2l, 1) := by decide +kernel
theorem dL_remove_8 : decode cL_remove 8 = .ok (.lastore, 1) := by decide +kernel
theorem dL_remove_9 : decode cL_remove 9 = .ok (.goto 9, 3) := by decide +kernel
theorem dL_remove_12 : decode cL_remove 12 = .ok (.astore_n 3, 1) := by decide +kernel
theorem dL_remove_13 : decode cL_remove 13 = .ok (.iconst 1, 1) := by decide +kernel
theorem dL_remove_14 : decode cL_remove 14 = .ok (.ireturn, 1) := by decide +kernel
theorem dL_remove_15 : decode cL_remove 15 = .ok (.astore_n 3, 1) := by decide +kernel
theorem dL_remove_16 : decode cL_remove 16 = .ok (.iconst 2, 1) := by decide +kernel
theorem dL_remove_17 : decode cL_remove 17 = .ok (.ireturn, 1) := by decide +kernel
theorem dL_remove_18 : decode cL_remove 18 = .ok (.iconst 0, 1) := by decide +kernel
theorem dL_remove_19 : decode cL_remove 19 = .ok (.ireturn, 1) := by decide +kernel
theorem dX7_scale_0 : decode cX7_scale 0 = .ok (.aload_n 0, 1) := by decide +kernel
theorem dX7_scale_1 : decode cX7_scale 1 = .ok (.iload_n 1, 1) := by decide +kernel
theorem dX7_scale_2 : decode cX7_scale 2 = .ok (.invokevirtual 88, 3) := by decide +kernel
theorem dX7_scale_5 : decode cX7_scale 5 = .ok (.astore 4, 2) := by decide +kernel
theorem dX7_scale_7 : decode cX7_scale 7 = .ok (.iload_n 2, 1) := by decide +kernel
theorem dX7_scale_8 : decode cX7_scale 8 = .ok (.iconst 1, 1) := by decide +kernel
theorem dX7_scale_9 : decode cX7_scale 9 = .ok (.iconst 4, 1) := by decide +kernel
theorem dX7_scale_10 : decode cX7_scale 10 = .ok (.invokestatic 56, 3) := by decide +kernel
theorem dX7_scale_13 : decode cX7_scale 13 = .ok (.ifCond .eq 12, 3) := by decide +kernel
theorem dX7_scale_16 : decode cX7_scale 16 = .ok (.iload_n 3, 1) := by decide +kernel
theorem dX7_scale_17 : decode cX7_scale 17 = .ok (.iconst 1, 1) := by decide +kernel
theorem dX7_scale_18 : decode cX7_scale 18 = .ok (.iconst 4, 1) := by decide +kernel
theorem dX7_scale_19 : decode cX7_scale 19 = .ok (.invokestatic 56, 3) := by decide +kernel
theorem dX7_scale_22 : decode cX7_scale 22 = .ok (.ifCond .ne 13, 3) := by decide +kernel
theorem dX7_scale_25 : decode cX7_scale 25 = .ok (.new 60, 3) := by decide +kernel
theorem dX7_scale_28 : decode cX7_scale 28 = .ok (.dup, 1) := by decide +kernel
theorem dX7_scale_29 : decode cX7_scale 29 = .ok (.ldc 131, 2) := by decide +kernel
theorem dX7_scale_31 : decode cX7_scale 31 = .ok (.invokespecial 64, 3) := by decide +kernel
theorem dX7_scale_34 : decode cX7_scale 34 = .ok (.athrow, 1) := by decide +kernel
theorem dX7_scale_35 : decode cX7_scale 35 = .ok (.aload 4, 2) := by decide +kernel
theorem dX7_scale_37 : decode cX7_scale 37 = .ok (.getfield 133, 3) := by decide +kernel
theorem dX7_scale_40 : decode cX7_scale 40 = .ok (.bipush 10, 2) := by decide +kernel
theorem dX7_scale_42 : decode cX7_scale 42 = .ok (.imul, 1) := by decide +kernel
theorem dX7_scale_43 : decode cX7_scale 43 = .ok (.aload 4, 2) := by decide +kernel
theorem dX7_scale_45 : decode cX7_scale 45 = .ok (.getfield 136, 3) := by decide +kernel
theorem dX7_scale_48 : decode cX7_scale 48 = .ok (.iadd, 1) := by decide +kernel
theorem dX7_scale_49 : decode cX7_scale 49 = .ok (.istore 5, 2) := by decide +kernel
theorem dX7_scale_51 : decode cX7_scale 51 = .ok (.aload 4, 2) := by decide +kernel
theorem dX7_scale_53 : decode cX7_scale 53 = .ok (.iload_n 2, 1) := by decide +kernel
theorem dX7_scale_54 : decode cX7_scale 54 = .ok (.putfield 133, 3) := by decide +kernel
theorem dX7_scale_57 : decode cX7_scale 57 = .ok (.aload 4, 2) := by decide +kernel
theorem dX7_scale_59 : decode cX7_scale 59 = .ok (.iload_n 3, 1) := by decide +kernel
theorem dX7_scale_60 : decode cX7_scale 60 = .ok (.putfield 136, 3) := by decide +kernel
theorem dX7_scale_63 : decode cX7_scale 63 = .ok (.iload 5, 2) := by decide +kernel
theorem dX7_scale_65 : decode cX7_scale 65 = .ok (.ireturn, 1) := by decide +kernel
theorem dL_scale_0 : decode cL_scale 0 = .ok (.aload 4, 2) := by decide +kernel
theorem dL_scale_2 : decode cL_scale 2 = .ok (.iconst 0, 1) := by decide +kernel
theorem dL_scale_3 : decode cL_scale 3 = .ok (.aload_n 0, 1) := by decide +kernel
theorem dL_scale_4 : decode cL_scale 4 = .ok (.iload_n 1, 1) := by decide +kernel
theorem dL_scale_5 : decode cL_scale 5 = .ok (.iload_n 2, 1) := by decide +kernel
theorem dL_scale_6 : decode cL_scale 6 = .ok (.iload_n 3, 1) := by decide +kernel
theorem dL_scale_7 : decode cL_scale 7 = .ok (.invokevirtual 31, 3) := by decide +kernel
theorem dL_scale_10 : decode cL_scale 10 = .ok (.i2l, 1) := by decide +kernel
theorem dL_scale_11 : decode cL_scale 11 = .ok (.lastore, 1) := by decide +kernel
theorem dL_scale_12 : decode cL_scale 12 = .ok (.goto 15, 3) := by decide +kernel
theorem dL_scale_15 : decode cL_scale 15 = .ok (.astore 5, 2) := by decide +kernel
theorem dL_scale_17 : decode cL_scale 17 = .ok (.iconst 1, 1) := by decide +kernel
theorem dL_scale_18 : decode cL_scale 18 = .ok (.ireturn, 1) := by decide +kernel
theorem dL_scale_19 : decode cL_scale 19 = .ok (.astore 5, 2) := by decide +kernel
theorem dL_scale_21 : decode cL_scale 21 = .ok (.iconst 2, 1) := by decide +kernel
theorem dL_scale_22 : decode cL_scale 22 = .ok (.ireturn, 1) := by decide +kernel
theorem dL_scale_23 : decode cL_scale 23 = .ok (.astore 5, 2) := by decide +kernel
theorem dL_scale_25 : decode cL_scale 25 = .ok (.iconst 3, 1) := by decide +kernel
theorem dL_scale_26 : decode cL_scale 26 = .ok (.ireturn, 1) := by decide +kernel
theorem dL_scale_27 : decode cL_scale 27 = .ok (.iconst 0, 1) := by decide +kernel
theorem dL_scale_28 : decode cL_scale 28 = .ok (.ireturn, 1) := by decide +kernel
theorem dX7_setTime_0 : decode cX7_setTime 0 = .ok (.iload_n 1, 1) := by decide +kernel
theorem dX7_setTime_1 : decode cX7_setTime 1 = .ok (.invokestatic 228, 3) := by decide +kernel
theorem dX7_setTime_4 : decode cX7_setTime 4 = .ok (.aload_n 0, 1) := by decide +kernel
theorem dX7_setTime_5 : decode cX7_setTime 5 = .ok (.getfield 232, 3) := by decide +kernel
theorem dX7_setTime_8 : decode cX7_setTime 8 = .ok (.istore_n 2, 1) := by decide +kernel
theorem dX7_setTime_9 : decode cX7_setTime 9 = .ok (.aload_n 0, 1) := by decide +kernel
theorem dX7_setTime_10 : decode cX7_setTime 10 = .ok (.iload_n 1, 1) := by decide +kernel
theorem dX7_setTime_11 : decode cX7_setTime 11 = .ok (.putfield 232, 3) := by decide +kernel
theorem dX7_setTime_14 : decode cX7_setTime 14 = .ok (.iload_n 2, 1) := by decide +kernel
theorem dX7_setTime_15 : decode cX7_setTime 15 = .ok (.ireturn, 1) := by decide +kernel
theorem dL_setTime_0 : decode cL_setTime 0 = .ok (.aload_n 2, 1) := by decide +kernel
theorem dL_setTime_1 : decode cL_setTime 1 = .ok (.iconst 0, 1) := by decide +kernel
theorem dL_setTime_2 : decode cL_setTime 2 = .ok (.aload_n 0, 1) := by decide +kernel
theorem dL_setTime_3 : decode cL_setTime 3 = .ok (.iload_n 1, 1) := by decide +kernel
theorem dL_setTime_4 : decode cL_setTime 4 = .ok (.invokevirtual 68, 3) := by decide +kernel
theorem dL_setTime_7 : decode cL_setTime 7 = .ok (.i2l, 1) := by decide +kernel
theorem dL_setTime_8 : decode cL_setTime 8 = .ok (.lastore, 1) := by decide +kernel
theorem dL_setTime_9 : decode cL_setTime 9 = .ok (.goto 6, 3) := by decide +kernel
theorem dL_setTime_12 : decode cL_setTime 12 = .ok (.astore_n 3, 1) := by decide +kernel
theorem dL_setTime_13 : decode cL_setTime 13 = .ok (.iconst 1, 1) := by decide +kernel
theorem dL_setTime_14 : decode cL_setTime 14 = .ok (.ireturn, 1) := by decide +kernel
theorem dL_setTime_15 : decode cL_setTime 15 = .ok (.iconst 0, 1) := by decide +kernel
theorem dL_setTime_16 : decode cL_setTime 16 = .ok (.ireturn, 1) := by decide +kernel
theorem dX7_size_0 : decode cX7_size 0 = .ok (.iconst 1, 1) := by decide +kernel
theorem dX7_size_1 : decode cX7_size 1 = .ok (.istore_n 2, 1) := by decide +kernel
theorem dX7_size_2 : decode cX7_size 2 = .ok (.iconst 1, 1) := by decide +kernel
theorem dX7_size_3 : decode cX7_size 3 = .ok (.istore_n 3, 1) := by decide +kernel
theorem dX7_size_4 : decode cX7_size 4 = .ok (.aload_n 0, 1) := by decide +kernel
theorem dX7_size_5 : decode cX7_size 5 = .ok (.iload_n 1, 1) := by decide +kernel
theorem dX7_size_6 : decode cX7_size 6 = .ok (.invokevirtual 52, 3) := by decide +kernel
theorem dX7_size_9 : decode cX7_size 9 = .ok (.astore 4, 2) := by decide +kernel
theorem dX7_size_11 : decode cX7_size 11 = .ok (.aload 4, 2) := by decide +kernel
theorem dX7_size_13 : decode cX7_size 13 = .ok (.ifnull 29, 3) := by decide +kernel
theorem dX7_size_16 : decode cX7_size 16 = .ok (.iload_n 2, 1) := by decide +kernel
theorem dX7_size_17 : decode cX7_size 17 = .ok (.aload 4, 2) := by decide +kernel
theorem dX7_size_19 : decode cX7_size 19 = .ok (.getfield 133, 3) := by decide +kernel
theorem dX7_size_22 : decode cX7_size 22 = .ok (.imul, 1) := by decide +kernel
theorem dX7_size_23 : decode cX7_size 23 = .ok (.istore_n 2, 1) := by decide +kernel
theorem dX7_size_24 : decode cX7_size 24 = .ok (.iload_n 3, 1) := by decide +kernel
theorem dX7_size_25 : decode cX7_size 25 = .ok (.aload 4, 2) := by decide +kernel
theorem dX7_size_27 : decode cX7_size 27 = .ok (.getfield 136, 3) := by decide +kernel
theorem dX7_size_30 : decode cX7_size 30 = .ok (.imul, 1) := by decide +kernel
theorem dX7_size_31 : decode cX7_size 31 = .ok (.istore_n 3, 1) := by decide +kernel
theorem dX7_size_32 : decode cX7_size 32 = .ok (.aload 4, 2) := by decide +kernel
theorem dX7_size_34 : decode cX7_size 34 = .ok (.getfield 173, 3) := by decide +kernel
theorem dX7_size_37 : decode cX7_size 37 = .ok (.astore 4, 2) := by decide +kernel
theorem dX7_size_39 : decode cX7_size 39 = .ok (.goto (-28), 3) := by decide +kernel
theorem dX7_size_42 : decode cX7_size 42 = .ok (.iload_n 2, 1) := by decide +kernel
theorem dX7_size_43 : decode cX7_size 43 = .ok (.i2d, 1) := by decide +kernel
theorem dX7_size_44 : decode cX7_size 44 = .ok (.iload_n 3, 1) := by decide +kernel
theorem dX7_size_45 : decode cX7_size 45 = .ok (.i2d, 1) := by decide +kernel
theorem dX7_size_46 : decode cX7_size 46 = .ok (.ddiv, 1) := by decide +kernel
theorem dX7_size_47 : decode cX7_size 47 = .ok (.dreturn, 1) := by decide +kernel
theorem dL_size_0 : decode cL_size 0 = .ok (.aload_n 2, 1) := by decide +kernel
theorem dL_size_1 : decode cL_size 1 = .ok (.iconst 0, 1) := by decide +kernel
theorem dL_size_2 : decode cL_size 2 = .ok (.aload_n 0, 1) := by decide +kernel
theorem dL_size_3 : decode cL_size 3 = .ok (.iload_n 1, 1) := by decide +kernel
theorem dL_size_4 : decode cL_size 4 = .ok (.invokevirtual 121, 3) := by decide +kernel
theorem dL_size_7 : decode cL_size 7 = .ok (.dastore, 1) := by decide +kernel
theorem dL_size_8 : decode cL_size 8 = .ok (.goto 6, 3) := by decide +kernel
theorem dL_size_11 : decode cL_size 11 = .ok (.astore_n 3, 1) := by decide +kernel
theorem dL_size_12 : decode cL_size 12 = .ok (.iconst 1, 1) := by decide +kernel
theorem dL_size_13 : decode cL_size 13 = .ok (.ireturn, 1) := by decide +kernel
theorem dL_size_14 : decode cL_size 14 = .ok (.iconst 0, 1) := by decide +kernel
theorem dL_size_15 : decode cL_size 15 = .ok (.ireturn, 1) := by decide +kernel
theorem dX7_strengthOf_0 : decode cX7_strengthOf 0 = .ok (.aload_n 0, 1) := by decide +kernel
theorem dX7_strengthOf_1 : decode cX7_strengthOf 1 = .ok (.getfield 173, 3) := by decide +kernel
theorem dX7_strengthOf_4 : decode cX7_strengthOf 4 = .ok (.ifnull 8, 3) := by decide +kernel
theorem dX7_strengthOf_7 : decode cX7_strengthOf 7 = .ok (.iload_n 2, 1) := by decide +kernel
theorem dX7_strengthOf_8 : decode cX7_strengthOf 8 = .ok (.iconst 4, 1) := by decide +kernel
theorem dX7_strengthOf_9 : decode cX7_strengthOf 9 = .ok (.if_icmp .lt 7, 3) := by decide +kernel
theorem dX7_strengthOf_12 : decode cX7_strengthOf 12 = .ok (.iconst 1, 1) := by decide +kernel
theorem dX7_strengthOf_13 : decode cX7_strengthOf 13 = .ok (.goto 4, 3) := by decide +kernel
theorem dX7_strengthOf_16 : decode cX7_strengthOf 16 = .ok (.iconst 0, 1) := by decide +kernel
theorem dX7_strengthOf_17 : decode cX7_strengthOf 17 = .ok (.istore_n 3, 1) := by decide +kernel
theorem dX7_strengthOf_18 : decode cX7_strengthOf 18 = .ok (.iload_n 3, 1) := by decide +kernel
theorem dX7_strengthOf_19 : decode cX7_strengthOf 19 = .ok (.ifCond .eq 8, 3) := by decide +kernel
theorem dX7_strengthOf_22 : decode cX7_strengthOf 22 = .ok (.bipush 100, 2) := by decide +kernel
theorem dX7_strengthOf_24 : decode cX7_strengthOf 24 = .ok (.goto 14, 3) := by decide +kernel
theorem dX7_strengthOf_27 : decode cX7_strengthOf 27 = .ok (.aload_n 0, 1) := by decide +kernel
theorem dX7_strengthOf_28 : decode cX7_strengthOf 28 = .ok (.getfield 173, 3) := by decide +kernel
theorem dX7_strengthOf_31 : decode cX7_strengthOf 31 = .ok (.iload_n 1, 1) := by decide +kernel
theorem dX7_strengthOf_32 : decode cX7_strengthOf 32 = .ok (.iload_n 2, 1) := by decide +kernel
theorem dX7_strengthOf_33 : decode cX7_strengthOf 33 = .ok (.iconst 1, 1) := by decide +kernel
theorem dX7_strengthOf_34 : decode cX7_strengthOf 34 = .ok (.iadd, 1) := by decide +kernel
theorem dX7_strengthOf_35 : decode cX7_strengthOf 35 = .ok (.invokestatic 283, 3) := by decide +kernel
theorem dX7_strengthOf_38 : decode cX7_strengthOf 38 = .ok (.istore 4, 2) := by decide +kernel
theorem dX7_strengthOf_40 : decode cX7_strengthOf 40 = .ok (.iload 4, 2) := by decide +kernel
theorem dX7_strengthOf_42 : decode cX7_strengthOf 42 = .ok (.aload_n 0, 1) := by decide +kernel
theorem dX7_strengthOf_43 : decode cX7_strengthOf 43 = .ok (.getfield 148, 3) := by decide +kernel
theorem dX7_strengthOf_46 : decode cX7_strengthOf 46 = .ok (.iload_n 1, 1) := by decide +kernel
theorem dX7_strengthOf_47 : decode cX7_strengthOf 47 = .ok (.invokevirtual 237, 3) := by decide +kernel
theorem dX7_strengthOf_50 : decode cX7_strengthOf 50 = .ok (.imul, 1) := by decide +kernel
theorem dX7_strengthOf_51 : decode cX7_strengthOf 51 = .ok (.bipush 100, 2) := by decide +kernel
theorem dX7_strengthOf_53 : decode cX7_strengthOf 53 = .ok (.idiv, 1) := by decide +kernel
theorem dX7_strengthOf_54 : decode cX7_strengthOf 54 = .ok (.ireturn, 1) := by decide +kernel
theorem dX7_strength_0 : decode cX7_strength 0 = .ok (.aload_n 0, 1) := by decide +kernel
theorem dX7_strength_1 : decode cX7_strength 1 = .ok (.iload_n 1, 1) := by decide +kernel
theorem dX7_strength_2 : decode cX7_strength 2 = .ok (.invokevirtual 52, 3) := by decide +kernel
theorem dX7_strength_5 : decode cX7_strength 5 = .ok (.aload_n 0, 1) := by decide +kernel
theorem dX7_strength_6 : decode cX7_strength 6 = .ok (.getfield 232, 3) := by decide +kernel
theorem dX7_strength_9 : decode cX7_strength 9 = .ok (.iconst 0, 1) := by decide +kernel
theorem dX7_strength_10 : decode cX7_strength 10 = .ok (.invokestatic 283, 3) := by decide +kernel
theorem dX7_strength_13 : decode cX7_strength 13 = .ok (.ireturn, 1) := by decide +kernel
theorem dL_strength_0 : decode cL_strength 0 = .ok (.aload_n 2, 1) := by decide +kernel
theorem dL_strength_1 : decode cL_strength 1 = .ok (.iconst 0, 1) := by decide +kernel
theorem dL_strength_2 : decode cL_strength 2 = .ok (.aload_n 0, 1) := by decide +kernel
theorem dL_strength_3 : decode cL_strength 3 = .ok (.iload_n 1, 1) := by decide +kernel
theorem dL_strength_4 : decode cL_strength 4 = .ok (.invokevirtual 90, 3) := by decide +kernel
theorem dL_strength_7 : decode cL_strength 7 = .ok (.i2l, 1) := by decide +kernel
theorem dL_strength_8 : decode cL_strength 8 = .ok (.lastore, 1) := by decide +kernel
theorem dL_strength_9 : decode cL_strength 9 = .ok (.goto 6, 3) := by decide +kernel
theorem dL_strength_12 : decode cL_strength 12 = .ok (.astore_n 3, 1) := by decide +kernel
theorem dL_strength_13 : decode cL_strength 13 = .ok (.iconst 1, 1) := by decide +kernel
theorem dL_strength_14 : decode cL_strength 14 = .ok (.ireturn, 1) := by decide +kernel
theorem dL_strength_15 : decode cL_strength 15 = .ok (.iconst 0, 1) := by decide +kernel
theorem dL_strength_16 : decode cL_strength 16 = .ok (.ireturn, 1) := by decide +kernel
noncomputable def f_X7_many_L39 (k15 : Option Nat → Int32 → Int32 → Int32 → Int32 → Option Nat → fSt → Option ((Int32 ⊕ Nat) × fSt)) (a0 : Option Nat) (a1 : Int32) (a2 : Int32) (a3 : Int32) (a4 : Int32) (a5 : Option Nat) (h : fSt) : Option ((Int32 ⊕ Nat) × fSt) := (fgR h a5 4 17).bind fun x1 => k15 a0 a1 a2 a3 a4 x1 h
noncomputable def f_X7_many_L15 (n : Nat) : Option Nat → Int32 → Int32 → Int32 → Int32 → Option Nat → fSt → Option ((Int32 ⊕ Nat) × fSt) := Nat.rec (motive := fun _ => Option Nat → Int32 → Int32 → Int32 → Int32 → Option Nat → fSt → Option ((Int32 ⊕ Nat) × fSt)) (fun _ _ _ _ _ _ _ => none) (fun _ k15 (a0 : Option Nat) (a1 : Int32) (a2 : Int32) (a3 : Int32) (a4 : Int32) (a5 : Option Nat) (h : fSt) => (if a5 = none then some (.inl a4, h) else (fgI h a0 7 7).bind fun x4 => (fobj h a0 7).bind fun b8 => (f_X7_coversAt b8 a5 a1 a2 a3 x4 h).bind fun r6 => (if r6.1 = 0 then f_X7_many_L39 k15 a0 a1 a2 a3 a4 a5 r6.2 else f_X7_many_L39 k15 a0 a1 a2 a3 (a4 + (1 : Int32)) a5 r6.2))) n
noncomputable def f_X7_many_L0 (a0 : Option Nat) (a1 : Int32) (a2 : Int32) (a3 : Int32) (h : fSt) : Option ((Int32 ⊕ Nat) × fSt) := (f_X7_checkSpot a1 a2 a3 h).bind fun r11 => Sum.elim (fun v13 => (fgR r11.2 a0 7 8).bind fun x16 => f_X7_many_L15 4096 a0 a1 a2 a3 (0 : Int32) x16 r11.2) (fun k14 => some (.inr k14, r11.2)) r11.1
noncomputable def f_X7_many (o : Nat) (p0 : Int32) (p1 : Int32) (p2 : Int32) (h : fSt) : Option ((Int32 ⊕ Nat) × fSt) := f_X7_many_L0 (some o) p0 p1 p2 h
noncomputable def f_L_many_L0 (a0 : Option Nat) (a1 : Int32) (a2 : Int32) (a3 : Int32) (a4 : Option Nat) (h : fSt) : Option ((Int32 ⊕ Nat) × fSt) := (fobj h a0 7).bind fun b3 => (f_X7_many b3 a1 a2 a3 h).bind fun r1 => Sum.elim (fun v5 => (fsJ r1.2 a4 1 (0 : Int32) (Int32.toInt64 v5)).bind fun h8 => some (.inl (0 : Int32), h8)) (fun k6 => (if k6 = 1 then some (.inl (1 : Int32), r1.2) else none)) r1.1
noncomputable def f_L_many (p0 : Option Nat) (p1 : Int32) (p2 : Int32) (p3 : Int32) (p4 : Option Nat) (h : fSt) : Option ((Int32 ⊕ Nat) × fSt) := f_L_many_L0 p0 p1 p2 p3 p4 h
noncomputable def f_X7_move_L31  (h : fSt) : Option ((Int32 ⊕ Nat) × fSt) := (fthr h).bind fun h1 => some (.inr 1, h1)
noncomputable def f_X7_move_L0 (a0 : Option Nat) (a1 : Int32) (a2 : Int32) (a3 : Int32) (h : fSt) : Option ((Int32 ⊕ Nat) × fSt) := (fobj h a0 7).bind fun b5 => (f_X7_foundBelowWhole b5 a1 h).bind fun r3 => Sum.elim (fun v7 => (fgR r3.2 v7 4 3).bind fun x10 => (fobj r3.2 x10 6).bind fun b14 => (f_X6_allows b14 a2 r3.2).bind fun r12 => (if r12.1 = 0 then f_X7_move_L31 r12.2 else (fgR r12.2 v7 4 4).bind fun x17 => (fobj r12.2 x17 6).bind fun b21 => (f_X6_allows b21 a3 r12.2).bind fun r19 => (if r19.1 = 0 then f_X7_move_L31 r19.2 else (fgR r19.2 v7 4 3).bind fun x24 => (fgI r19.2 x24 6 2).bind fun x26 => (fgR r19.2 v7 4 3).bind fun x28 => (fput r19.2 x28 6 2 (.int a2)).bind fun h30 => (fgR h30 v7 4 4).bind fun x32 => (fput h30 x32 6 2 (.int a3)).bind fun h34 => some (.inl x26, h34)))) (fun k8 => some (.inr k8, r3.2)) r3.1
noncomputable def f_X7_move (o : Nat) (p0 : Int32) (p1 : Int32) (p2 : Int32) (h : fSt) : Option ((Int32 ⊕ Nat) × fSt) := f_X7_move_L0 (some o) p0 p1 p2 h
noncomputable def f_L_move_L0 (a0 : Option Nat) (a1 : Int32) (a2 : Int32) (a3 : Int32) (a4 : Option Nat) (h : fSt) : Option ((Int32 ⊕ Nat) × fSt) := (fobj h a0 7).bind fun b3 => (f_X7_move b3 a1 a2 a3 h).bind fun r1 => Sum.elim (fun v5 => (fsJ r1.2 a4 1 (0 : Int32) (Int32.toInt64 v5)).bind fun h8 => some (.inl (0 : Int32), h8)) (fun k6 => (if k6 = 0 then some (.inl (1 : Int32), r1.2) else (if k6 = 2 then some (.inl (2 : Int32), r1.2) else (if k6 = 1 then some (.inl (3 : Int32), r1.2) else none)))) r1.1
noncomputable def f_L_move (p0 : Option Nat) (p1 : Int32) (p2 : Int32) (p3 : Int32) (p4 : Option Nat) (h : fSt) : Option ((Int32 ⊕ Nat) × fSt) := f_L_move_L0 p0 p1 p2 p3 p4 h
noncomputable def f_X7_isToldAnew_L47 (k2 : Option Nat → Int32 → Int32 → fSt → Option (Int32 × fSt)) (a0 : Option Nat) (a1 : Int32) (a2 : Int32) (h : fSt) : Option (Int32 × fSt) := k2 a0 a1 (a2 + (1 : Int32)) h
noncomputable def f_X7_isToldAnew_L53  (h : fSt) : Option (Int32 × fSt) := some ((0 : Int32), h)
noncomputable def f_X7_isToldAnew_L2 (n : Nat) : Option Nat → Int32 → Int32 → fSt → Option (Int32 × fSt) := Nat.rec (motive := fun _ => Option Nat → Int32 → Int32 → fSt → Option (Int32 × fSt)) (fun _ _ _ _ => none) (fun _ k2 (a0 : Option Nat) (a1 : Int32) (a2 : Int32) (h : fSt) => (fgI h a0 7 6).bind fun x1 => (if x1 ≤ a2 then f_X7_isToldAnew_L53 h else (fgR h a0 7 1).bind fun x4 => (flen h x4 5).bind fun x6 => (if x6 ≤ a2 then f_X7_isToldAnew_L53 h else (fgR h a0 7 1).bind fun x9 => (faR h x9 5 a2).bind fun x11 => (if x11 = none then f_X7_isToldAnew_L47 k2 a0 a1 a2 h else (fgR h a0 7 1).bind fun x14 => (faR h x14 5 a2).bind fun x16 => (fgI h a0 7 7).bind fun x18 => (fobj h x16 6).bind fun b22 => (f_X6_differs b22 x18 a1 h).bind fun r20 => (if r20.1 = 0 then f_X7_isToldAnew_L47 k2 a0 a1 a2 r20.2 else some ((1 : Int32), r20.2)))))) n
noncomputable def f_X7_isToldAnew_L0 (a0 : Option Nat) (a1 : Int32) (h : fSt) : Option (Int32 × fSt) := f_X7_isToldAnew_L2 4096 a0 a1 (0 : Int32) h
noncomputable def f_X7_isToldAnew (o : Nat) (p0 : Int32) (h : fSt) : Option (Int32 × fSt) := f_X7_isToldAnew_L0 (some o) p0 h
noncomputable def f_X7_topAt_L41 (k6 : Option Nat → Int32 → Int32 → Int32 → Int32 → Option Nat → Option Nat → fSt → Option (Int32 × fSt)) (a0 : Option Nat) (a1 : Int32) (a2 : Int32) (a3 : Int32) (a4 : Int32) (a5 : Option Nat) (a6 : Option Nat) (h : fSt) : Option (Int32 × fSt) := (fgR h a6 4 17).bind fun x1 => k6 a0 a1 a2 a3 a4 a5 x1 h
noncomputable def f_X7_topAt_L6 (n : Nat) : Option Nat → Int32 → Int32 → Int32 → Int32 → Option Nat → Option Nat → fSt → Option (Int32 × fSt) := Nat.rec (motive := fun _ => Option Nat → Int32 → Int32 → Int32 → Int32 → Option Nat → Option Nat → fSt → Option (Int32 × fSt)) (fun _ _ _ _ _ _ _ _ => none) (fun _ k6 (a0 : Option Nat) (a1 : Int32) (a2 : Int32) (a3 : Int32) (a4 : Int32) (a5 : Option Nat) (a6 : Option Nat) (h : fSt) => (if a6 = none then some ((-1 : Int32), h) else (fobj h a6 4).bind fun b6 => (f_X4_isWithin b6 a5 h).bind fun r4 => (if r4.1 = 0 then (fobj r4.2 a0 7).bind fun b11 => (f_X7_coversAt b11 a6 a1 a2 a3 a4 r4.2).bind fun r9 => (if r9.1 = 0 then f_X7_topAt_L41 k6 a0 a1 a2 a3 a4 a5 a6 r9.2 else (fgI r9.2 a6 4 0).bind fun x14 => some (x14, r9.2)) else f_X7_topAt_L41 k6 a0 a1 a2 a3 a4 a5 a6 r4.2))) n
noncomputable def f_X7_topAt_L0 (a0 : Option Nat) (a1 : Int32) (a2 : Int32) (a3 : Int32) (a4 : Int32) (a5 : Option Nat) (h : fSt) : Option (Int32 × fSt) := (fgR h a0 7 8).bind fun x16 => f_X7_topAt_L6 4096 a0 a1 a2 a3 a4 a5 x16 h
noncomputable def f_X7_topAt (o : Nat) (p0 : Int32) (p1 : Int32) (p2 : Int32) (p3 : Int32) (p4 : Option Nat) (h : fSt) : Option (Int32 × fSt) := f_X7_topAt_L0 (some o) p0 p1 p2 p3 p4 h
noncomputable def f_X7_nextPick_L99 (k65 : Option Nat → Int32 → Int32 → Int32 → Int32 → Int32 → Int32 → fSt → Option ((Int32 ⊕ Nat) × fSt)) (a0 : Option Nat) (a1 : Int32) (a2 : Int32) (a3 : Int32) (a5 : Int32) (a6 : Int32) (a7 : Int32) (h : fSt) : Option ((Int32 ⊕ Nat) × fSt) := k65 a0 a1 a2 a3 a5 a6 (a7 + (1 : Int32)) h
noncomputable def f_X7_nextPick_L65 (n : Nat) : Option Nat → Int32 → Int32 → Int32 → Int32 → Int32 → Int32 → fSt → Option ((Int32 ⊕ Nat) × fSt) := Nat.rec (motive := fun _ => Option Nat → Int32 → Int32 → Int32 → Int32 → Int32 → Int32 → fSt → Option ((Int32 ⊕ Nat) × fSt)) (fun _ _ _ _ _ _ _ _ => none) (fun _ k65 (a0 : Option Nat) (a1 : Int32) (a2 : Int32) (a3 : Int32) (a5 : Int32) (a6 : Int32) (a7 : Int32) (h : fSt) => (if a6 < a7 then some (.inl (-1 : Int32), h) else (fobj h a0 7).bind fun b4 => (f_X7_isToldAnew b4 a7 h).bind fun r2 => (if r2.1 = 0 then f_X7_nextPick_L99 k65 a0 a1 a2 a3 a5 a6 a7 r2.2 else (fobj r2.2 a0 7).bind fun b9 => (f_X7_topAt b9 a1 a2 a3 a7 none r2.2).bind fun r7 => (if r7.1 = a5 then f_X7_nextPick_L99 k65 a0 a1 a2 a3 a5 a6 a7 r7.2 else some (.inl a7, r7.2))))) n
noncomputable def f_X7_nextPick_L0 (a0 : Option Nat) (a1 : Int32) (a2 : Int32) (a3 : Int32) (a4 : Int32) (h : fSt) : Option ((Int32 ⊕ Nat) × fSt) := (f_X7_checkSpot a1 a2 a3 h).bind fun r12 => Sum.elim (fun v14 => (f_X7_isFrom a4 (1 : Int32) (100 : Int32) r12.2).bind fun r17 => (if r17.1 = 0 then (fthr r17.2).bind fun h30 => some (.inr 1, h30) else (fgI r17.2 a0 7 7).bind fun x20 => (fobj r17.2 a0 7).bind fun b24 => (f_X7_topAt b24 a1 a2 a3 x20 none r17.2).bind fun r22 => (fgI r22.2 a0 7 7).bind fun x26 => (fgI r22.2 a0 7 7).bind fun x28 => f_X7_nextPick_L65 4096 a0 a1 a2 a3 r22.1 (if (9999 : Int32) < (x26 + a4) then (9999 : Int32) else (x26 + a4)) (x28 + (1 : Int32)) r22.2)) (fun k15 => some (.inr k15, r12.2)) r12.1
noncomputable def f_X7_nextPick (o : Nat) (p0 : Int32) (p1 : Int32) (p2 : Int32) (p3 : Int32) (h : fSt) : Option ((Int32 ⊕ Nat) × fSt) := f_X7_nextPick_L0 (some o) p0 p1 p2 p3 h
noncomputable def f_L_nextPick_L0 (a0 : Option Nat) (a1 : Int32) (a2 : Int32) (a3 : Int32) (a4 : Int32) (a5 : Option Nat) (h : fSt) : Option ((Int32 ⊕ Nat) × fSt) := (fobj h a0 7).bind fun b3 => (f_X7_nextPick b3 a1 a2 a3 a4 h).bind fun r1 => Sum.elim (fun v5 => (fsJ r1.2 a5 1 (0 : Int32) (Int32.toInt64 v5)).bind fun h8 => some (.inl (0 : Int32), h8)) (fun k6 => (if k6 = 1 then some (.inl (1 : Int32), r1.2) else none)) r1.1
noncomputable def f_L_nextPick (p0 : Option Nat) (p1 : Int32) (p2 : Int32) (p3 : Int32) (p4 : Int32) (p5 : Option Nat) (h : fSt) : Option ((Int32 ⊕ Nat) × fSt) := f_L_nextPick_L0 p0 p1 p2 p3 p4 p5 h
noncomputable def f_X4_property_L0 (a0 : Option Nat) (a1 : Int32) (h : fSt) : Option (Option Nat × fSt) := (if a1 = (0 : Int32) then (fgR h a0 4 3).bind fun x2 => some (x2, h) else (if a1 = (1 : Int32) then (fgR h a0 4 4).bind fun x5 => some (x5, h) else (if a1 = (2 : Int32) then (fgR h a0 4 5).bind fun x8 => some (x8, h) else (if a1 = (3 : Int32) then (fgR h a0 4 6).bind fun x11 => some (x11, h) else some (none, h)))))
noncomputable def f_X4_property (o : Nat) (p0 : Int32) (h : fSt) : Option (Option Nat × fSt) := f_X4_property_L0 (some o) p0 h
noncomputable def f_X7_now_L0 (a0 : Option Nat) (a1 : Int32) (a2 : Int32) (h : fSt) : Option ((Int32 ⊕ Nat) × fSt) := (fobj h a0 7).bind fun b3 => (f_X7_found b3 a1 h).bind fun r1 => Sum.elim (fun v5 => (fobj r1.2 v5 4).bind fun b10 => (f_X4_property b10 a2 r1.2).bind fun r8 => (if r8.1 = none then (fthr r8.2).bind fun h19 => some (.inr 1, h19) else (fgI r8.2 a0 7 7).bind fun x13 => (fobj r8.2 r8.1 6).bind fun b17 => (f_X6_at b17 x13 r8.2).bind fun r15 => some (.inl r15.1, r15.2))) (fun k6 => some (.inr k6, r1.2)) r1.1
noncomputable def f_X7_now (o : Nat) (p0 : Int32) (p1 : Int32) (h : fSt) : Option ((Int32 ⊕ Nat) × fSt) := f_X7_now_L0 (some o) p0 p1 h
noncomputable def f_L_now_L0 (a0 : Option Nat) (a1 : Int32) (a2 : Int32) (a3 : Option Nat) (h : fSt) : Option ((Int32 ⊕ Nat) × fSt) := (fobj h a0 7).bind fun b3 => (f_X7_now b3 a1 a2 h).bind fun r1 => Sum.elim (fun v5 => (fsJ r1.2 a3 1 (0 : Int32) (Int32.toInt64 v5)).bind fun h8 => some (.inl (0 : Int32), h8)) (fun k6 => (if k6 = 0 then some (.inl (1 : Int32), r1.2) else (if k6 = 1 then some (.inl (2 : Int32), r1.2) else none))) r1.1
noncomputable def f_L_now (p0 : Option Nat) (p1 : Int32) (p2 : Int32) (p3 : Option Nat) (h : fSt) : Option ((Int32 ⊕ Nat) × fSt) := f_L_now_L0 p0 p1 p2 p3 h
noncomputable def f_X7_orderAt_L5 (n : Nat) : Int32 → Option Nat → fSt → Option ((Int32 ⊕ Nat) × fSt) := Nat.rec (motive := fun _ => Int32 → Option Nat → fSt → Option ((Int32 ⊕ Nat) × fSt)) (fun _ _ _ => none) (fun _ k5 (a1 : Int32) (a2 : Option Nat) (h : fSt) => (if a2 = none then (fthr h).bind fun h2 => some (.inr 0, h2) else (fgI h a2 4 18).bind fun x4 => (if x4 = a1 then (fgI h a2 4 0).bind fun x9 => some (.inl x9, h) else (fgR h a2 4 17).bind fun x7 => k5 a1 x7 h))) n
noncomputable def f_X7_orderAt_L0 (a0 : Option Nat) (a1 : Int32) (h : fSt) : Option ((Int32 ⊕ Nat) × fSt) := (fgR h a0 7 8).bind fun x11 => f_X7_orderAt_L5 4096 a1 x11 h
noncomputable def f_X7_orderAt (o : Nat) (p0 : Int32) (h : fSt) : Option ((Int32 ⊕ Nat) × fSt) := f_X7_orderAt_L0 (some o) p0 h
noncomputable def f_L_orderAt_L0 (a0 : Option Nat) (a1 : Int32) (a2 : Option Nat) (h : fSt) : Option ((Int32 ⊕ Nat) × fSt) := (fobj h a0 7).bind fun b3 => (f_X7_orderAt b3 a1 h).bind fun r1 => Sum.elim (fun v5 => (fsJ r1.2 a2 1 (0 : Int32) (Int32.toInt64 v5)).bind fun h8 => some (.inl (0 : Int32), h8)) (fun k6 => (if k6 = 0 then some (.inl (1 : Int32), r1.2) else none)) r1.1
noncomputable def f_L_orderAt (p0 : Option Nat) (p1 : Int32) (p2 : Option Nat) (h : fSt) : Option ((Int32 ⊕ Nat) × fSt) := f_L_orderAt_L0 p0 p1 p2 h
noncomputable def f_X7_parentNumber_L18 (s0 : Int32) (h : fSt) : Option (Int32 × fSt) := some (s0, h)
noncomputable def f_X7_parentNumber_L0 (a0 : Option Nat) (h : fSt) : Option (Int32 × fSt) := (fgR h a0 4 14).bind fun x1 => (if x1 = none then f_X7_parentNumber_L18 (-1 : Int32) h else (fgR h a0 4 14).bind fun x4 => (fgI h x4 4 0).bind fun x6 => f_X7_parentNumber_L18 x6 h)
noncomputable def f_X7_parentNumber (p0 : Option Nat) (h : fSt) : Option (Int32 × fSt) := f_X7_parentNumber_L0 p0 h
noncomputable def f_X7_parent_L0 (a0 : Option Nat) (a1 : Int32) (h : fSt) : Option ((Int32 ⊕ Nat) × fSt) := (fobj h a0 7).bind fun b3 => (f_X7_found b3 a1 h).bind fun r1 => Sum.elim (fun v5 => (f_X7_parentNumber v5 r1.2).bind fun r8 => some (.inl r8.1, r8.2)) (fun k6 => some (.inr k6, r1.2)) r1.1
noncomputable def f_X7_parent (o : Nat) (p0 : Int32) (h : fSt) : Option ((Int32 ⊕ Nat) × fSt) := f_X7_parent_L0 (some o) p0 h
noncomputable def f_L_parent_L0 (a0 : Option Nat) (a1 : Int32) (a2 : Option Nat) (h : fSt) : Option ((Int32 ⊕ Nat) × fSt) := (fobj h a0 7).bind fun b3 => (f_X7_parent b3 a1 h).bind fun r1 => Sum.elim (fun v5 => (fsJ r1.2 a2 1 (0 : Int32) (Int32.toInt64 v5)).bind fun h8 => some (.inl (0 : Int32), h8)) (fun k6 => (if k6 = 0 then some (.inl (1 : Int32), r1.2) else none)) r1.1
noncomputable def f_L_parent (p0 : Option Nat) (p1 : Int32) (p2 : Option Nat) (h : fSt) : Option ((Int32 ⊕ Nat) × fSt) := f_L_parent_L0 p0 p1 p2 h
noncomputable def f_X7_pick_L0 (a0 : Option Nat) (a1 : Int32) (a2 : Int32) (a3 : Int32) (h : fSt) : Option ((Int32 ⊕ Nat) × fSt) := (f_X7_checkSpot a1 a2 a3 h).bind fun r1 => Sum.elim (fun v3 => (fgI r1.2 a0 7 7).bind fun x6 => (fobj r1.2 a0 7).bind fun b10 => (f_X7_topAt b10 a1 a2 a3 x6 none r1.2).bind fun r8 => some (.inl r8.1, r8.2)) (fun k4 => some (.inr k4, r1.2)) r1.1
noncomputable def f_X7_pick (o : Nat) (p0 : Int32) (p1 : Int32) (p2 : Int32) (h : fSt) : Option ((Int32 ⊕ Nat) × fSt) := f_X7_pick_L0 (some o) p0 p1 p2 h
noncomputable def f_L_pick_L0 (a0 : Option Nat) (a1 : Int32) (a2 : Int32) (a3 : Int32) (a4 : Option Nat) (h : fSt) : Option ((Int32 ⊕ Nat) × fSt) := (fobj h a0 7).bind fun b3 => (f_X7_pick b3 a1 a2 a3 h).bind fun r1 => Sum.elim (fun v5 => (fsJ r1.2 a4 1 (0 : Int32) (Int32.toInt64 v5)).bind fun h8 => some (.inl (0 : Int32), h8)) (fun k6 => (if k6 = 1 then some (.inl (1 : Int32), r1.2) else none)) r1.1
noncomputable def f_L_pick (p0 : Option Nat) (p1 : Int32) (p2 : Int32) (p3 : Int32) (p4 : Option Nat) (h : fSt) : Option ((Int32 ⊕ Nat) × fSt) := f_L_pick_L0 p0 p1 p2 p3 p4 h
noncomputable def f_X7_pickWithout_L0 (a0 : Option Nat) (a1 : Int32) (a2 : Int32) (a3 : Int32) (a4 : Int32) (h : fSt) : Option ((Int32 ⊕ Nat) × fSt) := (fobj h a0 7).bind fun b3 => (f_X7_found b3 a1 h).bind fun r1 => Sum.elim (fun v5 => (f_X7_checkSpot a2 a3 a4 r1.2).bind fun r8 => Sum.elim (fun v10 => (fgI r8.2 a0 7 7).bind fun x13 => (fobj r8.2 a0 7).bind fun b17 => (f_X7_topAt b17 a2 a3 a4 x13 v5 r8.2).bind fun r15 => some (.inl r15.1, r15.2)) (fun k11 => some (.inr k11, r8.2)) r8.1) (fun k6 => some (.inr k6, r1.2)) r1.1
noncomputable def f_X7_pickWithout (o : Nat) (p0 : Int32) (p1 : Int32) (p2 : Int32) (p3 : Int32) (h : fSt) : Option ((Int32 ⊕ Nat) × fSt) := f_X7_pickWithout_L0 (some o) p0 p1 p2 p3 h
noncomputable def f_L_pickWithout_L0 (a0 : Option Nat) (a1 : Int32) (a2 : Int32) (a3 : Int32) (a4 : Int32) (a5 : Option Nat) (h : fSt) : Option ((Int32 ⊕ Nat) × fSt) := (fobj h a0 7).bind fun b3 => (f_X7_pickWithout b3 a1 a2 a3 a4 h).bind fun r1 => Sum.elim (fun v5 => (fsJ r1.2 a5 1 (0 : Int32) (Int32.toInt64 v5)).bind fun h8 => some (.inl (0 : Int32), h8)) (fun k6 => (if k6 = 0 then some (.inl (1 : Int32), r1.2) else (if k6 = 1 then some (.inl (2 : Int32), r1.2) else none))) r1.1
noncomputable def f_L_pickWithout (p0 : Option Nat) (p1 : Int32) (p2 : Int32) (p3 : Int32) (p4 : Int32) (p5 : Option Nat) (h : fSt) : Option ((Int32 ⊕ Nat) × fSt) := f_L_pickWithout_L0 p0 p1 p2 p3 p4 p5 h
noncomputable def f_X7_placeOf_L0 (a0 : Option Nat) (a1 : Int32) (h : fSt) : Option ((Int32 ⊕ Nat) × fSt) := (fobj h a0 7).bind fun b3 => (f_X7_found b3 a1 h).bind fun r1 => Sum.elim (fun v5 => (fgI r1.2 v5 4 18).bind fun x8 => some (.inl x8, r1.2)) (fun k6 => some (.inr k6, r1.2)) r1.1
noncomputable def f_X7_placeOf (o : Nat) (p0 : Int32) (h : fSt) : Option ((Int32 ⊕ Nat) × fSt) := f_X7_placeOf_L0 (some o) p0 h
noncomputable def f_L_placeOf_L0 (a0 : Option Nat) (a1 : Int32) (a2 : Option Nat) (h : fSt) : Option ((Int32 ⊕ Nat) × fSt) := (fobj h a0 7).bind fun b3 => (f_X7_placeOf b3 a1 h).bind fun r1 => Sum.elim (fun v5 => (fsJ r1.2 a2 1 (0 : Int32) (Int32.toInt64 v5)).bind fun h8 => some (.inl (0 : Int32), h8)) (fun k6 => (if k6 = 0 then some (.inl (1 : Int32), r1.2) else none)) r1.1
noncomputable def f_L_placeOf (p0 : Option Nat) (p1 : Int32) (p2 : Option Nat) (h : fSt) : Option ((Int32 ⊕ Nat) × fSt) := f_L_placeOf_L0 p0 p1 p2 h
noncomputable def f_X6_endTrack_L0 (a0 : Option Nat) (h : fSt) : Option (Unit × fSt) := (fputZ h a0 6 4 (1 : Int32)).bind fun h1 => (fput h1 a0 6 7 (va_rf none)).bind fun h4 => (fput h4 a0 6 8 (.int (0 : Int32))).bind fun h6 => some ((), h6)
noncomputable def f_X6_endTrack (o : Nat) (h : fSt) : Option (Unit × fSt) := f_X6_endTrack_L0 (some o) h
noncomputable def f_X4_vanish_L0 (a0 : Option Nat) (h : fSt) : Option (Unit × fSt) := (fputZ h a0 4 13 (1 : Int32)).bind fun h1 => (fgR h1 a0 4 3).bind fun x4 => (fobj h1 x4 6).bind fun b8 => (f_X6_endTrack b8 h1).bind fun r6 => (fgR r6.2 a0 4 4).bind fun x10 => (fobj r6.2 x10 6).bind fun b14 => (f_X6_endTrack b14 r6.2).bind fun r12 => (fgR r12.2 a0 4 5).bind fun x16 => (fobj r12.2 x16 6).bind fun b20 => (f_X6_endTrack b20 r12.2).bind fun r18 => (fgR r18.2 a0 4 6).bind fun x22 => (fobj r18.2 x22 6).bind fun b26 => (f_X6_endTrack b26 r18.2).bind fun r24 => some ((), r24.2)
noncomputable def f_X4_vanish (o : Nat) (h : fSt) : Option (Unit × fSt) := f_X4_vanish_L0 (some o) h
noncomputable def f_X7_remove_L36 (k14 : Option Nat → Option Nat → Int32 → Option Nat → fSt → Option ((Int32 ⊕ Nat) × fSt)) (a0 : Option Nat) (a2 : Option Nat) (a3 : Int32) (a4 : Option Nat) (h : fSt) : Option ((Int32 ⊕ Nat) × fSt) := (fgR h a4 4 17).bind fun x1 => k14 a0 a2 a3 x1 h
noncomputable def f_X7_remove_L14 (n : Nat) : Option Nat → Option Nat → Int32 → Option Nat → fSt → Option ((Int32 ⊕ Nat) × fSt) := Nat.rec (motive := fun _ => Option Nat → Option Nat → Int32 → Option Nat → fSt → Option ((Int32 ⊕ Nat) × fSt)) (fun _ _ _ _ _ => none) (fun _ k14 (a0 : Option Nat) (a2 : Option Nat) (a3 : Int32) (a4 : Option Nat) (h : fSt) => (if a4 = none then (fobj h a2 4).bind fun b6 => (f_X4_leaveParent b6 h).bind fun r4 => (fobj r4.2 a0 7).bind fun b10 => (f_X7_layOrder b10 r4.2).bind fun r8 => some (.inl a3, r8.2) else (fobj h a4 4).bind fun b14 => (f_X4_isWithin b14 a2 h).bind fun r12 => (if r12.1 = 0 then f_X7_remove_L36 k14 a0 a2 a3 a4 r12.2 else (fobj r12.2 a4 4).bind fun b19 => (f_X4_vanish b19 r12.2).bind fun r17 => f_X7_remove_L36 k14 a0 a2 (a3 + (1 : Int32)) a4 r17.2))) n
noncomputable def f_X7_remove_L0 (a0 : Option Nat) (a1 : Int32) (h : fSt) : Option ((Int32 ⊕ Nat) × fSt) := (fobj h a0 7).bind fun b23 => (f_X7_foundBelowWhole b23 a1 h).bind fun r21 => Sum.elim (fun v25 => (fgR r21.2 a0 7 8).bind fun x28 => f_X7_remove_L14 4096 a0 v25 (0 : Int32) x28 r21.2) (fun k26 => some (.inr k26, r21.2)) r21.1
noncomputable def f_X7_remove (o : Nat) (p0 : Int32) (h : fSt) : Option ((Int32 ⊕ Nat) × fSt) := f_X7_remove_L0 (some o) p0 h
noncomputable def f_L_remove_L0 (a0 : Option Nat) (a1 : Int32) (a2 : Option Nat) (h : fSt) : Option ((Int32 ⊕ Nat) × fSt) := (fobj h a0 7).bind fun b3 => (f_X7_remove b3 a1 h).bind fun r1 => Sum.elim (fun v5 => (fsJ r1.2 a2 1 (0 : Int32) (Int32.toInt64 v5)).bind fun h8 => some (.inl (0 : Int32), h8)) (fun k6 => (if k6 = 0 then some (.inl (1 : Int32), r1.2) else (if k6 = 2 then some (.inl (2 : Int32), r1.2) else none))) r1.1
noncomputable def f_L_remove (p0 : Option Nat) (p1 : Int32) (p2 : Option Nat) (h : fSt) : Option ((Int32 ⊕ Nat) × fSt) := f_L_remove_L0 p0 p1 p2 h
noncomputable def f_X7_scale_L25  (h : fSt) : Option ((Int32 ⊕ Nat) × fSt) := (fthr h).bind fun h1 => some (.inr 1, h1)
noncomputable def f_X7_scale_L0 (a0 : Option Nat) (a1 : Int32) (a2 : Int32) (a3 : Int32) (h : fSt) : Option ((Int32 ⊕ Nat) × fSt) := (fobj h a0 7).bind fun b5 => (f_X7_foundBelowWhole b5 a1 h).bind fun r3 => Sum.elim (fun v7 => (f_X7_isFrom a2 (1 : Int32) (4 : Int32) r3.2).bind fun r10 => (if r10.1 = 0 then f_X7_scale_L25 r10.2 else (f_X7_isFrom a3 (1 : Int32) (4 : Int32) r10.2).bind fun r13 => (if r13.1 = 0 then f_X7_scale_L25 r13.2 else (fgI r13.2 v7 4 7).bind fun x16 => (fgI r13.2 v7 4 8).bind fun x18 => (fput r13.2 v7 4 7 (.int a2)).bind fun h20 => (fput h20 v7 4 8 (.int a3)).bind fun h22 => some (.inl ((x16 * (10 : Int32)) + x18), h22)))) (fun k8 => some (.inr k8, r3.2)) r3.1
noncomputable def f_X7_scale (o : Nat) (p0 : Int32) (p1 : Int32) (p2 : Int32) (h : fSt) : Option ((Int32 ⊕ Nat) × fSt) := f_X7_scale_L0 (some o) p0 p1 p2 h
noncomputable def f_L_scale_L0 (a0 : Option Nat) (a1 : Int32) (a2 : Int32) (a3 : Int32) (a4 : Option Nat) (h : fSt) : Option ((Int32 ⊕ Nat) × fSt) := (fobj h a0 7).bind fun b3 => (f_X7_scale b3 a1 a2 a3 h).bind fun r1 => Sum.elim (fun v5 => (fsJ r1.2 a4 1 (0 : Int32) (Int32.toInt64 v5)).bind fun h8 => some (.inl (0 : Int32), h8)) (fun k6 => (if k6 = 0 then some (.inl (1 : Int32), r1.2) else (if k6 = 2 then some (.inl (2 : Int32), r1.2) else (if k6 = 1 then some (.inl (3 : Int32), r1.2) else none)))) r1.1
noncomputable def f_L_scale (p0 : Option Nat) (p1 : Int32) (p2 : Int32) (p3 : Int32) (p4 : Option Nat) (h : fSt) : Option ((Int32 ⊕ Nat) × fSt) := f_L_scale_L0 p0 p1 p2 p3 p4 h
noncomputable def f_X7_setTime_L0 (a0 : Option Nat) (a1 : Int32) (h : fSt) : Option ((Int32 ⊕ Nat) × fSt) := (f_X7_checkTime a1 h).bind fun r1 => Sum.elim (fun v3 => (fgI r1.2 a0 7 7).bind fun x6 => (fput r1.2 a0 7 7 (.int a1)).bind fun h8 => some (.inl x6, h8)) (fun k4 => some (.inr k4, r1.2)) r1.1
noncomputable def f_X7_setTime (o : Nat) (p0 : Int32) (h : fSt) : Option ((Int32 ⊕ Nat) × fSt) := f_X7_setTime_L0 (some o) p0 h
noncomputable def f_L_setTime_L0 (a0 : Option Nat) (a1 : Int32) (a2 : Option Nat) (h : fSt) : Option ((Int32 ⊕ Nat) × fSt) := (fobj h a0 7).bind fun b3 => (f_X7_setTime b3 a1 h).bind fun r1 => Sum.elim (fun v5 => (fsJ r1.2 a2 1 (0 : Int32) (Int32.toInt64 v5)).bind fun h8 => some (.inl (0 : Int32), h8)) (fun k6 => (if k6 = 1 then some (.inl (1 : Int32), r1.2) else none)) r1.1
noncomputable def f_L_setTime (p0 : Option Nat) (p1 : Int32) (p2 : Option Nat) (h : fSt) : Option ((Int32 ⊕ Nat) × fSt) := f_L_setTime_L0 p0 p1 p2 h
noncomputable def f_X7_size_L11 (n : Nat) : Int32 → Int32 → Option Nat → fSt → Option ((UInt64 ⊕ Nat) × fSt) := Nat.rec (motive := fun _ => Int32 → Int32 → Option Nat → fSt → Option ((UInt64 ⊕ Nat) × fSt)) (fun _ _ _ _ => none) (fun _ k11 (a2 : Int32) (a3 : Int32) (a4 : Option Nat) (h : fSt) => (if a4 = none then (if (FP.ddiv (FP.i2d a2) (FP.i2d a3)) &&& 0x7fffffffffffffff ≤ 0x7ff0000000000000 then some (.inl (FP.ddiv (FP.i2d a2) (FP.i2d a3)), h) else none) else (fgI h a4 4 7).bind fun x3 => (fgI h a4 4 8).bind fun x5 => (fgR h a4 4 14).bind fun x7 => k11 (a2 * x3) (a3 * x5) x7 h)) n
noncomputable def f_X7_size_L0 (a0 : Option Nat) (a1 : Int32) (h : fSt) : Option ((UInt64 ⊕ Nat) × fSt) := (fobj h a0 7).bind fun b11 => (f_X7_found b11 a1 h).bind fun r9 => Sum.elim (fun v13 => f_X7_size_L11 4096 (1 : Int32) (1 : Int32) v13 r9.2) (fun k14 => some (.inr k14, r9.2)) r9.1
noncomputable def f_X7_size (o : Nat) (p0 : Int32) (h : fSt) : Option ((UInt64 ⊕ Nat) × fSt) := f_X7_size_L0 (some o) p0 h
noncomputable def f_L_size_L0 (a0 : Option Nat) (a1 : Int32) (a2 : Option Nat) (h : fSt) : Option ((Int32 ⊕ Nat) × fSt) := (fobj h a0 7).bind fun b3 => (f_X7_size b3 a1 h).bind fun r1 => Sum.elim (fun v5 => (fsD r1.2 a2 3 (0 : Int32) v5).bind fun h8 => some (.inl (0 : Int32), h8)) (fun k6 => (if k6 = 0 then some (.inl (1 : Int32), r1.2) else none)) r1.1
noncomputable def f_L_size (p0 : Option Nat) (p1 : Int32) (p2 : Option Nat) (h : fSt) : Option ((Int32 ⊕ Nat) × fSt) := f_L_size_L0 p0 p1 p2 h
noncomputable def f_X7_strengthOf_L38 (self : Option Nat → Int32 → Int32 → fSt → Option (Int32 × fSt)) (a0 : Option Nat) (a1 : Int32) (s0 : Int32) (h : fSt) : Option (Int32 × fSt) := (fgR h a0 4 6).bind fun x1 => (fobj h x1 6).bind fun b5 => (f_X6_at b5 a1 h).bind fun r3 => some (((s0 * r3.1) / (100 : Int32)), r3.2)
noncomputable def f_X7_strengthOf_L17 (self : Option Nat → Int32 → Int32 → fSt → Option (Int32 × fSt)) (a0 : Option Nat) (a1 : Int32) (a2 : Int32) (s0 : Int32) (h : fSt) : Option (Int32 × fSt) := (if s0 = 0 then (fgR h a0 4 14).bind fun x8 => (self x8 a1 (a2 + (1 : Int32)) h).bind fun r10 => f_X7_strengthOf_L38 self a0 a1 r10.1 r10.2 else f_X7_strengthOf_L38 self a0 a1 (100 : Int32) h)
noncomputable def f_X7_strengthOf_L12 (self : Option Nat → Int32 → Int32 → fSt → Option (Int32 × fSt)) (a0 : Option Nat) (a1 : Int32) (a2 : Int32) (h : fSt) : Option (Int32 × fSt) := f_X7_strengthOf_L17 self a0 a1 a2 (1 : Int32) h
noncomputable def f_X7_strengthOf_L0 (self : Option Nat → Int32 → Int32 → fSt → Option (Int32 × fSt)) (a0 : Option Nat) (a1 : Int32) (a2 : Int32) (h : fSt) : Option (Int32 × fSt) := (fgR h a0 4 14).bind fun x12 => (if x12 = none then f_X7_strengthOf_L12 self a0 a1 a2 h else (if a2 < (4 : Int32) then f_X7_strengthOf_L17 self a0 a1 a2 (0 : Int32) h else f_X7_strengthOf_L12 self a0 a1 a2 h))
noncomputable def f_X7_strengthOf (d : Nat) : Option Nat → Int32 → Int32 → fSt → Option (Int32 × fSt) := Nat.rec (motive := fun _ => Option Nat → Int32 → Int32 → fSt → Option (Int32 × fSt)) (fun _ _ _ _ => none) (fun _ self (p0 : Option Nat) (p1 : Int32) (p2 : Int32) (h : fSt) => f_X7_strengthOf_L0 self p0 p1 p2 h) d
noncomputable def f_X7_strength_L0 (a0 : Option Nat) (a1 : Int32) (h : fSt) : Option ((Int32 ⊕ Nat) × fSt) := (fobj h a0 7).bind fun b3 => (f_X7_found b3 a1 h).bind fun r1 => Sum.elim (fun v5 => (fgI r1.2 a0 7 7).bind fun x8 => (f_X7_strengthOf 8 v5 x8 (0 : Int32) r1.2).bind fun r10 => some (.inl r10.1, r10.2)) (fun k6 => some (.inr k6, r1.2)) r1.1
noncomputable def f_X7_strength (o : Nat) (p0 : Int32) (h : fSt) : Option ((Int32 ⊕ Nat) × fSt) := f_X7_strength_L0 (some o) p0 h
noncomputable def f_L_strength_L0 (a0 : Option Nat) (a1 : Int32) (a2 : Option Nat) (h : fSt) : Option ((Int32 ⊕ Nat) × fSt) := (fobj h a0 7).bind fun b3 => (f_X7_strength b3 a1 h).bind fun r1 => Sum.elim (fun v5 => (fsJ r1.2 a2 1 (0 : Int32) (Int32.toInt64 v5)).bind fun h8 => some (.inl (0 : Int32), h8)) (fun k6 => (if k6 = 0 then some (.inl (1 : Int32), r1.2) else none)) r1.1
noncomputable def f_L_strength (p0 : Option Nat) (p1 : Int32) (p2 : Option Nat) (h : fSt) : Option ((Int32 ⊕ Nat) × fSt) := f_L_strength_L0 p0 p1 p2 h
set_option maxHeartbeats 4000000 in
set_option maxRecDepth 100000 in
theorem w_X7_many_L39 {p : Program} {l : Launch} {e : Env} {s : State} {m : MethodId} {args : Array Value} {below : List Frame} {meth : Method} {c : Code} {D : va_G} {cA : Nat → ClassId} {h0 : fSt} {r : ((Int32 ⊕ Nat) × fSt)} (M : fM p s m args meth c D cA h0 { frames := 26, cells := fCB h0 - fZ h0, slots := fLB h0 - fL h0, locals := 640 } cX7_many 6 (some (.int)) RX7) (hfl : l.stackTraces = false) (hno : ∀ x ∈ c.exceptionTable.toList, False) {k15 : Option Nat → Int32 → Int32 → Int32 → Int32 → Option Nat → fSt → Option ((Int32 ⊕ Nat) × fSt)} (hk15 : ∀ (a0 : Option Nat) (a1 : Int32) (a2 : Int32) (a3 : Int32) (a4 : Int32) (a5 : Option Nat) (h : fSt), k15 a0 a1 a2 a3 a4 a5 h = some r → ∀ (H : Heap) (locs : List Loc) (cells slots : Nat) (ls : Array Slot), fCur D cA s h0 h H locs → lv_has ls 6 [(0, va_rf a0), (1, .int a1), (2, .int a2), (3, .int a3), (4, .int a4), (5, va_rf a5)] → W p l e { frames := 26, cells := fCB h0 - fZ h0, slots := fLB h0 - fL h0, locals := 640 } s m args below meth c H locs cells slots (vx_MQ below (fQX D cA h0 r.2 (rI r.1)) (fXC D cA h0 r.2 (rI r.1)) args s (fCB h0 - fZ h0) (fLB h0 - fL h0) (fA h0)) (F0 m 15 ls [])) (a0 : Option Nat) (a1 : Int32) (a2 : Int32) (a3 : Int32) (a4 : Int32) (a5 : Option Nat) (h : fSt) (hf : f_X7_many_L39 k15 a0 a1 a2 a3 a4 a5 h = some r) : ∀ (H : Heap) (locs : List Loc) (cells slots : Nat) (ls : Array Slot), fCur D cA s h0 h H locs → lv_has ls 6 [(0, va_rf a0), (1, .int a1), (2, .int a2), (3, .int a3), (4, .int a4), (5, va_rf a5)] → W p l e { frames := 26, cells := fCB h0 - fZ h0, slots := fLB h0 - fL h0, locals := 640 } s m args below meth c H locs cells slots (vx_MQ below (fQX D cA h0 r.2 (rI r.1)) (fXC D cA h0 r.2 (rI r.1)) args s (fCB h0 - fZ h0) (fLB h0 - fL h0) (fA h0)) (F0 m 39 ls []) := by
  obtain ⟨hx, hb, hml, hr, hlocks, hts, hown, K, hR⟩ := id M
  intro H locs cells slots ls hC hl
  refine fr_aload hx hb dX7_many_39 (lv_at hl 5 rfl) ?_
  obtain ⟨x1, g2, hf⟩ := obind hf
  refine fr_get hx hb hts hown K hC ct_4 (fgR_get g2) (by decide) kw189 rfl dX7_many_41 ?_
  refine fr_astore (lv' := [(5, va_rf x1), (0, va_rf a0), (1, .int a1), (2, .int a2), (3, .int a3), (4, .int a4)]) hx hb dX7_many_44 hl (by decide) (congrArg (List.cons _) (flk rfl (flk rfl (flk rfl (flk rfl (flk rfl (fld rfl fln))))))) (fun ls hl => ?_)
  refine lv_goto (tgt := 15) hx hb dX7_many_46 (by decide) ?_
  exact hk15 _ _ _ _ _ _ _ hf _ _ _ _ _ hC (lv_sub hl [1, 2, 3, 4, 5, 0] rfl)
set_option maxHeartbeats 4000000 in
set_option maxRecDepth 100000 in
theorem w_X7_many_L15 {p : Program} {l : Launch} {e : Env} {s : State} {m : MethodId} {args : Array Value} {below : List Frame} {meth : Method} {c : Code} {D : va_G} {cA : Nat → ClassId} {h0 : fSt} {r : ((Int32 ⊕ Nat) × fSt)} (M : fM p s m args meth c D cA h0 { frames := 26, cells := fCB h0 - fZ h0, slots := fLB h0 - fL h0, locals := 640 } cX7_many 6 (some (.int)) RX7) (hfl : l.stackTraces = false) (hno : ∀ x ∈ c.exceptionTable.toList, False) : ∀ (n : Nat) (a0 : Option Nat) (a1 : Int32) (a2 : Int32) (a3 : Int32) (a4 : Int32) (a5 : Option Nat) (h : fSt), f_X7_many_L15 n a0 a1 a2 a3 a4 a5 h = some r → ∀ (H : Heap) (locs : List Loc) (cells slots : Nat) (ls : Array Slot), fCur D cA s h0 h H locs → lv_has ls 6 [(0, va_rf a0), (1, .int a1), (2, .int a2), (3, .int a3), (4, .int a4), (5, va_rf a5)] → W p l e { frames := 26, cells := fCB h0 - fZ h0, slots := fLB h0 - fL h0, locals := 640 } s m args below meth c H locs cells slots (vx_MQ below (fQX D cA h0 r.2 (rI r.1)) (fXC D cA h0 r.2 (rI r.1)) args s (fCB h0 - fZ h0) (fLB h0 - fL h0) (fA h0)) (F0 m 15 ls []) := by
  obtain ⟨hx, hb, hml, hr, hlocks, hts, hown, K, hR⟩ := id M
  intro n
  induction n with
  | zero =>
    intro a0 a1 a2 a3 a4 a5 h hf
    exact nomatch (show (none : Option ((Int32 ⊕ Nat) × fSt)) = some r from hf)
  | succ n hk15 =>
    intro a0 a1 a2 a3 a4 a5 h hf H locs cells slots ls hC hl
    refine fr_aload hx hb dX7_many_15 (lv_at hl 5 rfl) ?_
    refine fr_ifnull (tgt := 49) hx hb dX7_many_17 (by decide) (fun c3 => ?_) (fun c3 => ?_)
    · replace hf := opos c3 hf
      refine lv_iload hx hb dX7_many_49 (lv_at hl 4 rfl) ?_
      obtain rfl := Option.some.inj hf
      exact fr_retQ (fr_iret hx hb hr hlocks hC dX7_many_51)
    · replace hf := oneg c3 hf
      refine fr_aload_n hx hb dX7_many_20 rfl (lv_at hl 0 rfl) ?_
      refine fr_aload hx hb dX7_many_21 (lv_at hl 5 rfl) ?_
      refine lv_iload_n hx hb dX7_many_23 rfl (lv_at hl 1 rfl) ?_
      refine lv_iload_n hx hb dX7_many_24 rfl (lv_at hl 2 rfl) ?_
      refine lv_iload_n hx hb dX7_many_25 rfl (lv_at hl 3 rfl) ?_
      refine fr_aload_n hx hb dX7_many_26 rfl (lv_at hl 0 rfl) ?_
      obtain ⟨x4, g5, hf⟩ := obind hf
      refine fr_get hx hb hts hown K hC ct_7 (fgI_get g5) (by decide) kw297 rfl dX7_many_27 ?_
      obtain ⟨b8, q9, hf⟩ := obind hf
      obtain ⟨r6, g7, hf⟩ := obind hf
      refine fr_callV hx hb hml hts hown K hC hR ct_7 (c_X7_coversAt hfl D cA g7) 5 q9 kw473 kw470 kw472 kw10 kw55 (by decide +kernel) ⟨by exact Nat.le_of_ble_eq_true rfl, by exact Nat.le_of_ble_eq_true rfl⟩ rfl hl.1 (cat8 _ (by exact Nat.le_of_ble_eq_true rfl)) dX7_many_30 rfl (fun H locs _ _ hC => ?_)
      refine lv_if_eq (tgt := 39) hx hb dX7_many_33 (by decide) (fun c10 => ?_) (fun c10 => ?_)
      · replace hf := opos c10 hf
        exact w_X7_many_L39 M hfl hno hk15 _ _ _ _ _ _ _ hf _ _ _ _ _ hC (lv_sub hl [0, 1, 2, 3, 4, 5] rfl)
      · replace hf := oneg c10 hf
        refine lv_iinc (v := (a4 + (1 : Int32))) (lv' := [(4, .int (a4 + (1 : Int32))), (0, va_rf a0), (1, .int a1), (2, .int a2), (3, .int a3), (5, va_rf a5)]) hx hb dX7_many_36 hl (k := 4) rfl rfl (by decide) (congrArg (List.cons _) (flk rfl (flk rfl (flk rfl (flk rfl (fld rfl (flk rfl fln))))))) (fun ls hl => ?_)
        exact w_X7_many_L39 M hfl hno hk15 _ _ _ _ _ _ _ hf _ _ _ _ _ hC (lv_sub hl [1, 2, 3, 4, 0, 5] rfl)
set_option maxHeartbeats 4000000 in
set_option maxRecDepth 100000 in
theorem w_X7_many_L0 {p : Program} {l : Launch} {e : Env} {s : State} {m : MethodId} {args : Array Value} {below : List Frame} {meth : Method} {c : Code} {D : va_G} {cA : Nat → ClassId} {h0 : fSt} {r : ((Int32 ⊕ Nat) × fSt)} (M : fM p s m args meth c D cA h0 { frames := 26, cells := fCB h0 - fZ h0, slots := fLB h0 - fL h0, locals := 640 } cX7_many 6 (some (.int)) RX7) (hfl : l.stackTraces = false) (hno : ∀ x ∈ c.exceptionTable.toList, False) (a0 : Option Nat) (a1 : Int32) (a2 : Int32) (a3 : Int32) (h : fSt) (hf : f_X7_many_L0 a0 a1 a2 a3 h = some r) : ∀ (H : Heap) (locs : List Loc) (cells slots : Nat) (ls : Array Slot), fCur D cA s h0 h H locs → lv_has ls 6 [(0, va_rf a0), (1, .int a1), (2, .int a2), (3, .int a3)] → W p l e { frames := 26, cells := fCB h0 - fZ h0, slots := fLB h0 - fL h0, locals := 640 } s m args below meth c H locs cells slots (vx_MQ below (fQX D cA h0 r.2 (rI r.1)) (fXC D cA h0 r.2 (rI r.1)) args s (fCB h0 - fZ h0) (fLB h0 - fL h0) (fA h0)) (F0 m 0 ls []) := by
  obtain ⟨hx, hb, hml, hr, hlocks, hts, hown, K, hR⟩ := id M
  intro H locs cells slots ls hC hl
  refine lv_iload_n hx hb dX7_many_0 rfl (lv_at hl 1 rfl) ?_
  refine lv_iload_n hx hb dX7_many_1 rfl (lv_at hl 2 rfl) ?_
  refine lv_iload_n hx hb dX7_many_2 rfl (lv_at hl 3 rfl) ?_
  obtain ⟨⟨v13 | k14, h15⟩, g12, hf⟩ := obind hf
  · refine fr_callSX hx hb hml hts hown K hC hR (c_X7_checkSpot hfl D cA g12) 3 kw907 kw905 kw906 kw55 (by decide +kernel) ⟨by exact Nat.le_of_ble_eq_true rfl, by exact Nat.le_of_ble_eq_true rfl⟩ rfl hl.1 (cat8 _ (by exact Nat.le_of_ble_eq_true rfl)) dX7_many_3 rfl (fun H locs _ _ hC => ?_)
    refine lv_iconst (v := (0 : Int32)) hx hb dX7_many_6 (by decide) ?_
    refine lv_istore (lv' := [(4, .int (0 : Int32)), (0, va_rf a0), (1, .int a1), (2, .int a2), (3, .int a3)]) hx hb dX7_many_7 hl (by decide) (congrArg (List.cons _) (flk rfl (flk rfl (flk rfl (flk rfl fln))))) (fun ls hl => ?_)
    refine fr_aload_n hx hb dX7_many_9 rfl (lv_at hl 1 rfl) ?_
    obtain ⟨x16, g17, hf⟩ := obind hf
    refine fr_get hx hb hts hown K hC ct_7 (fgR_get g17) (by decide) kw298 rfl dX7_many_10 ?_
    refine fr_astore (lv' := [(5, va_rf x16), (4, .int (0 : Int32)), (0, va_rf a0), (1, .int a1), (2, .int a2), (3, .int a3)]) hx hb dX7_many_13 hl (by decide) (congrArg (List.cons _) (flk rfl (flk rfl (flk rfl (flk rfl (flk rfl fln)))))) (fun ls hl => ?_)
    exact w_X7_many_L15 M hfl hno 4096 _ _ _ _ _ _ _ hf _ _ _ _ _ hC (lv_sub hl [2, 3, 4, 5, 1, 0] rfl)
  · obtain rfl := Option.some.inj hf
    refine fr_callST hx hb hml hts hown K hC hR (c_X7_checkSpot hfl D cA g12) 3 kw907 kw905 kw906 kw55 (by decide +kernel) ⟨by exact Nat.le_of_ble_eq_true rfl, by exact Nat.le_of_ble_eq_true rfl⟩ rfl hl.1 (cat8 _ (by exact Nat.le_of_ble_eq_true rfl)) dX7_many_3 rfl (fun H locs _ _ q ce hC e1 e2 e3 => ?_)
    exact fr_out (fun x hx9 => (hno x hx9).elim) hlocks hC e1 e2 e3
set_option maxRecDepth 100000 in
theorem c_X7_many {l : Launch} (hfl : l.stackTraces = false) (D : va_G) (cA : Nat → ClassId) {o : Nat} {p0 : Int32} {p1 : Int32} {p2 : Int32} {h : fSt} {r : ((Int32 ⊕ Nat) × fSt)} (hf : f_X7_many o p0 p1 p2 h = some r) : fMetX l yX7_many (wsC yX7_many cX7_many 6 (some (.int))) (26) (640) D cA [.ref o, .int p0, .int p1, .int p2] h r.2 (rI r.1) := by
  exact fMetX.of (own := RX7) (by decide +kernel) rfl (lva1 rfl (lva1 rfl (lva1 rfl (lva1 rfl lva0)))) (lgl1 rfl (lgl1 rfl (lgl1 rfl (lgl1 rfl lgl0)))) (Nat.le_of_ble_eq_true rfl) (fun p e s m args below meth c ls hno M hC hl => by
    have hl : lv_has ls 6 [(0, va_rf (some o)), (1, .int p0), (2, .int p1), (3, .int p2)] := hl
    exact w_X7_many_L0 M hfl hno _ _ _ _ _ hf _ _ _ _ _ hC (lv_sub hl [0, 1, 2, 3] rfl))
set_option maxHeartbeats 4000000 in
set_option maxRecDepth 100000 in
theorem w_L_many_L0 {p : Program} {l : Launch} {e : Env} {s : State} {m : MethodId} {args : Array Value} {below : List Frame} {meth : Method} {c : Code} {D : va_G} {cA : Nat → ClassId} {h0 : fSt} {r : ((Int32 ⊕ Nat) × fSt)} (M : fM p s m args meth c D cA h0 { frames := 27, cells := fCB h0 - fZ h0, slots := fLB h0 - fL h0, locals := 665 } cL_many 6 (some (.int)) RL) (hfl : l.stackTraces = false) (hno : c.exceptionTable.toList = tableOf [(0, 12, 15, 15)]) (a0 : Option Nat) (a1 : Int32) (a2 : Int32) (a3 : Int32) (a4 : Option Nat) (h : fSt) (hf : f_L_many_L0 a0 a1 a2 a3 a4 h = some r) : ∀ (H : Heap) (locs : List Loc) (cells slots : Nat) (ls : Array Slot), fCur D cA s h0 h H locs → lv_has ls 6 [(0, va_rf a0), (1, .int a1), (2, .int a2), (3, .int a3), (4, va_rf a4)] → W p l e { frames := 27, cells := fCB h0 - fZ h0, slots := fLB h0 - fL h0, locals := 665 } s m args below meth c H locs cells slots (vx_MQ below (fQX D cA h0 r.2 (rI r.1)) (fXC D cA h0 r.2 (rI r.1)) args s (fCB h0 - fZ h0) (fLB h0 - fL h0) (fA h0)) (F0 m 0 ls []) := by
  obtain ⟨hx, hb, hml, hr, hlocks, hts, hown, K, hR⟩ := id M
  intro H locs cells slots ls hC hl
  refine fr_aload hx hb dL_many_0 (lv_at hl 4 rfl) ?_
  refine lv_iconst (v := (0 : Int32)) hx hb dL_many_2 (by decide) ?_
  refine fr_aload_n hx hb dL_many_3 rfl (lv_at hl 0 rfl) ?_
  refine lv_iload_n hx hb dL_many_4 rfl (lv_at hl 1 rfl) ?_
  refine lv_iload_n hx hb dL_many_5 rfl (lv_at hl 2 rfl) ?_
  refine lv_iload_n hx hb dL_many_6 rfl (lv_at hl 3 rfl) ?_
  obtain ⟨b3, q4, hf⟩ := obind hf
  obtain ⟨⟨v5 | k6, h7⟩, g2, hf⟩ := obind hf
  · refine fr_callVX hx hb hml hts hown K hC hR ct_7 (c_X7_many hfl D cA g2) 3 q4 kw923 kw920 kw921 kw922 kw55 (by decide +kernel) ⟨by exact Nat.le_of_ble_eq_true rfl, by exact Nat.le_of_ble_eq_true rfl⟩ rfl hl.1 (cat8 _ (by exact Nat.le_of_ble_eq_true rfl)) dL_many_7 rfl (fun H locs _ _ hC => ?_)
    refine lv_i2l (v := (Int32.toInt64 v5)) hx hb dL_many_10 rfl ?_
    obtain ⟨h8, g9, hf⟩ := obind hf
    refine fr_last hx hb K hC (t := 1) rfl g9 dL_many_11 (fun H locs hC => ?_)
    refine lv_goto (tgt := 19) hx hb dL_many_12 (by decide) ?_
    refine lv_iconst (v := (0 : Int32)) hx hb dL_many_19 (by decide) ?_
    obtain rfl := Option.some.inj hf
    exact fr_retQ (fr_iret hx hb hr hlocks hC dL_many_20)
  · refine fr_callVT hx hb hml hts hown K hC hR ct_7 (c_X7_many hfl D cA g2) 3 q4 kw923 kw920 kw921 kw922 kw55 (by decide +kernel) ⟨by exact Nat.le_of_ble_eq_true rfl, by exact Nat.le_of_ble_eq_true rfl⟩ rfl hl.1 (cat8 _ (by exact Nat.le_of_ble_eq_true rfl)) dL_many_7 rfl (fun H locs _ _ q ce hC e1 e2 e3 => ?_)
    by_cases c10 : k6 = 1
    · replace hf := opos c10 hf
      subst c10
      refine fr_catch (k9 := 1) (name := "java/lang/IllegalArgumentException") hts K hown [] ⟨0, 12, 15, 15⟩ [] (by rw [hno]; rfl) (fun z hz => nomatch hz) (by decide) (by decide) kw574 kn495 e1 e2 e3 ?_
      refine fr_astore (lv' := [(5, va_rf (some q)), (0, va_rf a0), (1, .int a1), (2, .int a2), (3, .int a3), (4, va_rf a4)]) hx hb dL_many_15 hl (by decide) (congrArg (List.cons _) (flk rfl (flk rfl (flk rfl (flk rfl (flk (adj1 _ _) fln)))))) (fun ls hl => ?_)
      refine lv_iconst (v := (1 : Int32)) hx hb dL_many_17 (by decide) ?_
      obtain rfl := Option.some.inj hf
      exact fr_retQ (fr_iret hx hb hr hlocks hC dL_many_18)
    replace hf := oneg c10 hf
    exact nomatch hf
set_option maxRecDepth 100000 in
theorem c_L_many {l : Launch} (hfl : l.stackTraces = false) (D : va_G) (cA : Nat → ClassId) {p0 : Option Nat} {p1 : Int32} {p2 : Int32} {p3 : Int32} {p4 : Option Nat} {h : fSt} {r : ((Int32 ⊕ Nat) × fSt)} (hf : f_L_many p0 p1 p2 p3 p4 h = some r) : fMetX l yL_many (wsCH yL_many cL_many 6 (some (.int)) [(0, 12, 15, 15)]) (27) (665) D cA [va_rf p0, .int p1, .int p2, .int p3, va_rf p4] h r.2 (rI r.1) := by
  exact fMetX.ofH (own := RL) (by decide +kernel) rfl (lva1 (va_rf_cat _) (lva1 rfl (lva1 rfl (lva1 rfl (lva1 (va_rf_cat _) lva0))))) (lgl1 (va_rf_cat _) (lgl1 rfl (lgl1 rfl (lgl1 rfl (lgl1 (va_rf_cat _) lgl0))))) (Nat.le_of_ble_eq_true rfl) (fun p e s m args below meth c ls hno M hC hl => by
    have hl : lv_has ls 6 [(0, va_rf p0), (1, .int p1), (2, .int p2), (3, .int p3), (4, va_rf p4)] := hl
    exact w_L_many_L0 M hfl hno _ _ _ _ _ _ hf _ _ _ _ _ hC (lv_sub hl [0, 1, 2, 3, 4] rfl))
set_option maxHeartbeats 4000000 in
set_option maxRecDepth 100000 in
theorem w_X7_move_L31 {p : Program} {l : Launch} {e : Env} {s : State} {m : MethodId} {args : Array Value} {below : List Frame} {meth : Method} {c : Code} {D : va_G} {cA : Nat → ClassId} {h0 : fSt} {r : ((Int32 ⊕ Nat) × fSt)} (M : fM p s m args meth c D cA h0 { frames := 8, cells := fCB h0 - fZ h0, slots := fLB h0 - fL h0, locals := 134 } cX7_move 6 (some (.int)) RX7) (hfl : l.stackTraces = false) (hno : ∀ x ∈ c.exceptionTable.toList, False)  (h : fSt) (hf : f_X7_move_L31  h = some r) : ∀ (H : Heap) (locs : List Loc) (cells slots : Nat) (ls : Array Slot), fCur D cA s h0 h H locs → lv_has ls 6 [] → W p l e { frames := 8, cells := fCB h0 - fZ h0, slots := fLB h0 - fL h0, locals := 134 } s m args below meth c H locs cells slots (vx_MQ below (fQX D cA h0 r.2 (rI r.1)) (fXC D cA h0 r.2 (rI r.1)) args s (fCB h0 - fZ h0) (fLB h0 - fL h0) (fA h0)) (F0 m 31 ls []) := by
  obtain ⟨hx, hb, hml, hr, hlocks, hts, hown, K, hR⟩ := id M
  intro H locs cells slots ls hC hl
  obtain ⟨h1, g2, hf⟩ := obind hf
  obtain rfl := Option.some.inj hf
  exact fr_throwS hx hb hml hts hfl hown K hC hR th_RX7_60_64_1 st_RX7_126 hl.1 dX7_move_31 dX7_move_34 dX7_move_35 dX7_move_37 dX7_move_40 hno (by exact Nat.le_of_ble_eq_true rfl) (catL _ _ (by exact Nat.le_of_ble_eq_true rfl) (by exact Nat.le_of_ble_eq_true rfl)) hlocks g2
set_option maxHeartbeats 4000000 in
set_option maxRecDepth 100000 in
theorem w_X7_move_L0 {p : Program} {l : Launch} {e : Env} {s : State} {m : MethodId} {args : Array Value} {below : List Frame} {meth : Method} {c : Code} {D : va_G} {cA : Nat → ClassId} {h0 : fSt} {r : ((Int32 ⊕ Nat) × fSt)} (M : fM p s m args meth c D cA h0 { frames := 8, cells := fCB h0 - fZ h0, slots := fLB h0 - fL h0, locals := 134 } cX7_move 6 (some (.int)) RX7) (hfl : l.stackTraces = false) (hno : ∀ x ∈ c.exceptionTable.toList, False) (a0 : Option Nat) (a1 : Int32) (a2 : Int32) (a3 : Int32) (h : fSt) (hf : f_X7_move_L0 a0 a1 a2 a3 h = some r) : ∀ (H : Heap) (locs : List Loc) (cells slots : Nat) (ls : Array Slot), fCur D cA s h0 h H locs → lv_has ls 6 [(0, va_rf a0), (1, .int a1), (2, .int a2), (3, .int a3)] → W p l e { frames := 8, cells := fCB h0 - fZ h0, slots := fLB h0 - fL h0, locals := 134 } s m args below meth c H locs cells slots (vx_MQ below (fQX D cA h0 r.2 (rI r.1)) (fXC D cA h0 r.2 (rI r.1)) args s (fCB h0 - fZ h0) (fLB h0 - fL h0) (fA h0)) (F0 m 0 ls []) := by
  obtain ⟨hx, hb, hml, hr, hlocks, hts, hown, K, hR⟩ := id M
  intro H locs cells slots ls hC hl
  refine fr_aload_n hx hb dX7_move_0 rfl (lv_at hl 0 rfl) ?_
  refine lv_iload_n hx hb dX7_move_1 rfl (lv_at hl 1 rfl) ?_
  obtain ⟨b5, q6, hf⟩ := obind hf
  obtain ⟨⟨v7 | k8, h9⟩, g4, hf⟩ := obind hf
  · refine fr_callVX hx hb hml hts hown K hC hR ct_7 (c_X7_foundBelowWhole hfl D cA g4) 1 q6 kw644 kw641 kw643 kw16 kw55 (by decide +kernel) ⟨by exact Nat.le_of_ble_eq_true rfl, by exact Nat.le_of_ble_eq_true rfl⟩ rfl hl.1 (cat8 _ (by exact Nat.le_of_ble_eq_true rfl)) dX7_move_2 rfl (fun H locs _ _ hC => ?_)
    refine fr_astore (lv' := [(4, va_rf v7), (0, va_rf a0), (1, .int a1), (2, .int a2), (3, .int a3)]) hx hb dX7_move_5 hl (by decide) (congrArg (List.cons _) (flk rfl (flk rfl (flk rfl (flk rfl fln))))) (fun ls hl => ?_)
    refine fr_aload hx hb dX7_move_7 (lv_at hl 0 rfl) ?_
    obtain ⟨x10, g11, hf⟩ := obind hf
    refine fr_get hx hb hts hown K hC ct_4 (fgR_get g11) (by decide) kw159 rfl dX7_move_9 ?_
    refine lv_iload_n hx hb dX7_move_12 rfl (lv_at hl 3 rfl) ?_
    obtain ⟨b14, q15, hf⟩ := obind hf
    obtain ⟨r12, g13, hf⟩ := obind hf
    refine fr_callV hx hb hml hts hown K hC hR ct_6 (c_X6_allows hfl D cA g13) 1 q15 kw688 kw685 kw686 kw687 kw57 (by decide +kernel) ⟨by exact Nat.le_of_ble_eq_true rfl, by exact Nat.le_of_ble_eq_true rfl⟩ rfl hl.1 (cat8 _ (by exact Nat.le_of_ble_eq_true rfl)) dX7_move_13 rfl (fun H locs _ _ hC => ?_)
    refine lv_if_eq (tgt := 31) hx hb dX7_move_16 (by decide) (fun c16 => ?_) (fun c16 => ?_)
    · replace hf := opos c16 hf
      exact w_X7_move_L31 M hfl hno _ hf _ _ _ _ _ hC (lv_sub hl [] rfl)
    · replace hf := oneg c16 hf
      refine fr_aload hx hb dX7_move_19 (lv_at hl 0 rfl) ?_
      obtain ⟨x17, g18, hf⟩ := obind hf
      refine fr_get hx hb hts hown K hC ct_4 (fgR_get g18) (by decide) kw162 rfl dX7_move_21 ?_
      refine lv_iload_n hx hb dX7_move_24 rfl (lv_at hl 4 rfl) ?_
      obtain ⟨b21, q22, hf⟩ := obind hf
      obtain ⟨r19, g20, hf⟩ := obind hf
      refine fr_callV hx hb hml hts hown K hC hR ct_6 (c_X6_allows hfl D cA g20) 1 q22 kw688 kw685 kw686 kw687 kw57 (by decide +kernel) ⟨by exact Nat.le_of_ble_eq_true rfl, by exact Nat.le_of_ble_eq_true rfl⟩ rfl hl.1 (cat8 _ (by exact Nat.le_of_ble_eq_true rfl)) dX7_move_25 rfl (fun H locs _ _ hC => ?_)
      refine lv_if_ne (tgt := 41) hx hb dX7_move_28 (by decide) (fun c23 => ?_) (fun c23 => ?_)
      · replace hf := oneg c23 hf
        refine fr_aload hx hb dX7_move_41 (lv_at hl 0 rfl) ?_
        obtain ⟨x24, g25, hf⟩ := obind hf
        refine fr_get hx hb hts hown K hC ct_4 (fgR_get g25) (by decide) kw159 rfl dX7_move_43 ?_
        obtain ⟨x26, g27, hf⟩ := obind hf
        refine fr_get hx hb hts hown K hC ct_6 (fgI_get g27) (by decide) kw98 rfl dX7_move_46 ?_
        refine lv_istore (lv' := [(5, .int x26), (4, va_rf v7), (0, va_rf a0), (1, .int a1), (2, .int a2), (3, .int a3)]) hx hb dX7_move_49 hl (by decide) (congrArg (List.cons _) (flk (adj1 _ _) (flk rfl (flk rfl (flk rfl (flk rfl fln)))))) (fun ls hl => ?_)
        refine fr_aload hx hb dX7_move_51 (lv_at hl 1 rfl) ?_
        obtain ⟨x28, g29, hf⟩ := obind hf
        refine fr_get hx hb hts hown K hC ct_4 (fgR_get g29) (by decide) kw159 rfl dX7_move_53 ?_
        refine lv_iload_n hx hb dX7_move_56 rfl (lv_at hl 4 rfl) ?_
        obtain ⟨h30, g31, hf⟩ := obind hf
        refine fr_put hx hb hts hown K hC ct_6 g31 (by decide) kw98 rfl rfl rfl rfl dX7_move_57 (fun H locs hC => ?_)
        refine fr_aload hx hb dX7_move_60 (lv_at hl 1 rfl) ?_
        obtain ⟨x32, g33, hf⟩ := obind hf
        refine fr_get hx hb hts hown K hC ct_4 (fgR_get g33) (by decide) kw162 rfl dX7_move_62 ?_
        refine lv_iload_n hx hb dX7_move_65 rfl (lv_at hl 5 rfl) ?_
        obtain ⟨h34, g35, hf⟩ := obind hf
        refine fr_put hx hb hts hown K hC ct_6 g35 (by decide) kw98 rfl rfl rfl rfl dX7_move_66 (fun H locs hC => ?_)
        refine lv_iload hx hb dX7_move_69 (lv_at hl 0 rfl) ?_
        obtain rfl := Option.some.inj hf
        exact fr_retQ (fr_iret hx hb hr hlocks hC dX7_move_71)
      · replace hf := opos c23 hf
        exact w_X7_move_L31 M hfl hno _ hf _ _ _ _ _ hC (lv_sub hl [] rfl)
  · obtain rfl := Option.some.inj hf
    refine fr_callVT hx hb hml hts hown K hC hR ct_7 (c_X7_foundBelowWhole hfl D cA g4) 1 q6 kw644 kw641 kw643 kw16 kw55 (by decide +kernel) ⟨by exact Nat.le_of_ble_eq_true rfl, by exact Nat.le_of_ble_eq_true rfl⟩ rfl hl.1 (cat8 _ (by exact Nat.le_of_ble_eq_true rfl)) dX7_move_2 rfl (fun H locs _ _ q ce hC e1 e2 e3 => ?_)
    exact fr_out (fun x hx9 => (hno x hx9).elim) hlocks hC e1 e2 e3
set_option maxRecDepth 100000 in
theorem c_X7_move {l : Launch} (hfl : l.stackTraces = false) (D : va_G) (cA : Nat → ClassId) {o : Nat} {p0 : Int32} {p1 : Int32} {p2 : Int32} {h : fSt} {r : ((Int32 ⊕ Nat) × fSt)} (hf : f_X7_move o p0 p1 p2 h = some r) : fMetX l yX7_move (wsC yX7_move cX7_move 6 (some (.int))) (8) (134) D cA [.ref o, .int p0, .int p1, .int p2] h r.2 (rI r.1) := by
  exact fMetX.of (own := RX7) (by decide +kernel) rfl (lva1 rfl (lva1 rfl (lva1 rfl (lva1 rfl lva0)))) (lgl1 rfl (lgl1 rfl (lgl1 rfl (lgl1 rfl lgl0)))) (Nat.le_of_ble_eq_true rfl) (fun p e s m args below meth c ls hno M hC hl => by
    have hl : lv_has ls 6 [(0, va_rf (some o)), (1, .int p0), (2, .int p1), (3, .int p2)] := hl
    exact w_X7_move_L0 M hfl hno _ _ _ _ _ hf _ _ _ _ _ hC (lv_sub hl [0, 1, 2, 3] rfl))
set_option maxHeartbeats 4000000 in
set_option maxRecDepth 100000 in
theorem w_L_move_L0 {p : Program} {l : Launch} {e : Env} {s : State} {m : MethodId} {args : Array Value} {below : List Frame} {meth : Method} {c : Code} {D : va_G} {cA : Nat → ClassId} {h0 : fSt} {r : ((Int32 ⊕ Nat) × fSt)} (M : fM p s m args meth c D cA h0 { frames := 9, cells := fCB h0 - fZ h0, slots := fLB h0 - fL h0, locals := 159 } cL_move 6 (some (.int)) RL) (hfl : l.stackTraces = false) (hno : c.exceptionTable.toList = tableOf [(0, 12, 15, 13), (0, 12, 19, 17), (0, 12, 23, 15)]) (a0 : Option Nat) (a1 : Int32) (a2 : Int32) (a3 : Int32) (a4 : Option Nat) (h : fSt) (hf : f_L_move_L0 a0 a1 a2 a3 a4 h = some r) : ∀ (H : Heap) (locs : List Loc) (cells slots : Nat) (ls : Array Slot), fCur D cA s h0 h H locs → lv_has ls 6 [(0, va_rf a0), (1, .int a1), (2, .int a2), (3, .int a3), (4, va_rf a4)] → W p l e { frames := 9, cells := fCB h0 - fZ h0, slots := fLB h0 - fL h0, locals := 159 } s m args below meth c H locs cells slots (vx_MQ below (fQX D cA h0 r.2 (rI r.1)) (fXC D cA h0 r.2 (rI r.1)) args s (fCB h0 - fZ h0) (fLB h0 - fL h0) (fA h0)) (F0 m 0 ls []) := by
  obtain ⟨hx, hb, hml, hr, hlocks, hts, hown, K, hR⟩ := id M
  intro H locs cells slots ls hC hl
  refine fr_aload hx hb dL_move_0 (lv_at hl 4 rfl) ?_
  refine lv_iconst (v := (0 : Int32)) hx hb dL_move_2 (by decide) ?_
  refine fr_aload_n hx hb dL_move_3 rfl (lv_at hl 0 rfl) ?_
  refine lv_iload_n hx hb dL_move_4 rfl (lv_at hl 1 rfl) ?_
  refine lv_iload_n hx hb dL_move_5 rfl (lv_at hl 2 rfl) ?_
  refine lv_iload_n hx hb dL_move_6 rfl (lv_at hl 3 rfl) ?_
  obtain ⟨b3, q4, hf⟩ := obind hf
  obtain ⟨⟨v5 | k6, h7⟩, g2, hf⟩ := obind hf
  · refine fr_callVX hx hb hml hts hown K hC hR ct_7 (c_X7_move hfl D cA g2) 3 q4 kw684 kw681 kw682 kw683 kw55 (by decide +kernel) ⟨by exact Nat.le_of_ble_eq_true rfl, by exact Nat.le_of_ble_eq_true rfl⟩ rfl hl.1 (cat8 _ (by exact Nat.le_of_ble_eq_true rfl)) dL_move_7 rfl (fun H locs _ _ hC => ?_)
    refine lv_i2l (v := (Int32.toInt64 v5)) hx hb dL_move_10 rfl ?_
    obtain ⟨h8, g9, hf⟩ := obind hf
    refine fr_last hx hb K hC (t := 1) rfl g9 dL_move_11 (fun H locs hC => ?_)
    refine lv_goto (tgt := 27) hx hb dL_move_12 (by decide) ?_
    refine lv_iconst (v := (0 : Int32)) hx hb dL_move_27 (by decide) ?_
    obtain rfl := Option.some.inj hf
    exact fr_retQ (fr_iret hx hb hr hlocks hC dL_move_28)
  · refine fr_callVT hx hb hml hts hown K hC hR ct_7 (c_X7_move hfl D cA g2) 3 q4 kw684 kw681 kw682 kw683 kw55 (by decide +kernel) ⟨by exact Nat.le_of_ble_eq_true rfl, by exact Nat.le_of_ble_eq_true rfl⟩ rfl hl.1 (cat8 _ (by exact Nat.le_of_ble_eq_true rfl)) dL_move_7 rfl (fun H locs _ _ q ce hC e1 e2 e3 => ?_)
    by_cases c10 : k6 = 0
    · replace hf := opos c10 hf
      subst c10
      refine fr_catch (k9 := 0) (name := "java/lang/IndexOutOfBoundsException") hts K hown [] ⟨0, 12, 15, 13⟩ [⟨0, 12, 19, 17⟩, ⟨0, 12, 23, 15⟩] (by rw [hno]; rfl) (fun z hz => nomatch hz) (by decide) (by decide) kw573 kn586 e1 e2 e3 ?_
      refine fr_astore (lv' := [(5, va_rf (some q)), (0, va_rf a0), (1, .int a1), (2, .int a2), (3, .int a3), (4, va_rf a4)]) hx hb dL_move_15 hl (by decide) (congrArg (List.cons _) (flk rfl (flk rfl (flk rfl (flk rfl (flk (adj1 _ _) fln)))))) (fun ls hl => ?_)
      refine lv_iconst (v := (1 : Int32)) hx hb dL_move_17 (by decide) ?_
      obtain rfl := Option.some.inj hf
      exact fr_retQ (fr_iret hx hb hr hlocks hC dL_move_18)
    replace hf := oneg c10 hf
    by_cases c12 : k6 = 2
    · replace hf := opos c12 hf
      subst c12
      refine fr_catch (k9 := 2) (name := "java/lang/IllegalStateException") hts K hown [⟨0, 12, 15, 13⟩] ⟨0, 12, 19, 17⟩ [⟨0, 12, 23, 15⟩] (by rw [hno]; rfl) (all1 ⟨by decide, _, kw573, by decide +kernel⟩) (by decide) (by decide) kw575 kn604 e1 e2 e3 ?_
      refine fr_astore (lv' := [(5, va_rf (some q)), (0, va_rf a0), (1, .int a1), (2, .int a2), (3, .int a3), (4, va_rf a4)]) hx hb dL_move_19 hl (by decide) (congrArg (List.cons _) (flk rfl (flk rfl (flk rfl (flk rfl (flk (adj1 _ _) fln)))))) (fun ls hl => ?_)
      refine lv_iconst (v := (2 : Int32)) hx hb dL_move_21 (by decide) ?_
      obtain rfl := Option.some.inj hf
      exact fr_retQ (fr_iret hx hb hr hlocks hC dL_move_22)
    replace hf := oneg c12 hf
    by_cases c14 : k6 = 1
    · replace hf := opos c14 hf
      subst c14
      refine fr_catch (k9 := 1) (name := "java/lang/IllegalArgumentException") hts K hown [⟨0, 12, 15, 13⟩, ⟨0, 12, 19, 17⟩] ⟨0, 12, 23, 15⟩ [] (by rw [hno]; rfl) (all2 ⟨by decide, _, kw573, by decide +kernel⟩ ⟨by decide, _, kw575, by decide +kernel⟩) (by decide) (by decide) kw574 kn495 e1 e2 e3 ?_
      refine fr_astore (lv' := [(5, va_rf (some q)), (0, va_rf a0), (1, .int a1), (2, .int a2), (3, .int a3), (4, va_rf a4)]) hx hb dL_move_23 hl (by decide) (congrArg (List.cons _) (flk rfl (flk rfl (flk rfl (flk rfl (flk (adj1 _ _) fln)))))) (fun ls hl => ?_)
      refine lv_iconst (v := (3 : Int32)) hx hb dL_move_25 (by decide) ?_
      obtain rfl := Option.some.inj hf
      exact fr_retQ (fr_iret hx hb hr hlocks hC dL_move_26)
    replace hf := oneg c14 hf
    exact nomatch hf
set_option maxRecDepth 100000 in
theorem c_L_move {l : Launch} (hfl : l.stackTraces = false) (D : va_G) (cA : Nat → ClassId) {p0 : Option Nat} {p1 : Int32} {p2 : Int32} {p3 : Int32} {p4 : Option Nat} {h : fSt} {r : ((Int32 ⊕ Nat) × fSt)} (hf : f_L_move p0 p1 p2 p3 p4 h = some r) : fMetX l yL_move (wsCH yL_move cL_move 6 (some (.int)) [(0, 12, 15, 13), (0, 12, 19, 17), (0, 12, 23, 15)]) (9) (159) D cA [va_rf p0, .int p1, .int p2, .int p3, va_rf p4] h r.2 (rI r.1) := by
  exact fMetX.ofH (own := RL) (by decide +kernel) rfl (lva1 (va_rf_cat _) (lva1 rfl (lva1 rfl (lva1 rfl (lva1 (va_rf_cat _) lva0))))) (lgl1 (va_rf_cat _) (lgl1 rfl (lgl1 rfl (lgl1 rfl (lgl1 (va_rf_cat _) lgl0))))) (Nat.le_of_ble_eq_true rfl) (fun p e s m args below meth c ls hno M hC hl => by
    have hl : lv_has ls 6 [(0, va_rf p0), (1, .int p1), (2, .int p2), (3, .int p3), (4, va_rf p4)] := hl
    exact w_L_move_L0 M hfl hno _ _ _ _ _ _ hf _ _ _ _ _ hC (lv_sub hl [0, 1, 2, 3, 4] rfl))
set_option maxHeartbeats 4000000 in
set_option maxRecDepth 100000 in
theorem w_X7_isToldAnew_L47 {p : Program} {l : Launch} {e : Env} {s : State} {m : MethodId} {args : Array Value} {below : List Frame} {meth : Method} {c : Code} {D : va_G} {cA : Nat → ClassId} {h0 : fSt} {r : (Int32 × fSt)} (M : fM p s m args meth c D cA h0 { frames := 3, cells := fCB h0 - fZ h0, slots := fLB h0 - fL h0, locals := 74 } cX7_isToldAnew 3 (some (.boolean)) RX7) (hfl : l.stackTraces = false) {k2 : Option Nat → Int32 → Int32 → fSt → Option (Int32 × fSt)} (hk2 : ∀ (a0 : Option Nat) (a1 : Int32) (a2 : Int32) (h : fSt), k2 a0 a1 a2 h = some r → ∀ (H : Heap) (locs : List Loc) (cells slots : Nat) (ls : Array Slot), fCur D cA s h0 h H locs → lv_has ls 3 [(0, va_rf a0), (1, .int a1), (2, .int a2)] → W p l e { frames := 3, cells := fCB h0 - fZ h0, slots := fLB h0 - fL h0, locals := 74 } s m args below meth c H locs cells slots (MQ below (fQ D cA h0 r.2 (some (.int r.1))) args s (fCB h0 - fZ h0) (fLB h0 - fL h0) (fA h0)) (F0 m 2 ls [])) (a0 : Option Nat) (a1 : Int32) (a2 : Int32) (h : fSt) (hf : f_X7_isToldAnew_L47 k2 a0 a1 a2 h = some r) : ∀ (H : Heap) (locs : List Loc) (cells slots : Nat) (ls : Array Slot), fCur D cA s h0 h H locs → lv_has ls 3 [(0, va_rf a0), (1, .int a1), (2, .int a2)] → W p l e { frames := 3, cells := fCB h0 - fZ h0, slots := fLB h0 - fL h0, locals := 74 } s m args below meth c H locs cells slots (MQ below (fQ D cA h0 r.2 (some (.int r.1))) args s (fCB h0 - fZ h0) (fLB h0 - fL h0) (fA h0)) (F0 m 47 ls []) := by
  obtain ⟨hx, hb, hml, hr, hlocks, hts, hown, K, hR⟩ := id M
  intro H locs cells slots ls hC hl
  refine lv_iinc (v := (a2 + (1 : Int32))) (lv' := [(2, .int (a2 + (1 : Int32))), (0, va_rf a0), (1, .int a1)]) hx hb dX7_isToldAnew_47 hl (k := 2) rfl rfl (by decide) (congrArg (List.cons _) (flk rfl (flk rfl (fld rfl fln)))) (fun ls hl => ?_)
  refine lv_goto (tgt := 2) hx hb dX7_isToldAnew_50 (by decide) ?_
  exact hk2 _ _ _ _ hf _ _ _ _ _ hC (lv_sub hl [1, 2, 0] rfl)
set_option maxHeartbeats 4000000 in
set_option maxRecDepth 100000 in
theorem w_X7_isToldAnew_L53 {p : Program} {l : Launch} {e : Env} {s : State} {m : MethodId} {args : Array Value} {below : List Frame} {meth : Method} {c : Code} {D : va_G} {cA : Nat → ClassId} {h0 : fSt} {r : (Int32 × fSt)} (M : fM p s m args meth c D cA h0 { frames := 3, cells := fCB h0 - fZ h0, slots := fLB h0 - fL h0, locals := 74 } cX7_isToldAnew 3 (some (.boolean)) RX7) (hfl : l.stackTraces = false)  (h : fSt) (hf : f_X7_isToldAnew_L53  h = some r) : ∀ (H : Heap) (locs : List Loc) (cells slots : Nat) (ls : Array Slot), fCur D cA s h0 h H locs → lv_has ls 3 [] → W p l e { frames := 3, cells := fCB h0 - fZ h0, slots := fLB h0 - fL h0, locals := 74 } s m args below meth c H locs cells slots (MQ below (fQ D cA h0 r.2 (some (.int r.1))) args s (fCB h0 - fZ h0) (fLB h0 - fL h0) (fA h0)) (F0 m 53 ls []) := by
  obtain ⟨hx, hb, hml, hr, hlocks, hts, hown, K, hR⟩ := id M
  intro H locs cells slots ls hC hl
  refine lv_iconst (v := (0 : Int32)) hx hb dX7_isToldAnew_53 (by decide) ?_
  obtain rfl := Option.some.inj hf
  exact fr_zret hx hb hr hlocks hC (Or.inl rfl) dX7_isToldAnew_54
set_option maxHeartbeats 4000000 in
set_option maxRecDepth 100000 in
theorem w_X7_isToldAnew_L2 {p : Program} {l : Launch} {e : Env} {s : State} {m : MethodId} {args : Array Value} {below : List Frame} {meth : Method} {c : Code} {D : va_G} {cA : Nat → ClassId} {h0 : fSt} {r : (Int32 × fSt)} (M : fM p s m args meth c D cA h0 { frames := 3, cells := fCB h0 - fZ h0, slots := fLB h0 - fL h0, locals := 74 } cX7_isToldAnew 3 (some (.boolean)) RX7) (hfl : l.stackTraces = false) : ∀ (n : Nat) (a0 : Option Nat) (a1 : Int32) (a2 : Int32) (h : fSt), f_X7_isToldAnew_L2 n a0 a1 a2 h = some r → ∀ (H : Heap) (locs : List Loc) (cells slots : Nat) (ls : Array Slot), fCur D cA s h0 h H locs → lv_has ls 3 [(0, va_rf a0), (1, .int a1), (2, .int a2)] → W p l e { frames := 3, cells := fCB h0 - fZ h0, slots := fLB h0 - fL h0, locals := 74 } s m args below meth c H locs cells slots (MQ below (fQ D cA h0 r.2 (some (.int r.1))) args s (fCB h0 - fZ h0) (fLB h0 - fL h0) (fA h0)) (F0 m 2 ls []) := by
  obtain ⟨hx, hb, hml, hr, hlocks, hts, hown, K, hR⟩ := id M
  intro n
  induction n with
  | zero =>
    intro a0 a1 a2 h hf
    exact nomatch (show (none : Option (Int32 × fSt)) = some r from hf)
  | succ n hk2 =>
    intro a0 a1 a2 h hf H locs cells slots ls hC hl
    refine lv_iload_n hx hb dX7_isToldAnew_2 rfl (lv_at hl 2 rfl) ?_
    refine fr_aload_n hx hb dX7_isToldAnew_3 rfl (lv_at hl 0 rfl) ?_
    obtain ⟨x1, g2, hf⟩ := obind hf
    refine fr_get hx hb hts hown K hC ct_7 (fgI_get g2) (by decide) kw296 rfl dX7_isToldAnew_4 ?_
    refine lv_icmp_ge (tgt := 53) hx hb dX7_isToldAnew_7 (by decide) (fun c3 => ?_) (fun c3 => ?_)
    · replace hf := opos c3 hf
      exact w_X7_isToldAnew_L53 M hfl _ hf _ _ _ _ _ hC (lv_sub hl [] rfl)
    · replace hf := oneg c3 hf
      refine lv_iload_n hx hb dX7_isToldAnew_10 rfl (lv_at hl 2 rfl) ?_
      refine fr_aload_n hx hb dX7_isToldAnew_11 rfl (lv_at hl 0 rfl) ?_
      obtain ⟨x4, g5, hf⟩ := obind hf
      refine fr_get hx hb hts hown K hC ct_7 (fgR_get g5) (by decide) kw291 rfl dX7_isToldAnew_12 ?_
      obtain ⟨x6, g7, hf⟩ := obind hf
      refine fr_alen hx hb K hC (t := 5) rfl g7 dX7_isToldAnew_15 ?_
      refine lv_icmp_ge (tgt := 53) hx hb dX7_isToldAnew_16 (by decide) (fun c8 => ?_) (fun c8 => ?_)
      · replace hf := opos c8 hf
        exact w_X7_isToldAnew_L53 M hfl _ hf _ _ _ _ _ hC (lv_sub hl [] rfl)
      · replace hf := oneg c8 hf
        refine fr_aload_n hx hb dX7_isToldAnew_19 rfl (lv_at hl 0 rfl) ?_
        obtain ⟨x9, g10, hf⟩ := obind hf
        refine fr_get hx hb hts hown K hC ct_7 (fgR_get g10) (by decide) kw291 rfl dX7_isToldAnew_20 ?_
        refine lv_iload_n hx hb dX7_isToldAnew_23 rfl (lv_at hl 2 rfl) ?_
        obtain ⟨x11, g12, hf⟩ := obind hf
        refine fr_aald hx hb K hC (t := 5) rfl g12 dX7_isToldAnew_24 ?_
        refine fr_ifnull (tgt := 47) hx hb dX7_isToldAnew_25 (by decide) (fun c13 => ?_) (fun c13 => ?_)
        · replace hf := opos c13 hf
          exact w_X7_isToldAnew_L47 M hfl hk2 _ _ _ _ hf _ _ _ _ _ hC (lv_sub hl [0, 1, 2] rfl)
        · replace hf := oneg c13 hf
          refine fr_aload_n hx hb dX7_isToldAnew_28 rfl (lv_at hl 0 rfl) ?_
          obtain ⟨x14, g15, hf⟩ := obind hf
          refine fr_get hx hb hts hown K hC ct_7 (fgR_get g15) (by decide) kw291 rfl dX7_isToldAnew_29 ?_
          refine lv_iload_n hx hb dX7_isToldAnew_32 rfl (lv_at hl 2 rfl) ?_
          obtain ⟨x16, g17, hf⟩ := obind hf
          refine fr_aald hx hb K hC (t := 5) rfl g17 dX7_isToldAnew_33 ?_
          refine fr_aload_n hx hb dX7_isToldAnew_34 rfl (lv_at hl 0 rfl) ?_
          obtain ⟨x18, g19, hf⟩ := obind hf
          refine fr_get hx hb hts hown K hC ct_7 (fgI_get g19) (by decide) kw297 rfl dX7_isToldAnew_35 ?_
          refine lv_iload_n hx hb dX7_isToldAnew_38 rfl (lv_at hl 1 rfl) ?_
          obtain ⟨b22, q23, hf⟩ := obind hf
          obtain ⟨r20, g21, hf⟩ := obind hf
          refine fr_callV hx hb hml hts hown K hC hR ct_6 (c_X6_differs hfl D cA g21) 2 q23 kw568 kw957 kw566 kw567 kw57 (by decide +kernel) ⟨by exact Nat.le_of_ble_eq_true rfl, by exact Nat.le_of_ble_eq_true rfl⟩ rfl hl.1 (cat8 _ (by exact Nat.le_of_ble_eq_true rfl)) dX7_isToldAnew_39 rfl (fun H locs _ _ hC => ?_)
          refine lv_if_eq (tgt := 47) hx hb dX7_isToldAnew_42 (by decide) (fun c24 => ?_) (fun c24 => ?_)
          · replace hf := opos c24 hf
            exact w_X7_isToldAnew_L47 M hfl hk2 _ _ _ _ hf _ _ _ _ _ hC (lv_sub hl [0, 1, 2] rfl)
          · replace hf := oneg c24 hf
            refine lv_iconst (v := (1 : Int32)) hx hb dX7_isToldAnew_45 (by decide) ?_
            obtain rfl := Option.some.inj hf
            exact fr_zret hx hb hr hlocks hC (Or.inr rfl) dX7_isToldAnew_46
set_option maxHeartbeats 4000000 in
set_option maxRecDepth 100000 in
theorem w_X7_isToldAnew_L0 {p : Program} {l : Launch} {e : Env} {s : State} {m : MethodId} {args : Array Value} {below : List Frame} {meth : Method} {c : Code} {D : va_G} {cA : Nat → ClassId} {h0 : fSt} {r : (Int32 × fSt)} (M : fM p s m args meth c D cA h0 { frames := 3, cells := fCB h0 - fZ h0, slots := fLB h0 - fL h0, locals := 74 } cX7_isToldAnew 3 (some (.boolean)) RX7) (hfl : l.stackTraces = false) (a0 : Option Nat) (a1 : Int32) (h : fSt) (hf : f_X7_isToldAnew_L0 a0 a1 h = some r) : ∀ (H : Heap) (locs : List Loc) (cells slots : Nat) (ls : Array Slot), fCur D cA s h0 h H locs → lv_has ls 3 [(0, va_rf a0), (1, .int a1)] → W p l e { frames := 3, cells := fCB h0 - fZ h0, slots := fLB h0 - fL h0, locals := 74 } s m args below meth c H locs cells slots (MQ below (fQ D cA h0 r.2 (some (.int r.1))) args s (fCB h0 - fZ h0) (fLB h0 - fL h0) (fA h0)) (F0 m 0 ls []) := by
  obtain ⟨hx, hb, hml, hr, hlocks, hts, hown, K, hR⟩ := id M
  intro H locs cells slots ls hC hl
  refine lv_iconst (v := (0 : Int32)) hx hb dX7_isToldAnew_0 (by decide) ?_
  refine lv_istore_n (lv' := [(2, .int (0 : Int32)), (0, va_rf a0), (1, .int a1)]) hx hb dX7_isToldAnew_1 rfl hl (by decide) (congrArg (List.cons _) (flk rfl (flk rfl fln))) (fun ls hl => ?_)
  exact w_X7_isToldAnew_L2 M hfl 4096 _ _ _ _ hf _ _ _ _ _ hC (lv_sub hl [1, 2, 0] rfl)
set_option maxRecDepth 100000 in
theorem c_X7_isToldAnew {l : Launch} (hfl : l.stackTraces = false) (D : va_G) (cA : Nat → ClassId) {o : Nat} {p0 : Int32} {h : fSt} {r : (Int32 × fSt)} (hf : f_X7_isToldAnew o p0 h = some r) : fMet l yX7_isToldAnew (wsC yX7_isToldAnew cX7_isToldAnew 3 (some (.boolean))) (3) (74) D cA [.ref o, .int p0] h r.2 (some (.int r.1)) := by
  exact fMet.of (own := RX7) (by decide +kernel) rfl (lva1 rfl (lva1 rfl lva0)) (lgl1 rfl (lgl1 rfl lgl0)) (Nat.le_of_ble_eq_true rfl) (fun p e s m args below meth c ls hnm _ M hC hl => by
    have hl : lv_has ls 3 [(0, va_rf (some o)), (1, .int p0)] := hl
    exact w_X7_isToldAnew_L0 M hfl _ _ _ hf _ _ _ _ _ hC (lv_sub hl [0, 1] rfl))
set_option maxHeartbeats 4000000 in
set_option maxRecDepth 100000 in
theorem w_X7_topAt_L41 {p : Program} {l : Launch} {e : Env} {s : State} {m : MethodId} {args : Array Value} {below : List Frame} {meth : Method} {c : Code} {D : va_G} {cA : Nat → ClassId} {h0 : fSt} {r : (Int32 × fSt)} (M : fM p s m args meth c D cA h0 { frames := 26, cells := fCB h0 - fZ h0, slots := fLB h0 - fL h0, locals := 640 } cX7_topAt 7 (some (.int)) RX7) (hfl : l.stackTraces = false) {k6 : Option Nat → Int32 → Int32 → Int32 → Int32 → Option Nat → Option Nat → fSt → Option (Int32 × fSt)} (hk6 : ∀ (a0 : Option Nat) (a1 : Int32) (a2 : Int32) (a3 : Int32) (a4 : Int32) (a5 : Option Nat) (a6 : Option Nat) (h : fSt), k6 a0 a1 a2 a3 a4 a5 a6 h = some r → ∀ (H : Heap) (locs : List Loc) (cells slots : Nat) (ls : Array Slot), fCur D cA s h0 h H locs → lv_has ls 7 [(0, va_rf a0), (1, .int a1), (2, .int a2), (3, .int a3), (4, .int a4), (5, va_rf a5), (6, va_rf a6)] → W p l e { frames := 26, cells := fCB h0 - fZ h0, slots := fLB h0 - fL h0, locals := 640 } s m args below meth c H locs cells slots (MQ below (fQ D cA h0 r.2 (some (.int r.1))) args s (fCB h0 - fZ h0) (fLB h0 - fL h0) (fA h0)) (F0 m 6 ls [])) (a0 : Option Nat) (a1 : Int32) (a2 : Int32) (a3 : Int32) (a4 : Int32) (a5 : Option Nat) (a6 : Option Nat) (h : fSt) (hf : f_X7_topAt_L41 k6 a0 a1 a2 a3 a4 a5 a6 h = some r) : ∀ (H : Heap) (locs : List Loc) (cells slots : Nat) (ls : Array Slot), fCur D cA s h0 h H locs → lv_has ls 7 [(0, va_rf a0), (1, .int a1), (2, .int a2), (3, .int a3), (4, .int a4), (5, va_rf a5), (6, va_rf a6)] → W p l e { frames := 26, cells := fCB h0 - fZ h0, slots := fLB h0 - fL h0, locals := 640 } s m args below meth c H locs cells slots (MQ below (fQ D cA h0 r.2 (some (.int r.1))) args s (fCB h0 - fZ h0) (fLB h0 - fL h0) (fA h0)) (F0 m 41 ls []) := by
  obtain ⟨hx, hb, hml, hr, hlocks, hts, hown, K, hR⟩ := id M
  intro H locs cells slots ls hC hl
  refine fr_aload hx hb dX7_topAt_41 (lv_at hl 6 rfl) ?_
  obtain ⟨x1, g2, hf⟩ := obind hf
  refine fr_get hx hb hts hown K hC ct_4 (fgR_get g2) (by decide) kw189 rfl dX7_topAt_43 ?_
  refine fr_astore (lv' := [(6, va_rf x1), (0, va_rf a0), (1, .int a1), (2, .int a2), (3, .int a3), (4, .int a4), (5, va_rf a5)]) hx hb dX7_topAt_46 hl (by decide) (congrArg (List.cons _) (flk rfl (flk rfl (flk rfl (flk rfl (flk rfl (flk (adj1 _ _) (fld rfl fln)))))))) (fun ls hl => ?_)
  refine lv_goto (tgt := 6) hx hb dX7_topAt_48 (by decide) ?_
  exact hk6 _ _ _ _ _ _ _ _ hf _ _ _ _ _ hC (lv_sub hl [1, 2, 3, 4, 5, 6, 0] rfl)
set_option maxHeartbeats 4000000 in
set_option maxRecDepth 100000 in
theorem w_X7_topAt_L6 {p : Program} {l : Launch} {e : Env} {s : State} {m : MethodId} {args : Array Value} {below : List Frame} {meth : Method} {c : Code} {D : va_G} {cA : Nat → ClassId} {h0 : fSt} {r : (Int32 × fSt)} (M : fM p s m args meth c D cA h0 { frames := 26, cells := fCB h0 - fZ h0, slots := fLB h0 - fL h0, locals := 640 } cX7_topAt 7 (some (.int)) RX7) (hfl : l.stackTraces = false) : ∀ (n : Nat) (a0 : Option Nat) (a1 : Int32) (a2 : Int32) (a3 : Int32) (a4 : Int32) (a5 : Option Nat) (a6 : Option Nat) (h : fSt), f_X7_topAt_L6 n a0 a1 a2 a3 a4 a5 a6 h = some r → ∀ (H : Heap) (locs : List Loc) (cells slots : Nat) (ls : Array Slot), fCur D cA s h0 h H locs → lv_has ls 7 [(0, va_rf a0), (1, .int a1), (2, .int a2), (3, .int a3), (4, .int a4), (5, va_rf a5), (6, va_rf a6)] → W p l e { frames := 26, cells := fCB h0 - fZ h0, slots := fLB h0 - fL h0, locals := 640 } s m args below meth c H locs cells slots (MQ below (fQ D cA h0 r.2 (some (.int r.1))) args s (fCB h0 - fZ h0) (fLB h0 - fL h0) (fA h0)) (F0 m 6 ls []) := by
  obtain ⟨hx, hb, hml, hr, hlocks, hts, hown, K, hR⟩ := id M
  intro n
  induction n with
  | zero =>
    intro a0 a1 a2 a3 a4 a5 a6 h hf
    exact nomatch (show (none : Option (Int32 × fSt)) = some r from hf)
  | succ n hk6 =>
    intro a0 a1 a2 a3 a4 a5 a6 h hf H locs cells slots ls hC hl
    refine fr_aload hx hb dX7_topAt_6 (lv_at hl 6 rfl) ?_
    refine fr_ifnull (tgt := 51) hx hb dX7_topAt_8 (by decide) (fun c3 => ?_) (fun c3 => ?_)
    · replace hf := opos c3 hf
      refine lv_iconst (v := (-1 : Int32)) hx hb dX7_topAt_51 (by decide) ?_
      obtain rfl := Option.some.inj hf
      exact fr_iret hx hb hr hlocks hC dX7_topAt_52
    · replace hf := oneg c3 hf
      refine fr_aload hx hb dX7_topAt_11 (lv_at hl 6 rfl) ?_
      refine fr_aload hx hb dX7_topAt_13 (lv_at hl 5 rfl) ?_
      obtain ⟨b6, q7, hf⟩ := obind hf
      obtain ⟨r4, g5, hf⟩ := obind hf
      refine fr_callV hx hb hml hts hown K hC hR ct_4 (c_X4_isWithin hfl D cA g5) 1 q7 kw448 kw445 kw446 kw447 kw56 (by decide +kernel) ⟨by exact Nat.le_of_ble_eq_true rfl, by exact Nat.le_of_ble_eq_true rfl⟩ rfl hl.1 (cat8 _ (by exact Nat.le_of_ble_eq_true rfl)) dX7_topAt_15 rfl (fun H locs _ _ hC => ?_)
      refine lv_if_ne (tgt := 41) hx hb dX7_topAt_18 (by decide) (fun c8 => ?_) (fun c8 => ?_)
      · replace hf := oneg c8 hf
        exact w_X7_topAt_L41 M hfl hk6 _ _ _ _ _ _ _ _ hf _ _ _ _ _ hC (lv_sub hl [0, 1, 2, 3, 4, 5, 6] rfl)
      · replace hf := opos c8 hf
        refine fr_aload_n hx hb dX7_topAt_21 rfl (lv_at hl 0 rfl) ?_
        refine fr_aload hx hb dX7_topAt_22 (lv_at hl 6 rfl) ?_
        refine lv_iload_n hx hb dX7_topAt_24 rfl (lv_at hl 1 rfl) ?_
        refine lv_iload_n hx hb dX7_topAt_25 rfl (lv_at hl 2 rfl) ?_
        refine lv_iload_n hx hb dX7_topAt_26 rfl (lv_at hl 3 rfl) ?_
        refine lv_iload hx hb dX7_topAt_27 (lv_at hl 4 rfl) ?_
        obtain ⟨b11, q12, hf⟩ := obind hf
        obtain ⟨r9, g10, hf⟩ := obind hf
        refine fr_callV hx hb hml hts hown K hC hR ct_7 (c_X7_coversAt hfl D cA g10) 5 q12 kw473 kw470 kw472 kw10 kw55 (by decide +kernel) ⟨by exact Nat.le_of_ble_eq_true rfl, by exact Nat.le_of_ble_eq_true rfl⟩ rfl hl.1 (cat8 _ (by exact Nat.le_of_ble_eq_true rfl)) dX7_topAt_29 rfl (fun H locs _ _ hC => ?_)
        refine lv_if_eq (tgt := 41) hx hb dX7_topAt_32 (by decide) (fun c13 => ?_) (fun c13 => ?_)
        · replace hf := opos c13 hf
          exact w_X7_topAt_L41 M hfl hk6 _ _ _ _ _ _ _ _ hf _ _ _ _ _ hC (lv_sub hl [0, 1, 2, 3, 4, 5, 6] rfl)
        · replace hf := oneg c13 hf
          refine fr_aload hx hb dX7_topAt_35 (lv_at hl 6 rfl) ?_
          obtain ⟨x14, g15, hf⟩ := obind hf
          refine fr_get hx hb hts hown K hC ct_4 (fgI_get g15) (by decide) kw152 rfl dX7_topAt_37 ?_
          obtain rfl := Option.some.inj hf
          exact fr_iret hx hb hr hlocks hC dX7_topAt_40
set_option maxHeartbeats 4000000 in
set_option maxRecDepth 100000 in
theorem w_X7_topAt_L0 {p : Program} {l : Launch} {e : Env} {s : State} {m : MethodId} {args : Array Value} {below : List Frame} {meth : Method} {c : Code} {D : va_G} {cA : Nat → ClassId} {h0 : fSt} {r : (Int32 × fSt)} (M : fM p s m args meth c D cA h0 { frames := 26, cells := fCB h0 - fZ h0, slots := fLB h0 - fL h0, locals := 640 } cX7_topAt 7 (some (.int)) RX7) (hfl : l.stackTraces = false) (a0 : Option Nat) (a1 : Int32) (a2 : Int32) (a3 : Int32) (a4 : Int32) (a5 : Option Nat) (h : fSt) (hf : f_X7_topAt_L0 a0 a1 a2 a3 a4 a5 h = some r) : ∀ (H : Heap) (locs : List Loc) (cells slots : Nat) (ls : Array Slot), fCur D cA s h0 h H locs → lv_has ls 7 [(0, va_rf a0), (1, .int a1), (2, .int a2), (3, .int a3), (4, .int a4), (5, va_rf a5)] → W p l e { frames := 26, cells := fCB h0 - fZ h0, slots := fLB h0 - fL h0, locals := 640 } s m args below meth c H locs cells slots (MQ below (fQ D cA h0 r.2 (some (.int r.1))) args s (fCB h0 - fZ h0) (fLB h0 - fL h0) (fA h0)) (F0 m 0 ls []) := by
  obtain ⟨hx, hb, hml, hr, hlocks, hts, hown, K, hR⟩ := id M
  intro H locs cells slots ls hC hl
  refine fr_aload_n hx hb dX7_topAt_0 rfl (lv_at hl 0 rfl) ?_
  obtain ⟨x16, g17, hf⟩ := obind hf
  refine fr_get hx hb hts hown K hC ct_7 (fgR_get g17) (by decide) kw298 rfl dX7_topAt_1 ?_
  refine fr_astore (lv' := [(6, va_rf x16), (0, va_rf a0), (1, .int a1), (2, .int a2), (3, .int a3), (4, .int a4), (5, va_rf a5)]) hx hb dX7_topAt_4 hl (by decide) (congrArg (List.cons _) (flk rfl (flk rfl (flk rfl (flk rfl (flk rfl (flk (adj1 _ _) fln))))))) (fun ls hl => ?_)
  exact w_X7_topAt_L6 M hfl 4096 _ _ _ _ _ _ _ _ hf _ _ _ _ _ hC (lv_sub hl [1, 2, 3, 4, 5, 6, 0] rfl)
set_option maxRecDepth 100000 in
theorem c_X7_topAt {l : Launch} (hfl : l.stackTraces = false) (D : va_G) (cA : Nat → ClassId) {o : Nat} {p0 : Int32} {p1 : Int32} {p2 : Int32} {p3 : Int32} {p4 : Option Nat} {h : fSt} {r : (Int32 × fSt)} (hf : f_X7_topAt o p0 p1 p2 p3 p4 h = some r) : fMet l yX7_topAt (wsC yX7_topAt cX7_topAt 7 (some (.int))) (26) (640) D cA [.ref o, .int p0, .int p1, .int p2, .int p3, va_rf p4] h r.2 (some (.int r.1)) := by
  exact fMet.of (own := RX7) (by decide +kernel) rfl (lva1 rfl (lva1 rfl (lva1 rfl (lva1 rfl (lva1 rfl (lva1 (va_rf_cat _) lva0)))))) (lgl1 rfl (lgl1 rfl (lgl1 rfl (lgl1 rfl (lgl1 rfl (lgl1 (va_rf_cat _) lgl0)))))) (Nat.le_of_ble_eq_true rfl) (fun p e s m args below meth c ls hnm _ M hC hl => by
    have hl : lv_has ls 7 [(0, va_rf (some o)), (1, .int p0), (2, .int p1), (3, .int p2), (4, .int p3), (5, va_rf p4)] := hl
    exact w_X7_topAt_L0 M hfl _ _ _ _ _ _ _ hf _ _ _ _ _ hC (lv_sub hl [0, 1, 2, 3, 4, 5] rfl))
set_option maxHeartbeats 4000000 in
set_option maxRecDepth 100000 in
theorem w_X7_nextPick_L99 {p : Program} {l : Launch} {e : Env} {s : State} {m : MethodId} {args : Array Value} {below : List Frame} {meth : Method} {c : Code} {D : va_G} {cA : Nat → ClassId} {h0 : fSt} {r : ((Int32 ⊕ Nat) × fSt)} (M : fM p s m args meth c D cA h0 { frames := 27, cells := fCB h0 - fZ h0, slots := fLB h0 - fL h0, locals := 666 } cX7_nextPick 8 (some (.int)) RX7) (hfl : l.stackTraces = false) (hno : ∀ x ∈ c.exceptionTable.toList, False) {k65 : Option Nat → Int32 → Int32 → Int32 → Int32 → Int32 → Int32 → fSt → Option ((Int32 ⊕ Nat) × fSt)} (hk65 : ∀ (a0 : Option Nat) (a1 : Int32) (a2 : Int32) (a3 : Int32) (a5 : Int32) (a6 : Int32) (a7 : Int32) (h : fSt), k65 a0 a1 a2 a3 a5 a6 a7 h = some r → ∀ (H : Heap) (locs : List Loc) (cells slots : Nat) (ls : Array Slot), fCur D cA s h0 h H locs → lv_has ls 8 [(0, va_rf a0), (1, .int a1), (2, .int a2), (3, .int a3), (5, .int a5), (6, .int a6), (7, .int a7)] → W p l e { frames := 27, cells := fCB h0 - fZ h0, slots := fLB h0 - fL h0, locals := 666 } s m args below meth c H locs cells slots (vx_MQ below (fQX D cA h0 r.2 (rI r.1)) (fXC D cA h0 r.2 (rI r.1)) args s (fCB h0 - fZ h0) (fLB h0 - fL h0) (fA h0)) (F0 m 65 ls [])) (a0 : Option Nat) (a1 : Int32) (a2 : Int32) (a3 : Int32) (a5 : Int32) (a6 : Int32) (a7 : Int32) (h : fSt) (hf : f_X7_nextPick_L99 k65 a0 a1 a2 a3 a5 a6 a7 h = some r) : ∀ (H : Heap) (locs : List Loc) (cells slots : Nat) (ls : Array Slot), fCur D cA s h0 h H locs → lv_has ls 8 [(0, va_rf a0), (1, .int a1), (2, .int a2), (3, .int a3), (5, .int a5), (6, .int a6), (7, .int a7)] → W p l e { frames := 27, cells := fCB h0 - fZ h0, slots := fLB h0 - fL h0, locals := 666 } s m args below meth c H locs cells slots (vx_MQ below (fQX D cA h0 r.2 (rI r.1)) (fXC D cA h0 r.2 (rI r.1)) args s (fCB h0 - fZ h0) (fLB h0 - fL h0) (fA h0)) (F0 m 99 ls []) := by
  obtain ⟨hx, hb, hml, hr, hlocks, hts, hown, K, hR⟩ := id M
  intro H locs cells slots ls hC hl
  refine lv_iinc (v := (a7 + (1 : Int32))) (lv' := [(7, .int (a7 + (1 : Int32))), (0, va_rf a0), (1, .int a1), (2, .int a2), (3, .int a3), (5, .int a5), (6, .int a6)]) hx hb dX7_nextPick_99 hl (k := 6) rfl rfl (by decide) (congrArg (List.cons _) (flk rfl (flk rfl (flk rfl (flk rfl (flk rfl (flk rfl (fld rfl fln)))))))) (fun ls hl => ?_)
  refine lv_goto (tgt := 65) hx hb dX7_nextPick_102 (by decide) ?_
  exact hk65 _ _ _ _ _ _ _ _ hf _ _ _ _ _ hC (lv_sub hl [1, 2, 3, 4, 5, 6, 0] rfl)
set_option maxHeartbeats 4000000 in
set_option maxRecDepth 100000 in
theorem w_X7_nextPick_L65 {p : Program} {l : Launch} {e : Env} {s : State} {m : MethodId} {args : Array Value} {below : List Frame} {meth : Method} {c : Code} {D : va_G} {cA : Nat → ClassId} {h0 : fSt} {r : ((Int32 ⊕ Nat) × fSt)} (M : fM p s m args meth c D cA h0 { frames := 27, cells := fCB h0 - fZ h0, slots := fLB h0 - fL h0, locals := 666 } cX7_nextPick 8 (some (.int)) RX7) (hfl : l.stackTraces = false) (hno : ∀ x ∈ c.exceptionTable.toList, False) : ∀ (n : Nat) (a0 : Option Nat) (a1 : Int32) (a2 : Int32) (a3 : Int32) (a5 : Int32) (a6 : Int32) (a7 : Int32) (h : fSt), f_X7_nextPick_L65 n a0 a1 a2 a3 a5 a6 a7 h = some r → ∀ (H : Heap) (locs : List Loc) (cells slots : Nat) (ls : Array Slot), fCur D cA s h0 h H locs → lv_has ls 8 [(0, va_rf a0), (1, .int a1), (2, .int a2), (3, .int a3), (5, .int a5), (6, .int a6), (7, .int a7)] → W p l e { frames := 27, cells := fCB h0 - fZ h0, slots := fLB h0 - fL h0, locals := 666 } s m args below meth c H locs cells slots (vx_MQ below (fQX D cA h0 r.2 (rI r.1)) (fXC D cA h0 r.2 (rI r.1)) args s (fCB h0 - fZ h0) (fLB h0 - fL h0) (fA h0)) (F0 m 65 ls []) := by
  obtain ⟨hx, hb, hml, hr, hlocks, hts, hown, K, hR⟩ := id M
  intro n
  induction n with
  | zero =>
    intro a0 a1 a2 a3 a5 a6 a7 h hf
    exact nomatch (show (none : Option ((Int32 ⊕ Nat) × fSt)) = some r from hf)
  | succ n hk65 =>
    intro a0 a1 a2 a3 a5 a6 a7 h hf H locs cells slots ls hC hl
    refine lv_iload hx hb dX7_nextPick_65 (lv_at hl 6 rfl) ?_
    refine lv_iload hx hb dX7_nextPick_67 (lv_at hl 5 rfl) ?_
    refine lv_icmp_gt (tgt := 105) hx hb dX7_nextPick_69 (by decide) (fun c1 => ?_) (fun c1 => ?_)
    · replace hf := opos c1 hf
      refine lv_iconst (v := (-1 : Int32)) hx hb dX7_nextPick_105 (by decide) ?_
      obtain rfl := Option.some.inj hf
      exact fr_retQ (fr_iret hx hb hr hlocks hC dX7_nextPick_106)
    · replace hf := oneg c1 hf
      refine fr_aload_n hx hb dX7_nextPick_72 rfl (lv_at hl 0 rfl) ?_
      refine lv_iload hx hb dX7_nextPick_73 (lv_at hl 6 rfl) ?_
      obtain ⟨b4, q5, hf⟩ := obind hf
      obtain ⟨r2, g3, hf⟩ := obind hf
      refine fr_callV hx hb hml hts hown K hC hR ct_7 (c_X7_isToldAnew hfl D cA g3) 1 q5 kw956 kw953 kw955 kw19 kw55 (by decide +kernel) ⟨by exact Nat.le_of_ble_eq_true rfl, by exact Nat.le_of_ble_eq_true rfl⟩ rfl hl.1 (cat8 _ (by exact Nat.le_of_ble_eq_true rfl)) dX7_nextPick_75 rfl (fun H locs _ _ hC => ?_)
      refine lv_if_eq (tgt := 99) hx hb dX7_nextPick_78 (by decide) (fun c6 => ?_) (fun c6 => ?_)
      · replace hf := opos c6 hf
        exact w_X7_nextPick_L99 M hfl hno hk65 _ _ _ _ _ _ _ _ hf _ _ _ _ _ hC (lv_sub hl [0, 1, 2, 3, 4, 5, 6] rfl)
      · replace hf := oneg c6 hf
        refine fr_aload_n hx hb dX7_nextPick_81 rfl (lv_at hl 0 rfl) ?_
        refine lv_iload_n hx hb dX7_nextPick_82 rfl (lv_at hl 1 rfl) ?_
        refine lv_iload_n hx hb dX7_nextPick_83 rfl (lv_at hl 2 rfl) ?_
        refine lv_iload_n hx hb dX7_nextPick_84 rfl (lv_at hl 3 rfl) ?_
        refine lv_iload hx hb dX7_nextPick_85 (lv_at hl 6 rfl) ?_
        refine fr_null hx hb dX7_nextPick_87 ?_
        obtain ⟨b9, q10, hf⟩ := obind hf
        obtain ⟨r7, g8, hf⟩ := obind hf
        refine fr_callV hx hb hml hts hown K hC hR ct_7 (c_X7_topAt hfl D cA g8) 5 q10 kw469 kw466 kw468 kw9 kw55 (by decide +kernel) ⟨by exact Nat.le_of_ble_eq_true rfl, by exact Nat.le_of_ble_eq_true rfl⟩ rfl hl.1 (cat8 _ (by exact Nat.le_of_ble_eq_true rfl)) dX7_nextPick_88 rfl (fun H locs _ _ hC => ?_)
        refine lv_iload hx hb dX7_nextPick_91 (lv_at hl 4 rfl) ?_
        refine lv_icmp_eq (tgt := 99) hx hb dX7_nextPick_93 (by decide) (fun c11 => ?_) (fun c11 => ?_)
        · replace hf := opos c11 hf
          exact w_X7_nextPick_L99 M hfl hno hk65 _ _ _ _ _ _ _ _ hf _ _ _ _ _ hC (lv_sub hl [0, 1, 2, 3, 4, 5, 6] rfl)
        · replace hf := oneg c11 hf
          refine lv_iload hx hb dX7_nextPick_96 (lv_at hl 6 rfl) ?_
          obtain rfl := Option.some.inj hf
          exact fr_retQ (fr_iret hx hb hr hlocks hC dX7_nextPick_98)
set_option maxHeartbeats 4000000 in
set_option maxRecDepth 100000 in
theorem w_X7_nextPick_L0 {p : Program} {l : Launch} {e : Env} {s : State} {m : MethodId} {args : Array Value} {below : List Frame} {meth : Method} {c : Code} {D : va_G} {cA : Nat → ClassId} {h0 : fSt} {r : ((Int32 ⊕ Nat) × fSt)} (M : fM p s m args meth c D cA h0 { frames := 27, cells := fCB h0 - fZ h0, slots := fLB h0 - fL h0, locals := 666 } cX7_nextPick 8 (some (.int)) RX7) (hfl : l.stackTraces = false) (hno : ∀ x ∈ c.exceptionTable.toList, False) (a0 : Option Nat) (a1 : Int32) (a2 : Int32) (a3 : Int32) (a4 : Int32) (h : fSt) (hf : f_X7_nextPick_L0 a0 a1 a2 a3 a4 h = some r) : ∀ (H : Heap) (locs : List Loc) (cells slots : Nat) (ls : Array Slot), fCur D cA s h0 h H locs → lv_has ls 8 [(0, va_rf a0), (1, .int a1), (2, .int a2), (3, .int a3), (4, .int a4)] → W p l e { frames := 27, cells := fCB h0 - fZ h0, slots := fLB h0 - fL h0, locals := 666 } s m args below meth c H locs cells slots (vx_MQ below (fQX D cA h0 r.2 (rI r.1)) (fXC D cA h0 r.2 (rI r.1)) args s (fCB h0 - fZ h0) (fLB h0 - fL h0) (fA h0)) (F0 m 0 ls []) := by
  obtain ⟨hx, hb, hml, hr, hlocks, hts, hown, K, hR⟩ := id M
  intro H locs cells slots ls hC hl
  refine lv_iload_n hx hb dX7_nextPick_0 rfl (lv_at hl 1 rfl) ?_
  refine lv_iload_n hx hb dX7_nextPick_1 rfl (lv_at hl 2 rfl) ?_
  refine lv_iload_n hx hb dX7_nextPick_2 rfl (lv_at hl 3 rfl) ?_
  obtain ⟨⟨v14 | k15, h16⟩, g13, hf⟩ := obind hf
  · refine fr_callSX hx hb hml hts hown K hC hR (c_X7_checkSpot hfl D cA g13) 3 kw907 kw905 kw906 kw55 (by decide +kernel) ⟨by exact Nat.le_of_ble_eq_true rfl, by exact Nat.le_of_ble_eq_true rfl⟩ rfl hl.1 (cat8 _ (by exact Nat.le_of_ble_eq_true rfl)) dX7_nextPick_3 rfl (fun H locs _ _ hC => ?_)
    refine lv_iload hx hb dX7_nextPick_6 (lv_at hl 4 rfl) ?_
    refine lv_iconst (v := (1 : Int32)) hx hb dX7_nextPick_8 (by decide) ?_
    refine lv_bipush (v := (100 : Int32)) hx hb dX7_nextPick_9 (by decide) ?_
    obtain ⟨r17, g18, hf⟩ := obind hf
    refine fr_callS hx hb hml hts hown K hC hR (c_X7_isFrom hfl D cA g18) 3 kw492 kw490 kw491 kw55 (by decide +kernel) ⟨by exact Nat.le_of_ble_eq_true rfl, by exact Nat.le_of_ble_eq_true rfl⟩ rfl hl.1 (cat8 _ (by exact Nat.le_of_ble_eq_true rfl)) dX7_nextPick_11 rfl (fun H locs _ _ hC => ?_)
    refine lv_if_ne (tgt := 28) hx hb dX7_nextPick_14 (by decide) (fun c19 => ?_) (fun c19 => ?_)
    · replace hf := oneg c19 hf
      refine fr_aload_n hx hb dX7_nextPick_28 rfl (lv_at hl 0 rfl) ?_
      refine lv_iload_n hx hb dX7_nextPick_29 rfl (lv_at hl 1 rfl) ?_
      refine lv_iload_n hx hb dX7_nextPick_30 rfl (lv_at hl 2 rfl) ?_
      refine lv_iload_n hx hb dX7_nextPick_31 rfl (lv_at hl 3 rfl) ?_
      refine fr_aload_n hx hb dX7_nextPick_32 rfl (lv_at hl 0 rfl) ?_
      obtain ⟨x20, g21, hf⟩ := obind hf
      refine fr_get hx hb hts hown K hC ct_7 (fgI_get g21) (by decide) kw297 rfl dX7_nextPick_33 ?_
      refine fr_null hx hb dX7_nextPick_36 ?_
      obtain ⟨b24, q25, hf⟩ := obind hf
      obtain ⟨r22, g23, hf⟩ := obind hf
      refine fr_callV hx hb hml hts hown K hC hR ct_7 (c_X7_topAt hfl D cA g23) 5 q25 kw469 kw466 kw468 kw9 kw55 (by decide +kernel) ⟨by exact Nat.le_of_ble_eq_true rfl, by exact Nat.le_of_ble_eq_true rfl⟩ rfl hl.1 (cat8 _ (by exact Nat.le_of_ble_eq_true rfl)) dX7_nextPick_37 rfl (fun H locs _ _ hC => ?_)
      refine lv_istore (lv' := [(5, .int r22.1), (0, va_rf a0), (1, .int a1), (2, .int a2), (3, .int a3), (4, .int a4)]) hx hb dX7_nextPick_40 hl (by decide) (congrArg (List.cons _) (flk rfl (flk rfl (flk rfl (flk rfl (flk rfl fln)))))) (fun ls hl => ?_)
      refine fr_aload_n hx hb dX7_nextPick_42 rfl (lv_at hl 1 rfl) ?_
      obtain ⟨x26, g27, hf⟩ := obind hf
      refine fr_get hx hb hts hown K hC ct_7 (fgI_get g27) (by decide) kw297 rfl dX7_nextPick_43 ?_
      refine lv_iload hx hb dX7_nextPick_46 (lv_at hl 5 rfl) ?_
      refine lv_iadd hx hb dX7_nextPick_48 ?_
      refine lv_sipush (v := (9999 : Int32)) hx hb dX7_nextPick_49 (by decide) ?_
      refine fr_mmin hx hb hml hts hown hC hR kw950 kw951 kw69 kw952 hl.1 (by exact Nat.le_of_ble_eq_true rfl) (catL _ _ (by exact Nat.le_of_ble_eq_true rfl) (by exact Nat.le_of_ble_eq_true rfl)) dX7_nextPick_52 (fun _ _ => ?_)
      refine lv_istore (lv' := [(6, .int (if (9999 : Int32) < (x26 + a4) then (9999 : Int32) else (x26 + a4))), (5, .int r22.1), (0, va_rf a0), (1, .int a1), (2, .int a2), (3, .int a3), (4, .int a4)]) hx hb dX7_nextPick_55 hl (by decide) (congrArg (List.cons _) (flk rfl (flk rfl (flk rfl (flk rfl (flk rfl (flk rfl fln))))))) (fun ls hl => ?_)
      refine fr_aload_n hx hb dX7_nextPick_57 rfl (lv_at hl 2 rfl) ?_
      obtain ⟨x28, g29, hf⟩ := obind hf
      refine fr_get hx hb hts hown K hC ct_7 (fgI_get g29) (by decide) kw297 rfl dX7_nextPick_58 ?_
      refine lv_iconst (v := (1 : Int32)) hx hb dX7_nextPick_61 (by decide) ?_
      refine lv_iadd hx hb dX7_nextPick_62 ?_
      refine lv_istore (lv' := [(7, .int (x28 + (1 : Int32))), (6, .int (if (9999 : Int32) < (x26 + a4) then (9999 : Int32) else (x26 + a4))), (5, .int r22.1), (0, va_rf a0), (1, .int a1), (2, .int a2), (3, .int a3), (4, .int a4)]) hx hb dX7_nextPick_63 hl (by decide) (congrArg (List.cons _) (flk rfl (flk rfl (flk rfl (flk rfl (flk rfl (flk rfl (flk rfl fln)))))))) (fun ls hl => ?_)
      exact w_X7_nextPick_L65 M hfl hno 4096 _ _ _ _ _ _ _ _ hf _ _ _ _ _ hC (lv_sub hl [3, 4, 5, 6, 2, 1, 0] rfl)
    · replace hf := opos c19 hf
      obtain ⟨h30, g31, hf⟩ := obind hf
      obtain rfl := Option.some.inj hf
      exact fr_throwSW hx hb hml hts hfl hown K hC hR th_RX7_60_64_1 st_RX7_310 hl.1 dX7_nextPick_17 dX7_nextPick_20 dX7_nextPick_21 dX7_nextPick_24 dX7_nextPick_27 hno (by exact Nat.le_of_ble_eq_true rfl) (catL _ _ (by exact Nat.le_of_ble_eq_true rfl) (by exact Nat.le_of_ble_eq_true rfl)) hlocks g31
  · obtain rfl := Option.some.inj hf
    refine fr_callST hx hb hml hts hown K hC hR (c_X7_checkSpot hfl D cA g13) 3 kw907 kw905 kw906 kw55 (by decide +kernel) ⟨by exact Nat.le_of_ble_eq_true rfl, by exact Nat.le_of_ble_eq_true rfl⟩ rfl hl.1 (cat8 _ (by exact Nat.le_of_ble_eq_true rfl)) dX7_nextPick_3 rfl (fun H locs _ _ q ce hC e1 e2 e3 => ?_)
    exact fr_out (fun x hx9 => (hno x hx9).elim) hlocks hC e1 e2 e3
set_option maxRecDepth 100000 in
theorem c_X7_nextPick {l : Launch} (hfl : l.stackTraces = false) (D : va_G) (cA : Nat → ClassId) {o : Nat} {p0 : Int32} {p1 : Int32} {p2 : Int32} {p3 : Int32} {h : fSt} {r : ((Int32 ⊕ Nat) × fSt)} (hf : f_X7_nextPick o p0 p1 p2 p3 h = some r) : fMetX l yX7_nextPick (wsC yX7_nextPick cX7_nextPick 8 (some (.int))) (27) (666) D cA [.ref o, .int p0, .int p1, .int p2, .int p3] h r.2 (rI r.1) := by
  exact fMetX.of (own := RX7) (by decide +kernel) rfl (lva1 rfl (lva1 rfl (lva1 rfl (lva1 rfl (lva1 rfl lva0))))) (lgl1 rfl (lgl1 rfl (lgl1 rfl (lgl1 rfl (lgl1 rfl lgl0))))) (Nat.le_of_ble_eq_true rfl) (fun p e s m args below meth c ls hno M hC hl => by
    have hl : lv_has ls 8 [(0, va_rf (some o)), (1, .int p0), (2, .int p1), (3, .int p2), (4, .int p3)] := hl
    exact w_X7_nextPick_L0 M hfl hno _ _ _ _ _ _ hf _ _ _ _ _ hC (lv_sub hl [0, 1, 2, 3, 4] rfl))
set_option maxHeartbeats 4000000 in
set_option maxRecDepth 100000 in
theorem w_L_nextPick_L0 {p : Program} {l : Launch} {e : Env} {s : State} {m : MethodId} {args : Array Value} {below : List Frame} {meth : Method} {c : Code} {D : va_G} {cA : Nat → ClassId} {h0 : fSt} {r : ((Int32 ⊕ Nat) × fSt)} (M : fM p s m args meth c D cA h0 { frames := 28, cells := fCB h0 - fZ h0, slots := fLB h0 - fL h0, locals := 693 } cL_nextPick 7 (some (.int)) RL) (hfl : l.stackTraces = false) (hno : c.exceptionTable.toList = tableOf [(0, 14, 17, 15)]) (a0 : Option Nat) (a1 : Int32) (a2 : Int32) (a3 : Int32) (a4 : Int32) (a5 : Option Nat) (h : fSt) (hf : f_L_nextPick_L0 a0 a1 a2 a3 a4 a5 h = some r) : ∀ (H : Heap) (locs : List Loc) (cells slots : Nat) (ls : Array Slot), fCur D cA s h0 h H locs → lv_has ls 7 [(0, va_rf a0), (1, .int a1), (2, .int a2), (3, .int a3), (4, .int a4), (5, va_rf a5)] → W p l e { frames := 28, cells := fCB h0 - fZ h0, slots := fLB h0 - fL h0, locals := 693 } s m args below meth c H locs cells slots (vx_MQ below (fQX D cA h0 r.2 (rI r.1)) (fXC D cA h0 r.2 (rI r.1)) args s (fCB h0 - fZ h0) (fLB h0 - fL h0) (fA h0)) (F0 m 0 ls []) := by
  obtain ⟨hx, hb, hml, hr, hlocks, hts, hown, K, hR⟩ := id M
  intro H locs cells slots ls hC hl
  refine fr_aload hx hb dL_nextPick_0 (lv_at hl 5 rfl) ?_
  refine lv_iconst (v := (0 : Int32)) hx hb dL_nextPick_2 (by decide) ?_
  refine fr_aload_n hx hb dL_nextPick_3 rfl (lv_at hl 0 rfl) ?_
  refine lv_iload_n hx hb dL_nextPick_4 rfl (lv_at hl 1 rfl) ?_
  refine lv_iload_n hx hb dL_nextPick_5 rfl (lv_at hl 2 rfl) ?_
  refine lv_iload_n hx hb dL_nextPick_6 rfl (lv_at hl 3 rfl) ?_
  refine lv_iload hx hb dL_nextPick_7 (lv_at hl 4 rfl) ?_
  obtain ⟨b3, q4, hf⟩ := obind hf
  obtain ⟨⟨v5 | k6, h7⟩, g2, hf⟩ := obind hf
  · refine fr_callVX hx hb hml hts hown K hC hR ct_7 (c_X7_nextPick hfl D cA g2) 4 q4 kw948 kw945 kw946 kw947 kw55 (by decide +kernel) ⟨by exact Nat.le_of_ble_eq_true rfl, by exact Nat.le_of_ble_eq_true rfl⟩ rfl hl.1 (cat8 _ (by exact Nat.le_of_ble_eq_true rfl)) dL_nextPick_9 rfl (fun H locs _ _ hC => ?_)
    refine lv_i2l (v := (Int32.toInt64 v5)) hx hb dL_nextPick_12 rfl ?_
    obtain ⟨h8, g9, hf⟩ := obind hf
    refine fr_last hx hb K hC (t := 1) rfl g9 dL_nextPick_13 (fun H locs hC => ?_)
    refine lv_goto (tgt := 21) hx hb dL_nextPick_14 (by decide) ?_
    refine lv_iconst (v := (0 : Int32)) hx hb dL_nextPick_21 (by decide) ?_
    obtain rfl := Option.some.inj hf
    exact fr_retQ (fr_iret hx hb hr hlocks hC dL_nextPick_22)
  · refine fr_callVT hx hb hml hts hown K hC hR ct_7 (c_X7_nextPick hfl D cA g2) 4 q4 kw948 kw945 kw946 kw947 kw55 (by decide +kernel) ⟨by exact Nat.le_of_ble_eq_true rfl, by exact Nat.le_of_ble_eq_true rfl⟩ rfl hl.1 (cat8 _ (by exact Nat.le_of_ble_eq_true rfl)) dL_nextPick_9 rfl (fun H locs _ _ q ce hC e1 e2 e3 => ?_)
    by_cases c10 : k6 = 1
    · replace hf := opos c10 hf
      subst c10
      refine fr_catch (k9 := 1) (name := "java/lang/IllegalArgumentException") hts K hown [] ⟨0, 14, 17, 15⟩ [] (by rw [hno]; rfl) (fun z hz => nomatch hz) (by decide) (by decide) kw574 kn495 e1 e2 e3 ?_
      refine fr_astore (lv' := [(6, va_rf (some q)), (0, va_rf a0), (1, .int a1), (2, .int a2), (3, .int a3), (4, .int a4), (5, va_rf a5)]) hx hb dL_nextPick_17 hl (by decide) (congrArg (List.cons _) (flk rfl (flk rfl (flk rfl (flk rfl (flk rfl (flk (adj1 _ _) fln))))))) (fun ls hl => ?_)
      refine lv_iconst (v := (1 : Int32)) hx hb dL_nextPick_19 (by decide) ?_
      obtain rfl := Option.some.inj hf
      exact fr_retQ (fr_iret hx hb hr hlocks hC dL_nextPick_20)
    replace hf := oneg c10 hf
    exact nomatch hf
set_option maxRecDepth 100000 in
theorem c_L_nextPick {l : Launch} (hfl : l.stackTraces = false) (D : va_G) (cA : Nat → ClassId) {p0 : Option Nat} {p1 : Int32} {p2 : Int32} {p3 : Int32} {p4 : Int32} {p5 : Option Nat} {h : fSt} {r : ((Int32 ⊕ Nat) × fSt)} (hf : f_L_nextPick p0 p1 p2 p3 p4 p5 h = some r) : fMetX l yL_nextPick (wsCH yL_nextPick cL_nextPick 7 (some (.int)) [(0, 14, 17, 15)]) (28) (693) D cA [va_rf p0, .int p1, .int p2, .int p3, .int p4, va_rf p5] h r.2 (rI r.1) := by
  exact fMetX.ofH (own := RL) (by decide +kernel) rfl (lva1 (va_rf_cat _) (lva1 rfl (lva1 rfl (lva1 rfl (lva1 rfl (lva1 (va_rf_cat _) lva0)))))) (lgl1 (va_rf_cat _) (lgl1 rfl (lgl1 rfl (lgl1 rfl (lgl1 rfl (lgl1 (va_rf_cat _) lgl0)))))) (Nat.le_of_ble_eq_true rfl) (fun p e s m args below meth c ls hno M hC hl => by
    have hl : lv_has ls 7 [(0, va_rf p0), (1, .int p1), (2, .int p2), (3, .int p3), (4, .int p4), (5, va_rf p5)] := hl
    exact w_L_nextPick_L0 M hfl hno _ _ _ _ _ _ _ hf _ _ _ _ _ hC (lv_sub hl [0, 1, 2, 3, 4, 5] rfl))
set_option maxHeartbeats 4000000 in
set_option maxRecDepth 100000 in
theorem w_X4_property_L0 {p : Program} {l : Launch} {e : Env} {s : State} {m : MethodId} {args : Array Value} {below : List Frame} {meth : Method} {c : Code} {D : va_G} {cA : Nat → ClassId} {h0 : fSt} {r : (Option Nat × fSt)} (M : fM p s m args meth c D cA h0 { frames := 0, cells := fCB h0 - fZ h0, slots := fLB h0 - fL h0, locals := 0 } cX4_property 2 (some (.object "TapestryScene$Property")) RX4) (hfl : l.stackTraces = false) (a0 : Option Nat) (a1 : Int32) (h : fSt) (hf : f_X4_property_L0 a0 a1 h = some r) : ∀ (H : Heap) (locs : List Loc) (cells slots : Nat) (ls : Array Slot), fCur D cA s h0 h H locs → lv_has ls 2 [(0, va_rf a0), (1, .int a1)] → W p l e { frames := 0, cells := fCB h0 - fZ h0, slots := fLB h0 - fL h0, locals := 0 } s m args below meth c H locs cells slots (MQ below (fQ D cA h0 r.2 (some (va_rf r.1))) args s (fCB h0 - fZ h0) (fLB h0 - fL h0) (fA h0)) (F0 m 0 ls []) := by
  obtain ⟨hx, hb, hml, hr, hlocks, hts, hown, K, hR⟩ := id M
  intro H locs cells slots ls hC hl
  refine lv_iload_n hx hb dX4_property_0 rfl (lv_at hl 1 rfl) ?_
  by_cases c1 : a1 = (0 : Int32)
  · replace hf := opos c1 hf
    refine lv_tableIn (off := 31) (tgt := 32) hx hb dX4_property_1 (by rw [c1]; decide) (by rw [c1]; decide) (by rw [c1]; rfl) (by decide) ?_
    refine fr_aload_n hx hb dX4_property_32 rfl (lv_at hl 0 rfl) ?_
    obtain ⟨x2, g3, hf⟩ := obind hf
    refine fr_get hx hb hts hown K hC ct_4 (fgR_get g3) (by decide) kw157 rfl dX4_property_33 ?_
    obtain rfl := Option.some.inj hf
    exact fr_aret hx hb hr (Or.inl ⟨_, rfl⟩) hlocks hC dX4_property_36
  replace hf := oneg c1 hf
  by_cases c4 : a1 = (1 : Int32)
  · replace hf := opos c4 hf
    refine lv_tableIn (off := 36) (tgt := 37) hx hb dX4_property_1 (by rw [c4]; decide) (by rw [c4]; decide) (by rw [c4]; rfl) (by decide) ?_
    refine fr_aload_n hx hb dX4_property_37 rfl (lv_at hl 0 rfl) ?_
    obtain ⟨x5, g6, hf⟩ := obind hf
    refine fr_get hx hb hts hown K hC ct_4 (fgR_get g6) (by decide) kw160 rfl dX4_property_38 ?_
    obtain rfl := Option.some.inj hf
    exact fr_aret hx hb hr (Or.inl ⟨_, rfl⟩) hlocks hC dX4_property_41
  replace hf := oneg c4 hf
  by_cases c7 : a1 = (2 : Int32)
  · replace hf := opos c7 hf
    refine lv_tableIn (off := 41) (tgt := 42) hx hb dX4_property_1 (by rw [c7]; decide) (by rw [c7]; decide) (by rw [c7]; rfl) (by decide) ?_
    refine fr_aload_n hx hb dX4_property_42 rfl (lv_at hl 0 rfl) ?_
    obtain ⟨x8, g9, hf⟩ := obind hf
    refine fr_get hx hb hts hown K hC ct_4 (fgR_get g9) (by decide) kw163 rfl dX4_property_43 ?_
    obtain rfl := Option.some.inj hf
    exact fr_aret hx hb hr (Or.inl ⟨_, rfl⟩) hlocks hC dX4_property_46
  replace hf := oneg c7 hf
  by_cases c10 : a1 = (3 : Int32)
  · replace hf := opos c10 hf
    refine lv_tableIn (off := 46) (tgt := 47) hx hb dX4_property_1 (by rw [c10]; decide) (by rw [c10]; decide) (by rw [c10]; rfl) (by decide) ?_
    refine fr_aload_n hx hb dX4_property_47 rfl (lv_at hl 0 rfl) ?_
    obtain ⟨x11, g12, hf⟩ := obind hf
    refine fr_get hx hb hts hown K hC ct_4 (fgR_get g12) (by decide) kw166 rfl dX4_property_48 ?_
    obtain rfl := Option.some.inj hf
    exact fr_aret hx hb hr (Or.inl ⟨_, rfl⟩) hlocks hC dX4_property_51
  replace hf := oneg c10 hf
  refine lv_tableOut (tgt := 52) hx hb dX4_property_1 (swOut4 c1 c4 c7 c10) (by decide) ?_
  refine fr_null hx hb dX4_property_52 ?_
  obtain rfl := Option.some.inj hf
  exact fr_aret hx hb hr (Or.inl ⟨_, rfl⟩) hlocks hC dX4_property_53
set_option maxRecDepth 100000 in
theorem c_X4_property {l : Launch} (hfl : l.stackTraces = false) (D : va_G) (cA : Nat → ClassId) {o : Nat} {p0 : Int32} {h : fSt} {r : (Option Nat × fSt)} (hf : f_X4_property o p0 h = some r) : fMet l yX4_property (wsC yX4_property cX4_property 2 (some (.object "TapestryScene$Property"))) (0) (0) D cA [.ref o, .int p0] h r.2 (some (va_rf r.1)) := by
  exact fMet.of (own := RX4) (by decide +kernel) rfl (lva1 rfl (lva1 rfl lva0)) (lgl1 rfl (lgl1 rfl lgl0)) (Nat.le_of_ble_eq_true rfl) (fun p e s m args below meth c ls hnm _ M hC hl => by
    have hl : lv_has ls 2 [(0, va_rf (some o)), (1, .int p0)] := hl
    exact w_X4_property_L0 M hfl _ _ _ hf _ _ _ _ _ hC (lv_sub hl [0, 1] rfl))
set_option maxHeartbeats 4000000 in
set_option maxRecDepth 100000 in
theorem w_X7_now_L0 {p : Program} {l : Launch} {e : Env} {s : State} {m : MethodId} {args : Array Value} {below : List Frame} {meth : Method} {c : Code} {D : va_G} {cA : Nat → ClassId} {h0 : fSt} {r : ((Int32 ⊕ Nat) × fSt)} (M : fM p s m args meth c D cA h0 { frames := 7, cells := fCB h0 - fZ h0, slots := fLB h0 - fL h0, locals := 112 } cX7_now 4 (some (.int)) RX7) (hfl : l.stackTraces = false) (hno : ∀ x ∈ c.exceptionTable.toList, False) (a0 : Option Nat) (a1 : Int32) (a2 : Int32) (h : fSt) (hf : f_X7_now_L0 a0 a1 a2 h = some r) : ∀ (H : Heap) (locs : List Loc) (cells slots : Nat) (ls : Array Slot), fCur D cA s h0 h H locs → lv_has ls 4 [(0, va_rf a0), (1, .int a1), (2, .int a2)] → W p l e { frames := 7, cells := fCB h0 - fZ h0, slots := fLB h0 - fL h0, locals := 112 } s m args below meth c H locs cells slots (vx_MQ below (fQX D cA h0 r.2 (rI r.1)) (fXC D cA h0 r.2 (rI r.1)) args s (fCB h0 - fZ h0) (fLB h0 - fL h0) (fA h0)) (F0 m 0 ls []) := by
  obtain ⟨hx, hb, hml, hr, hlocks, hts, hown, K, hR⟩ := id M
  intro H locs cells slots ls hC hl
  refine fr_aload_n hx hb dX7_now_0 rfl (lv_at hl 0 rfl) ?_
  refine lv_iload_n hx hb dX7_now_1 rfl (lv_at hl 1 rfl) ?_
  obtain ⟨b3, q4, hf⟩ := obind hf
  obtain ⟨⟨v5 | k6, h7⟩, g2, hf⟩ := obind hf
  · refine fr_callVX hx hb hml hts hown K hC hR ct_7 (c_X7_found hfl D cA g2) 1 q4 kw583 kw580 kw582 kw12 kw55 (by decide +kernel) ⟨by exact Nat.le_of_ble_eq_true rfl, by exact Nat.le_of_ble_eq_true rfl⟩ rfl hl.1 (cat8 _ (by exact Nat.le_of_ble_eq_true rfl)) dX7_now_2 rfl (fun H locs _ _ hC => ?_)
    refine lv_iload_n hx hb dX7_now_5 rfl (lv_at hl 2 rfl) ?_
    obtain ⟨b10, q11, hf⟩ := obind hf
    obtain ⟨r8, g9, hf⟩ := obind hf
    refine fr_callV hx hb hml hts hown K hC hR ct_4 (c_X4_property hfl D cA g9) 1 q11 kw764 kw761 kw762 kw763 kw56 (by decide +kernel) ⟨by exact Nat.le_of_ble_eq_true rfl, by exact Nat.le_of_ble_eq_true rfl⟩ rfl hl.1 (cat8 _ (by exact Nat.le_of_ble_eq_true rfl)) dX7_now_6 rfl (fun H locs _ _ hC => ?_)
    refine fr_astore_n (lv' := [(3, va_rf r8.1), (0, va_rf a0), (1, .int a1), (2, .int a2)]) hx hb dX7_now_9 rfl hl (by decide) (congrArg (List.cons _) (flk rfl (flk rfl (flk rfl fln)))) (fun ls hl => ?_)
    refine fr_aload_n hx hb dX7_now_10 rfl (lv_at hl 0 rfl) ?_
    refine fr_ifnonnull (tgt := 24) hx hb dX7_now_11 (by decide) (fun c12 => ?_) (fun c12 => ?_)
    · replace hf := oneg c12 hf
      refine fr_aload_n hx hb dX7_now_24 rfl (lv_at hl 0 rfl) ?_
      refine fr_aload_n hx hb dX7_now_25 rfl (lv_at hl 1 rfl) ?_
      obtain ⟨x13, g14, hf⟩ := obind hf
      refine fr_get hx hb hts hown K hC ct_7 (fgI_get g14) (by decide) kw297 rfl dX7_now_26 ?_
      obtain ⟨b17, q18, hf⟩ := obind hf
      obtain ⟨r15, g16, hf⟩ := obind hf
      refine fr_callV hx hb hml hts hown K hC hR ct_6 (c_X6_at hfl D cA g16) 1 q18 kw369 kw366 kw367 kw368 kw57 (by decide +kernel) ⟨by exact Nat.le_of_ble_eq_true rfl, by exact Nat.le_of_ble_eq_true rfl⟩ rfl hl.1 (cat8 _ (by exact Nat.le_of_ble_eq_true rfl)) dX7_now_29 rfl (fun H locs _ _ hC => ?_)
      obtain rfl := Option.some.inj hf
      exact fr_retQ (fr_iret hx hb hr hlocks hC dX7_now_32)
    · replace hf := opos c12 hf
      obtain ⟨h19, g20, hf⟩ := obind hf
      obtain rfl := Option.some.inj hf
      exact fr_throwS hx hb hml hts hfl hown K hC hR th_RX7_60_64_1 st_RX7_235 hl.1 dX7_now_14 dX7_now_17 dX7_now_18 dX7_now_20 dX7_now_23 hno (by exact Nat.le_of_ble_eq_true rfl) (catL _ _ (by exact Nat.le_of_ble_eq_true rfl) (by exact Nat.le_of_ble_eq_true rfl)) hlocks g20
  · obtain rfl := Option.some.inj hf
    refine fr_callVT hx hb hml hts hown K hC hR ct_7 (c_X7_found hfl D cA g2) 1 q4 kw583 kw580 kw582 kw12 kw55 (by decide +kernel) ⟨by exact Nat.le_of_ble_eq_true rfl, by exact Nat.le_of_ble_eq_true rfl⟩ rfl hl.1 (cat8 _ (by exact Nat.le_of_ble_eq_true rfl)) dX7_now_2 rfl (fun H locs _ _ q ce hC e1 e2 e3 => ?_)
    exact fr_out (fun x hx9 => (hno x hx9).elim) hlocks hC e1 e2 e3
set_option maxRecDepth 100000 in
theorem c_X7_now {l : Launch} (hfl : l.stackTraces = false) (D : va_G) (cA : Nat → ClassId) {o : Nat} {p0 : Int32} {p1 : Int32} {h : fSt} {r : ((Int32 ⊕ Nat) × fSt)} (hf : f_X7_now o p0 p1 h = some r) : fMetX l yX7_now (wsC yX7_now cX7_now 4 (some (.int))) (7) (112) D cA [.ref o, .int p0, .int p1] h r.2 (rI r.1) := by
  exact fMetX.of (own := RX7) (by decide +kernel) rfl (lva1 rfl (lva1 rfl (lva1 rfl lva0))) (lgl1 rfl (lgl1 rfl (lgl1 rfl lgl0))) (Nat.le_of_ble_eq_true rfl) (fun p e s m args below meth c ls hno M hC hl => by
    have hl : lv_has ls 4 [(0, va_rf (some o)), (1, .int p0), (2, .int p1)] := hl
    exact w_X7_now_L0 M hfl hno _ _ _ _ hf _ _ _ _ _ hC (lv_sub hl [0, 1, 2] rfl))
set_option maxHeartbeats 4000000 in
set_option maxRecDepth 100000 in
theorem w_L_now_L0 {p : Program} {l : Launch} {e : Env} {s : State} {m : MethodId} {args : Array Value} {below : List Frame} {meth : Method} {c : Code} {D : va_G} {cA : Nat → ClassId} {h0 : fSt} {r : ((Int32 ⊕ Nat) × fSt)} (M : fM p s m args meth c D cA h0 { frames := 8, cells := fCB h0 - fZ h0, slots := fLB h0 - fL h0, locals := 135 } cL_now 5 (some (.int)) RL) (hfl : l.stackTraces = false) (hno : c.exceptionTable.toList = tableOf [(0, 10, 13, 13), (0, 10, 17, 15)]) (a0 : Option Nat) (a1 : Int32) (a2 : Int32) (a3 : Option Nat) (h : fSt) (hf : f_L_now_L0 a0 a1 a2 a3 h = some r) : ∀ (H : Heap) (locs : List Loc) (cells slots : Nat) (ls : Array Slot), fCur D cA s h0 h H locs → lv_has ls 5 [(0, va_rf a0), (1, .int a1), (2, .int a2), (3, va_rf a3)] → W p l e { frames := 8, cells := fCB h0 - fZ h0, slots := fLB h0 - fL h0, locals := 135 } s m args below meth c H locs cells slots (vx_MQ below (fQX D cA h0 r.2 (rI r.1)) (fXC D cA h0 r.2 (rI r.1)) args s (fCB h0 - fZ h0) (fLB h0 - fL h0) (fA h0)) (F0 m 0 ls []) := by
  obtain ⟨hx, hb, hml, hr, hlocks, hts, hown, K, hR⟩ := id M
  intro H locs cells slots ls hC hl
  refine fr_aload_n hx hb dL_now_0 rfl (lv_at hl 3 rfl) ?_
  refine lv_iconst (v := (0 : Int32)) hx hb dL_now_1 (by decide) ?_
  refine fr_aload_n hx hb dL_now_2 rfl (lv_at hl 0 rfl) ?_
  refine lv_iload_n hx hb dL_now_3 rfl (lv_at hl 1 rfl) ?_
  refine lv_iload_n hx hb dL_now_4 rfl (lv_at hl 2 rfl) ?_
  obtain ⟨b3, q4, hf⟩ := obind hf
  obtain ⟨⟨v5 | k6, h7⟩, g2, hf⟩ := obind hf
  · refine fr_callVX hx hb hml hts hown K hC hR ct_7 (c_X7_now hfl D cA g2) 2 q4 kw833 kw830 kw831 kw832 kw55 (by decide +kernel) ⟨by exact Nat.le_of_ble_eq_true rfl, by exact Nat.le_of_ble_eq_true rfl⟩ rfl hl.1 (cat8 _ (by exact Nat.le_of_ble_eq_true rfl)) dL_now_5 rfl (fun H locs _ _ hC => ?_)
    refine lv_i2l (v := (Int32.toInt64 v5)) hx hb dL_now_8 rfl ?_
    obtain ⟨h8, g9, hf⟩ := obind hf
    refine fr_last hx hb K hC (t := 1) rfl g9 dL_now_9 (fun H locs hC => ?_)
    refine lv_goto (tgt := 21) hx hb dL_now_10 (by decide) ?_
    refine lv_iconst (v := (0 : Int32)) hx hb dL_now_21 (by decide) ?_
    obtain rfl := Option.some.inj hf
    exact fr_retQ (fr_iret hx hb hr hlocks hC dL_now_22)
  · refine fr_callVT hx hb hml hts hown K hC hR ct_7 (c_X7_now hfl D cA g2) 2 q4 kw833 kw830 kw831 kw832 kw55 (by decide +kernel) ⟨by exact Nat.le_of_ble_eq_true rfl, by exact Nat.le_of_ble_eq_true rfl⟩ rfl hl.1 (cat8 _ (by exact Nat.le_of_ble_eq_true rfl)) dL_now_5 rfl (fun H locs _ _ q ce hC e1 e2 e3 => ?_)
    by_cases c10 : k6 = 0
    · replace hf := opos c10 hf
      subst c10
      refine fr_catch (k9 := 0) (name := "java/lang/IndexOutOfBoundsException") hts K hown [] ⟨0, 10, 13, 13⟩ [⟨0, 10, 17, 15⟩] (by rw [hno]; rfl) (fun z hz => nomatch hz) (by decide) (by decide) kw573 kn586 e1 e2 e3 ?_
      refine fr_astore (lv' := [(4, va_rf (some q)), (0, va_rf a0), (1, .int a1), (2, .int a2), (3, va_rf a3)]) hx hb dL_now_13 hl (by decide) (congrArg (List.cons _) (flk rfl (flk rfl (flk rfl (flk (adj1 _ _) fln))))) (fun ls hl => ?_)
      refine lv_iconst (v := (1 : Int32)) hx hb dL_now_15 (by decide) ?_
      obtain rfl := Option.some.inj hf
      exact fr_retQ (fr_iret hx hb hr hlocks hC dL_now_16)
    replace hf := oneg c10 hf
    by_cases c12 : k6 = 1
    · replace hf := opos c12 hf
      subst c12
      refine fr_catch (k9 := 1) (name := "java/lang/IllegalArgumentException") hts K hown [⟨0, 10, 13, 13⟩] ⟨0, 10, 17, 15⟩ [] (by rw [hno]; rfl) (all1 ⟨by decide, _, kw573, by decide +kernel⟩) (by decide) (by decide) kw574 kn495 e1 e2 e3 ?_
      refine fr_astore (lv' := [(4, va_rf (some q)), (0, va_rf a0), (1, .int a1), (2, .int a2), (3, va_rf a3)]) hx hb dL_now_17 hl (by decide) (congrArg (List.cons _) (flk rfl (flk rfl (flk rfl (flk (adj1 _ _) fln))))) (fun ls hl => ?_)
      refine lv_iconst (v := (2 : Int32)) hx hb dL_now_19 (by decide) ?_
      obtain rfl := Option.some.inj hf
      exact fr_retQ (fr_iret hx hb hr hlocks hC dL_now_20)
    replace hf := oneg c12 hf
    exact nomatch hf
set_option maxRecDepth 100000 in
theorem c_L_now {l : Launch} (hfl : l.stackTraces = false) (D : va_G) (cA : Nat → ClassId) {p0 : Option Nat} {p1 : Int32} {p2 : Int32} {p3 : Option Nat} {h : fSt} {r : ((Int32 ⊕ Nat) × fSt)} (hf : f_L_now p0 p1 p2 p3 h = some r) : fMetX l yL_now (wsCH yL_now cL_now 5 (some (.int)) [(0, 10, 13, 13), (0, 10, 17, 15)]) (8) (135) D cA [va_rf p0, .int p1, .int p2, va_rf p3] h r.2 (rI r.1) := by
  exact fMetX.ofH (own := RL) (by decide +kernel) rfl (lva1 (va_rf_cat _) (lva1 rfl (lva1 rfl (lva1 (va_rf_cat _) lva0)))) (lgl1 (va_rf_cat _) (lgl1 rfl (lgl1 rfl (lgl1 (va_rf_cat _) lgl0)))) (Nat.le_of_ble_eq_true rfl) (fun p e s m args below meth c ls hno M hC hl => by
    have hl : lv_has ls 5 [(0, va_rf p0), (1, .int p1), (2, .int p2), (3, va_rf p3)] := hl
    exact w_L_now_L0 M hfl hno _ _ _ _ _ hf _ _ _ _ _ hC (lv_sub hl [0, 1, 2, 3] rfl))
set_option maxHeartbeats 4000000 in
set_option maxRecDepth 100000 in
theorem w_X7_orderAt_L5 {p : Program} {l : Launch} {e : Env} {s : State} {m : MethodId} {args : Array Value} {below : List Frame} {meth : Method} {c : Code} {D : va_G} {cA : Nat → ClassId} {h0 : fSt} {r : ((Int32 ⊕ Nat) × fSt)} (M : fM p s m args meth c D cA h0 { frames := 6, cells := fCB h0 - fZ h0, slots := fLB h0 - fL h0, locals := 90 } cX7_orderAt 3 (some (.int)) RX7) (hfl : l.stackTraces = false) (hno : ∀ x ∈ c.exceptionTable.toList, False) : ∀ (n : Nat) (a1 : Int32) (a2 : Option Nat) (h : fSt), f_X7_orderAt_L5 n a1 a2 h = some r → ∀ (H : Heap) (locs : List Loc) (cells slots : Nat) (ls : Array Slot), fCur D cA s h0 h H locs → lv_has ls 3 [(1, .int a1), (2, va_rf a2)] → W p l e { frames := 6, cells := fCB h0 - fZ h0, slots := fLB h0 - fL h0, locals := 90 } s m args below meth c H locs cells slots (vx_MQ below (fQX D cA h0 r.2 (rI r.1)) (fXC D cA h0 r.2 (rI r.1)) args s (fCB h0 - fZ h0) (fLB h0 - fL h0) (fA h0)) (F0 m 5 ls []) := by
  obtain ⟨hx, hb, hml, hr, hlocks, hts, hown, K, hR⟩ := id M
  intro n
  induction n with
  | zero =>
    intro a1 a2 h hf
    exact nomatch (show (none : Option ((Int32 ⊕ Nat) × fSt)) = some r from hf)
  | succ n hk5 =>
    intro a1 a2 h hf H locs cells slots ls hC hl
    refine fr_aload_n hx hb dX7_orderAt_5 rfl (lv_at hl 1 rfl) ?_
    refine fr_ifnull (tgt := 30) hx hb dX7_orderAt_6 (by decide) (fun c1 => ?_) (fun c1 => ?_)
    · replace hf := opos c1 hf
      obtain ⟨h2, g3, hf⟩ := obind hf
      obtain rfl := Option.some.inj hf
      exact fr_throwSW hx hb hml hts hfl hown K hC hR th_RX7_290_294_0 st_RX7_292 hl.1 dX7_orderAt_30 dX7_orderAt_33 dX7_orderAt_34 dX7_orderAt_37 dX7_orderAt_40 hno (by exact Nat.le_of_ble_eq_true rfl) (catL _ _ (by exact Nat.le_of_ble_eq_true rfl) (by exact Nat.le_of_ble_eq_true rfl)) hlocks g3
    · replace hf := oneg c1 hf
      refine fr_aload_n hx hb dX7_orderAt_9 rfl (lv_at hl 1 rfl) ?_
      obtain ⟨x4, g5, hf⟩ := obind hf
      refine fr_get hx hb hts hown K hC ct_4 (fgI_get g5) (by decide) kw190 rfl dX7_orderAt_10 ?_
      refine lv_iload_n hx hb dX7_orderAt_13 rfl (lv_at hl 0 rfl) ?_
      refine lv_icmp_ne (tgt := 22) hx hb dX7_orderAt_14 (by decide) (fun c6 => ?_) (fun c6 => ?_)
      · replace hf := oneg c6 hf
        refine fr_aload_n hx hb dX7_orderAt_22 rfl (lv_at hl 1 rfl) ?_
        obtain ⟨x7, g8, hf⟩ := obind hf
        refine fr_get hx hb hts hown K hC ct_4 (fgR_get g8) (by decide) kw189 rfl dX7_orderAt_23 ?_
        refine fr_astore_n (lv' := [(2, va_rf x7), (1, .int a1)]) hx hb dX7_orderAt_26 rfl hl (by decide) (congrArg (List.cons _) (flk rfl (fld rfl fln))) (fun ls hl => ?_)
        refine lv_goto (tgt := 5) hx hb dX7_orderAt_27 (by decide) ?_
        exact hk5 _ _ _ hf _ _ _ _ _ hC (lv_sub hl [1, 0] rfl)
      · replace hf := opos c6 hf
        refine fr_aload_n hx hb dX7_orderAt_17 rfl (lv_at hl 1 rfl) ?_
        obtain ⟨x9, g10, hf⟩ := obind hf
        refine fr_get hx hb hts hown K hC ct_4 (fgI_get g10) (by decide) kw152 rfl dX7_orderAt_18 ?_
        obtain rfl := Option.some.inj hf
        exact fr_retQ (fr_iret hx hb hr hlocks hC dX7_orderAt_21)
set_option maxHeartbeats 4000000 in
set_option maxRecDepth 100000 in
theorem w_X7_orderAt_L0 {p : Program} {l : Launch} {e : Env} {s : State} {m : MethodId} {args : Array Value} {below : List Frame} {meth : Method} {c : Code} {D : va_G} {cA : Nat → ClassId} {h0 : fSt} {r : ((Int32 ⊕ Nat) × fSt)} (M : fM p s m args meth c D cA h0 { frames := 6, cells := fCB h0 - fZ h0, slots := fLB h0 - fL h0, locals := 90 } cX7_orderAt 3 (some (.int)) RX7) (hfl : l.stackTraces = false) (hno : ∀ x ∈ c.exceptionTable.toList, False) (a0 : Option Nat) (a1 : Int32) (h : fSt) (hf : f_X7_orderAt_L0 a0 a1 h = some r) : ∀ (H : Heap) (locs : List Loc) (cells slots : Nat) (ls : Array Slot), fCur D cA s h0 h H locs → lv_has ls 3 [(0, va_rf a0), (1, .int a1)] → W p l e { frames := 6, cells := fCB h0 - fZ h0, slots := fLB h0 - fL h0, locals := 90 } s m args below meth c H locs cells slots (vx_MQ below (fQX D cA h0 r.2 (rI r.1)) (fXC D cA h0 r.2 (rI r.1)) args s (fCB h0 - fZ h0) (fLB h0 - fL h0) (fA h0)) (F0 m 0 ls []) := by
  obtain ⟨hx, hb, hml, hr, hlocks, hts, hown, K, hR⟩ := id M
  intro H locs cells slots ls hC hl
  refine fr_aload_n hx hb dX7_orderAt_0 rfl (lv_at hl 0 rfl) ?_
  obtain ⟨x11, g12, hf⟩ := obind hf
  refine fr_get hx hb hts hown K hC ct_7 (fgR_get g12) (by decide) kw298 rfl dX7_orderAt_1 ?_
  refine fr_astore_n (lv' := [(2, va_rf x11), (0, va_rf a0), (1, .int a1)]) hx hb dX7_orderAt_4 rfl hl (by decide) (congrArg (List.cons _) (flk rfl (flk rfl fln))) (fun ls hl => ?_)
  exact w_X7_orderAt_L5 M hfl hno 4096 _ _ _ hf _ _ _ _ _ hC (lv_sub hl [2, 0] rfl)
set_option maxRecDepth 100000 in
theorem c_X7_orderAt {l : Launch} (hfl : l.stackTraces = false) (D : va_G) (cA : Nat → ClassId) {o : Nat} {p0 : Int32} {h : fSt} {r : ((Int32 ⊕ Nat) × fSt)} (hf : f_X7_orderAt o p0 h = some r) : fMetX l yX7_orderAt (wsC yX7_orderAt cX7_orderAt 3 (some (.int))) (6) (90) D cA [.ref o, .int p0] h r.2 (rI r.1) := by
  exact fMetX.of (own := RX7) (by decide +kernel) rfl (lva1 rfl (lva1 rfl lva0)) (lgl1 rfl (lgl1 rfl lgl0)) (Nat.le_of_ble_eq_true rfl) (fun p e s m args below meth c ls hno M hC hl => by
    have hl : lv_has ls 3 [(0, va_rf (some o)), (1, .int p0)] := hl
    exact w_X7_orderAt_L0 M hfl hno _ _ _ hf _ _ _ _ _ hC (lv_sub hl [0, 1] rfl))
set_option maxHeartbeats 4000000 in
set_option maxRecDepth 100000 in
theorem w_L_orderAt_L0 {p : Program} {l : Launch} {e : Env} {s : State} {m : MethodId} {args : Array Value} {below : List Frame} {meth : Method} {c : Code} {D : va_G} {cA : Nat → ClassId} {h0 : fSt} {r : ((Int32 ⊕ Nat) × fSt)} (M : fM p s m args meth c D cA h0 { frames := 7, cells := fCB h0 - fZ h0, slots := fLB h0 - fL h0, locals := 112 } cL_orderAt 4 (some (.int)) RL) (hfl : l.stackTraces = false) (hno : c.exceptionTable.toList = tableOf [(0, 9, 12, 13)]) (a0 : Option Nat) (a1 : Int32) (a2 : Option Nat) (h : fSt) (hf : f_L_orderAt_L0 a0 a1 a2 h = some r) : ∀ (H : Heap) (locs : List Loc) (cells slots : Nat) (ls : Array Slot), fCur D cA s h0 h H locs → lv_has ls 4 [(0, va_rf a0), (1, .int a1), (2, va_rf a2)] → W p l e { frames := 7, cells := fCB h0 - fZ h0, slots := fLB h0 - fL h0, locals := 112 } s m args below meth c H locs cells slots (vx_MQ below (fQX D cA h0 r.2 (rI r.1)) (fXC D cA h0 r.2 (rI r.1)) args s (fCB h0 - fZ h0) (fLB h0 - fL h0) (fA h0)) (F0 m 0 ls []) := by
  obtain ⟨hx, hb, hml, hr, hlocks, hts, hown, K, hR⟩ := id M
  intro H locs cells slots ls hC hl
  refine fr_aload_n hx hb dL_orderAt_0 rfl (lv_at hl 2 rfl) ?_
  refine lv_iconst (v := (0 : Int32)) hx hb dL_orderAt_1 (by decide) ?_
  refine fr_aload_n hx hb dL_orderAt_2 rfl (lv_at hl 0 rfl) ?_
  refine lv_iload_n hx hb dL_orderAt_3 rfl (lv_at hl 1 rfl) ?_
  obtain ⟨b3, q4, hf⟩ := obind hf
  obtain ⟨⟨v5 | k6, h7⟩, g2, hf⟩ := obind hf
  · refine fr_callVX hx hb hml hts hown K hC hR ct_7 (c_X7_orderAt hfl D cA g2) 1 q4 kw889 kw886 kw887 kw888 kw55 (by decide +kernel) ⟨by exact Nat.le_of_ble_eq_true rfl, by exact Nat.le_of_ble_eq_true rfl⟩ rfl hl.1 (cat8 _ (by exact Nat.le_of_ble_eq_true rfl)) dL_orderAt_4 rfl (fun H locs _ _ hC => ?_)
    refine lv_i2l (v := (Int32.toInt64 v5)) hx hb dL_orderAt_7 rfl ?_
    obtain ⟨h8, g9, hf⟩ := obind hf
    refine fr_last hx hb K hC (t := 1) rfl g9 dL_orderAt_8 (fun H locs hC => ?_)
    refine lv_goto (tgt := 15) hx hb dL_orderAt_9 (by decide) ?_
    refine lv_iconst (v := (0 : Int32)) hx hb dL_orderAt_15 (by decide) ?_
    obtain rfl := Option.some.inj hf
    exact fr_retQ (fr_iret hx hb hr hlocks hC dL_orderAt_16)
  · refine fr_callVT hx hb hml hts hown K hC hR ct_7 (c_X7_orderAt hfl D cA g2) 1 q4 kw889 kw886 kw887 kw888 kw55 (by decide +kernel) ⟨by exact Nat.le_of_ble_eq_true rfl, by exact Nat.le_of_ble_eq_true rfl⟩ rfl hl.1 (cat8 _ (by exact Nat.le_of_ble_eq_true rfl)) dL_orderAt_4 rfl (fun H locs _ _ q ce hC e1 e2 e3 => ?_)
    by_cases c10 : k6 = 0
    · replace hf := opos c10 hf
      subst c10
      refine fr_catch (k9 := 0) (name := "java/lang/IndexOutOfBoundsException") hts K hown [] ⟨0, 9, 12, 13⟩ [] (by rw [hno]; rfl) (fun z hz => nomatch hz) (by decide) (by decide) kw573 kn586 e1 e2 e3 ?_
      refine fr_astore_n (lv' := [(3, va_rf (some q)), (0, va_rf a0), (1, .int a1), (2, va_rf a2)]) hx hb dL_orderAt_12 rfl hl (by decide) (congrArg (List.cons _) (flk rfl (flk rfl (flk (adj1 _ _) fln)))) (fun ls hl => ?_)
      refine lv_iconst (v := (1 : Int32)) hx hb dL_orderAt_13 (by decide) ?_
      obtain rfl := Option.some.inj hf
      exact fr_retQ (fr_iret hx hb hr hlocks hC dL_orderAt_14)
    replace hf := oneg c10 hf
    exact nomatch hf
set_option maxRecDepth 100000 in
theorem c_L_orderAt {l : Launch} (hfl : l.stackTraces = false) (D : va_G) (cA : Nat → ClassId) {p0 : Option Nat} {p1 : Int32} {p2 : Option Nat} {h : fSt} {r : ((Int32 ⊕ Nat) × fSt)} (hf : f_L_orderAt p0 p1 p2 h = some r) : fMetX l yL_orderAt (wsCH yL_orderAt cL_orderAt 4 (some (.int)) [(0, 9, 12, 13)]) (7) (112) D cA [va_rf p0, .int p1, va_rf p2] h r.2 (rI r.1) := by
  exact fMetX.ofH (own := RL) (by decide +kernel) rfl (lva1 (va_rf_cat _) (lva1 rfl (lva1 (va_rf_cat _) lva0))) (lgl1 (va_rf_cat _) (lgl1 rfl (lgl1 (va_rf_cat _) lgl0))) (Nat.le_of_ble_eq_true rfl) (fun p e s m args below meth c ls hno M hC hl => by
    have hl : lv_has ls 4 [(0, va_rf p0), (1, .int p1), (2, va_rf p2)] := hl
    exact w_L_orderAt_L0 M hfl hno _ _ _ _ hf _ _ _ _ _ hC (lv_sub hl [0, 1, 2] rfl))
set_option maxHeartbeats 4000000 in
set_option maxRecDepth 100000 in
theorem w_X7_parentNumber_L18 {p : Program} {l : Launch} {e : Env} {s : State} {m : MethodId} {args : Array Value} {below : List Frame} {meth : Method} {c : Code} {D : va_G} {cA : Nat → ClassId} {h0 : fSt} {r : (Int32 × fSt)} (M : fM p s m args meth c D cA h0 { frames := 0, cells := fCB h0 - fZ h0, slots := fLB h0 - fL h0, locals := 0 } cX7_parentNumber 1 (some (.int)) RX7) (hfl : l.stackTraces = false) (s0 : Int32) (h : fSt) (hf : f_X7_parentNumber_L18 s0 h = some r) : ∀ (H : Heap) (locs : List Loc) (cells slots : Nat) (ls : Array Slot), fCur D cA s h0 h H locs → lv_has ls 1 [] → W p l e { frames := 0, cells := fCB h0 - fZ h0, slots := fLB h0 - fL h0, locals := 0 } s m args below meth c H locs cells slots (MQ below (fQ D cA h0 r.2 (some (.int r.1))) args s (fCB h0 - fZ h0) (fLB h0 - fL h0) (fA h0)) (F0 m 18 ls [.int s0]) := by
  obtain ⟨hx, hb, hml, hr, hlocks, hts, hown, K, hR⟩ := id M
  intro H locs cells slots ls hC hl
  obtain rfl := Option.some.inj hf
  exact fr_iret hx hb hr hlocks hC dX7_parentNumber_18
set_option maxHeartbeats 4000000 in
set_option maxRecDepth 100000 in
theorem w_X7_parentNumber_L0 {p : Program} {l : Launch} {e : Env} {s : State} {m : MethodId} {args : Array Value} {below : List Frame} {meth : Method} {c : Code} {D : va_G} {cA : Nat → ClassId} {h0 : fSt} {r : (Int32 × fSt)} (M : fM p s m args meth c D cA h0 { frames := 0, cells := fCB h0 - fZ h0, slots := fLB h0 - fL h0, locals := 0 } cX7_parentNumber 1 (some (.int)) RX7) (hfl : l.stackTraces = false) (a0 : Option Nat) (h : fSt) (hf : f_X7_parentNumber_L0 a0 h = some r) : ∀ (H : Heap) (locs : List Loc) (cells slots : Nat) (ls : Array Slot), fCur D cA s h0 h H locs → lv_has ls 1 [(0, va_rf a0)] → W p l e { frames := 0, cells := fCB h0 - fZ h0, slots := fLB h0 - fL h0, locals := 0 } s m args below meth c H locs cells slots (MQ below (fQ D cA h0 r.2 (some (.int r.1))) args s (fCB h0 - fZ h0) (fLB h0 - fL h0) (fA h0)) (F0 m 0 ls []) := by
  obtain ⟨hx, hb, hml, hr, hlocks, hts, hown, K, hR⟩ := id M
  intro H locs cells slots ls hC hl
  refine fr_aload_n hx hb dX7_parentNumber_0 rfl (lv_at hl 0 rfl) ?_
  obtain ⟨x1, g2, hf⟩ := obind hf
  refine fr_get hx hb hts hown K hC ct_4 (fgR_get g2) (by decide) kw184 rfl dX7_parentNumber_1 ?_
  refine fr_ifnonnull (tgt := 11) hx hb dX7_parentNumber_4 (by decide) (fun c3 => ?_) (fun c3 => ?_)
  · replace hf := oneg c3 hf
    refine fr_aload_n hx hb dX7_parentNumber_11 rfl (lv_at hl 0 rfl) ?_
    obtain ⟨x4, g5, hf⟩ := obind hf
    refine fr_get hx hb hts hown K hC ct_4 (fgR_get g5) (by decide) kw184 rfl dX7_parentNumber_12 ?_
    obtain ⟨x6, g7, hf⟩ := obind hf
    refine fr_get hx hb hts hown K hC ct_4 (fgI_get g7) (by decide) kw152 rfl dX7_parentNumber_15 ?_
    exact w_X7_parentNumber_L18 M hfl _ _ hf _ _ _ _ _ hC (lv_sub hl [] rfl)
  · replace hf := opos c3 hf
    refine lv_iconst (v := (-1 : Int32)) hx hb dX7_parentNumber_7 (by decide) ?_
    refine lv_goto (tgt := 18) hx hb dX7_parentNumber_8 (by decide) ?_
    exact w_X7_parentNumber_L18 M hfl _ _ hf _ _ _ _ _ hC (lv_sub hl [] rfl)
set_option maxRecDepth 100000 in
theorem c_X7_parentNumber {l : Launch} (hfl : l.stackTraces = false) (D : va_G) (cA : Nat → ClassId) {p0 : Option Nat} {h : fSt} {r : (Int32 × fSt)} (hf : f_X7_parentNumber p0 h = some r) : fMet l yX7_parentNumber (wsC yX7_parentNumber cX7_parentNumber 1 (some (.int))) (0) (0) D cA [va_rf p0] h r.2 (some (.int r.1)) := by
  exact fMet.of (own := RX7) (by decide +kernel) rfl (lva1 (va_rf_cat _) lva0) (lgl1 (va_rf_cat _) lgl0) (Nat.le_of_ble_eq_true rfl) (fun p e s m args below meth c ls hnm _ M hC hl => by
    have hl : lv_has ls 1 [(0, va_rf p0)] := hl
    exact w_X7_parentNumber_L0 M hfl _ _ hf _ _ _ _ _ hC (lv_sub hl [0] rfl))
set_option maxHeartbeats 4000000 in
set_option maxRecDepth 100000 in
theorem w_X7_parent_L0 {p : Program} {l : Launch} {e : Env} {s : State} {m : MethodId} {args : Array Value} {below : List Frame} {meth : Method} {c : Code} {D : va_G} {cA : Nat → ClassId} {h0 : fSt} {r : ((Int32 ⊕ Nat) × fSt)} (M : fM p s m args meth c D cA h0 { frames := 7, cells := fCB h0 - fZ h0, slots := fLB h0 - fL h0, locals := 112 } cX7_parent 2 (some (.int)) RX7) (hfl : l.stackTraces = false) (hno : ∀ x ∈ c.exceptionTable.toList, False) (a0 : Option Nat) (a1 : Int32) (h : fSt) (hf : f_X7_parent_L0 a0 a1 h = some r) : ∀ (H : Heap) (locs : List Loc) (cells slots : Nat) (ls : Array Slot), fCur D cA s h0 h H locs → lv_has ls 2 [(0, va_rf a0), (1, .int a1)] → W p l e { frames := 7, cells := fCB h0 - fZ h0, slots := fLB h0 - fL h0, locals := 112 } s m args below meth c H locs cells slots (vx_MQ below (fQX D cA h0 r.2 (rI r.1)) (fXC D cA h0 r.2 (rI r.1)) args s (fCB h0 - fZ h0) (fLB h0 - fL h0) (fA h0)) (F0 m 0 ls []) := by
  obtain ⟨hx, hb, hml, hr, hlocks, hts, hown, K, hR⟩ := id M
  intro H locs cells slots ls hC hl
  refine fr_aload_n hx hb dX7_parent_0 rfl (lv_at hl 0 rfl) ?_
  refine lv_iload_n hx hb dX7_parent_1 rfl (lv_at hl 1 rfl) ?_
  obtain ⟨b3, q4, hf⟩ := obind hf
  obtain ⟨⟨v5 | k6, h7⟩, g2, hf⟩ := obind hf
  · refine fr_callVX hx hb hml hts hown K hC hR ct_7 (c_X7_found hfl D cA g2) 1 q4 kw583 kw580 kw582 kw12 kw55 (by decide +kernel) ⟨by exact Nat.le_of_ble_eq_true rfl, by exact Nat.le_of_ble_eq_true rfl⟩ rfl hl.1 (cat8 _ (by exact Nat.le_of_ble_eq_true rfl)) dX7_parent_2 rfl (fun H locs _ _ hC => ?_)
    obtain ⟨r8, g9, hf⟩ := obind hf
    refine fr_callS hx hb hml hts hown K hC hR (c_X7_parentNumber hfl D cA g9) 1 kw361 kw359 kw360 kw55 (by decide +kernel) ⟨by exact Nat.le_of_ble_eq_true rfl, by exact Nat.le_of_ble_eq_true rfl⟩ rfl hl.1 (cat8 _ (by exact Nat.le_of_ble_eq_true rfl)) dX7_parent_5 rfl (fun H locs _ _ hC => ?_)
    obtain rfl := Option.some.inj hf
    exact fr_retQ (fr_iret hx hb hr hlocks hC dX7_parent_8)
  · obtain rfl := Option.some.inj hf
    refine fr_callVT hx hb hml hts hown K hC hR ct_7 (c_X7_found hfl D cA g2) 1 q4 kw583 kw580 kw582 kw12 kw55 (by decide +kernel) ⟨by exact Nat.le_of_ble_eq_true rfl, by exact Nat.le_of_ble_eq_true rfl⟩ rfl hl.1 (cat8 _ (by exact Nat.le_of_ble_eq_true rfl)) dX7_parent_2 rfl (fun H locs _ _ q ce hC e1 e2 e3 => ?_)
    exact fr_out (fun x hx9 => (hno x hx9).elim) hlocks hC e1 e2 e3
set_option maxRecDepth 100000 in
theorem c_X7_parent {l : Launch} (hfl : l.stackTraces = false) (D : va_G) (cA : Nat → ClassId) {o : Nat} {p0 : Int32} {h : fSt} {r : ((Int32 ⊕ Nat) × fSt)} (hf : f_X7_parent o p0 h = some r) : fMetX l yX7_parent (wsC yX7_parent cX7_parent 2 (some (.int))) (7) (112) D cA [.ref o, .int p0] h r.2 (rI r.1) := by
  exact fMetX.of (own := RX7) (by decide +kernel) rfl (lva1 rfl (lva1 rfl lva0)) (lgl1 rfl (lgl1 rfl lgl0)) (Nat.le_of_ble_eq_true rfl) (fun p e s m args below meth c ls hno M hC hl => by
    have hl : lv_has ls 2 [(0, va_rf (some o)), (1, .int p0)] := hl
    exact w_X7_parent_L0 M hfl hno _ _ _ hf _ _ _ _ _ hC (lv_sub hl [0, 1] rfl))
set_option maxHeartbeats 4000000 in
set_option maxRecDepth 100000 in
theorem w_L_parent_L0 {p : Program} {l : Launch} {e : Env} {s : State} {m : MethodId} {args : Array Value} {below : List Frame} {meth : Method} {c : Code} {D : va_G} {cA : Nat → ClassId} {h0 : fSt} {r : ((Int32 ⊕ Nat) × fSt)} (M : fM p s m args meth c D cA h0 { frames := 8, cells := fCB h0 - fZ h0, slots := fLB h0 - fL h0, locals := 133 } cL_parent 4 (some (.int)) RL) (hfl : l.stackTraces = false) (hno : c.exceptionTable.toList = tableOf [(0, 9, 12, 13)]) (a0 : Option Nat) (a1 : Int32) (a2 : Option Nat) (h : fSt) (hf : f_L_parent_L0 a0 a1 a2 h = some r) : ∀ (H : Heap) (locs : List Loc) (cells slots : Nat) (ls : Array Slot), fCur D cA s h0 h H locs → lv_has ls 4 [(0, va_rf a0), (1, .int a1), (2, va_rf a2)] → W p l e { frames := 8, cells := fCB h0 - fZ h0, slots := fLB h0 - fL h0, locals := 133 } s m args below meth c H locs cells slots (vx_MQ below (fQX D cA h0 r.2 (rI r.1)) (fXC D cA h0 r.2 (rI r.1)) args s (fCB h0 - fZ h0) (fLB h0 - fL h0) (fA h0)) (F0 m 0 ls []) := by
  obtain ⟨hx, hb, hml, hr, hlocks, hts, hown, K, hR⟩ := id M
  intro H locs cells slots ls hC hl
  refine fr_aload_n hx hb dL_parent_0 rfl (lv_at hl 2 rfl) ?_
  refine lv_iconst (v := (0 : Int32)) hx hb dL_parent_1 (by decide) ?_
  refine fr_aload_n hx hb dL_parent_2 rfl (lv_at hl 0 rfl) ?_
  refine lv_iload_n hx hb dL_parent_3 rfl (lv_at hl 1 rfl) ?_
  obtain ⟨b3, q4, hf⟩ := obind hf
  obtain ⟨⟨v5 | k6, h7⟩, g2, hf⟩ := obind hf
  · refine fr_callVX hx hb hml hts hown K hC hR ct_7 (c_X7_parent hfl D cA g2) 1 q4 kw739 kw736 kw737 kw738 kw55 (by decide +kernel) ⟨by exact Nat.le_of_ble_eq_true rfl, by exact Nat.le_of_ble_eq_true rfl⟩ rfl hl.1 (cat8 _ (by exact Nat.le_of_ble_eq_true rfl)) dL_parent_4 rfl (fun H locs _ _ hC => ?_)
    refine lv_i2l (v := (Int32.toInt64 v5)) hx hb dL_parent_7 rfl ?_
    obtain ⟨h8, g9, hf⟩ := obind hf
    refine fr_last hx hb K hC (t := 1) rfl g9 dL_parent_8 (fun H locs hC => ?_)
    refine lv_goto (tgt := 15) hx hb dL_parent_9 (by decide) ?_
    refine lv_iconst (v := (0 : Int32)) hx hb dL_parent_15 (by decide) ?_
    obtain rfl := Option.some.inj hf
    exact fr_retQ (fr_iret hx hb hr hlocks hC dL_parent_16)
  · refine fr_callVT hx hb hml hts hown K hC hR ct_7 (c_X7_parent hfl D cA g2) 1 q4 kw739 kw736 kw737 kw738 kw55 (by decide +kernel) ⟨by exact Nat.le_of_ble_eq_true rfl, by exact Nat.le_of_ble_eq_true rfl⟩ rfl hl.1 (cat8 _ (by exact Nat.le_of_ble_eq_true rfl)) dL_parent_4 rfl (fun H locs _ _ q ce hC e1 e2 e3 => ?_)
    by_cases c10 : k6 = 0
    · replace hf := opos c10 hf
      subst c10
      refine fr_catch (k9 := 0) (name := "java/lang/IndexOutOfBoundsException") hts K hown [] ⟨0, 9, 12, 13⟩ [] (by rw [hno]; rfl) (fun z hz => nomatch hz) (by decide) (by decide) kw573 kn586 e1 e2 e3 ?_
      refine fr_astore_n (lv' := [(3, va_rf (some q)), (0, va_rf a0), (1, .int a1), (2, va_rf a2)]) hx hb dL_parent_12 rfl hl (by decide) (congrArg (List.cons _) (flk rfl (flk rfl (flk (adj1 _ _) fln)))) (fun ls hl => ?_)
      refine lv_iconst (v := (1 : Int32)) hx hb dL_parent_13 (by decide) ?_
      obtain rfl := Option.some.inj hf
      exact fr_retQ (fr_iret hx hb hr hlocks hC dL_parent_14)
    replace hf := oneg c10 hf
    exact nomatch hf
set_option maxRecDepth 100000 in
theorem c_L_parent {l : Launch} (hfl : l.stackTraces = false) (D : va_G) (cA : Nat → ClassId) {p0 : Option Nat} {p1 : Int32} {p2 : Option Nat} {h : fSt} {r : ((Int32 ⊕ Nat) × fSt)} (hf : f_L_parent p0 p1 p2 h = some r) : fMetX l yL_parent (wsCH yL_parent cL_parent 4 (some (.int)) [(0, 9, 12, 13)]) (8) (133) D cA [va_rf p0, .int p1, va_rf p2] h r.2 (rI r.1) := by
  exact fMetX.ofH (own := RL) (by decide +kernel) rfl (lva1 (va_rf_cat _) (lva1 rfl (lva1 (va_rf_cat _) lva0))) (lgl1 (va_rf_cat _) (lgl1 rfl (lgl1 (va_rf_cat _) lgl0))) (Nat.le_of_ble_eq_true rfl) (fun p e s m args below meth c ls hno M hC hl => by
    have hl : lv_has ls 4 [(0, va_rf p0), (1, .int p1), (2, va_rf p2)] := hl
    exact w_L_parent_L0 M hfl hno _ _ _ _ hf _ _ _ _ _ hC (lv_sub hl [0, 1, 2] rfl))
set_option maxHeartbeats 4000000 in
set_option maxRecDepth 100000 in
theorem w_X7_pick_L0 {p : Program} {l : Launch} {e : Env} {s : State} {m : MethodId} {args : Array Value} {below : List Frame} {meth : Method} {c : Code} {D : va_G} {cA : Nat → ClassId} {h0 : fSt} {r : ((Int32 ⊕ Nat) × fSt)} (M : fM p s m args meth c D cA h0 { frames := 27, cells := fCB h0 - fZ h0, slots := fLB h0 - fL h0, locals := 666 } cX7_pick 4 (some (.int)) RX7) (hfl : l.stackTraces = false) (hno : ∀ x ∈ c.exceptionTable.toList, False) (a0 : Option Nat) (a1 : Int32) (a2 : Int32) (a3 : Int32) (h : fSt) (hf : f_X7_pick_L0 a0 a1 a2 a3 h = some r) : ∀ (H : Heap) (locs : List Loc) (cells slots : Nat) (ls : Array Slot), fCur D cA s h0 h H locs → lv_has ls 4 [(0, va_rf a0), (1, .int a1), (2, .int a2), (3, .int a3)] → W p l e { frames := 27, cells := fCB h0 - fZ h0, slots := fLB h0 - fL h0, locals := 666 } s m args below meth c H locs cells slots (vx_MQ below (fQX D cA h0 r.2 (rI r.1)) (fXC D cA h0 r.2 (rI r.1)) args s (fCB h0 - fZ h0) (fLB h0 - fL h0) (fA h0)) (F0 m 0 ls []) := by
  obtain ⟨hx, hb, hml, hr, hlocks, hts, hown, K, hR⟩ := id M
  intro H locs cells slots ls hC hl
  refine lv_iload_n hx hb dX7_pick_0 rfl (lv_at hl 1 rfl) ?_
  refine lv_iload_n hx hb dX7_pick_1 rfl (lv_at hl 2 rfl) ?_
  refine lv_iload_n hx hb dX7_pick_2 rfl (lv_at hl 3 rfl) ?_
  obtain ⟨⟨v3 | k4, h5⟩, g2, hf⟩ := obind hf
  · refine fr_callSX hx hb hml hts hown K hC hR (c_X7_checkSpot hfl D cA g2) 3 kw907 kw905 kw906 kw55 (by decide +kernel) ⟨by exact Nat.le_of_ble_eq_true rfl, by exact Nat.le_of_ble_eq_true rfl⟩ rfl hl.1 (cat8 _ (by exact Nat.le_of_ble_eq_true rfl)) dX7_pick_3 rfl (fun H locs _ _ hC => ?_)
    refine fr_aload_n hx hb dX7_pick_6 rfl (lv_at hl 0 rfl) ?_
    refine lv_iload_n hx hb dX7_pick_7 rfl (lv_at hl 1 rfl) ?_
    refine lv_iload_n hx hb dX7_pick_8 rfl (lv_at hl 2 rfl) ?_
    refine lv_iload_n hx hb dX7_pick_9 rfl (lv_at hl 3 rfl) ?_
    refine fr_aload_n hx hb dX7_pick_10 rfl (lv_at hl 0 rfl) ?_
    obtain ⟨x6, g7, hf⟩ := obind hf
    refine fr_get hx hb hts hown K hC ct_7 (fgI_get g7) (by decide) kw297 rfl dX7_pick_11 ?_
    refine fr_null hx hb dX7_pick_14 ?_
    obtain ⟨b10, q11, hf⟩ := obind hf
    obtain ⟨r8, g9, hf⟩ := obind hf
    refine fr_callV hx hb hml hts hown K hC hR ct_7 (c_X7_topAt hfl D cA g9) 5 q11 kw469 kw466 kw468 kw9 kw55 (by decide +kernel) ⟨by exact Nat.le_of_ble_eq_true rfl, by exact Nat.le_of_ble_eq_true rfl⟩ rfl hl.1 (cat8 _ (by exact Nat.le_of_ble_eq_true rfl)) dX7_pick_15 rfl (fun H locs _ _ hC => ?_)
    obtain rfl := Option.some.inj hf
    exact fr_retQ (fr_iret hx hb hr hlocks hC dX7_pick_18)
  · obtain rfl := Option.some.inj hf
    refine fr_callST hx hb hml hts hown K hC hR (c_X7_checkSpot hfl D cA g2) 3 kw907 kw905 kw906 kw55 (by decide +kernel) ⟨by exact Nat.le_of_ble_eq_true rfl, by exact Nat.le_of_ble_eq_true rfl⟩ rfl hl.1 (cat8 _ (by exact Nat.le_of_ble_eq_true rfl)) dX7_pick_3 rfl (fun H locs _ _ q ce hC e1 e2 e3 => ?_)
    exact fr_out (fun x hx9 => (hno x hx9).elim) hlocks hC e1 e2 e3
set_option maxRecDepth 100000 in
theorem c_X7_pick {l : Launch} (hfl : l.stackTraces = false) (D : va_G) (cA : Nat → ClassId) {o : Nat} {p0 : Int32} {p1 : Int32} {p2 : Int32} {h : fSt} {r : ((Int32 ⊕ Nat) × fSt)} (hf : f_X7_pick o p0 p1 p2 h = some r) : fMetX l yX7_pick (wsC yX7_pick cX7_pick 4 (some (.int))) (27) (666) D cA [.ref o, .int p0, .int p1, .int p2] h r.2 (rI r.1) := by
  exact fMetX.of (own := RX7) (by decide +kernel) rfl (lva1 rfl (lva1 rfl (lva1 rfl (lva1 rfl lva0)))) (lgl1 rfl (lgl1 rfl (lgl1 rfl (lgl1 rfl lgl0)))) (Nat.le_of_ble_eq_true rfl) (fun p e s m args below meth c ls hno M hC hl => by
    have hl : lv_has ls 4 [(0, va_rf (some o)), (1, .int p0), (2, .int p1), (3, .int p2)] := hl
    exact w_X7_pick_L0 M hfl hno _ _ _ _ _ hf _ _ _ _ _ hC (lv_sub hl [0, 1, 2, 3] rfl))
set_option maxHeartbeats 4000000 in
set_option maxRecDepth 100000 in
theorem w_L_pick_L0 {p : Program} {l : Launch} {e : Env} {s : State} {m : MethodId} {args : Array Value} {below : List Frame} {meth : Method} {c : Code} {D : va_G} {cA : Nat → ClassId} {h0 : fSt} {r : ((Int32 ⊕ Nat) × fSt)} (M : fM p s m args meth c D cA h0 { frames := 28, cells := fCB h0 - fZ h0, slots := fLB h0 - fL h0, locals := 689 } cL_pick 6 (some (.int)) RL) (hfl : l.stackTraces = false) (hno : c.exceptionTable.toList = tableOf [(0, 12, 15, 15)]) (a0 : Option Nat) (a1 : Int32) (a2 : Int32) (a3 : Int32) (a4 : Option Nat) (h : fSt) (hf : f_L_pick_L0 a0 a1 a2 a3 a4 h = some r) : ∀ (H : Heap) (locs : List Loc) (cells slots : Nat) (ls : Array Slot), fCur D cA s h0 h H locs → lv_has ls 6 [(0, va_rf a0), (1, .int a1), (2, .int a2), (3, .int a3), (4, va_rf a4)] → W p l e { frames := 28, cells := fCB h0 - fZ h0, slots := fLB h0 - fL h0, locals := 689 } s m args below meth c H locs cells slots (vx_MQ below (fQX D cA h0 r.2 (rI r.1)) (fXC D cA h0 r.2 (rI r.1)) args s (fCB h0 - fZ h0) (fLB h0 - fL h0) (fA h0)) (F0 m 0 ls []) := by
  obtain ⟨hx, hb, hml, hr, hlocks, hts, hown, K, hR⟩ := id M
  intro H locs cells slots ls hC hl
  refine fr_aload hx hb dL_pick_0 (lv_at hl 4 rfl) ?_
  refine lv_iconst (v := (0 : Int32)) hx hb dL_pick_2 (by decide) ?_
  refine fr_aload_n hx hb dL_pick_3 rfl (lv_at hl 0 rfl) ?_
  refine lv_iload_n hx hb dL_pick_4 rfl (lv_at hl 1 rfl) ?_
  refine lv_iload_n hx hb dL_pick_5 rfl (lv_at hl 2 rfl) ?_
  refine lv_iload_n hx hb dL_pick_6 rfl (lv_at hl 3 rfl) ?_
  obtain ⟨b3, q4, hf⟩ := obind hf
  obtain ⟨⟨v5 | k6, h7⟩, g2, hf⟩ := obind hf
  · refine fr_callVX hx hb hml hts hown K hC hR ct_7 (c_X7_pick hfl D cA g2) 3 q4 kw916 kw913 kw914 kw915 kw55 (by decide +kernel) ⟨by exact Nat.le_of_ble_eq_true rfl, by exact Nat.le_of_ble_eq_true rfl⟩ rfl hl.1 (cat8 _ (by exact Nat.le_of_ble_eq_true rfl)) dL_pick_7 rfl (fun H locs _ _ hC => ?_)
    refine lv_i2l (v := (Int32.toInt64 v5)) hx hb dL_pick_10 rfl ?_
    obtain ⟨h8, g9, hf⟩ := obind hf
    refine fr_last hx hb K hC (t := 1) rfl g9 dL_pick_11 (fun H locs hC => ?_)
    refine lv_goto (tgt := 19) hx hb dL_pick_12 (by decide) ?_
    refine lv_iconst (v := (0 : Int32)) hx hb dL_pick_19 (by decide) ?_
    obtain rfl := Option.some.inj hf
    exact fr_retQ (fr_iret hx hb hr hlocks hC dL_pick_20)
  · refine fr_callVT hx hb hml hts hown K hC hR ct_7 (c_X7_pick hfl D cA g2) 3 q4 kw916 kw913 kw914 kw915 kw55 (by decide +kernel) ⟨by exact Nat.le_of_ble_eq_true rfl, by exact Nat.le_of_ble_eq_true rfl⟩ rfl hl.1 (cat8 _ (by exact Nat.le_of_ble_eq_true rfl)) dL_pick_7 rfl (fun H locs _ _ q ce hC e1 e2 e3 => ?_)
    by_cases c10 : k6 = 1
    · replace hf := opos c10 hf
      subst c10
      refine fr_catch (k9 := 1) (name := "java/lang/IllegalArgumentException") hts K hown [] ⟨0, 12, 15, 15⟩ [] (by rw [hno]; rfl) (fun z hz => nomatch hz) (by decide) (by decide) kw574 kn495 e1 e2 e3 ?_
      refine fr_astore (lv' := [(5, va_rf (some q)), (0, va_rf a0), (1, .int a1), (2, .int a2), (3, .int a3), (4, va_rf a4)]) hx hb dL_pick_15 hl (by decide) (congrArg (List.cons _) (flk rfl (flk rfl (flk rfl (flk rfl (flk (adj1 _ _) fln)))))) (fun ls hl => ?_)
      refine lv_iconst (v := (1 : Int32)) hx hb dL_pick_17 (by decide) ?_
      obtain rfl := Option.some.inj hf
      exact fr_retQ (fr_iret hx hb hr hlocks hC dL_pick_18)
    replace hf := oneg c10 hf
    exact nomatch hf
set_option maxRecDepth 100000 in
theorem c_L_pick {l : Launch} (hfl : l.stackTraces = false) (D : va_G) (cA : Nat → ClassId) {p0 : Option Nat} {p1 : Int32} {p2 : Int32} {p3 : Int32} {p4 : Option Nat} {h : fSt} {r : ((Int32 ⊕ Nat) × fSt)} (hf : f_L_pick p0 p1 p2 p3 p4 h = some r) : fMetX l yL_pick (wsCH yL_pick cL_pick 6 (some (.int)) [(0, 12, 15, 15)]) (28) (689) D cA [va_rf p0, .int p1, .int p2, .int p3, va_rf p4] h r.2 (rI r.1) := by
  exact fMetX.ofH (own := RL) (by decide +kernel) rfl (lva1 (va_rf_cat _) (lva1 rfl (lva1 rfl (lva1 rfl (lva1 (va_rf_cat _) lva0))))) (lgl1 (va_rf_cat _) (lgl1 rfl (lgl1 rfl (lgl1 rfl (lgl1 (va_rf_cat _) lgl0))))) (Nat.le_of_ble_eq_true rfl) (fun p e s m args below meth c ls hno M hC hl => by
    have hl : lv_has ls 6 [(0, va_rf p0), (1, .int p1), (2, .int p2), (3, .int p3), (4, va_rf p4)] := hl
    exact w_L_pick_L0 M hfl hno _ _ _ _ _ _ hf _ _ _ _ _ hC (lv_sub hl [0, 1, 2, 3, 4] rfl))
set_option maxHeartbeats 4000000 in
set_option maxRecDepth 100000 in
theorem w_X7_pickWithout_L0 {p : Program} {l : Launch} {e : Env} {s : State} {m : MethodId} {args : Array Value} {below : List Frame} {meth : Method} {c : Code} {D : va_G} {cA : Nat → ClassId} {h0 : fSt} {r : ((Int32 ⊕ Nat) × fSt)} (M : fM p s m args meth c D cA h0 { frames := 27, cells := fCB h0 - fZ h0, slots := fLB h0 - fL h0, locals := 666 } cX7_pickWithout 6 (some (.int)) RX7) (hfl : l.stackTraces = false) (hno : ∀ x ∈ c.exceptionTable.toList, False) (a0 : Option Nat) (a1 : Int32) (a2 : Int32) (a3 : Int32) (a4 : Int32) (h : fSt) (hf : f_X7_pickWithout_L0 a0 a1 a2 a3 a4 h = some r) : ∀ (H : Heap) (locs : List Loc) (cells slots : Nat) (ls : Array Slot), fCur D cA s h0 h H locs → lv_has ls 6 [(0, va_rf a0), (1, .int a1), (2, .int a2), (3, .int a3), (4, .int a4)] → W p l e { frames := 27, cells := fCB h0 - fZ h0, slots := fLB h0 - fL h0, locals := 666 } s m args below meth c H locs cells slots (vx_MQ below (fQX D cA h0 r.2 (rI r.1)) (fXC D cA h0 r.2 (rI r.1)) args s (fCB h0 - fZ h0) (fLB h0 - fL h0) (fA h0)) (F0 m 0 ls []) := by
  obtain ⟨hx, hb, hml, hr, hlocks, hts, hown, K, hR⟩ := id M
  intro H locs cells slots ls hC hl
  refine fr_aload_n hx hb dX7_pickWithout_0 rfl (lv_at hl 0 rfl) ?_
  refine lv_iload_n hx hb dX7_pickWithout_1 rfl (lv_at hl 1 rfl) ?_
  obtain ⟨b3, q4, hf⟩ := obind hf
  obtain ⟨⟨v5 | k6, h7⟩, g2, hf⟩ := obind hf
  · refine fr_callVX hx hb hml hts hown K hC hR ct_7 (c_X7_found hfl D cA g2) 1 q4 kw583 kw580 kw582 kw12 kw55 (by decide +kernel) ⟨by exact Nat.le_of_ble_eq_true rfl, by exact Nat.le_of_ble_eq_true rfl⟩ rfl hl.1 (cat8 _ (by exact Nat.le_of_ble_eq_true rfl)) dX7_pickWithout_2 rfl (fun H locs _ _ hC => ?_)
    refine fr_astore (lv' := [(5, va_rf v5), (0, va_rf a0), (1, .int a1), (2, .int a2), (3, .int a3), (4, .int a4)]) hx hb dX7_pickWithout_5 hl (by decide) (congrArg (List.cons _) (flk rfl (flk rfl (flk rfl (flk rfl (flk rfl fln)))))) (fun ls hl => ?_)
    refine lv_iload_n hx hb dX7_pickWithout_7 rfl (lv_at hl 3 rfl) ?_
    refine lv_iload_n hx hb dX7_pickWithout_8 rfl (lv_at hl 4 rfl) ?_
    refine lv_iload hx hb dX7_pickWithout_9 (lv_at hl 5 rfl) ?_
    obtain ⟨⟨v10 | k11, h12⟩, g9, hf⟩ := obind hf
    · refine fr_callSX hx hb hml hts hown K hC hR (c_X7_checkSpot hfl D cA g9) 3 kw907 kw905 kw906 kw55 (by decide +kernel) ⟨by exact Nat.le_of_ble_eq_true rfl, by exact Nat.le_of_ble_eq_true rfl⟩ rfl hl.1 (cat8 _ (by exact Nat.le_of_ble_eq_true rfl)) dX7_pickWithout_11 rfl (fun H locs _ _ hC => ?_)
      refine fr_aload_n hx hb dX7_pickWithout_14 rfl (lv_at hl 1 rfl) ?_
      refine lv_iload_n hx hb dX7_pickWithout_15 rfl (lv_at hl 3 rfl) ?_
      refine lv_iload_n hx hb dX7_pickWithout_16 rfl (lv_at hl 4 rfl) ?_
      refine lv_iload hx hb dX7_pickWithout_17 (lv_at hl 5 rfl) ?_
      refine fr_aload_n hx hb dX7_pickWithout_19 rfl (lv_at hl 1 rfl) ?_
      obtain ⟨x13, g14, hf⟩ := obind hf
      refine fr_get hx hb hts hown K hC ct_7 (fgI_get g14) (by decide) kw297 rfl dX7_pickWithout_20 ?_
      refine fr_aload hx hb dX7_pickWithout_23 (lv_at hl 0 rfl) ?_
      obtain ⟨b17, q18, hf⟩ := obind hf
      obtain ⟨r15, g16, hf⟩ := obind hf
      refine fr_callV hx hb hml hts hown K hC hR ct_7 (c_X7_topAt hfl D cA g16) 5 q18 kw469 kw466 kw468 kw9 kw55 (by decide +kernel) ⟨by exact Nat.le_of_ble_eq_true rfl, by exact Nat.le_of_ble_eq_true rfl⟩ rfl hl.1 (cat8 _ (by exact Nat.le_of_ble_eq_true rfl)) dX7_pickWithout_25 rfl (fun H locs _ _ hC => ?_)
      obtain rfl := Option.some.inj hf
      exact fr_retQ (fr_iret hx hb hr hlocks hC dX7_pickWithout_28)
    · obtain rfl := Option.some.inj hf
      refine fr_callST hx hb hml hts hown K hC hR (c_X7_checkSpot hfl D cA g9) 3 kw907 kw905 kw906 kw55 (by decide +kernel) ⟨by exact Nat.le_of_ble_eq_true rfl, by exact Nat.le_of_ble_eq_true rfl⟩ rfl hl.1 (cat8 _ (by exact Nat.le_of_ble_eq_true rfl)) dX7_pickWithout_11 rfl (fun H locs _ _ q ce hC e1 e2 e3 => ?_)
      exact fr_out (fun x hx9 => (hno x hx9).elim) hlocks hC e1 e2 e3
  · obtain rfl := Option.some.inj hf
    refine fr_callVT hx hb hml hts hown K hC hR ct_7 (c_X7_found hfl D cA g2) 1 q4 kw583 kw580 kw582 kw12 kw55 (by decide +kernel) ⟨by exact Nat.le_of_ble_eq_true rfl, by exact Nat.le_of_ble_eq_true rfl⟩ rfl hl.1 (cat8 _ (by exact Nat.le_of_ble_eq_true rfl)) dX7_pickWithout_2 rfl (fun H locs _ _ q ce hC e1 e2 e3 => ?_)
    exact fr_out (fun x hx9 => (hno x hx9).elim) hlocks hC e1 e2 e3
set_option maxRecDepth 100000 in
theorem c_X7_pickWithout {l : Launch} (hfl : l.stackTraces = false) (D : va_G) (cA : Nat → ClassId) {o : Nat} {p0 : Int32} {p1 : Int32} {p2 : Int32} {p3 : Int32} {h : fSt} {r : ((Int32 ⊕ Nat) × fSt)} (hf : f_X7_pickWithout o p0 p1 p2 p3 h = some r) : fMetX l yX7_pickWithout (wsC yX7_pickWithout cX7_pickWithout 6 (some (.int))) (27) (666) D cA [.ref o, .int p0, .int p1, .int p2, .int p3] h r.2 (rI r.1) := by
  exact fMetX.of (own := RX7) (by decide +kernel) rfl (lva1 rfl (lva1 rfl (lva1 rfl (lva1 rfl (lva1 rfl lva0))))) (lgl1 rfl (lgl1 rfl (lgl1 rfl (lgl1 rfl (lgl1 rfl lgl0))))) (Nat.le_of_ble_eq_true rfl) (fun p e s m args below meth c ls hno M hC hl => by
    have hl : lv_has ls 6 [(0, va_rf (some o)), (1, .int p0), (2, .int p1), (3, .int p2), (4, .int p3)] := hl
    exact w_X7_pickWithout_L0 M hfl hno _ _ _ _ _ _ hf _ _ _ _ _ hC (lv_sub hl [0, 1, 2, 3, 4] rfl))
set_option maxHeartbeats 4000000 in
set_option maxRecDepth 100000 in
theorem w_L_pickWithout_L0 {p : Program} {l : Launch} {e : Env} {s : State} {m : MethodId} {args : Array Value} {below : List Frame} {meth : Method} {c : Code} {D : va_G} {cA : Nat → ClassId} {h0 : fSt} {r : ((Int32 ⊕ Nat) × fSt)} (M : fM p s m args meth c D cA h0 { frames := 28, cells := fCB h0 - fZ h0, slots := fLB h0 - fL h0, locals := 691 } cL_pickWithout 7 (some (.int)) RL) (hfl : l.stackTraces = false) (hno : c.exceptionTable.toList = tableOf [(0, 14, 17, 13), (0, 14, 21, 15)]) (a0 : Option Nat) (a1 : Int32) (a2 : Int32) (a3 : Int32) (a4 : Int32) (a5 : Option Nat) (h : fSt) (hf : f_L_pickWithout_L0 a0 a1 a2 a3 a4 a5 h = some r) : ∀ (H : Heap) (locs : List Loc) (cells slots : Nat) (ls : Array Slot), fCur D cA s h0 h H locs → lv_has ls 7 [(0, va_rf a0), (1, .int a1), (2, .int a2), (3, .int a3), (4, .int a4), (5, va_rf a5)] → W p l e { frames := 28, cells := fCB h0 - fZ h0, slots := fLB h0 - fL h0, locals := 691 } s m args below meth c H locs cells slots (vx_MQ below (fQX D cA h0 r.2 (rI r.1)) (fXC D cA h0 r.2 (rI r.1)) args s (fCB h0 - fZ h0) (fLB h0 - fL h0) (fA h0)) (F0 m 0 ls []) := by
  obtain ⟨hx, hb, hml, hr, hlocks, hts, hown, K, hR⟩ := id M
  intro H locs cells slots ls hC hl
  refine fr_aload hx hb dL_pickWithout_0 (lv_at hl 5 rfl) ?_
  refine lv_iconst (v := (0 : Int32)) hx hb dL_pickWithout_2 (by decide) ?_
  refine fr_aload_n hx hb dL_pickWithout_3 rfl (lv_at hl 0 rfl) ?_
  refine lv_iload_n hx hb dL_pickWithout_4 rfl (lv_at hl 1 rfl) ?_
  refine lv_iload_n hx hb dL_pickWithout_5 rfl (lv_at hl 2 rfl) ?_
  refine lv_iload_n hx hb dL_pickWithout_6 rfl (lv_at hl 3 rfl) ?_
  refine lv_iload hx hb dL_pickWithout_7 (lv_at hl 4 rfl) ?_
  obtain ⟨b3, q4, hf⟩ := obind hf
  obtain ⟨⟨v5 | k6, h7⟩, g2, hf⟩ := obind hf
  · refine fr_callVX hx hb hml hts hown K hC hR ct_7 (c_X7_pickWithout hfl D cA g2) 4 q4 kw941 kw938 kw939 kw940 kw55 (by decide +kernel) ⟨by exact Nat.le_of_ble_eq_true rfl, by exact Nat.le_of_ble_eq_true rfl⟩ rfl hl.1 (cat8 _ (by exact Nat.le_of_ble_eq_true rfl)) dL_pickWithout_9 rfl (fun H locs _ _ hC => ?_)
    refine lv_i2l (v := (Int32.toInt64 v5)) hx hb dL_pickWithout_12 rfl ?_
    obtain ⟨h8, g9, hf⟩ := obind hf
    refine fr_last hx hb K hC (t := 1) rfl g9 dL_pickWithout_13 (fun H locs hC => ?_)
    refine lv_goto (tgt := 25) hx hb dL_pickWithout_14 (by decide) ?_
    refine lv_iconst (v := (0 : Int32)) hx hb dL_pickWithout_25 (by decide) ?_
    obtain rfl := Option.some.inj hf
    exact fr_retQ (fr_iret hx hb hr hlocks hC dL_pickWithout_26)
  · refine fr_callVT hx hb hml hts hown K hC hR ct_7 (c_X7_pickWithout hfl D cA g2) 4 q4 kw941 kw938 kw939 kw940 kw55 (by decide +kernel) ⟨by exact Nat.le_of_ble_eq_true rfl, by exact Nat.le_of_ble_eq_true rfl⟩ rfl hl.1 (cat8 _ (by exact Nat.le_of_ble_eq_true rfl)) dL_pickWithout_9 rfl (fun H locs _ _ q ce hC e1 e2 e3 => ?_)
    by_cases c10 : k6 = 0
    · replace hf := opos c10 hf
      subst c10
      refine fr_catch (k9 := 0) (name := "java/lang/IndexOutOfBoundsException") hts K hown [] ⟨0, 14, 17, 13⟩ [⟨0, 14, 21, 15⟩] (by rw [hno]; rfl) (fun z hz => nomatch hz) (by decide) (by decide) kw573 kn586 e1 e2 e3 ?_
      refine fr_astore (lv' := [(6, va_rf (some q)), (0, va_rf a0), (1, .int a1), (2, .int a2), (3, .int a3), (4, .int a4), (5, va_rf a5)]) hx hb dL_pickWithout_17 hl (by decide) (congrArg (List.cons _) (flk rfl (flk rfl (flk rfl (flk rfl (flk rfl (flk (adj1 _ _) fln))))))) (fun ls hl => ?_)
      refine lv_iconst (v := (1 : Int32)) hx hb dL_pickWithout_19 (by decide) ?_
      obtain rfl := Option.some.inj hf
      exact fr_retQ (fr_iret hx hb hr hlocks hC dL_pickWithout_20)
    replace hf := oneg c10 hf
    by_cases c12 : k6 = 1
    · replace hf := opos c12 hf
      subst c12
      refine fr_catch (k9 := 1) (name := "java/lang/IllegalArgumentException") hts K hown [⟨0, 14, 17, 13⟩] ⟨0, 14, 21, 15⟩ [] (by rw [hno]; rfl) (all1 ⟨by decide, _, kw573, by decide +kernel⟩) (by decide) (by decide) kw574 kn495 e1 e2 e3 ?_
      refine fr_astore (lv' := [(6, va_rf (some q)), (0, va_rf a0), (1, .int a1), (2, .int a2), (3, .int a3), (4, .int a4), (5, va_rf a5)]) hx hb dL_pickWithout_21 hl (by decide) (congrArg (List.cons _) (flk rfl (flk rfl (flk rfl (flk rfl (flk rfl (flk (adj1 _ _) fln))))))) (fun ls hl => ?_)
      refine lv_iconst (v := (2 : Int32)) hx hb dL_pickWithout_23 (by decide) ?_
      obtain rfl := Option.some.inj hf
      exact fr_retQ (fr_iret hx hb hr hlocks hC dL_pickWithout_24)
    replace hf := oneg c12 hf
    exact nomatch hf
set_option maxRecDepth 100000 in
theorem c_L_pickWithout {l : Launch} (hfl : l.stackTraces = false) (D : va_G) (cA : Nat → ClassId) {p0 : Option Nat} {p1 : Int32} {p2 : Int32} {p3 : Int32} {p4 : Int32} {p5 : Option Nat} {h : fSt} {r : ((Int32 ⊕ Nat) × fSt)} (hf : f_L_pickWithout p0 p1 p2 p3 p4 p5 h = some r) : fMetX l yL_pickWithout (wsCH yL_pickWithout cL_pickWithout 7 (some (.int)) [(0, 14, 17, 13), (0, 14, 21, 15)]) (28) (691) D cA [va_rf p0, .int p1, .int p2, .int p3, .int p4, va_rf p5] h r.2 (rI r.1) := by
  exact fMetX.ofH (own := RL) (by decide +kernel) rfl (lva1 (va_rf_cat _) (lva1 rfl (lva1 rfl (lva1 rfl (lva1 rfl (lva1 (va_rf_cat _) lva0)))))) (lgl1 (va_rf_cat _) (lgl1 rfl (lgl1 rfl (lgl1 rfl (lgl1 rfl (lgl1 (va_rf_cat _) lgl0)))))) (Nat.le_of_ble_eq_true rfl) (fun p e s m args below meth c ls hno M hC hl => by
    have hl : lv_has ls 7 [(0, va_rf p0), (1, .int p1), (2, .int p2), (3, .int p3), (4, .int p4), (5, va_rf p5)] := hl
    exact w_L_pickWithout_L0 M hfl hno _ _ _ _ _ _ _ hf _ _ _ _ _ hC (lv_sub hl [0, 1, 2, 3, 4, 5] rfl))
set_option maxHeartbeats 4000000 in
set_option maxRecDepth 100000 in
theorem w_X7_placeOf_L0 {p : Program} {l : Launch} {e : Env} {s : State} {m : MethodId} {args : Array Value} {below : List Frame} {meth : Method} {c : Code} {D : va_G} {cA : Nat → ClassId} {h0 : fSt} {r : ((Int32 ⊕ Nat) × fSt)} (M : fM p s m args meth c D cA h0 { frames := 7, cells := fCB h0 - fZ h0, slots := fLB h0 - fL h0, locals := 112 } cX7_placeOf 2 (some (.int)) RX7) (hfl : l.stackTraces = false) (hno : ∀ x ∈ c.exceptionTable.toList, False) (a0 : Option Nat) (a1 : Int32) (h : fSt) (hf : f_X7_placeOf_L0 a0 a1 h = some r) : ∀ (H : Heap) (locs : List Loc) (cells slots : Nat) (ls : Array Slot), fCur D cA s h0 h H locs → lv_has ls 2 [(0, va_rf a0), (1, .int a1)] → W p l e { frames := 7, cells := fCB h0 - fZ h0, slots := fLB h0 - fL h0, locals := 112 } s m args below meth c H locs cells slots (vx_MQ below (fQX D cA h0 r.2 (rI r.1)) (fXC D cA h0 r.2 (rI r.1)) args s (fCB h0 - fZ h0) (fLB h0 - fL h0) (fA h0)) (F0 m 0 ls []) := by
  obtain ⟨hx, hb, hml, hr, hlocks, hts, hown, K, hR⟩ := id M
  intro H locs cells slots ls hC hl
  refine fr_aload_n hx hb dX7_placeOf_0 rfl (lv_at hl 0 rfl) ?_
  refine lv_iload_n hx hb dX7_placeOf_1 rfl (lv_at hl 1 rfl) ?_
  obtain ⟨b3, q4, hf⟩ := obind hf
  obtain ⟨⟨v5 | k6, h7⟩, g2, hf⟩ := obind hf
  · refine fr_callVX hx hb hml hts hown K hC hR ct_7 (c_X7_found hfl D cA g2) 1 q4 kw583 kw580 kw582 kw12 kw55 (by decide +kernel) ⟨by exact Nat.le_of_ble_eq_true rfl, by exact Nat.le_of_ble_eq_true rfl⟩ rfl hl.1 (cat8 _ (by exact Nat.le_of_ble_eq_true rfl)) dX7_placeOf_2 rfl (fun H locs _ _ hC => ?_)
    obtain ⟨x8, g9, hf⟩ := obind hf
    refine fr_get hx hb hts hown K hC ct_4 (fgI_get g9) (by decide) kw190 rfl dX7_placeOf_5 ?_
    obtain rfl := Option.some.inj hf
    exact fr_retQ (fr_iret hx hb hr hlocks hC dX7_placeOf_8)
  · obtain rfl := Option.some.inj hf
    refine fr_callVT hx hb hml hts hown K hC hR ct_7 (c_X7_found hfl D cA g2) 1 q4 kw583 kw580 kw582 kw12 kw55 (by decide +kernel) ⟨by exact Nat.le_of_ble_eq_true rfl, by exact Nat.le_of_ble_eq_true rfl⟩ rfl hl.1 (cat8 _ (by exact Nat.le_of_ble_eq_true rfl)) dX7_placeOf_2 rfl (fun H locs _ _ q ce hC e1 e2 e3 => ?_)
    exact fr_out (fun x hx9 => (hno x hx9).elim) hlocks hC e1 e2 e3
set_option maxRecDepth 100000 in
theorem c_X7_placeOf {l : Launch} (hfl : l.stackTraces = false) (D : va_G) (cA : Nat → ClassId) {o : Nat} {p0 : Int32} {h : fSt} {r : ((Int32 ⊕ Nat) × fSt)} (hf : f_X7_placeOf o p0 h = some r) : fMetX l yX7_placeOf (wsC yX7_placeOf cX7_placeOf 2 (some (.int))) (7) (112) D cA [.ref o, .int p0] h r.2 (rI r.1) := by
  exact fMetX.of (own := RX7) (by decide +kernel) rfl (lva1 rfl (lva1 rfl lva0)) (lgl1 rfl (lgl1 rfl lgl0)) (Nat.le_of_ble_eq_true rfl) (fun p e s m args below meth c ls hno M hC hl => by
    have hl : lv_has ls 2 [(0, va_rf (some o)), (1, .int p0)] := hl
    exact w_X7_placeOf_L0 M hfl hno _ _ _ hf _ _ _ _ _ hC (lv_sub hl [0, 1] rfl))
set_option maxHeartbeats 4000000 in
set_option maxRecDepth 100000 in
theorem w_L_placeOf_L0 {p : Program} {l : Launch} {e : Env} {s : State} {m : MethodId} {args : Array Value} {below : List Frame} {meth : Method} {c : Code} {D : va_G} {cA : Nat → ClassId} {h0 : fSt} {r : ((Int32 ⊕ Nat) × fSt)} (M : fM p s m args meth c D cA h0 { frames := 8, cells := fCB h0 - fZ h0, slots := fLB h0 - fL h0, locals := 133 } cL_placeOf 4 (some (.int)) RL) (hfl : l.stackTraces = false) (hno : c.exceptionTable.toList = tableOf [(0, 9, 12, 13)]) (a0 : Option Nat) (a1 : Int32) (a2 : Option Nat) (h : fSt) (hf : f_L_placeOf_L0 a0 a1 a2 h = some r) : ∀ (H : Heap) (locs : List Loc) (cells slots : Nat) (ls : Array Slot), fCur D cA s h0 h H locs → lv_has ls 4 [(0, va_rf a0), (1, .int a1), (2, va_rf a2)] → W p l e { frames := 8, cells := fCB h0 - fZ h0, slots := fLB h0 - fL h0, locals := 133 } s m args below meth c H locs cells slots (vx_MQ below (fQX D cA h0 r.2 (rI r.1)) (fXC D cA h0 r.2 (rI r.1)) args s (fCB h0 - fZ h0) (fLB h0 - fL h0) (fA h0)) (F0 m 0 ls []) := by
  obtain ⟨hx, hb, hml, hr, hlocks, hts, hown, K, hR⟩ := id M
  intro H locs cells slots ls hC hl
  refine fr_aload_n hx hb dL_placeOf_0 rfl (lv_at hl 2 rfl) ?_
  refine lv_iconst (v := (0 : Int32)) hx hb dL_placeOf_1 (by decide) ?_
  refine fr_aload_n hx hb dL_placeOf_2 rfl (lv_at hl 0 rfl) ?_
  refine lv_iload_n hx hb dL_placeOf_3 rfl (lv_at hl 1 rfl) ?_
  obtain ⟨b3, q4, hf⟩ := obind hf
  obtain ⟨⟨v5 | k6, h7⟩, g2, hf⟩ := obind hf
  · refine fr_callVX hx hb hml hts hown K hC hR ct_7 (c_X7_placeOf hfl D cA g2) 1 q4 kw897 kw894 kw895 kw896 kw55 (by decide +kernel) ⟨by exact Nat.le_of_ble_eq_true rfl, by exact Nat.le_of_ble_eq_true rfl⟩ rfl hl.1 (cat8 _ (by exact Nat.le_of_ble_eq_true rfl)) dL_placeOf_4 rfl (fun H locs _ _ hC => ?_)
    refine lv_i2l (v := (Int32.toInt64 v5)) hx hb dL_placeOf_7 rfl ?_
    obtain ⟨h8, g9, hf⟩ := obind hf
    refine fr_last hx hb K hC (t := 1) rfl g9 dL_placeOf_8 (fun H locs hC => ?_)
    refine lv_goto (tgt := 15) hx hb dL_placeOf_9 (by decide) ?_
    refine lv_iconst (v := (0 : Int32)) hx hb dL_placeOf_15 (by decide) ?_
    obtain rfl := Option.some.inj hf
    exact fr_retQ (fr_iret hx hb hr hlocks hC dL_placeOf_16)
  · refine fr_callVT hx hb hml hts hown K hC hR ct_7 (c_X7_placeOf hfl D cA g2) 1 q4 kw897 kw894 kw895 kw896 kw55 (by decide +kernel) ⟨by exact Nat.le_of_ble_eq_true rfl, by exact Nat.le_of_ble_eq_true rfl⟩ rfl hl.1 (cat8 _ (by exact Nat.le_of_ble_eq_true rfl)) dL_placeOf_4 rfl (fun H locs _ _ q ce hC e1 e2 e3 => ?_)
    by_cases c10 : k6 = 0
    · replace hf := opos c10 hf
      subst c10
      refine fr_catch (k9 := 0) (name := "java/lang/IndexOutOfBoundsException") hts K hown [] ⟨0, 9, 12, 13⟩ [] (by rw [hno]; rfl) (fun z hz => nomatch hz) (by decide) (by decide) kw573 kn586 e1 e2 e3 ?_
      refine fr_astore_n (lv' := [(3, va_rf (some q)), (0, va_rf a0), (1, .int a1), (2, va_rf a2)]) hx hb dL_placeOf_12 rfl hl (by decide) (congrArg (List.cons _) (flk rfl (flk rfl (flk (adj1 _ _) fln)))) (fun ls hl => ?_)
      refine lv_iconst (v := (1 : Int32)) hx hb dL_placeOf_13 (by decide) ?_
      obtain rfl := Option.some.inj hf
      exact fr_retQ (fr_iret hx hb hr hlocks hC dL_placeOf_14)
    replace hf := oneg c10 hf
    exact nomatch hf
set_option maxRecDepth 100000 in
theorem c_L_placeOf {l : Launch} (hfl : l.stackTraces = false) (D : va_G) (cA : Nat → ClassId) {p0 : Option Nat} {p1 : Int32} {p2 : Option Nat} {h : fSt} {r : ((Int32 ⊕ Nat) × fSt)} (hf : f_L_placeOf p0 p1 p2 h = some r) : fMetX l yL_placeOf (wsCH yL_placeOf cL_placeOf 4 (some (.int)) [(0, 9, 12, 13)]) (8) (133) D cA [va_rf p0, .int p1, va_rf p2] h r.2 (rI r.1) := by
  exact fMetX.ofH (own := RL) (by decide +kernel) rfl (lva1 (va_rf_cat _) (lva1 rfl (lva1 (va_rf_cat _) lva0))) (lgl1 (va_rf_cat _) (lgl1 rfl (lgl1 (va_rf_cat _) lgl0))) (Nat.le_of_ble_eq_true rfl) (fun p e s m args below meth c ls hno M hC hl => by
    have hl : lv_has ls 4 [(0, va_rf p0), (1, .int p1), (2, va_rf p2)] := hl
    exact w_L_placeOf_L0 M hfl hno _ _ _ _ hf _ _ _ _ _ hC (lv_sub hl [0, 1, 2] rfl))
set_option maxHeartbeats 4000000 in
set_option maxRecDepth 100000 in
theorem w_X6_endTrack_L0 {p : Program} {l : Launch} {e : Env} {s : State} {m : MethodId} {args : Array Value} {below : List Frame} {meth : Method} {c : Code} {D : va_G} {cA : Nat → ClassId} {h0 : fSt} {r : (Unit × fSt)} (M : fM p s m args meth c D cA h0 { frames := 0, cells := fCB h0 - fZ h0, slots := fLB h0 - fL h0, locals := 0 } cX6_endTrack 1 none RX6) (hfl : l.stackTraces = false) (a0 : Option Nat) (h : fSt) (hf : f_X6_endTrack_L0 a0 h = some r) : ∀ (H : Heap) (locs : List Loc) (cells slots : Nat) (ls : Array Slot), fCur D cA s h0 h H locs → lv_has ls 1 [(0, va_rf a0)] → W p l e { frames := 0, cells := fCB h0 - fZ h0, slots := fLB h0 - fL h0, locals := 0 } s m args below meth c H locs cells slots (MQ below (fQ D cA h0 r.2 none) args s (fCB h0 - fZ h0) (fLB h0 - fL h0) (fA h0)) (F0 m 0 ls []) := by
  obtain ⟨hx, hb, hml, hr, hlocks, hts, hown, K, hR⟩ := id M
  intro H locs cells slots ls hC hl
  refine fr_aload_n hx hb dX6_endTrack_0 rfl (lv_at hl 0 rfl) ?_
  refine lv_iconst (v := (1 : Int32)) hx hb dX6_endTrack_1 (by decide) ?_
  obtain ⟨h1, g2, hf⟩ := obind hf
  obtain ⟨z3, g2⟩ := fputZ_inv g2
  refine fr_put hx hb hts hown K hC ct_6 g2 (by decide) kw100 rfl rfl (nZ z3) (fZ9 z3) dX6_endTrack_2 (fun H locs hC => ?_)
  refine fr_aload_n hx hb dX6_endTrack_5 rfl (lv_at hl 0 rfl) ?_
  refine fr_null hx hb dX6_endTrack_6 ?_
  obtain ⟨h4, g5, hf⟩ := obind hf
  refine fr_put hx hb hts hown K hC ct_6 g5 (by decide) kw106 rfl rfl (nR _ _) (fR _ _) dX6_endTrack_7 (fun H locs hC => ?_)
  refine fr_aload_n hx hb dX6_endTrack_10 rfl (lv_at hl 0 rfl) ?_
  refine lv_iconst (v := (0 : Int32)) hx hb dX6_endTrack_11 (by decide) ?_
  obtain ⟨h6, g7, hf⟩ := obind hf
  refine fr_put hx hb hts hown K hC ct_6 g7 (by decide) kw107 rfl rfl rfl rfl dX6_endTrack_12 (fun H locs hC => ?_)
  obtain rfl := Option.some.inj hf
  exact fr_vret hx hb hr hlocks hC dX6_endTrack_15
set_option maxRecDepth 100000 in
theorem c_X6_endTrack {l : Launch} (hfl : l.stackTraces = false) (D : va_G) (cA : Nat → ClassId) {o : Nat} {h : fSt} {r : (Unit × fSt)} (hf : f_X6_endTrack o h = some r) : fMet l yX6_endTrack (wsC yX6_endTrack cX6_endTrack 1 none) (0) (0) D cA [.ref o] h r.2 none := by
  exact fMet.of (own := RX6) (by decide +kernel) rfl (lva1 rfl lva0) (lgl1 rfl lgl0) (Nat.le_of_ble_eq_true rfl) (fun p e s m args below meth c ls hnm _ M hC hl => by
    have hl : lv_has ls 1 [(0, va_rf (some o))] := hl
    exact w_X6_endTrack_L0 M hfl _ _ hf _ _ _ _ _ hC (lv_sub hl [0] rfl))
set_option maxHeartbeats 4000000 in
set_option maxRecDepth 100000 in
theorem w_X4_vanish_L0 {p : Program} {l : Launch} {e : Env} {s : State} {m : MethodId} {args : Array Value} {below : List Frame} {meth : Method} {c : Code} {D : va_G} {cA : Nat → ClassId} {h0 : fSt} {r : (Unit × fSt)} (M : fM p s m args meth c D cA h0 { frames := 1, cells := fCB h0 - fZ h0, slots := fLB h0 - fL h0, locals := 20 } cX4_vanish 1 none RX4) (hfl : l.stackTraces = false) (a0 : Option Nat) (h : fSt) (hf : f_X4_vanish_L0 a0 h = some r) : ∀ (H : Heap) (locs : List Loc) (cells slots : Nat) (ls : Array Slot), fCur D cA s h0 h H locs → lv_has ls 1 [(0, va_rf a0)] → W p l e { frames := 1, cells := fCB h0 - fZ h0, slots := fLB h0 - fL h0, locals := 20 } s m args below meth c H locs cells slots (MQ below (fQ D cA h0 r.2 none) args s (fCB h0 - fZ h0) (fLB h0 - fL h0) (fA h0)) (F0 m 0 ls []) := by
  obtain ⟨hx, hb, hml, hr, hlocks, hts, hown, K, hR⟩ := id M
  intro H locs cells slots ls hC hl
  refine fr_aload_n hx hb dX4_vanish_0 rfl (lv_at hl 0 rfl) ?_
  refine lv_iconst (v := (1 : Int32)) hx hb dX4_vanish_1 (by decide) ?_
  obtain ⟨h1, g2, hf⟩ := obind hf
  obtain ⟨z3, g2⟩ := fputZ_inv g2
  refine fr_put hx hb hts hown K hC ct_4 g2 (by decide) kw181 rfl rfl (nZ z3) (fZ9 z3) dX4_vanish_2 (fun H locs hC => ?_)
  refine fr_aload_n hx hb dX4_vanish_5 rfl (lv_at hl 0 rfl) ?_
  obtain ⟨x4, g5, hf⟩ := obind hf
  refine fr_get hx hb hts hown K hC ct_4 (fgR_get g5) (by decide) kw157 rfl dX4_vanish_6 ?_
  obtain ⟨b8, q9, hf⟩ := obind hf
  obtain ⟨r6, g7, hf⟩ := obind hf
  refine fr_callV hx hb hml hts hown K hC hR ct_6 (c_X6_endTrack hfl D cA g7) 0 q9 kw653 kw650 kw651 kw652 kw57 (by decide +kernel) ⟨by exact Nat.le_of_ble_eq_true rfl, by exact Nat.le_of_ble_eq_true rfl⟩ rfl hl.1 (cat8 _ (by exact Nat.le_of_ble_eq_true rfl)) dX4_vanish_9 rfl (fun H locs _ _ hC => ?_)
  refine fr_aload_n hx hb dX4_vanish_12 rfl (lv_at hl 0 rfl) ?_
  obtain ⟨x10, g11, hf⟩ := obind hf
  refine fr_get hx hb hts hown K hC ct_4 (fgR_get g11) (by decide) kw160 rfl dX4_vanish_13 ?_
  obtain ⟨b14, q15, hf⟩ := obind hf
  obtain ⟨r12, g13, hf⟩ := obind hf
  refine fr_callV hx hb hml hts hown K hC hR ct_6 (c_X6_endTrack hfl D cA g13) 0 q15 kw653 kw650 kw651 kw652 kw57 (by decide +kernel) ⟨by exact Nat.le_of_ble_eq_true rfl, by exact Nat.le_of_ble_eq_true rfl⟩ rfl hl.1 (cat8 _ (by exact Nat.le_of_ble_eq_true rfl)) dX4_vanish_16 rfl (fun H locs _ _ hC => ?_)
  refine fr_aload_n hx hb dX4_vanish_19 rfl (lv_at hl 0 rfl) ?_
  obtain ⟨x16, g17, hf⟩ := obind hf
  refine fr_get hx hb hts hown K hC ct_4 (fgR_get g17) (by decide) kw163 rfl dX4_vanish_20 ?_
  obtain ⟨b20, q21, hf⟩ := obind hf
  obtain ⟨r18, g19, hf⟩ := obind hf
  refine fr_callV hx hb hml hts hown K hC hR ct_6 (c_X6_endTrack hfl D cA g19) 0 q21 kw653 kw650 kw651 kw652 kw57 (by decide +kernel) ⟨by exact Nat.le_of_ble_eq_true rfl, by exact Nat.le_of_ble_eq_true rfl⟩ rfl hl.1 (cat8 _ (by exact Nat.le_of_ble_eq_true rfl)) dX4_vanish_23 rfl (fun H locs _ _ hC => ?_)
  refine fr_aload_n hx hb dX4_vanish_26 rfl (lv_at hl 0 rfl) ?_
  obtain ⟨x22, g23, hf⟩ := obind hf
  refine fr_get hx hb hts hown K hC ct_4 (fgR_get g23) (by decide) kw166 rfl dX4_vanish_27 ?_
  obtain ⟨b26, q27, hf⟩ := obind hf
  obtain ⟨r24, g25, hf⟩ := obind hf
  refine fr_callV hx hb hml hts hown K hC hR ct_6 (c_X6_endTrack hfl D cA g25) 0 q27 kw653 kw650 kw651 kw652 kw57 (by decide +kernel) ⟨by exact Nat.le_of_ble_eq_true rfl, by exact Nat.le_of_ble_eq_true rfl⟩ rfl hl.1 (cat8 _ (by exact Nat.le_of_ble_eq_true rfl)) dX4_vanish_30 rfl (fun H locs _ _ hC => ?_)
  obtain rfl := Option.some.inj hf
  exact fr_vret hx hb hr hlocks hC dX4_vanish_33
set_option maxRecDepth 100000 in
theorem c_X4_vanish {l : Launch} (hfl : l.stackTraces = false) (D : va_G) (cA : Nat → ClassId) {o : Nat} {h : fSt} {r : (Unit × fSt)} (hf : f_X4_vanish o h = some r) : fMet l yX4_vanish (wsC yX4_vanish cX4_vanish 1 none) (1) (20) D cA [.ref o] h r.2 none := by
  exact fMet.of (own := RX4) (by decide +kernel) rfl (lva1 rfl lva0) (lgl1 rfl lgl0) (Nat.le_of_ble_eq_true rfl) (fun p e s m args below meth c ls hnm _ M hC hl => by
    have hl : lv_has ls 1 [(0, va_rf (some o))] := hl
    exact w_X4_vanish_L0 M hfl _ _ hf _ _ _ _ _ hC (lv_sub hl [0] rfl))
set_option maxHeartbeats 4000000 in
set_option maxRecDepth 100000 in
theorem w_X7_remove_L36 {p : Program} {l : Launch} {e : Env} {s : State} {m : MethodId} {args : Array Value} {below : List Frame} {meth : Method} {c : Code} {D : va_G} {cA : Nat → ClassId} {h0 : fSt} {r : ((Int32 ⊕ Nat) × fSt)} (M : fM p s m args meth c D cA h0 { frames := 18, cells := fCB h0 - fZ h0, slots := fLB h0 - fL h0, locals := 426 } cX7_remove 5 (some (.int)) RX7) (hfl : l.stackTraces = false) (hno : ∀ x ∈ c.exceptionTable.toList, False) {k14 : Option Nat → Option Nat → Int32 → Option Nat → fSt → Option ((Int32 ⊕ Nat) × fSt)} (hk14 : ∀ (a0 : Option Nat) (a2 : Option Nat) (a3 : Int32) (a4 : Option Nat) (h : fSt), k14 a0 a2 a3 a4 h = some r → ∀ (H : Heap) (locs : List Loc) (cells slots : Nat) (ls : Array Slot), fCur D cA s h0 h H locs → lv_has ls 5 [(0, va_rf a0), (2, va_rf a2), (3, .int a3), (4, va_rf a4)] → W p l e { frames := 18, cells := fCB h0 - fZ h0, slots := fLB h0 - fL h0, locals := 426 } s m args below meth c H locs cells slots (vx_MQ below (fQX D cA h0 r.2 (rI r.1)) (fXC D cA h0 r.2 (rI r.1)) args s (fCB h0 - fZ h0) (fLB h0 - fL h0) (fA h0)) (F0 m 14 ls [])) (a0 : Option Nat) (a2 : Option Nat) (a3 : Int32) (a4 : Option Nat) (h : fSt) (hf : f_X7_remove_L36 k14 a0 a2 a3 a4 h = some r) : ∀ (H : Heap) (locs : List Loc) (cells slots : Nat) (ls : Array Slot), fCur D cA s h0 h H locs → lv_has ls 5 [(0, va_rf a0), (2, va_rf a2), (3, .int a3), (4, va_rf a4)] → W p l e { frames := 18, cells := fCB h0 - fZ h0, slots := fLB h0 - fL h0, locals := 426 } s m args below meth c H locs cells slots (vx_MQ below (fQX D cA h0 r.2 (rI r.1)) (fXC D cA h0 r.2 (rI r.1)) args s (fCB h0 - fZ h0) (fLB h0 - fL h0) (fA h0)) (F0 m 36 ls []) := by
  obtain ⟨hx, hb, hml, hr, hlocks, hts, hown, K, hR⟩ := id M
  intro H locs cells slots ls hC hl
  refine fr_aload hx hb dX7_remove_36 (lv_at hl 3 rfl) ?_
  obtain ⟨x1, g2, hf⟩ := obind hf
  refine fr_get hx hb hts hown K hC ct_4 (fgR_get g2) (by decide) kw189 rfl dX7_remove_38 ?_
  refine fr_astore (lv' := [(4, va_rf x1), (0, va_rf a0), (2, va_rf a2), (3, .int a3)]) hx hb dX7_remove_41 hl (by decide) (congrArg (List.cons _) (flk rfl (flk rfl (flk rfl (fld rfl fln))))) (fun ls hl => ?_)
  refine lv_goto (tgt := 14) hx hb dX7_remove_43 (by decide) ?_
  exact hk14 _ _ _ _ _ hf _ _ _ _ _ hC (lv_sub hl [1, 2, 3, 0] rfl)
set_option maxHeartbeats 4000000 in
set_option maxRecDepth 100000 in
theorem w_X7_remove_L14 {p : Program} {l : Launch} {e : Env} {s : State} {m : MethodId} {args : Array Value} {below : List Frame} {meth : Method} {c : Code} {D : va_G} {cA : Nat → ClassId} {h0 : fSt} {r : ((Int32 ⊕ Nat) × fSt)} (M : fM p s m args meth c D cA h0 { frames := 18, cells := fCB h0 - fZ h0, slots := fLB h0 - fL h0, locals := 426 } cX7_remove 5 (some (.int)) RX7) (hfl : l.stackTraces = false) (hno : ∀ x ∈ c.exceptionTable.toList, False) : ∀ (n : Nat) (a0 : Option Nat) (a2 : Option Nat) (a3 : Int32) (a4 : Option Nat) (h : fSt), f_X7_remove_L14 n a0 a2 a3 a4 h = some r → ∀ (H : Heap) (locs : List Loc) (cells slots : Nat) (ls : Array Slot), fCur D cA s h0 h H locs → lv_has ls 5 [(0, va_rf a0), (2, va_rf a2), (3, .int a3), (4, va_rf a4)] → W p l e { frames := 18, cells := fCB h0 - fZ h0, slots := fLB h0 - fL h0, locals := 426 } s m args below meth c H locs cells slots (vx_MQ below (fQX D cA h0 r.2 (rI r.1)) (fXC D cA h0 r.2 (rI r.1)) args s (fCB h0 - fZ h0) (fLB h0 - fL h0) (fA h0)) (F0 m 14 ls []) := by
  obtain ⟨hx, hb, hml, hr, hlocks, hts, hown, K, hR⟩ := id M
  intro n
  induction n with
  | zero =>
    intro a0 a2 a3 a4 h hf
    exact nomatch (show (none : Option ((Int32 ⊕ Nat) × fSt)) = some r from hf)
  | succ n hk14 =>
    intro a0 a2 a3 a4 h hf H locs cells slots ls hC hl
    refine fr_aload hx hb dX7_remove_14 (lv_at hl 3 rfl) ?_
    refine fr_ifnull (tgt := 46) hx hb dX7_remove_16 (by decide) (fun c3 => ?_) (fun c3 => ?_)
    · replace hf := opos c3 hf
      refine fr_aload_n hx hb dX7_remove_46 rfl (lv_at hl 1 rfl) ?_
      obtain ⟨b6, q7, hf⟩ := obind hf
      obtain ⟨r4, g5, hf⟩ := obind hf
      refine fr_callV hx hb hml hts hown K hC hR ct_4 (c_X4_leaveParent hfl D cA g5) 0 q7 kw657 kw654 kw655 kw656 kw56 (by decide +kernel) ⟨by exact Nat.le_of_ble_eq_true rfl, by exact Nat.le_of_ble_eq_true rfl⟩ rfl hl.1 (cat8 _ (by exact Nat.le_of_ble_eq_true rfl)) dX7_remove_47 rfl (fun H locs _ _ hC => ?_)
      refine fr_aload_n hx hb dX7_remove_50 rfl (lv_at hl 0 rfl) ?_
      obtain ⟨b10, q11, hf⟩ := obind hf
      obtain ⟨r8, g9, hf⟩ := obind hf
      refine fr_callV hx hb hml hts hown K hC hR ct_7 (c_X7_layOrder hfl D cA g9) 0 q11 kw625 kw622 kw624 kw13 kw55 (by decide +kernel) ⟨by exact Nat.le_of_ble_eq_true rfl, by exact Nat.le_of_ble_eq_true rfl⟩ rfl hl.1 (cat8 _ (by exact Nat.le_of_ble_eq_true rfl)) dX7_remove_51 rfl (fun H locs _ _ hC => ?_)
      refine lv_iload_n hx hb dX7_remove_54 rfl (lv_at hl 2 rfl) ?_
      obtain rfl := Option.some.inj hf
      exact fr_retQ (fr_iret hx hb hr hlocks hC dX7_remove_55)
    · replace hf := oneg c3 hf
      refine fr_aload hx hb dX7_remove_19 (lv_at hl 3 rfl) ?_
      refine fr_aload_n hx hb dX7_remove_21 rfl (lv_at hl 1 rfl) ?_
      obtain ⟨b14, q15, hf⟩ := obind hf
      obtain ⟨r12, g13, hf⟩ := obind hf
      refine fr_callV hx hb hml hts hown K hC hR ct_4 (c_X4_isWithin hfl D cA g13) 1 q15 kw448 kw445 kw446 kw447 kw56 (by decide +kernel) ⟨by exact Nat.le_of_ble_eq_true rfl, by exact Nat.le_of_ble_eq_true rfl⟩ rfl hl.1 (cat8 _ (by exact Nat.le_of_ble_eq_true rfl)) dX7_remove_22 rfl (fun H locs _ _ hC => ?_)
      refine lv_if_eq (tgt := 36) hx hb dX7_remove_25 (by decide) (fun c16 => ?_) (fun c16 => ?_)
      · replace hf := opos c16 hf
        exact w_X7_remove_L36 M hfl hno hk14 _ _ _ _ _ hf _ _ _ _ _ hC (lv_sub hl [0, 1, 2, 3] rfl)
      · replace hf := oneg c16 hf
        refine fr_aload hx hb dX7_remove_28 (lv_at hl 3 rfl) ?_
        obtain ⟨b19, q20, hf⟩ := obind hf
        obtain ⟨r17, g18, hf⟩ := obind hf
        refine fr_callV hx hb hml hts hown K hC hR ct_4 (c_X4_vanish hfl D cA g18) 0 q20 kw649 kw646 kw647 kw648 kw56 (by decide +kernel) ⟨by exact Nat.le_of_ble_eq_true rfl, by exact Nat.le_of_ble_eq_true rfl⟩ rfl hl.1 (cat8 _ (by exact Nat.le_of_ble_eq_true rfl)) dX7_remove_30 rfl (fun H locs _ _ hC => ?_)
        refine lv_iinc (v := (a3 + (1 : Int32))) (lv' := [(3, .int (a3 + (1 : Int32))), (0, va_rf a0), (2, va_rf a2), (4, va_rf a4)]) hx hb dX7_remove_33 hl (k := 2) rfl rfl (by decide) (congrArg (List.cons _) (flk rfl (flk (adj1 _ _) (fld rfl (flk rfl fln))))) (fun ls hl => ?_)
        exact w_X7_remove_L36 M hfl hno hk14 _ _ _ _ _ hf _ _ _ _ _ hC (lv_sub hl [1, 2, 0, 3] rfl)
set_option maxHeartbeats 4000000 in
set_option maxRecDepth 100000 in
theorem w_X7_remove_L0 {p : Program} {l : Launch} {e : Env} {s : State} {m : MethodId} {args : Array Value} {below : List Frame} {meth : Method} {c : Code} {D : va_G} {cA : Nat → ClassId} {h0 : fSt} {r : ((Int32 ⊕ Nat) × fSt)} (M : fM p s m args meth c D cA h0 { frames := 18, cells := fCB h0 - fZ h0, slots := fLB h0 - fL h0, locals := 426 } cX7_remove 5 (some (.int)) RX7) (hfl : l.stackTraces = false) (hno : ∀ x ∈ c.exceptionTable.toList, False) (a0 : Option Nat) (a1 : Int32) (h : fSt) (hf : f_X7_remove_L0 a0 a1 h = some r) : ∀ (H : Heap) (locs : List Loc) (cells slots : Nat) (ls : Array Slot), fCur D cA s h0 h H locs → lv_has ls 5 [(0, va_rf a0), (1, .int a1)] → W p l e { frames := 18, cells := fCB h0 - fZ h0, slots := fLB h0 - fL h0, locals := 426 } s m args below meth c H locs cells slots (vx_MQ below (fQX D cA h0 r.2 (rI r.1)) (fXC D cA h0 r.2 (rI r.1)) args s (fCB h0 - fZ h0) (fLB h0 - fL h0) (fA h0)) (F0 m 0 ls []) := by
  obtain ⟨hx, hb, hml, hr, hlocks, hts, hown, K, hR⟩ := id M
  intro H locs cells slots ls hC hl
  refine fr_aload_n hx hb dX7_remove_0 rfl (lv_at hl 0 rfl) ?_
  refine lv_iload_n hx hb dX7_remove_1 rfl (lv_at hl 1 rfl) ?_
  obtain ⟨b23, q24, hf⟩ := obind hf
  obtain ⟨⟨v25 | k26, h27⟩, g22, hf⟩ := obind hf
  · refine fr_callVX hx hb hml hts hown K hC hR ct_7 (c_X7_foundBelowWhole hfl D cA g22) 1 q24 kw644 kw641 kw643 kw16 kw55 (by decide +kernel) ⟨by exact Nat.le_of_ble_eq_true rfl, by exact Nat.le_of_ble_eq_true rfl⟩ rfl hl.1 (cat8 _ (by exact Nat.le_of_ble_eq_true rfl)) dX7_remove_2 rfl (fun H locs _ _ hC => ?_)
    refine fr_astore_n (lv' := [(2, va_rf v25), (0, va_rf a0), (1, .int a1)]) hx hb dX7_remove_5 rfl hl (by decide) (congrArg (List.cons _) (flk rfl (flk rfl fln))) (fun ls hl => ?_)
    refine lv_iconst (v := (0 : Int32)) hx hb dX7_remove_6 (by decide) ?_
    refine lv_istore_n (lv' := [(3, .int (0 : Int32)), (2, va_rf v25), (0, va_rf a0), (1, .int a1)]) hx hb dX7_remove_7 rfl hl (by decide) (congrArg (List.cons _) (flk (adj1 _ _) (flk rfl (flk rfl fln)))) (fun ls hl => ?_)
    refine fr_aload_n hx hb dX7_remove_8 rfl (lv_at hl 2 rfl) ?_
    obtain ⟨x28, g29, hf⟩ := obind hf
    refine fr_get hx hb hts hown K hC ct_7 (fgR_get g29) (by decide) kw298 rfl dX7_remove_9 ?_
    refine fr_astore (lv' := [(4, va_rf x28), (3, .int (0 : Int32)), (2, va_rf v25), (0, va_rf a0), (1, .int a1)]) hx hb dX7_remove_12 hl (by decide) (congrArg (List.cons _) (flk rfl (flk rfl (flk rfl (flk rfl fln))))) (fun ls hl => ?_)
    exact w_X7_remove_L14 M hfl hno 4096 _ _ _ _ _ hf _ _ _ _ _ hC (lv_sub hl [3, 2, 1, 0] rfl)
  · obtain rfl := Option.some.inj hf
    refine fr_callVT hx hb hml hts hown K hC hR ct_7 (c_X7_foundBelowWhole hfl D cA g22) 1 q24 kw644 kw641 kw643 kw16 kw55 (by decide +kernel) ⟨by exact Nat.le_of_ble_eq_true rfl, by exact Nat.le_of_ble_eq_true rfl⟩ rfl hl.1 (cat8 _ (by exact Nat.le_of_ble_eq_true rfl)) dX7_remove_2 rfl (fun H locs _ _ q ce hC e1 e2 e3 => ?_)
    exact fr_out (fun x hx9 => (hno x hx9).elim) hlocks hC e1 e2 e3
set_option maxRecDepth 100000 in
theorem c_X7_remove {l : Launch} (hfl : l.stackTraces = false) (D : va_G) (cA : Nat → ClassId) {o : Nat} {p0 : Int32} {h : fSt} {r : ((Int32 ⊕ Nat) × fSt)} (hf : f_X7_remove o p0 h = some r) : fMetX l yX7_remove (wsC yX7_remove cX7_remove 5 (some (.int))) (18) (426) D cA [.ref o, .int p0] h r.2 (rI r.1) := by
  exact fMetX.of (own := RX7) (by decide +kernel) rfl (lva1 rfl (lva1 rfl lva0)) (lgl1 rfl (lgl1 rfl lgl0)) (Nat.le_of_ble_eq_true rfl) (fun p e s m args below meth c ls hno M hC hl => by
    have hl : lv_has ls 5 [(0, va_rf (some o)), (1, .int p0)] := hl
    exact w_X7_remove_L0 M hfl hno _ _ _ hf _ _ _ _ _ hC (lv_sub hl [0, 1] rfl))
set_option maxHeartbeats 4000000 in
set_option maxRecDepth 100000 in
theorem w_L_remove_L0 {p : Program} {l : Launch} {e : Env} {s : State} {m : MethodId} {args : Array Value} {below : List Frame} {meth : Method} {c : Code} {D : va_G} {cA : Nat → ClassId} {h0 : fSt} {r : ((Int32 ⊕ Nat) × fSt)} (M : fM p s m args meth c D cA h0 { frames := 19, cells := fCB h0 - fZ h0, slots := fLB h0 - fL h0, locals := 450 } cL_remove 4 (some (.int)) RL) (hfl : l.stackTraces = false) (hno : c.exceptionTable.toList = tableOf [(0, 9, 12, 13), (0, 9, 15, 17)]) (a0 : Option Nat) (a1 : Int32) (a2 : Option Nat) (h : fSt) (hf : f_L_remove_L0 a0 a1 a2 h = some r) : ∀ (H : Heap) (locs : List Loc) (cells slots : Nat) (ls : Array Slot), fCur D cA s h0 h H locs → lv_has ls 4 [(0, va_rf a0), (1, .int a1), (2, va_rf a2)] → W p l e { frames := 19, cells := fCB h0 - fZ h0, slots := fLB h0 - fL h0, locals := 450 } s m args below meth c H locs cells slots (vx_MQ below (fQX D cA h0 r.2 (rI r.1)) (fXC D cA h0 r.2 (rI r.1)) args s (fCB h0 - fZ h0) (fLB h0 - fL h0) (fA h0)) (F0 m 0 ls []) := by
  obtain ⟨hx, hb, hml, hr, hlocks, hts, hown, K, hR⟩ := id M
  intro H locs cells slots ls hC hl
  refine fr_aload_n hx hb dL_remove_0 rfl (lv_at hl 2 rfl) ?_
  refine lv_iconst (v := (0 : Int32)) hx hb dL_remove_1 (by decide) ?_
  refine fr_aload_n hx hb dL_remove_2 rfl (lv_at hl 0 rfl) ?_
  refine lv_iload_n hx hb dL_remove_3 rfl (lv_at hl 1 rfl) ?_
  obtain ⟨b3, q4, hf⟩ := obind hf
  obtain ⟨⟨v5 | k6, h7⟩, g2, hf⟩ := obind hf
  · refine fr_callVX hx hb hml hts hown K hC hR ct_7 (c_X7_remove hfl D cA g2) 1 q4 kw640 kw637 kw638 kw639 kw55 (by decide +kernel) ⟨by exact Nat.le_of_ble_eq_true rfl, by exact Nat.le_of_ble_eq_true rfl⟩ rfl hl.1 (cat8 _ (by exact Nat.le_of_ble_eq_true rfl)) dL_remove_4 rfl (fun H locs _ _ hC => ?_)
    refine lv_i2l (v := (Int32.toInt64 v5)) hx hb dL_remove_7 rfl ?_
    obtain ⟨h8, g9, hf⟩ := obind hf
    refine fr_last hx hb K hC (t := 1) rfl g9 dL_remove_8 (fun H locs hC => ?_)
    refine lv_goto (tgt := 18) hx hb dL_remove_9 (by decide) ?_
    refine lv_iconst (v := (0 : Int32)) hx hb dL_remove_18 (by decide) ?_
    obtain rfl := Option.some.inj hf
    exact fr_retQ (fr_iret hx hb hr hlocks hC dL_remove_19)
  · refine fr_callVT hx hb hml hts hown K hC hR ct_7 (c_X7_remove hfl D cA g2) 1 q4 kw640 kw637 kw638 kw639 kw55 (by decide +kernel) ⟨by exact Nat.le_of_ble_eq_true rfl, by exact Nat.le_of_ble_eq_true rfl⟩ rfl hl.1 (cat8 _ (by exact Nat.le_of_ble_eq_true rfl)) dL_remove_4 rfl (fun H locs _ _ q ce hC e1 e2 e3 => ?_)
    by_cases c10 : k6 = 0
    · replace hf := opos c10 hf
      subst c10
      refine fr_catch (k9 := 0) (name := "java/lang/IndexOutOfBoundsException") hts K hown [] ⟨0, 9, 12, 13⟩ [⟨0, 9, 15, 17⟩] (by rw [hno]; rfl) (fun z hz => nomatch hz) (by decide) (by decide) kw573 kn586 e1 e2 e3 ?_
      refine fr_astore_n (lv' := [(3, va_rf (some q)), (0, va_rf a0), (1, .int a1), (2, va_rf a2)]) hx hb dL_remove_12 rfl hl (by decide) (congrArg (List.cons _) (flk rfl (flk rfl (flk (adj1 _ _) fln)))) (fun ls hl => ?_)
      refine lv_iconst (v := (1 : Int32)) hx hb dL_remove_13 (by decide) ?_
      obtain rfl := Option.some.inj hf
      exact fr_retQ (fr_iret hx hb hr hlocks hC dL_remove_14)
    replace hf := oneg c10 hf
    by_cases c12 : k6 = 2
    · replace hf := opos c12 hf
      subst c12
      refine fr_catch (k9 := 2) (name := "java/lang/IllegalStateException") hts K hown [⟨0, 9, 12, 13⟩] ⟨0, 9, 15, 17⟩ [] (by rw [hno]; rfl) (all1 ⟨by decide, _, kw573, by decide +kernel⟩) (by decide) (by decide) kw575 kn604 e1 e2 e3 ?_
      refine fr_astore_n (lv' := [(3, va_rf (some q)), (0, va_rf a0), (1, .int a1), (2, va_rf a2)]) hx hb dL_remove_15 rfl hl (by decide) (congrArg (List.cons _) (flk rfl (flk rfl (flk (adj1 _ _) fln)))) (fun ls hl => ?_)
      refine lv_iconst (v := (2 : Int32)) hx hb dL_remove_16 (by decide) ?_
      obtain rfl := Option.some.inj hf
      exact fr_retQ (fr_iret hx hb hr hlocks hC dL_remove_17)
    replace hf := oneg c12 hf
    exact nomatch hf
set_option maxRecDepth 100000 in
theorem c_L_remove {l : Launch} (hfl : l.stackTraces = false) (D : va_G) (cA : Nat → ClassId) {p0 : Option Nat} {p1 : Int32} {p2 : Option Nat} {h : fSt} {r : ((Int32 ⊕ Nat) × fSt)} (hf : f_L_remove p0 p1 p2 h = some r) : fMetX l yL_remove (wsCH yL_remove cL_remove 4 (some (.int)) [(0, 9, 12, 13), (0, 9, 15, 17)]) (19) (450) D cA [va_rf p0, .int p1, va_rf p2] h r.2 (rI r.1) := by
  exact fMetX.ofH (own := RL) (by decide +kernel) rfl (lva1 (va_rf_cat _) (lva1 rfl (lva1 (va_rf_cat _) lva0))) (lgl1 (va_rf_cat _) (lgl1 rfl (lgl1 (va_rf_cat _) lgl0))) (Nat.le_of_ble_eq_true rfl) (fun p e s m args below meth c ls hno M hC hl => by
    have hl : lv_has ls 4 [(0, va_rf p0), (1, .int p1), (2, va_rf p2)] := hl
    exact w_L_remove_L0 M hfl hno _ _ _ _ hf _ _ _ _ _ hC (lv_sub hl [0, 1, 2] rfl))
set_option maxHeartbeats 4000000 in
set_option maxRecDepth 100000 in
theorem w_X7_scale_L25 {p : Program} {l : Launch} {e : Env} {s : State} {m : MethodId} {args : Array Value} {below : List Frame} {meth : Method} {c : Code} {D : va_G} {cA : Nat → ClassId} {h0 : fSt} {r : ((Int32 ⊕ Nat) × fSt)} (M : fM p s m args meth c D cA h0 { frames := 8, cells := fCB h0 - fZ h0, slots := fLB h0 - fL h0, locals := 134 } cX7_scale 6 (some (.int)) RX7) (hfl : l.stackTraces = false) (hno : ∀ x ∈ c.exceptionTable.toList, False)  (h : fSt) (hf : f_X7_scale_L25  h = some r) : ∀ (H : Heap) (locs : List Loc) (cells slots : Nat) (ls : Array Slot), fCur D cA s h0 h H locs → lv_has ls 6 [] → W p l e { frames := 8, cells := fCB h0 - fZ h0, slots := fLB h0 - fL h0, locals := 134 } s m args below meth c H locs cells slots (vx_MQ below (fQX D cA h0 r.2 (rI r.1)) (fXC D cA h0 r.2 (rI r.1)) args s (fCB h0 - fZ h0) (fLB h0 - fL h0) (fA h0)) (F0 m 25 ls []) := by
  obtain ⟨hx, hb, hml, hr, hlocks, hts, hown, K, hR⟩ := id M
  intro H locs cells slots ls hC hl
  obtain ⟨h1, g2, hf⟩ := obind hf
  obtain rfl := Option.some.inj hf
  exact fr_throwS hx hb hml hts hfl hown K hC hR th_RX7_60_64_1 st_RX7_131 hl.1 dX7_scale_25 dX7_scale_28 dX7_scale_29 dX7_scale_31 dX7_scale_34 hno (by exact Nat.le_of_ble_eq_true rfl) (catL _ _ (by exact Nat.le_of_ble_eq_true rfl) (by exact Nat.le_of_ble_eq_true rfl)) hlocks g2
set_option maxHeartbeats 4000000 in
set_option maxRecDepth 100000 in
theorem w_X7_scale_L0 {p : Program} {l : Launch} {e : Env} {s : State} {m : MethodId} {args : Array Value} {below : List Frame} {meth : Method} {c : Code} {D : va_G} {cA : Nat → ClassId} {h0 : fSt} {r : ((Int32 ⊕ Nat) × fSt)} (M : fM p s m args meth c D cA h0 { frames := 8, cells := fCB h0 - fZ h0, slots := fLB h0 - fL h0, locals := 134 } cX7_scale 6 (some (.int)) RX7) (hfl : l.stackTraces = false) (hno : ∀ x ∈ c.exceptionTable.toList, False) (a0 : Option Nat) (a1 : Int32) (a2 : Int32) (a3 : Int32) (h : fSt) (hf : f_X7_scale_L0 a0 a1 a2 a3 h = some r) : ∀ (H : Heap) (locs : List Loc) (cells slots : Nat) (ls : Array Slot), fCur D cA s h0 h H locs → lv_has ls 6 [(0, va_rf a0), (1, .int a1), (2, .int a2), (3, .int a3)] → W p l e { frames := 8, cells := fCB h0 - fZ h0, slots := fLB h0 - fL h0, locals := 134 } s m args below meth c H locs cells slots (vx_MQ below (fQX D cA h0 r.2 (rI r.1)) (fXC D cA h0 r.2 (rI r.1)) args s (fCB h0 - fZ h0) (fLB h0 - fL h0) (fA h0)) (F0 m 0 ls []) := by
  obtain ⟨hx, hb, hml, hr, hlocks, hts, hown, K, hR⟩ := id M
  intro H locs cells slots ls hC hl
  refine fr_aload_n hx hb dX7_scale_0 rfl (lv_at hl 0 rfl) ?_
  refine lv_iload_n hx hb dX7_scale_1 rfl (lv_at hl 1 rfl) ?_
  obtain ⟨b5, q6, hf⟩ := obind hf
  obtain ⟨⟨v7 | k8, h9⟩, g4, hf⟩ := obind hf
  · refine fr_callVX hx hb hml hts hown K hC hR ct_7 (c_X7_foundBelowWhole hfl D cA g4) 1 q6 kw644 kw641 kw643 kw16 kw55 (by decide +kernel) ⟨by exact Nat.le_of_ble_eq_true rfl, by exact Nat.le_of_ble_eq_true rfl⟩ rfl hl.1 (cat8 _ (by exact Nat.le_of_ble_eq_true rfl)) dX7_scale_2 rfl (fun H locs _ _ hC => ?_)
    refine fr_astore (lv' := [(4, va_rf v7), (0, va_rf a0), (1, .int a1), (2, .int a2), (3, .int a3)]) hx hb dX7_scale_5 hl (by decide) (congrArg (List.cons _) (flk rfl (flk rfl (flk rfl (flk rfl fln))))) (fun ls hl => ?_)
    refine lv_iload_n hx hb dX7_scale_7 rfl (lv_at hl 3 rfl) ?_
    refine lv_iconst (v := (1 : Int32)) hx hb dX7_scale_8 (by decide) ?_
    refine lv_iconst (v := (4 : Int32)) hx hb dX7_scale_9 (by decide) ?_
    obtain ⟨r10, g11, hf⟩ := obind hf
    refine fr_callS hx hb hml hts hown K hC hR (c_X7_isFrom hfl D cA g11) 3 kw492 kw490 kw491 kw55 (by decide +kernel) ⟨by exact Nat.le_of_ble_eq_true rfl, by exact Nat.le_of_ble_eq_true rfl⟩ rfl hl.1 (cat8 _ (by exact Nat.le_of_ble_eq_true rfl)) dX7_scale_10 rfl (fun H locs _ _ hC => ?_)
    refine lv_if_eq (tgt := 25) hx hb dX7_scale_13 (by decide) (fun c12 => ?_) (fun c12 => ?_)
    · replace hf := opos c12 hf
      exact w_X7_scale_L25 M hfl hno _ hf _ _ _ _ _ hC (lv_sub hl [] rfl)
    · replace hf := oneg c12 hf
      refine lv_iload_n hx hb dX7_scale_16 rfl (lv_at hl 4 rfl) ?_
      refine lv_iconst (v := (1 : Int32)) hx hb dX7_scale_17 (by decide) ?_
      refine lv_iconst (v := (4 : Int32)) hx hb dX7_scale_18 (by decide) ?_
      obtain ⟨r13, g14, hf⟩ := obind hf
      refine fr_callS hx hb hml hts hown K hC hR (c_X7_isFrom hfl D cA g14) 3 kw492 kw490 kw491 kw55 (by decide +kernel) ⟨by exact Nat.le_of_ble_eq_true rfl, by exact Nat.le_of_ble_eq_true rfl⟩ rfl hl.1 (cat8 _ (by exact Nat.le_of_ble_eq_true rfl)) dX7_scale_19 rfl (fun H locs _ _ hC => ?_)
      refine lv_if_ne (tgt := 35) hx hb dX7_scale_22 (by decide) (fun c15 => ?_) (fun c15 => ?_)
      · replace hf := oneg c15 hf
        refine fr_aload hx hb dX7_scale_35 (lv_at hl 0 rfl) ?_
        obtain ⟨x16, g17, hf⟩ := obind hf
        refine fr_get hx hb hts hown K hC ct_4 (fgI_get g17) (by decide) kw170 rfl dX7_scale_37 ?_
        refine lv_bipush (v := (10 : Int32)) hx hb dX7_scale_40 (by decide) ?_
        refine lv_imul hx hb dX7_scale_42 ?_
        refine fr_aload hx hb dX7_scale_43 (lv_at hl 0 rfl) ?_
        obtain ⟨x18, g19, hf⟩ := obind hf
        refine fr_get hx hb hts hown K hC ct_4 (fgI_get g19) (by decide) kw173 rfl dX7_scale_45 ?_
        refine lv_iadd hx hb dX7_scale_48 ?_
        refine lv_istore (lv' := [(5, .int ((x16 * (10 : Int32)) + x18)), (4, va_rf v7), (0, va_rf a0), (1, .int a1), (2, .int a2), (3, .int a3)]) hx hb dX7_scale_49 hl (by decide) (congrArg (List.cons _) (flk (adj1 _ _) (flk rfl (flk rfl (flk rfl (flk rfl fln)))))) (fun ls hl => ?_)
        refine fr_aload hx hb dX7_scale_51 (lv_at hl 1 rfl) ?_
        refine lv_iload_n hx hb dX7_scale_53 rfl (lv_at hl 4 rfl) ?_
        obtain ⟨h20, g21, hf⟩ := obind hf
        refine fr_put hx hb hts hown K hC ct_4 g21 (by decide) kw170 rfl rfl rfl rfl dX7_scale_54 (fun H locs hC => ?_)
        refine fr_aload hx hb dX7_scale_57 (lv_at hl 1 rfl) ?_
        refine lv_iload_n hx hb dX7_scale_59 rfl (lv_at hl 5 rfl) ?_
        obtain ⟨h22, g23, hf⟩ := obind hf
        refine fr_put hx hb hts hown K hC ct_4 g23 (by decide) kw173 rfl rfl rfl rfl dX7_scale_60 (fun H locs hC => ?_)
        refine lv_iload hx hb dX7_scale_63 (lv_at hl 0 rfl) ?_
        obtain rfl := Option.some.inj hf
        exact fr_retQ (fr_iret hx hb hr hlocks hC dX7_scale_65)
      · replace hf := opos c15 hf
        exact w_X7_scale_L25 M hfl hno _ hf _ _ _ _ _ hC (lv_sub hl [] rfl)
  · obtain rfl := Option.some.inj hf
    refine fr_callVT hx hb hml hts hown K hC hR ct_7 (c_X7_foundBelowWhole hfl D cA g4) 1 q6 kw644 kw641 kw643 kw16 kw55 (by decide +kernel) ⟨by exact Nat.le_of_ble_eq_true rfl, by exact Nat.le_of_ble_eq_true rfl⟩ rfl hl.1 (cat8 _ (by exact Nat.le_of_ble_eq_true rfl)) dX7_scale_2 rfl (fun H locs _ _ q ce hC e1 e2 e3 => ?_)
    exact fr_out (fun x hx9 => (hno x hx9).elim) hlocks hC e1 e2 e3
set_option maxRecDepth 100000 in
theorem c_X7_scale {l : Launch} (hfl : l.stackTraces = false) (D : va_G) (cA : Nat → ClassId) {o : Nat} {p0 : Int32} {p1 : Int32} {p2 : Int32} {h : fSt} {r : ((Int32 ⊕ Nat) × fSt)} (hf : f_X7_scale o p0 p1 p2 h = some r) : fMetX l yX7_scale (wsC yX7_scale cX7_scale 6 (some (.int))) (8) (134) D cA [.ref o, .int p0, .int p1, .int p2] h r.2 (rI r.1) := by
  exact fMetX.of (own := RX7) (by decide +kernel) rfl (lva1 rfl (lva1 rfl (lva1 rfl (lva1 rfl lva0)))) (lgl1 rfl (lgl1 rfl (lgl1 rfl (lgl1 rfl lgl0)))) (Nat.le_of_ble_eq_true rfl) (fun p e s m args below meth c ls hno M hC hl => by
    have hl : lv_has ls 6 [(0, va_rf (some o)), (1, .int p0), (2, .int p1), (3, .int p2)] := hl
    exact w_X7_scale_L0 M hfl hno _ _ _ _ _ hf _ _ _ _ _ hC (lv_sub hl [0, 1, 2, 3] rfl))
set_option maxHeartbeats 4000000 in
set_option maxRecDepth 100000 in
theorem w_L_scale_L0 {p : Program} {l : Launch} {e : Env} {s : State} {m : MethodId} {args : Array Value} {below : List Frame} {meth : Method} {c : Code} {D : va_G} {cA : Nat → ClassId} {h0 : fSt} {r : ((Int32 ⊕ Nat) × fSt)} (M : fM p s m args meth c D cA h0 { frames := 9, cells := fCB h0 - fZ h0, slots := fLB h0 - fL h0, locals := 159 } cL_scale 6 (some (.int)) RL) (hfl : l.stackTraces = false) (hno : c.exceptionTable.toList = tableOf [(0, 12, 15, 13), (0, 12, 19, 17), (0, 12, 23, 15)]) (a0 : Option Nat) (a1 : Int32) (a2 : Int32) (a3 : Int32) (a4 : Option Nat) (h : fSt) (hf : f_L_scale_L0 a0 a1 a2 a3 a4 h = some r) : ∀ (H : Heap) (locs : List Loc) (cells slots : Nat) (ls : Array Slot), fCur D cA s h0 h H locs → lv_has ls 6 [(0, va_rf a0), (1, .int a1), (2, .int a2), (3, .int a3), (4, va_rf a4)] → W p l e { frames := 9, cells := fCB h0 - fZ h0, slots := fLB h0 - fL h0, locals := 159 } s m args below meth c H locs cells slots (vx_MQ below (fQX D cA h0 r.2 (rI r.1)) (fXC D cA h0 r.2 (rI r.1)) args s (fCB h0 - fZ h0) (fLB h0 - fL h0) (fA h0)) (F0 m 0 ls []) := by
  obtain ⟨hx, hb, hml, hr, hlocks, hts, hown, K, hR⟩ := id M
  intro H locs cells slots ls hC hl
  refine fr_aload hx hb dL_scale_0 (lv_at hl 4 rfl) ?_
  refine lv_iconst (v := (0 : Int32)) hx hb dL_scale_2 (by decide) ?_
  refine fr_aload_n hx hb dL_scale_3 rfl (lv_at hl 0 rfl) ?_
  refine lv_iload_n hx hb dL_scale_4 rfl (lv_at hl 1 rfl) ?_
  refine lv_iload_n hx hb dL_scale_5 rfl (lv_at hl 2 rfl) ?_
  refine lv_iload_n hx hb dL_scale_6 rfl (lv_at hl 3 rfl) ?_
  obtain ⟨b3, q4, hf⟩ := obind hf
  obtain ⟨⟨v5 | k6, h7⟩, g2, hf⟩ := obind hf
  · refine fr_callVX hx hb hml hts hown K hC hR ct_7 (c_X7_scale hfl D cA g2) 3 q4 kw697 kw694 kw695 kw696 kw55 (by decide +kernel) ⟨by exact Nat.le_of_ble_eq_true rfl, by exact Nat.le_of_ble_eq_true rfl⟩ rfl hl.1 (cat8 _ (by exact Nat.le_of_ble_eq_true rfl)) dL_scale_7 rfl (fun H locs _ _ hC => ?_)
    refine lv_i2l (v := (Int32.toInt64 v5)) hx hb dL_scale_10 rfl ?_
    obtain ⟨h8, g9, hf⟩ := obind hf
    refine fr_last hx hb K hC (t := 1) rfl g9 dL_scale_11 (fun H locs hC => ?_)
    refine lv_goto (tgt := 27) hx hb dL_scale_12 (by decide) ?_
    refine lv_iconst (v := (0 : Int32)) hx hb dL_scale_27 (by decide) ?_
    obtain rfl := Option.some.inj hf
    exact fr_retQ (fr_iret hx hb hr hlocks hC dL_scale_28)
  · refine fr_callVT hx hb hml hts hown K hC hR ct_7 (c_X7_scale hfl D cA g2) 3 q4 kw697 kw694 kw695 kw696 kw55 (by decide +kernel) ⟨by exact Nat.le_of_ble_eq_true rfl, by exact Nat.le_of_ble_eq_true rfl⟩ rfl hl.1 (cat8 _ (by exact Nat.le_of_ble_eq_true rfl)) dL_scale_7 rfl (fun H locs _ _ q ce hC e1 e2 e3 => ?_)
    by_cases c10 : k6 = 0
    · replace hf := opos c10 hf
      subst c10
      refine fr_catch (k9 := 0) (name := "java/lang/IndexOutOfBoundsException") hts K hown [] ⟨0, 12, 15, 13⟩ [⟨0, 12, 19, 17⟩, ⟨0, 12, 23, 15⟩] (by rw [hno]; rfl) (fun z hz => nomatch hz) (by decide) (by decide) kw573 kn586 e1 e2 e3 ?_
      refine fr_astore (lv' := [(5, va_rf (some q)), (0, va_rf a0), (1, .int a1), (2, .int a2), (3, .int a3), (4, va_rf a4)]) hx hb dL_scale_15 hl (by decide) (congrArg (List.cons _) (flk rfl (flk rfl (flk rfl (flk rfl (flk (adj1 _ _) fln)))))) (fun ls hl => ?_)
      refine lv_iconst (v := (1 : Int32)) hx hb dL_scale_17 (by decide) ?_
      obtain rfl := Option.some.inj hf
      exact fr_retQ (fr_iret hx hb hr hlocks hC dL_scale_18)
    replace hf := oneg c10 hf
    by_cases c12 : k6 = 2
    · replace hf := opos c12 hf
      subst c12
      refine fr_catch (k9 := 2) (name := "java/lang/IllegalStateException") hts K hown [⟨0, 12, 15, 13⟩] ⟨0, 12, 19, 17⟩ [⟨0, 12, 23, 15⟩] (by rw [hno]; rfl) (all1 ⟨by decide, _, kw573, by decide +kernel⟩) (by decide) (by decide) kw575 kn604 e1 e2 e3 ?_
      refine fr_astore (lv' := [(5, va_rf (some q)), (0, va_rf a0), (1, .int a1), (2, .int a2), (3, .int a3), (4, va_rf a4)]) hx hb dL_scale_19 hl (by decide) (congrArg (List.cons _) (flk rfl (flk rfl (flk rfl (flk rfl (flk (adj1 _ _) fln)))))) (fun ls hl => ?_)
      refine lv_iconst (v := (2 : Int32)) hx hb dL_scale_21 (by decide) ?_
      obtain rfl := Option.some.inj hf
      exact fr_retQ (fr_iret hx hb hr hlocks hC dL_scale_22)
    replace hf := oneg c12 hf
    by_cases c14 : k6 = 1
    · replace hf := opos c14 hf
      subst c14
      refine fr_catch (k9 := 1) (name := "java/lang/IllegalArgumentException") hts K hown [⟨0, 12, 15, 13⟩, ⟨0, 12, 19, 17⟩] ⟨0, 12, 23, 15⟩ [] (by rw [hno]; rfl) (all2 ⟨by decide, _, kw573, by decide +kernel⟩ ⟨by decide, _, kw575, by decide +kernel⟩) (by decide) (by decide) kw574 kn495 e1 e2 e3 ?_
      refine fr_astore (lv' := [(5, va_rf (some q)), (0, va_rf a0), (1, .int a1), (2, .int a2), (3, .int a3), (4, va_rf a4)]) hx hb dL_scale_23 hl (by decide) (congrArg (List.cons _) (flk rfl (flk rfl (flk rfl (flk rfl (flk (adj1 _ _) fln)))))) (fun ls hl => ?_)
      refine lv_iconst (v := (3 : Int32)) hx hb dL_scale_25 (by decide) ?_
      obtain rfl := Option.some.inj hf
      exact fr_retQ (fr_iret hx hb hr hlocks hC dL_scale_26)
    replace hf := oneg c14 hf
    exact nomatch hf
set_option maxRecDepth 100000 in
theorem c_L_scale {l : Launch} (hfl : l.stackTraces = false) (D : va_G) (cA : Nat → ClassId) {p0 : Option Nat} {p1 : Int32} {p2 : Int32} {p3 : Int32} {p4 : Option Nat} {h : fSt} {r : ((Int32 ⊕ Nat) × fSt)} (hf : f_L_scale p0 p1 p2 p3 p4 h = some r) : fMetX l yL_scale (wsCH yL_scale cL_scale 6 (some (.int)) [(0, 12, 15, 13), (0, 12, 19, 17), (0, 12, 23, 15)]) (9) (159) D cA [va_rf p0, .int p1, .int p2, .int p3, va_rf p4] h r.2 (rI r.1) := by
  exact fMetX.ofH (own := RL) (by decide +kernel) rfl (lva1 (va_rf_cat _) (lva1 rfl (lva1 rfl (lva1 rfl (lva1 (va_rf_cat _) lva0))))) (lgl1 (va_rf_cat _) (lgl1 rfl (lgl1 rfl (lgl1 rfl (lgl1 (va_rf_cat _) lgl0))))) (Nat.le_of_ble_eq_true rfl) (fun p e s m args below meth c ls hno M hC hl => by
    have hl : lv_has ls 6 [(0, va_rf p0), (1, .int p1), (2, .int p2), (3, .int p3), (4, va_rf p4)] := hl
    exact w_L_scale_L0 M hfl hno _ _ _ _ _ _ hf _ _ _ _ _ hC (lv_sub hl [0, 1, 2, 3, 4] rfl))
set_option maxHeartbeats 4000000 in
set_option maxRecDepth 100000 in
theorem w_X7_setTime_L0 {p : Program} {l : Launch} {e : Env} {s : State} {m : MethodId} {args : Array Value} {below : List Frame} {meth : Method} {c : Code} {D : va_G} {cA : Nat → ClassId} {h0 : fSt} {r : ((Int32 ⊕ Nat) × fSt)} (M : fM p s m args meth c D cA h0 { frames := 7, cells := fCB h0 - fZ h0, slots := fLB h0 - fL h0, locals := 110 } cX7_setTime 3 (some (.int)) RX7) (hfl : l.stackTraces = false) (hno : ∀ x ∈ c.exceptionTable.toList, False) (a0 : Option Nat) (a1 : Int32) (h : fSt) (hf : f_X7_setTime_L0 a0 a1 h = some r) : ∀ (H : Heap) (locs : List Loc) (cells slots : Nat) (ls : Array Slot), fCur D cA s h0 h H locs → lv_has ls 3 [(0, va_rf a0), (1, .int a1)] → W p l e { frames := 7, cells := fCB h0 - fZ h0, slots := fLB h0 - fL h0, locals := 110 } s m args below meth c H locs cells slots (vx_MQ below (fQX D cA h0 r.2 (rI r.1)) (fXC D cA h0 r.2 (rI r.1)) args s (fCB h0 - fZ h0) (fLB h0 - fL h0) (fA h0)) (F0 m 0 ls []) := by
  obtain ⟨hx, hb, hml, hr, hlocks, hts, hown, K, hR⟩ := id M
  intro H locs cells slots ls hC hl
  refine lv_iload_n hx hb dX7_setTime_0 rfl (lv_at hl 1 rfl) ?_
  obtain ⟨⟨v3 | k4, h5⟩, g2, hf⟩ := obind hf
  · refine fr_callSX hx hb hml hts hown K hC hR (c_X7_checkTime hfl D cA g2) 1 kw489 kw487 kw488 kw55 (by decide +kernel) ⟨by exact Nat.le_of_ble_eq_true rfl, by exact Nat.le_of_ble_eq_true rfl⟩ rfl hl.1 (cat8 _ (by exact Nat.le_of_ble_eq_true rfl)) dX7_setTime_1 rfl (fun H locs _ _ hC => ?_)
    refine fr_aload_n hx hb dX7_setTime_4 rfl (lv_at hl 0 rfl) ?_
    obtain ⟨x6, g7, hf⟩ := obind hf
    refine fr_get hx hb hts hown K hC ct_7 (fgI_get g7) (by decide) kw297 rfl dX7_setTime_5 ?_
    refine lv_istore_n (lv' := [(2, .int x6), (0, va_rf a0), (1, .int a1)]) hx hb dX7_setTime_8 rfl hl (by decide) (congrArg (List.cons _) (flk rfl (flk rfl fln))) (fun ls hl => ?_)
    refine fr_aload_n hx hb dX7_setTime_9 rfl (lv_at hl 1 rfl) ?_
    refine lv_iload_n hx hb dX7_setTime_10 rfl (lv_at hl 2 rfl) ?_
    obtain ⟨h8, g9, hf⟩ := obind hf
    refine fr_put hx hb hts hown K hC ct_7 g9 (by decide) kw297 rfl rfl rfl rfl dX7_setTime_11 (fun H locs hC => ?_)
    refine lv_iload_n hx hb dX7_setTime_14 rfl (lv_at hl 0 rfl) ?_
    obtain rfl := Option.some.inj hf
    exact fr_retQ (fr_iret hx hb hr hlocks hC dX7_setTime_15)
  · obtain rfl := Option.some.inj hf
    refine fr_callST hx hb hml hts hown K hC hR (c_X7_checkTime hfl D cA g2) 1 kw489 kw487 kw488 kw55 (by decide +kernel) ⟨by exact Nat.le_of_ble_eq_true rfl, by exact Nat.le_of_ble_eq_true rfl⟩ rfl hl.1 (cat8 _ (by exact Nat.le_of_ble_eq_true rfl)) dX7_setTime_1 rfl (fun H locs _ _ q ce hC e1 e2 e3 => ?_)
    exact fr_out (fun x hx9 => (hno x hx9).elim) hlocks hC e1 e2 e3
set_option maxRecDepth 100000 in
theorem c_X7_setTime {l : Launch} (hfl : l.stackTraces = false) (D : va_G) (cA : Nat → ClassId) {o : Nat} {p0 : Int32} {h : fSt} {r : ((Int32 ⊕ Nat) × fSt)} (hf : f_X7_setTime o p0 h = some r) : fMetX l yX7_setTime (wsC yX7_setTime cX7_setTime 3 (some (.int))) (7) (110) D cA [.ref o, .int p0] h r.2 (rI r.1) := by
  exact fMetX.of (own := RX7) (by decide +kernel) rfl (lva1 rfl (lva1 rfl lva0)) (lgl1 rfl (lgl1 rfl lgl0)) (Nat.le_of_ble_eq_true rfl) (fun p e s m args below meth c ls hno M hC hl => by
    have hl : lv_has ls 3 [(0, va_rf (some o)), (1, .int p0)] := hl
    exact w_X7_setTime_L0 M hfl hno _ _ _ hf _ _ _ _ _ hC (lv_sub hl [0, 1] rfl))
set_option maxHeartbeats 4000000 in
set_option maxRecDepth 100000 in
theorem w_L_setTime_L0 {p : Program} {l : Launch} {e : Env} {s : State} {m : MethodId} {args : Array Value} {below : List Frame} {meth : Method} {c : Code} {D : va_G} {cA : Nat → ClassId} {h0 : fSt} {r : ((Int32 ⊕ Nat) × fSt)} (M : fM p s m args meth c D cA h0 { frames := 8, cells := fCB h0 - fZ h0, slots := fLB h0 - fL h0, locals := 132 } cL_setTime 4 (some (.int)) RL) (hfl : l.stackTraces = false) (hno : c.exceptionTable.toList = tableOf [(0, 9, 12, 15)]) (a0 : Option Nat) (a1 : Int32) (a2 : Option Nat) (h : fSt) (hf : f_L_setTime_L0 a0 a1 a2 h = some r) : ∀ (H : Heap) (locs : List Loc) (cells slots : Nat) (ls : Array Slot), fCur D cA s h0 h H locs → lv_has ls 4 [(0, va_rf a0), (1, .int a1), (2, va_rf a2)] → W p l e { frames := 8, cells := fCB h0 - fZ h0, slots := fLB h0 - fL h0, locals := 132 } s m args below meth c H locs cells slots (vx_MQ below (fQX D cA h0 r.2 (rI r.1)) (fXC D cA h0 r.2 (rI r.1)) args s (fCB h0 - fZ h0) (fLB h0 - fL h0) (fA h0)) (F0 m 0 ls []) := by
  obtain ⟨hx, hb, hml, hr, hlocks, hts, hown, K, hR⟩ := id M
  intro H locs cells slots ls hC hl
  refine fr_aload_n hx hb dL_setTime_0 rfl (lv_at hl 2 rfl) ?_
  refine lv_iconst (v := (0 : Int32)) hx hb dL_setTime_1 (by decide) ?_
  refine fr_aload_n hx hb dL_setTime_2 rfl (lv_at hl 0 rfl) ?_
  refine lv_iload_n hx hb dL_setTime_3 rfl (lv_at hl 1 rfl) ?_
  obtain ⟨b3, q4, hf⟩ := obind hf
  obtain ⟨⟨v5 | k6, h7⟩, g2, hf⟩ := obind hf
  · refine fr_callVX hx hb hml hts hown K hC hR ct_7 (c_X7_setTime hfl D cA g2) 1 q4 kw826 kw823 kw824 kw825 kw55 (by decide +kernel) ⟨by exact Nat.le_of_ble_eq_true rfl, by exact Nat.le_of_ble_eq_true rfl⟩ rfl hl.1 (cat8 _ (by exact Nat.le_of_ble_eq_true rfl)) dL_setTime_4 rfl (fun H locs _ _ hC => ?_)
    refine lv_i2l (v := (Int32.toInt64 v5)) hx hb dL_setTime_7 rfl ?_
    obtain ⟨h8, g9, hf⟩ := obind hf
    refine fr_last hx hb K hC (t := 1) rfl g9 dL_setTime_8 (fun H locs hC => ?_)
    refine lv_goto (tgt := 15) hx hb dL_setTime_9 (by decide) ?_
    refine lv_iconst (v := (0 : Int32)) hx hb dL_setTime_15 (by decide) ?_
    obtain rfl := Option.some.inj hf
    exact fr_retQ (fr_iret hx hb hr hlocks hC dL_setTime_16)
  · refine fr_callVT hx hb hml hts hown K hC hR ct_7 (c_X7_setTime hfl D cA g2) 1 q4 kw826 kw823 kw824 kw825 kw55 (by decide +kernel) ⟨by exact Nat.le_of_ble_eq_true rfl, by exact Nat.le_of_ble_eq_true rfl⟩ rfl hl.1 (cat8 _ (by exact Nat.le_of_ble_eq_true rfl)) dL_setTime_4 rfl (fun H locs _ _ q ce hC e1 e2 e3 => ?_)
    by_cases c10 : k6 = 1
    · replace hf := opos c10 hf
      subst c10
      refine fr_catch (k9 := 1) (name := "java/lang/IllegalArgumentException") hts K hown [] ⟨0, 9, 12, 15⟩ [] (by rw [hno]; rfl) (fun z hz => nomatch hz) (by decide) (by decide) kw574 kn495 e1 e2 e3 ?_
      refine fr_astore_n (lv' := [(3, va_rf (some q)), (0, va_rf a0), (1, .int a1), (2, va_rf a2)]) hx hb dL_setTime_12 rfl hl (by decide) (congrArg (List.cons _) (flk rfl (flk rfl (flk (adj1 _ _) fln)))) (fun ls hl => ?_)
      refine lv_iconst (v := (1 : Int32)) hx hb dL_setTime_13 (by decide) ?_
      obtain rfl := Option.some.inj hf
      exact fr_retQ (fr_iret hx hb hr hlocks hC dL_setTime_14)
    replace hf := oneg c10 hf
    exact nomatch hf
set_option maxRecDepth 100000 in
theorem c_L_setTime {l : Launch} (hfl : l.stackTraces = false) (D : va_G) (cA : Nat → ClassId) {p0 : Option Nat} {p1 : Int32} {p2 : Option Nat} {h : fSt} {r : ((Int32 ⊕ Nat) × fSt)} (hf : f_L_setTime p0 p1 p2 h = some r) : fMetX l yL_setTime (wsCH yL_setTime cL_setTime 4 (some (.int)) [(0, 9, 12, 15)]) (8) (132) D cA [va_rf p0, .int p1, va_rf p2] h r.2 (rI r.1) := by
  exact fMetX.ofH (own := RL) (by decide +kernel) rfl (lva1 (va_rf_cat _) (lva1 rfl (lva1 (va_rf_cat _) lva0))) (lgl1 (va_rf_cat _) (lgl1 rfl (lgl1 (va_rf_cat _) lgl0))) (Nat.le_of_ble_eq_true rfl) (fun p e s m args below meth c ls hno M hC hl => by
    have hl : lv_has ls 4 [(0, va_rf p0), (1, .int p1), (2, va_rf p2)] := hl
    exact w_L_setTime_L0 M hfl hno _ _ _ _ hf _ _ _ _ _ hC (lv_sub hl [0, 1, 2] rfl))
set_option maxHeartbeats 4000000 in
set_option maxRecDepth 100000 in
theorem w_X7_size_L11 {p : Program} {l : Launch} {e : Env} {s : State} {m : MethodId} {args : Array Value} {below : List Frame} {meth : Method} {c : Code} {D : va_G} {cA : Nat → ClassId} {h0 : fSt} {r : ((UInt64 ⊕ Nat) × fSt)} (M : fM p s m args meth c D cA h0 { frames := 7, cells := fCB h0 - fZ h0, slots := fLB h0 - fL h0, locals := 112 } cX7_size 5 (some (.double)) RX7) (hfl : l.stackTraces = false) (hno : ∀ x ∈ c.exceptionTable.toList, False) : ∀ (n : Nat) (a2 : Int32) (a3 : Int32) (a4 : Option Nat) (h : fSt), f_X7_size_L11 n a2 a3 a4 h = some r → ∀ (H : Heap) (locs : List Loc) (cells slots : Nat) (ls : Array Slot), fCur D cA s h0 h H locs → lv_has ls 5 [(2, .int a2), (3, .int a3), (4, va_rf a4)] → W p l e { frames := 7, cells := fCB h0 - fZ h0, slots := fLB h0 - fL h0, locals := 112 } s m args below meth c H locs cells slots (vx_MQ below (fQX D cA h0 r.2 (rD r.1)) (fXC D cA h0 r.2 (rD r.1)) args s (fCB h0 - fZ h0) (fLB h0 - fL h0) (fA h0)) (F0 m 11 ls []) := by
  obtain ⟨hx, hb, hml, hr, hlocks, hts, hown, K, hR⟩ := id M
  intro n
  induction n with
  | zero =>
    intro a2 a3 a4 h hf
    exact nomatch (show (none : Option ((UInt64 ⊕ Nat) × fSt)) = some r from hf)
  | succ n hk11 =>
    intro a2 a3 a4 h hf H locs cells slots ls hC hl
    refine fr_aload hx hb dX7_size_11 (lv_at hl 2 rfl) ?_
    refine fr_ifnull (tgt := 42) hx hb dX7_size_13 (by decide) (fun c1 => ?_) (fun c1 => ?_)
    · replace hf := opos c1 hf
      refine lv_iload_n hx hb dX7_size_42 rfl (lv_at hl 0 rfl) ?_
      refine lv_i2d hx hb dX7_size_43 ?_
      refine lv_iload_n hx hb dX7_size_44 rfl (lv_at hl 1 rfl) ?_
      refine lv_i2d hx hb dX7_size_45 ?_
      by_cases c2 : (FP.ddiv (FP.i2d a2) (FP.i2d a3)) &&& 0x7fffffffffffffff ≤ 0x7ff0000000000000
      rotate_left
      · exact nomatch (oneg c2 hf)
      replace hf := opos c2 hf
      refine lv_ddiv hx hb dX7_size_46 c2 ?_
      obtain rfl := Option.some.inj hf
      exact fr_retQ (fr_dret hx hb hr hlocks hC dX7_size_47)
    · replace hf := oneg c1 hf
      refine lv_iload_n hx hb dX7_size_16 rfl (lv_at hl 0 rfl) ?_
      refine fr_aload hx hb dX7_size_17 (lv_at hl 2 rfl) ?_
      obtain ⟨x3, g4, hf⟩ := obind hf
      refine fr_get hx hb hts hown K hC ct_4 (fgI_get g4) (by decide) kw170 rfl dX7_size_19 ?_
      refine lv_imul hx hb dX7_size_22 ?_
      refine lv_istore_n (lv' := [(2, .int (a2 * x3)), (3, .int a3), (4, va_rf a4)]) hx hb dX7_size_23 rfl hl (by decide) (congrArg (List.cons _) (fld rfl (flk rfl (flk rfl fln)))) (fun ls hl => ?_)
      refine lv_iload_n hx hb dX7_size_24 rfl (lv_at hl 1 rfl) ?_
      refine fr_aload hx hb dX7_size_25 (lv_at hl 2 rfl) ?_
      obtain ⟨x5, g6, hf⟩ := obind hf
      refine fr_get hx hb hts hown K hC ct_4 (fgI_get g6) (by decide) kw173 rfl dX7_size_27 ?_
      refine lv_imul hx hb dX7_size_30 ?_
      refine lv_istore_n (lv' := [(3, .int (a3 * x5)), (2, .int (a2 * x3)), (4, va_rf a4)]) hx hb dX7_size_31 rfl hl (by decide) (congrArg (List.cons _) (flk rfl (fld rfl (flk rfl fln)))) (fun ls hl => ?_)
      refine fr_aload hx hb dX7_size_32 (lv_at hl 2 rfl) ?_
      obtain ⟨x7, g8, hf⟩ := obind hf
      refine fr_get hx hb hts hown K hC ct_4 (fgR_get g8) (by decide) kw184 rfl dX7_size_34 ?_
      refine fr_astore (lv' := [(4, va_rf x7), (3, .int (a3 * x5)), (2, .int (a2 * x3))]) hx hb dX7_size_37 hl (by decide) (congrArg (List.cons _) (flk rfl (flk rfl (fld rfl fln)))) (fun ls hl => ?_)
      refine lv_goto (tgt := 11) hx hb dX7_size_39 (by decide) ?_
      exact hk11 _ _ _ _ hf _ _ _ _ _ hC (lv_sub hl [2, 1, 0] rfl)
set_option maxHeartbeats 4000000 in
set_option maxRecDepth 100000 in
theorem w_X7_size_L0 {p : Program} {l : Launch} {e : Env} {s : State} {m : MethodId} {args : Array Value} {below : List Frame} {meth : Method} {c : Code} {D : va_G} {cA : Nat → ClassId} {h0 : fSt} {r : ((UInt64 ⊕ Nat) × fSt)} (M : fM p s m args meth c D cA h0 { frames := 7, cells := fCB h0 - fZ h0, slots := fLB h0 - fL h0, locals := 112 } cX7_size 5 (some (.double)) RX7) (hfl : l.stackTraces = false) (hno : ∀ x ∈ c.exceptionTable.toList, False) (a0 : Option Nat) (a1 : Int32) (h : fSt) (hf : f_X7_size_L0 a0 a1 h = some r) : ∀ (H : Heap) (locs : List Loc) (cells slots : Nat) (ls : Array Slot), fCur D cA s h0 h H locs → lv_has ls 5 [(0, va_rf a0), (1, .int a1)] → W p l e { frames := 7, cells := fCB h0 - fZ h0, slots := fLB h0 - fL h0, locals := 112 } s m args below meth c H locs cells slots (vx_MQ below (fQX D cA h0 r.2 (rD r.1)) (fXC D cA h0 r.2 (rD r.1)) args s (fCB h0 - fZ h0) (fLB h0 - fL h0) (fA h0)) (F0 m 0 ls []) := by
  obtain ⟨hx, hb, hml, hr, hlocks, hts, hown, K, hR⟩ := id M
  intro H locs cells slots ls hC hl
  refine lv_iconst (v := (1 : Int32)) hx hb dX7_size_0 (by decide) ?_
  refine lv_istore_n (lv' := [(2, .int (1 : Int32)), (0, va_rf a0), (1, .int a1)]) hx hb dX7_size_1 rfl hl (by decide) (congrArg (List.cons _) (flk rfl (flk rfl fln))) (fun ls hl => ?_)
  refine lv_iconst (v := (1 : Int32)) hx hb dX7_size_2 (by decide) ?_
  refine lv_istore_n (lv' := [(3, .int (1 : Int32)), (2, .int (1 : Int32)), (0, va_rf a0), (1, .int a1)]) hx hb dX7_size_3 rfl hl (by decide) (congrArg (List.cons _) (flk rfl (flk rfl (flk rfl fln)))) (fun ls hl => ?_)
  refine fr_aload_n hx hb dX7_size_4 rfl (lv_at hl 2 rfl) ?_
  refine lv_iload_n hx hb dX7_size_5 rfl (lv_at hl 3 rfl) ?_
  obtain ⟨b11, q12, hf⟩ := obind hf
  obtain ⟨⟨v13 | k14, h15⟩, g10, hf⟩ := obind hf
  · refine fr_callVX hx hb hml hts hown K hC hR ct_7 (c_X7_found hfl D cA g10) 1 q12 kw583 kw580 kw582 kw12 kw55 (by decide +kernel) ⟨by exact Nat.le_of_ble_eq_true rfl, by exact Nat.le_of_ble_eq_true rfl⟩ rfl hl.1 (cat8 _ (by exact Nat.le_of_ble_eq_true rfl)) dX7_size_6 rfl (fun H locs _ _ hC => ?_)
    refine fr_astore (lv' := [(4, va_rf v13), (3, .int (1 : Int32)), (2, .int (1 : Int32)), (0, va_rf a0), (1, .int a1)]) hx hb dX7_size_9 hl (by decide) (congrArg (List.cons _) (flk rfl (flk rfl (flk rfl (flk rfl fln))))) (fun ls hl => ?_)
    exact w_X7_size_L11 M hfl hno 4096 _ _ _ _ hf _ _ _ _ _ hC (lv_sub hl [2, 1, 0] rfl)
  · obtain rfl := Option.some.inj hf
    refine fr_callVT hx hb hml hts hown K hC hR ct_7 (c_X7_found hfl D cA g10) 1 q12 kw583 kw580 kw582 kw12 kw55 (by decide +kernel) ⟨by exact Nat.le_of_ble_eq_true rfl, by exact Nat.le_of_ble_eq_true rfl⟩ rfl hl.1 (cat8 _ (by exact Nat.le_of_ble_eq_true rfl)) dX7_size_6 rfl (fun H locs _ _ q ce hC e1 e2 e3 => ?_)
    exact fr_out (fun x hx9 => (hno x hx9).elim) hlocks hC e1 e2 e3
set_option maxRecDepth 100000 in
theorem c_X7_size {l : Launch} (hfl : l.stackTraces = false) (D : va_G) (cA : Nat → ClassId) {o : Nat} {p0 : Int32} {h : fSt} {r : ((UInt64 ⊕ Nat) × fSt)} (hf : f_X7_size o p0 h = some r) : fMetX l yX7_size (wsC yX7_size cX7_size 5 (some (.double))) (7) (112) D cA [.ref o, .int p0] h r.2 (rD r.1) := by
  exact fMetX.of (own := RX7) (by decide +kernel) rfl (lva1 rfl (lva1 rfl lva0)) (lgl1 rfl (lgl1 rfl lgl0)) (Nat.le_of_ble_eq_true rfl) (fun p e s m args below meth c ls hno M hC hl => by
    have hl : lv_has ls 5 [(0, va_rf (some o)), (1, .int p0)] := hl
    exact w_X7_size_L0 M hfl hno _ _ _ hf _ _ _ _ _ hC (lv_sub hl [0, 1] rfl))
set_option maxHeartbeats 4000000 in
set_option maxRecDepth 100000 in
theorem w_L_size_L0 {p : Program} {l : Launch} {e : Env} {s : State} {m : MethodId} {args : Array Value} {below : List Frame} {meth : Method} {c : Code} {D : va_G} {cA : Nat → ClassId} {h0 : fSt} {r : ((Int32 ⊕ Nat) × fSt)} (M : fM p s m args meth c D cA h0 { frames := 8, cells := fCB h0 - fZ h0, slots := fLB h0 - fL h0, locals := 136 } cL_size 4 (some (.int)) RL) (hfl : l.stackTraces = false) (hno : c.exceptionTable.toList = tableOf [(0, 8, 11, 13)]) (a0 : Option Nat) (a1 : Int32) (a2 : Option Nat) (h : fSt) (hf : f_L_size_L0 a0 a1 a2 h = some r) : ∀ (H : Heap) (locs : List Loc) (cells slots : Nat) (ls : Array Slot), fCur D cA s h0 h H locs → lv_has ls 4 [(0, va_rf a0), (1, .int a1), (2, va_rf a2)] → W p l e { frames := 8, cells := fCB h0 - fZ h0, slots := fLB h0 - fL h0, locals := 136 } s m args below meth c H locs cells slots (vx_MQ below (fQX D cA h0 r.2 (rI r.1)) (fXC D cA h0 r.2 (rI r.1)) args s (fCB h0 - fZ h0) (fLB h0 - fL h0) (fA h0)) (F0 m 0 ls []) := by
  obtain ⟨hx, hb, hml, hr, hlocks, hts, hown, K, hR⟩ := id M
  intro H locs cells slots ls hC hl
  refine fr_aload_n hx hb dL_size_0 rfl (lv_at hl 2 rfl) ?_
  refine lv_iconst (v := (0 : Int32)) hx hb dL_size_1 (by decide) ?_
  refine fr_aload_n hx hb dL_size_2 rfl (lv_at hl 0 rfl) ?_
  refine lv_iload_n hx hb dL_size_3 rfl (lv_at hl 1 rfl) ?_
  obtain ⟨b3, q4, hf⟩ := obind hf
  obtain ⟨⟨v5 | k6, h7⟩, g2, hf⟩ := obind hf
  · refine fr_callVX hx hb hml hts hown K hC hR ct_7 (c_X7_size hfl D cA g2) 1 q4 kw964 kw961 kw962 kw963 kw55 (by decide +kernel) ⟨by exact Nat.le_of_ble_eq_true rfl, by exact Nat.le_of_ble_eq_true rfl⟩ rfl hl.1 (cat8 _ (by exact Nat.le_of_ble_eq_true rfl)) dL_size_4 rfl (fun H locs _ _ hC => ?_)
    obtain ⟨h8, g9, hf⟩ := obind hf
    refine fr_dast hx hb K hC (t := 3) rfl g9 dL_size_7 (fun H locs hC => ?_)
    refine lv_goto (tgt := 14) hx hb dL_size_8 (by decide) ?_
    refine lv_iconst (v := (0 : Int32)) hx hb dL_size_14 (by decide) ?_
    obtain rfl := Option.some.inj hf
    exact fr_retQ (fr_iret hx hb hr hlocks hC dL_size_15)
  · refine fr_callVT hx hb hml hts hown K hC hR ct_7 (c_X7_size hfl D cA g2) 1 q4 kw964 kw961 kw962 kw963 kw55 (by decide +kernel) ⟨by exact Nat.le_of_ble_eq_true rfl, by exact Nat.le_of_ble_eq_true rfl⟩ rfl hl.1 (cat8 _ (by exact Nat.le_of_ble_eq_true rfl)) dL_size_4 rfl (fun H locs _ _ q ce hC e1 e2 e3 => ?_)
    by_cases c10 : k6 = 0
    · replace hf := opos c10 hf
      subst c10
      refine fr_catch (k9 := 0) (name := "java/lang/IndexOutOfBoundsException") hts K hown [] ⟨0, 8, 11, 13⟩ [] (by rw [hno]; rfl) (fun z hz => nomatch hz) (by decide) (by decide) kw573 kn586 e1 e2 e3 ?_
      refine fr_astore_n (lv' := [(3, va_rf (some q)), (0, va_rf a0), (1, .int a1), (2, va_rf a2)]) hx hb dL_size_11 rfl hl (by decide) (congrArg (List.cons _) (flk rfl (flk rfl (flk (adj1 _ _) fln)))) (fun ls hl => ?_)
      refine lv_iconst (v := (1 : Int32)) hx hb dL_size_12 (by decide) ?_
      obtain rfl := Option.some.inj hf
      exact fr_retQ (fr_iret hx hb hr hlocks hC dL_size_13)
    replace hf := oneg c10 hf
    exact nomatch hf
set_option maxRecDepth 100000 in
theorem c_L_size {l : Launch} (hfl : l.stackTraces = false) (D : va_G) (cA : Nat → ClassId) {p0 : Option Nat} {p1 : Int32} {p2 : Option Nat} {h : fSt} {r : ((Int32 ⊕ Nat) × fSt)} (hf : f_L_size p0 p1 p2 h = some r) : fMetX l yL_size (wsCH yL_size cL_size 4 (some (.int)) [(0, 8, 11, 13)]) (8) (136) D cA [va_rf p0, .int p1, va_rf p2] h r.2 (rI r.1) := by
  exact fMetX.ofH (own := RL) (by decide +kernel) rfl (lva1 (va_rf_cat _) (lva1 rfl (lva1 (va_rf_cat _) lva0))) (lgl1 (va_rf_cat _) (lgl1 rfl (lgl1 (va_rf_cat _) lgl0))) (Nat.le_of_ble_eq_true rfl) (fun p e s m args below meth c ls hno M hC hl => by
    have hl : lv_has ls 4 [(0, va_rf p0), (1, .int p1), (2, va_rf p2)] := hl
    exact w_L_size_L0 M hfl hno _ _ _ _ hf _ _ _ _ _ hC (lv_sub hl [0, 1, 2] rfl))
set_option maxHeartbeats 4000000 in
set_option maxRecDepth 100000 in
theorem w_X7_strengthOf_L38 {p : Program} {l : Launch} {e : Env} {s : State} {m : MethodId} {args : Array Value} {below : List Frame} {meth : Method} {c : Code} {D : va_G} {cA : Nat → ClassId} {h0 : fSt} {self : Option Nat → Int32 → Int32 → fSt → Option (Int32 × fSt)} {fd ld : Nat} {r : (Int32 × fSt)} (hself : ∀ {p0 : Option Nat} {p1 : Int32} {p2 : Int32} {h : fSt} {r : (Int32 × fSt)}, self p0 p1 p2 h = some r → fMet l yX7_strengthOf (wsC yX7_strengthOf cX7_strengthOf 5 (some (.int))) fd ld D cA [va_rf p0, .int p1, .int p2] h r.2 (some (.int r.1))) (M : fM p s m args meth c D cA h0 { frames := fd + 2, cells := fCB h0 - fZ h0, slots := fLB h0 - fL h0, locals := ld + 52 } cX7_strengthOf 5 (some (.int)) RX7) (hfl : l.stackTraces = false) (a0 : Option Nat) (a1 : Int32) (s0 : Int32) (h : fSt) (hf : f_X7_strengthOf_L38 self a0 a1 s0 h = some r) : ∀ (H : Heap) (locs : List Loc) (cells slots : Nat) (ls : Array Slot), fCur D cA s h0 h H locs → lv_has ls 5 [(0, va_rf a0), (1, .int a1)] → W p l e { frames := fd + 2, cells := fCB h0 - fZ h0, slots := fLB h0 - fL h0, locals := ld + 52 } s m args below meth c H locs cells slots (MQ below (fQ D cA h0 r.2 (some (.int r.1))) args s (fCB h0 - fZ h0) (fLB h0 - fL h0) (fA h0)) (F0 m 38 ls [.int s0]) := by
  obtain ⟨hx, hb, hml, hr, hlocks, hts, hown, K, hR⟩ := id M
  intro H locs cells slots ls hC hl
  refine lv_istore (lv' := [(4, .int s0), (0, va_rf a0), (1, .int a1)]) hx hb dX7_strengthOf_38 hl (by decide) (congrArg (List.cons _) (flk rfl (flk rfl fln))) (fun ls hl => ?_)
  refine lv_iload hx hb dX7_strengthOf_40 (lv_at hl 0 rfl) ?_
  refine fr_aload_n hx hb dX7_strengthOf_42 rfl (lv_at hl 1 rfl) ?_
  obtain ⟨x1, g2, hf⟩ := obind hf
  refine fr_get hx hb hts hown K hC ct_4 (fgR_get g2) (by decide) kw167 rfl dX7_strengthOf_43 ?_
  refine lv_iload_n hx hb dX7_strengthOf_46 rfl (lv_at hl 2 rfl) ?_
  obtain ⟨b5, q6, hf⟩ := obind hf
  obtain ⟨r3, g4, hf⟩ := obind hf
  refine fr_callV hx hb hml hts hown K hC hR ct_6 (c_X6_at hfl D cA g4) 1 q6 kw369 kw366 kw367 kw368 kw57 (by decide +kernel) ⟨by dsimp only; omega, by dsimp only; omega⟩ rfl hl.1 (cat8 _ (by exact Nat.le_of_ble_eq_true rfl)) dX7_strengthOf_47 rfl (fun H locs _ _ hC => ?_)
  refine lv_imul hx hb dX7_strengthOf_50 ?_
  refine lv_bipush (v := (100 : Int32)) hx hb dX7_strengthOf_51 (by decide) ?_
  refine lv_idiv hx hb dX7_strengthOf_53 (by decide) ?_
  obtain rfl := Option.some.inj hf
  exact fr_iret hx hb hr hlocks hC dX7_strengthOf_54
set_option maxHeartbeats 4000000 in
set_option maxRecDepth 100000 in
theorem w_X7_strengthOf_L17 {p : Program} {l : Launch} {e : Env} {s : State} {m : MethodId} {args : Array Value} {below : List Frame} {meth : Method} {c : Code} {D : va_G} {cA : Nat → ClassId} {h0 : fSt} {self : Option Nat → Int32 → Int32 → fSt → Option (Int32 × fSt)} {fd ld : Nat} {r : (Int32 × fSt)} (hself : ∀ {p0 : Option Nat} {p1 : Int32} {p2 : Int32} {h : fSt} {r : (Int32 × fSt)}, self p0 p1 p2 h = some r → fMet l yX7_strengthOf (wsC yX7_strengthOf cX7_strengthOf 5 (some (.int))) fd ld D cA [va_rf p0, .int p1, .int p2] h r.2 (some (.int r.1))) (M : fM p s m args meth c D cA h0 { frames := fd + 2, cells := fCB h0 - fZ h0, slots := fLB h0 - fL h0, locals := ld + 52 } cX7_strengthOf 5 (some (.int)) RX7) (hfl : l.stackTraces = false) (a0 : Option Nat) (a1 : Int32) (a2 : Int32) (s0 : Int32) (h : fSt) (hf : f_X7_strengthOf_L17 self a0 a1 a2 s0 h = some r) : ∀ (H : Heap) (locs : List Loc) (cells slots : Nat) (ls : Array Slot), fCur D cA s h0 h H locs → lv_has ls 5 [(0, va_rf a0), (1, .int a1), (2, .int a2)] → W p l e { frames := fd + 2, cells := fCB h0 - fZ h0, slots := fLB h0 - fL h0, locals := ld + 52 } s m args below meth c H locs cells slots (MQ below (fQ D cA h0 r.2 (some (.int r.1))) args s (fCB h0 - fZ h0) (fLB h0 - fL h0) (fA h0)) (F0 m 17 ls [.int s0]) := by
  obtain ⟨hx, hb, hml, hr, hlocks, hts, hown, K, hR⟩ := id M
  intro H locs cells slots ls hC hl
  refine lv_istore_n (lv' := [(3, .int s0), (0, va_rf a0), (1, .int a1), (2, .int a2)]) hx hb dX7_strengthOf_17 rfl hl (by decide) (congrArg (List.cons _) (flk rfl (flk rfl (flk rfl fln)))) (fun ls hl => ?_)
  refine lv_iload_n hx hb dX7_strengthOf_18 rfl (lv_at hl 0 rfl) ?_
  refine lv_if_eq (tgt := 27) hx hb dX7_strengthOf_19 (by decide) (fun c7 => ?_) (fun c7 => ?_)
  · replace hf := opos c7 hf
    refine fr_aload_n hx hb dX7_strengthOf_27 rfl (lv_at hl 1 rfl) ?_
    obtain ⟨x8, g9, hf⟩ := obind hf
    refine fr_get hx hb hts hown K hC ct_4 (fgR_get g9) (by decide) kw184 rfl dX7_strengthOf_28 ?_
    refine lv_iload_n hx hb dX7_strengthOf_31 rfl (lv_at hl 2 rfl) ?_
    refine lv_iload_n hx hb dX7_strengthOf_32 rfl (lv_at hl 3 rfl) ?_
    refine lv_iconst (v := (1 : Int32)) hx hb dX7_strengthOf_33 (by decide) ?_
    refine lv_iadd hx hb dX7_strengthOf_34 ?_
    obtain ⟨r10, g11, hf⟩ := obind hf
    refine fr_callS hx hb hml hts hown K hC hR (hself g11) 3 kw391 kw389 kw390 kw55 (by decide +kernel) ⟨by dsimp only; omega, by dsimp only; omega⟩ rfl hl.1 (cat8 _ (by exact Nat.le_of_ble_eq_true rfl)) dX7_strengthOf_35 rfl (fun H locs _ _ hC => ?_)
    exact w_X7_strengthOf_L38 @hself M hfl _ _ _ _ hf _ _ _ _ _ hC (lv_sub hl [1, 2] rfl)
  · replace hf := oneg c7 hf
    refine lv_bipush (v := (100 : Int32)) hx hb dX7_strengthOf_22 (by decide) ?_
    refine lv_goto (tgt := 38) hx hb dX7_strengthOf_24 (by decide) ?_
    exact w_X7_strengthOf_L38 @hself M hfl _ _ _ _ hf _ _ _ _ _ hC (lv_sub hl [1, 2] rfl)
set_option maxHeartbeats 4000000 in
set_option maxRecDepth 100000 in
theorem w_X7_strengthOf_L12 {p : Program} {l : Launch} {e : Env} {s : State} {m : MethodId} {args : Array Value} {below : List Frame} {meth : Method} {c : Code} {D : va_G} {cA : Nat → ClassId} {h0 : fSt} {self : Option Nat → Int32 → Int32 → fSt → Option (Int32 × fSt)} {fd ld : Nat} {r : (Int32 × fSt)} (hself : ∀ {p0 : Option Nat} {p1 : Int32} {p2 : Int32} {h : fSt} {r : (Int32 × fSt)}, self p0 p1 p2 h = some r → fMet l yX7_strengthOf (wsC yX7_strengthOf cX7_strengthOf 5 (some (.int))) fd ld D cA [va_rf p0, .int p1, .int p2] h r.2 (some (.int r.1))) (M : fM p s m args meth c D cA h0 { frames := fd + 2, cells := fCB h0 - fZ h0, slots := fLB h0 - fL h0, locals := ld + 52 } cX7_strengthOf 5 (some (.int)) RX7) (hfl : l.stackTraces = false) (a0 : Option Nat) (a1 : Int32) (a2 : Int32) (h : fSt) (hf : f_X7_strengthOf_L12 self a0 a1 a2 h = some r) : ∀ (H : Heap) (locs : List Loc) (cells slots : Nat) (ls : Array Slot), fCur D cA s h0 h H locs → lv_has ls 5 [(0, va_rf a0), (1, .int a1), (2, .int a2)] → W p l e { frames := fd + 2, cells := fCB h0 - fZ h0, slots := fLB h0 - fL h0, locals := ld + 52 } s m args below meth c H locs cells slots (MQ below (fQ D cA h0 r.2 (some (.int r.1))) args s (fCB h0 - fZ h0) (fLB h0 - fL h0) (fA h0)) (F0 m 12 ls []) := by
  obtain ⟨hx, hb, hml, hr, hlocks, hts, hown, K, hR⟩ := id M
  intro H locs cells slots ls hC hl
  refine lv_iconst (v := (1 : Int32)) hx hb dX7_strengthOf_12 (by decide) ?_
  refine lv_goto (tgt := 17) hx hb dX7_strengthOf_13 (by decide) ?_
  exact w_X7_strengthOf_L17 @hself M hfl _ _ _ _ _ hf _ _ _ _ _ hC (lv_sub hl [0, 1, 2] rfl)
set_option maxHeartbeats 4000000 in
set_option maxRecDepth 100000 in
theorem w_X7_strengthOf_L0 {p : Program} {l : Launch} {e : Env} {s : State} {m : MethodId} {args : Array Value} {below : List Frame} {meth : Method} {c : Code} {D : va_G} {cA : Nat → ClassId} {h0 : fSt} {self : Option Nat → Int32 → Int32 → fSt → Option (Int32 × fSt)} {fd ld : Nat} {r : (Int32 × fSt)} (hself : ∀ {p0 : Option Nat} {p1 : Int32} {p2 : Int32} {h : fSt} {r : (Int32 × fSt)}, self p0 p1 p2 h = some r → fMet l yX7_strengthOf (wsC yX7_strengthOf cX7_strengthOf 5 (some (.int))) fd ld D cA [va_rf p0, .int p1, .int p2] h r.2 (some (.int r.1))) (M : fM p s m args meth c D cA h0 { frames := fd + 2, cells := fCB h0 - fZ h0, slots := fLB h0 - fL h0, locals := ld + 52 } cX7_strengthOf 5 (some (.int)) RX7) (hfl : l.stackTraces = false) (a0 : Option Nat) (a1 : Int32) (a2 : Int32) (h : fSt) (hf : f_X7_strengthOf_L0 self a0 a1 a2 h = some r) : ∀ (H : Heap) (locs : List Loc) (cells slots : Nat) (ls : Array Slot), fCur D cA s h0 h H locs → lv_has ls 5 [(0, va_rf a0), (1, .int a1), (2, .int a2)] → W p l e { frames := fd + 2, cells := fCB h0 - fZ h0, slots := fLB h0 - fL h0, locals := ld + 52 } s m args below meth c H locs cells slots (MQ below (fQ D cA h0 r.2 (some (.int r.1))) args s (fCB h0 - fZ h0) (fLB h0 - fL h0) (fA h0)) (F0 m 0 ls []) := by
  obtain ⟨hx, hb, hml, hr, hlocks, hts, hown, K, hR⟩ := id M
  intro H locs cells slots ls hC hl
  refine fr_aload_n hx hb dX7_strengthOf_0 rfl (lv_at hl 0 rfl) ?_
  obtain ⟨x12, g13, hf⟩ := obind hf
  refine fr_get hx hb hts hown K hC ct_4 (fgR_get g13) (by decide) kw184 rfl dX7_strengthOf_1 ?_
  refine fr_ifnull (tgt := 12) hx hb dX7_strengthOf_4 (by decide) (fun c14 => ?_) (fun c14 => ?_)
  · replace hf := opos c14 hf
    exact w_X7_strengthOf_L12 @hself M hfl _ _ _ _ hf _ _ _ _ _ hC (lv_sub hl [0, 1, 2] rfl)
  · replace hf := oneg c14 hf
    refine lv_iload_n hx hb dX7_strengthOf_7 rfl (lv_at hl 2 rfl) ?_
    refine lv_iconst (v := (4 : Int32)) hx hb dX7_strengthOf_8 (by decide) ?_
    refine lv_icmp_lt (tgt := 16) hx hb dX7_strengthOf_9 (by decide) (fun c15 => ?_) (fun c15 => ?_)
    · replace hf := opos c15 hf
      refine lv_iconst (v := (0 : Int32)) hx hb dX7_strengthOf_16 (by decide) ?_
      exact w_X7_strengthOf_L17 @hself M hfl _ _ _ _ _ hf _ _ _ _ _ hC (lv_sub hl [0, 1, 2] rfl)
    · replace hf := oneg c15 hf
      exact w_X7_strengthOf_L12 @hself M hfl _ _ _ _ hf _ _ _ _ _ hC (lv_sub hl [0, 1, 2] rfl)
set_option maxRecDepth 100000 in
theorem c_X7_strengthOf {l : Launch} (hfl : l.stackTraces = false) (D : va_G) (cA : Nat → ClassId) (d : Nat) : ∀ {p0 : Option Nat} {p1 : Int32} {p2 : Int32} {h : fSt} {r : (Int32 × fSt)}, f_X7_strengthOf d p0 p1 p2 h = some r → fMet l yX7_strengthOf (wsC yX7_strengthOf cX7_strengthOf 5 (some (.int))) (2 * d) (52 * d) D cA [va_rf p0, .int p1, .int p2] h r.2 (some (.int r.1)) := by
  induction d with
  | zero =>
    intro p0 p1 p2 h r hf
    exact nomatch (show (none : Option (Int32 × fSt)) = some r from hf)
  | succ d hself =>
    intro p0 p1 p2 h r hf
    have hf : f_X7_strengthOf_L0 (f_X7_strengthOf d) p0 p1 p2 h = some r := hf
    exact fMet.of (own := RX7) (by decide +kernel) rfl (lva1 (va_rf_cat _) (lva1 rfl (lva1 rfl lva0))) (lgl1 (va_rf_cat _) (lgl1 rfl (lgl1 rfl lgl0))) (Nat.le_of_ble_eq_true rfl) (fun p e s m args below meth c ls hnm _ M hC hl => by
    have hl : lv_has ls 5 [(0, va_rf p0), (1, .int p1), (2, .int p2)] := hl
    exact w_X7_strengthOf_L0 @hself M hfl _ _ _ _ hf _ _ _ _ _ hC (lv_sub hl [0, 1, 2] rfl))
set_option maxHeartbeats 4000000 in
set_option maxRecDepth 100000 in
theorem w_X7_strength_L0 {p : Program} {l : Launch} {e : Env} {s : State} {m : MethodId} {args : Array Value} {below : List Frame} {meth : Method} {c : Code} {D : va_G} {cA : Nat → ClassId} {h0 : fSt} {r : ((Int32 ⊕ Nat) × fSt)} (M : fM p s m args meth c D cA h0 { frames := 17, cells := fCB h0 - fZ h0, slots := fLB h0 - fL h0, locals := 440 } cX7_strength 2 (some (.int)) RX7) (hfl : l.stackTraces = false) (hno : ∀ x ∈ c.exceptionTable.toList, False) (a0 : Option Nat) (a1 : Int32) (h : fSt) (hf : f_X7_strength_L0 a0 a1 h = some r) : ∀ (H : Heap) (locs : List Loc) (cells slots : Nat) (ls : Array Slot), fCur D cA s h0 h H locs → lv_has ls 2 [(0, va_rf a0), (1, .int a1)] → W p l e { frames := 17, cells := fCB h0 - fZ h0, slots := fLB h0 - fL h0, locals := 440 } s m args below meth c H locs cells slots (vx_MQ below (fQX D cA h0 r.2 (rI r.1)) (fXC D cA h0 r.2 (rI r.1)) args s (fCB h0 - fZ h0) (fLB h0 - fL h0) (fA h0)) (F0 m 0 ls []) := by
  obtain ⟨hx, hb, hml, hr, hlocks, hts, hown, K, hR⟩ := id M
  intro H locs cells slots ls hC hl
  refine fr_aload_n hx hb dX7_strength_0 rfl (lv_at hl 0 rfl) ?_
  refine lv_iload_n hx hb dX7_strength_1 rfl (lv_at hl 1 rfl) ?_
  obtain ⟨b3, q4, hf⟩ := obind hf
  obtain ⟨⟨v5 | k6, h7⟩, g2, hf⟩ := obind hf
  · refine fr_callVX hx hb hml hts hown K hC hR ct_7 (c_X7_found hfl D cA g2) 1 q4 kw583 kw580 kw582 kw12 kw55 (by decide +kernel) ⟨by exact Nat.le_of_ble_eq_true rfl, by exact Nat.le_of_ble_eq_true rfl⟩ rfl hl.1 (cat8 _ (by exact Nat.le_of_ble_eq_true rfl)) dX7_strength_2 rfl (fun H locs _ _ hC => ?_)
    refine fr_aload_n hx hb dX7_strength_5 rfl (lv_at hl 0 rfl) ?_
    obtain ⟨x8, g9, hf⟩ := obind hf
    refine fr_get hx hb hts hown K hC ct_7 (fgI_get g9) (by decide) kw297 rfl dX7_strength_6 ?_
    refine lv_iconst (v := (0 : Int32)) hx hb dX7_strength_9 (by decide) ?_
    obtain ⟨r10, g11, hf⟩ := obind hf
    refine fr_callS hx hb hml hts hown K hC hR (c_X7_strengthOf hfl D cA 8 g11) 3 kw391 kw389 kw390 kw55 (by decide +kernel) ⟨by exact Nat.le_of_ble_eq_true rfl, by exact Nat.le_of_ble_eq_true rfl⟩ rfl hl.1 (cat8 _ (by exact Nat.le_of_ble_eq_true rfl)) dX7_strength_10 rfl (fun H locs _ _ hC => ?_)
    obtain rfl := Option.some.inj hf
    exact fr_retQ (fr_iret hx hb hr hlocks hC dX7_strength_13)
  · obtain rfl := Option.some.inj hf
    refine fr_callVT hx hb hml hts hown K hC hR ct_7 (c_X7_found hfl D cA g2) 1 q4 kw583 kw580 kw582 kw12 kw55 (by decide +kernel) ⟨by exact Nat.le_of_ble_eq_true rfl, by exact Nat.le_of_ble_eq_true rfl⟩ rfl hl.1 (cat8 _ (by exact Nat.le_of_ble_eq_true rfl)) dX7_strength_2 rfl (fun H locs _ _ q ce hC e1 e2 e3 => ?_)
    exact fr_out (fun x hx9 => (hno x hx9).elim) hlocks hC e1 e2 e3
set_option maxRecDepth 100000 in
theorem c_X7_strength {l : Launch} (hfl : l.stackTraces = false) (D : va_G) (cA : Nat → ClassId) {o : Nat} {p0 : Int32} {h : fSt} {r : ((Int32 ⊕ Nat) × fSt)} (hf : f_X7_strength o p0 h = some r) : fMetX l yX7_strength (wsC yX7_strength cX7_strength 2 (some (.int))) (17) (440) D cA [.ref o, .int p0] h r.2 (rI r.1) := by
  exact fMetX.of (own := RX7) (by decide +kernel) rfl (lva1 rfl (lva1 rfl lva0)) (lgl1 rfl (lgl1 rfl lgl0)) (Nat.le_of_ble_eq_true rfl) (fun p e s m args below meth c ls hno M hC hl => by
    have hl : lv_has ls 2 [(0, va_rf (some o)), (1, .int p0)] := hl
    exact w_X7_strength_L0 M hfl hno _ _ _ hf _ _ _ _ _ hC (lv_sub hl [0, 1] rfl))
set_option maxHeartbeats 4000000 in
set_option maxRecDepth 100000 in
theorem w_L_strength_L0 {p : Program} {l : Launch} {e : Env} {s : State} {m : MethodId} {args : Array Value} {below : List Frame} {meth : Method} {c : Code} {D : va_G} {cA : Nat → ClassId} {h0 : fSt} {r : ((Int32 ⊕ Nat) × fSt)} (M : fM p s m args meth c D cA h0 { frames := 18, cells := fCB h0 - fZ h0, slots := fLB h0 - fL h0, locals := 461 } cL_strength 4 (some (.int)) RL) (hfl : l.stackTraces = false) (hno : c.exceptionTable.toList = tableOf [(0, 9, 12, 13)]) (a0 : Option Nat) (a1 : Int32) (a2 : Option Nat) (h : fSt) (hf : f_L_strength_L0 a0 a1 a2 h = some r) : ∀ (H : Heap) (locs : List Loc) (cells slots : Nat) (ls : Array Slot), fCur D cA s h0 h H locs → lv_has ls 4 [(0, va_rf a0), (1, .int a1), (2, va_rf a2)] → W p l e { frames := 18, cells := fCB h0 - fZ h0, slots := fLB h0 - fL h0, locals := 461 } s m args below meth c H locs cells slots (vx_MQ below (fQX D cA h0 r.2 (rI r.1)) (fXC D cA h0 r.2 (rI r.1)) args s (fCB h0 - fZ h0) (fLB h0 - fL h0) (fA h0)) (F0 m 0 ls []) := by
  obtain ⟨hx, hb, hml, hr, hlocks, hts, hown, K, hR⟩ := id M
  intro H locs cells slots ls hC hl
  refine fr_aload_n hx hb dL_strength_0 rfl (lv_at hl 2 rfl) ?_
  refine lv_iconst (v := (0 : Int32)) hx hb dL_strength_1 (by decide) ?_
  refine fr_aload_n hx hb dL_strength_2 rfl (lv_at hl 0 rfl) ?_
  refine lv_iload_n hx hb dL_strength_3 rfl (lv_at hl 1 rfl) ?_
  obtain ⟨b3, q4, hf⟩ := obind hf
  obtain ⟨⟨v5 | k6, h7⟩, g2, hf⟩ := obind hf
  · refine fr_callVX hx hb hml hts hown K hC hR ct_7 (c_X7_strength hfl D cA g2) 1 q4 kw882 kw879 kw880 kw881 kw55 (by decide +kernel) ⟨by exact Nat.le_of_ble_eq_true rfl, by exact Nat.le_of_ble_eq_true rfl⟩ rfl hl.1 (cat8 _ (by exact Nat.le_of_ble_eq_true rfl)) dL_strength_4 rfl (fun H locs _ _ hC => ?_)
    refine lv_i2l (v := (Int32.toInt64 v5)) hx hb dL_strength_7 rfl ?_
    obtain ⟨h8, g9, hf⟩ := obind hf
    refine fr_last hx hb K hC (t := 1) rfl g9 dL_strength_8 (fun H locs hC => ?_)
    refine lv_goto (tgt := 15) hx hb dL_strength_9 (by decide) ?_
    refine lv_iconst (v := (0 : Int32)) hx hb dL_strength_15 (by decide) ?_
    obtain rfl := Option.some.inj hf
    exact fr_retQ (fr_iret hx hb hr hlocks hC dL_strength_16)
  · refine fr_callVT hx hb hml hts hown K hC hR ct_7 (c_X7_strength hfl D cA g2) 1 q4 kw882 kw879 kw880 kw881 kw55 (by decide +kernel) ⟨by exact Nat.le_of_ble_eq_true rfl, by exact Nat.le_of_ble_eq_true rfl⟩ rfl hl.1 (cat8 _ (by exact Nat.le_of_ble_eq_true rfl)) dL_strength_4 rfl (fun H locs _ _ q ce hC e1 e2 e3 => ?_)
    by_cases c10 : k6 = 0
    · replace hf := opos c10 hf
      subst c10
      refine fr_catch (k9 := 0) (name := "java/lang/IndexOutOfBoundsException") hts K hown [] ⟨0, 9, 12, 13⟩ [] (by rw [hno]; rfl) (fun z hz => nomatch hz) (by decide) (by decide) kw573 kn586 e1 e2 e3 ?_
      refine fr_astore_n (lv' := [(3, va_rf (some q)), (0, va_rf a0), (1, .int a1), (2, va_rf a2)]) hx hb dL_strength_12 rfl hl (by decide) (congrArg (List.cons _) (flk rfl (flk rfl (flk (adj1 _ _) fln)))) (fun ls hl => ?_)
      refine lv_iconst (v := (1 : Int32)) hx hb dL_strength_13 (by decide) ?_
      obtain rfl := Option.some.inj hf
      exact fr_retQ (fr_iret hx hb hr hlocks hC dL_strength_14)
    replace hf := oneg c10 hf
    exact nomatch hf
set_option maxRecDepth 100000 in
theorem c_L_strength {l : Launch} (hfl : l.stackTraces = false) (D : va_G) (cA : Nat → ClassId) {p0 : Option Nat} {p1 : Int32} {p2 : Option Nat} {h : fSt} {r : ((Int32 ⊕ Nat) × fSt)} (hf : f_L_strength p0 p1 p2 h = some r) : fMetX l yL_strength (wsCH yL_strength cL_strength 4 (some (.int)) [(0, 9, 12, 13)]) (18) (461) D cA [va_rf p0, .int p1, va_rf p2] h r.2 (rI r.1) := by
  exact fMetX.ofH (own := RL) (by decide +kernel) rfl (lva1 (va_rf_cat _) (lva1 rfl (lva1 (va_rf_cat _) lva0))) (lgl1 (va_rf_cat _) (lgl1 rfl (lgl1 (va_rf_cat _) lgl0))) (Nat.le_of_ble_eq_true rfl) (fun p e s m args below meth c ls hno M hC hl => by
    have hl : lv_has ls 4 [(0, va_rf p0), (1, .int p1), (2, va_rf p2)] := hl
    exact w_L_strength_L0 M hfl hno _ _ _ _ hf _ _ _ _ _ hC (lv_sub hl [0, 1, 2] rfl))
