theorem dX7_through_0 : decode cX7_through 0 = .ok (.iload_n 1, 1) := by decide +kernel
theorem dX7_through_1 : decode cX7_through 1 = .ok (.iload_n 2, 1) := by decide +kernel
theorem dX7_through_2 : decode cX7_through 2 = .ok (.iload_n 3, 1) := by decide +kernel
theorem dX7_through_3 : decode cX7_through 3 = .ok (.invokestatic 295, 3) := by decide +kernel
theorem dX7_through_6 : decode cX7_through 6 = .ok (.sipush 10000, 3) := by decide +kernel
theorem dX7_through_9 : decode cX7_through 9 = .ok (.istore 4, 2) := by decide +kernel
theorem dX7_through_11 : decode cX7_through 11 = .ok (.aload_n 0, 1) := by decide +kernel
theorem dX7_through_12 : decode cX7_through 12 = .ok (.getfield 46, 3) := by decide +kernel
theorem dX7_through_15 : decode cX7_through 15 = .ok (.astore 5, 2) := by decide +kernel
theorem dX7_through_17 : decode cX7_through 17 = .ok (.aload 5, 2) := by decide +kernel
theorem dX7_through_19 : decode cX7_through 19 = .ok (.ifnull 50, 3) := by decide +kernel
theorem dX7_through_22 : decode cX7_through 22 = .ok (.aload_n 0, 1) := by decide +kernel
theorem dX7_through_23 : decode cX7_through 23 = .ok (.aload 5, 2) := by decide +kernel
theorem dX7_through_25 : decode cX7_through 25 = .ok (.iload_n 1, 1) := by decide +kernel
theorem dX7_through_26 : decode cX7_through 26 = .ok (.iload_n 2, 1) := by decide +kernel
theorem dX7_through_27 : decode cX7_through 27 = .ok (.iload_n 3, 1) := by decide +kernel
theorem dX7_through_28 : decode cX7_through 28 = .ok (.aload_n 0, 1) := by decide +kernel
theorem dX7_through_29 : decode cX7_through 29 = .ok (.getfield 232, 3) := by decide +kernel
theorem dX7_through_32 : decode cX7_through 32 = .ok (.invokevirtual 298, 3) := by decide +kernel
theorem dX7_through_35 : decode cX7_through 35 = .ok (.ifCond .eq 24, 3) := by decide +kernel
theorem dX7_through_38 : decode cX7_through 38 = .ok (.iload 4, 2) := by decide +kernel
theorem dX7_through_40 : decode cX7_through 40 = .ok (.bipush 100, 2) := by decide +kernel
theorem dX7_through_42 : decode cX7_through 42 = .ok (.aload 5, 2) := by decide +kernel
theorem dX7_through_44 : decode cX7_through 44 = .ok (.aload_n 0, 1) := by decide +kernel
theorem dX7_through_45 : decode cX7_through 45 = .ok (.getfield 232, 3) := by decide +kernel
theorem dX7_through_48 : decode cX7_through 48 = .ok (.iconst 0, 1) := by decide +kernel
theorem dX7_through_49 : decode cX7_through 49 = .ok (.invokestatic 283, 3) := by decide +kernel
theorem dX7_through_52 : decode cX7_through 52 = .ok (.isub, 1) := by decide +kernel
theorem dX7_through_53 : decode cX7_through 53 = .ok (.imul, 1) := by decide +kernel
theorem dX7_through_54 : decode cX7_through 54 = .ok (.bipush 100, 2) := by decide +kernel
theorem dX7_through_56 : decode cX7_through 56 = .ok (.idiv, 1) := by decide +kernel
theorem dX7_through_57 : decode cX7_through 57 = .ok (.istore 4, 2) := by decide +kernel
theorem dX7_through_59 : decode cX7_through 59 = .ok (.aload 5, 2) := by decide +kernel
theorem dX7_through_61 : decode cX7_through 61 = .ok (.getfield 98, 3) := by decide +kernel
theorem dX7_through_64 : decode cX7_through 64 = .ok (.astore 5, 2) := by decide +kernel
theorem dX7_through_66 : decode cX7_through 66 = .ok (.goto (-49), 3) := by decide +kernel
theorem dX7_through_69 : decode cX7_through 69 = .ok (.iload 4, 2) := by decide +kernel
theorem dX7_through_71 : decode cX7_through 71 = .ok (.ireturn, 1) := by decide +kernel
theorem dL_through_0 : decode cL_through 0 = .ok (.aload 4, 2) := by decide +kernel
theorem dL_through_2 : decode cL_through 2 = .ok (.iconst 0, 1) := by decide +kernel
theorem dL_through_3 : decode cL_through 3 = .ok (.aload_n 0, 1) := by decide +kernel
theorem dL_through_4 : decode cL_through 4 = .ok (.iload_n 1, 1) := by decide +kernel
theorem dL_through_5 : decode cL_through 5 = .ok (.iload_n 2, 1) := by decide +kernel
theorem dL_through_6 : decode cL_through 6 = .ok (.iload_n 3, 1) := by decide +kernel
theorem dL_through_7 : decode cL_through 7 = .ok (.invokevirtual 109, 3) := by decide +kernel
theorem dL_through_10 : decode cL_through 10 = .ok (.i2l, 1) := by decide +kernel
theorem dL_through_11 : decode cL_through 11 = .ok (.lastore, 1) := by decide +kernel
theorem dL_through_12 : decode cL_through 12 = .ok (.goto 7, 3) := by decide +kernel
theorem dL_through_15 : decode cL_through 15 = .ok (.astore 5, 2) := by decide +kernel
theorem dL_through_17 : decode cL_through 17 = .ok (.iconst 1, 1) := by decide +kernel
theorem dL_through_18 : decode cL_through 18 = .ok (.ireturn, 1) := by decide +kernel
theorem dL_through_19 : decode cL_through 19 = .ok (.iconst 0, 1) := by decide +kernel
theorem dL_through_20 : decode cL_through 20 = .ok (.ireturn, 1) := by decide +kernel
theorem dX7_toWhole_0 : decode cX7_toWhole 0 = .ok (.aload_n 0, 1) := by decide +kernel
theorem dX7_toWhole_1 : decode cX7_toWhole 1 = .ok (.iload_n 1, 1) := by decide +kernel
theorem dX7_toWhole_2 : decode cX7_toWhole 2 = .ok (.invokevirtual 52, 3) := by decide +kernel
theorem dX7_toWhole_5 : decode cX7_toWhole 5 = .ok (.astore 5, 2) := by decide +kernel
theorem dX7_toWhole_7 : decode cX7_toWhole 7 = .ok (.iload_n 2, 1) := by decide +kernel
theorem dX7_toWhole_8 : decode cX7_toWhole 8 = .ok (.iload_n 3, 1) := by decide +kernel
theorem dX7_toWhole_9 : decode cX7_toWhole 9 = .ok (.iload 4, 2) := by decide +kernel
theorem dX7_toWhole_11 : decode cX7_toWhole 11 = .ok (.invokestatic 244, 3) := by decide +kernel
theorem dX7_toWhole_14 : decode cX7_toWhole 14 = .ok (.aload_n 0, 1) := by decide +kernel
theorem dX7_toWhole_15 : decode cX7_toWhole 15 = .ok (.aload 5, 2) := by decide +kernel
theorem dX7_toWhole_17 : decode cX7_toWhole 17 = .ok (.iload_n 2, 1) := by decide +kernel
theorem dX7_toWhole_18 : decode cX7_toWhole 18 = .ok (.iload_n 3, 1) := by decide +kernel
theorem dX7_toWhole_19 : decode cX7_toWhole 19 = .ok (.invokevirtual 248, 3) := by decide +kernel
theorem dX7_toWhole_22 : decode cX7_toWhole 22 = .ok (.aload_n 0, 1) := by decide +kernel
theorem dX7_toWhole_23 : decode cX7_toWhole 23 = .ok (.getfield 31, 3) := by decide +kernel
theorem dX7_toWhole_26 : decode cX7_toWhole 26 = .ok (.iload 4, 2) := by decide +kernel
theorem dX7_toWhole_28 : decode cX7_toWhole 28 = .ok (.invokevirtual 252, 3) := by decide +kernel
theorem dX7_toWhole_31 : decode cX7_toWhole 31 = .ok (.l2i, 1) := by decide +kernel
theorem dX7_toWhole_32 : decode cX7_toWhole 32 = .ok (.ireturn, 1) := by decide +kernel
theorem dL_toWhole_0 : decode cL_toWhole 0 = .ok (.aload 5, 2) := by decide +kernel
theorem dL_toWhole_2 : decode cL_toWhole 2 = .ok (.iconst 0, 1) := by decide +kernel
theorem dL_toWhole_3 : decode cL_toWhole 3 = .ok (.aload_n 0, 1) := by decide +kernel
theorem dL_toWhole_4 : decode cL_toWhole 4 = .ok (.iload_n 1, 1) := by decide +kernel
theorem dL_toWhole_5 : decode cL_toWhole 5 = .ok (.iload_n 2, 1) := by decide +kernel
theorem dL_toWhole_6 : decode cL_toWhole 6 = .ok (.iload_n 3, 1) := by decide +kernel
theorem dL_toWhole_7 : decode cL_toWhole 7 = .ok (.iload 4, 2) := by decide +kernel
theorem dL_toWhole_9 : decode cL_toWhole 9 = .ok (.invokevirtual 74, 3) := by decide +kernel
theorem dL_toWhole_12 : decode cL_toWhole 12 = .ok (.i2l, 1) := by decide +kernel
theorem dL_toWhole_13 : decode cL_toWhole 13 = .ok (.lastore, 1) := by decide +kernel
theorem dL_toWhole_14 : decode cL_toWhole 14 = .ok (.goto 11, 3) := by decide +kernel
theorem dL_toWhole_17 : decode cL_toWhole 17 = .ok (.astore 6, 2) := by decide +kernel
theorem dL_toWhole_19 : decode cL_toWhole 19 = .ok (.iconst 1, 1) := by decide +kernel
theorem dL_toWhole_20 : decode cL_toWhole 20 = .ok (.ireturn, 1) := by decide +kernel
theorem dL_toWhole_21 : decode cL_toWhole 21 = .ok (.astore 6, 2) := by decide +kernel
theorem dL_toWhole_23 : decode cL_toWhole 23 = .ok (.iconst 2, 1) := by decide +kernel
theorem dL_toWhole_24 : decode cL_toWhole 24 = .ok (.ireturn, 1) := by decide +kernel
theorem dL_toWhole_25 : decode cL_toWhole 25 = .ok (.iconst 0, 1) := by decide +kernel
theorem dL_toWhole_26 : decode cL_toWhole 26 = .ok (.ireturn, 1) := by decide +kernel
theorem dX7_track_0 : decode cX7_track 0 = .ok (.aload_n 0, 1) := by decide +kernel
theorem dX7_track_1 : decode cX7_track 1 = .ok (.iload_n 1, 1) := by decide +kernel
theorem dX7_track_2 : decode cX7_track 2 = .ok (.invokevirtual 52, 3) := by decide +kernel
theorem dX7_track_5 : decode cX7_track 5 = .ok (.astore 5, 2) := by decide +kernel
theorem dX7_track_7 : decode cX7_track 7 = .ok (.aload 5, 2) := by decide +kernel
theorem dX7_track_9 : decode cX7_track 9 = .ok (.iload_n 2, 1) := by decide +kernel
theorem dX7_track_10 : decode cX7_track 10 = .ok (.invokevirtual 176, 3) := by decide +kernel
theorem dX7_track_13 : decode cX7_track 13 = .ok (.astore 6, 2) := by decide +kernel
theorem dX7_track_15 : decode cX7_track 15 = .ok (.aload 6, 2) := by decide +kernel
theorem dX7_track_17 : decode cX7_track 17 = .ok (.ifnull 22, 3) := by decide +kernel
theorem dX7_track_20 : decode cX7_track 20 = .ok (.iload_n 3, 1) := by decide +kernel
theorem dX7_track_21 : decode cX7_track 21 = .ok (.iconst 0, 1) := by decide +kernel
theorem dX7_track_22 : decode cX7_track 22 = .ok (.iconst 2, 1) := by decide +kernel
theorem dX7_track_23 : decode cX7_track 23 = .ok (.invokestatic 56, 3) := by decide +kernel
theorem dX7_track_26 : decode cX7_track 26 = .ok (.ifCond .eq 13, 3) := by decide +kernel
theorem dX7_track_29 : decode cX7_track 29 = .ok (.iload 4, 2) := by decide +kernel
theorem dX7_track_31 : decode cX7_track 31 = .ok (.iconst 0, 1) := by decide +kernel
theorem dX7_track_32 : decode cX7_track 32 = .ok (.iconst 2, 1) := by decide +kernel
theorem dX7_track_33 : decode cX7_track 33 = .ok (.invokestatic 56, 3) := by decide +kernel
theorem dX7_track_36 : decode cX7_track 36 = .ok (.ifCond .ne 13, 3) := by decide +kernel
theorem dX7_track_39 : decode cX7_track 39 = .ok (.new 60, 3) := by decide +kernel
theorem dX7_track_42 : decode cX7_track 42 = .ok (.dup, 1) := by decide +kernel
theorem dX7_track_43 : decode cX7_track 43 = .ok (.ldc 180, 2) := by decide +kernel
theorem dX7_track_45 : decode cX7_track 45 = .ok (.invokespecial 64, 3) := by decide +kernel
theorem dX7_track_48 : decode cX7_track 48 = .ok (.athrow, 1) := by decide +kernel
theorem dX7_track_49 : decode cX7_track 49 = .ok (.aload 5, 2) := by decide +kernel
theorem dX7_track_51 : decode cX7_track 51 = .ok (.aload_n 0, 1) := by decide +kernel
theorem dX7_track_52 : decode cX7_track 52 = .ok (.getfield 24, 3) := by decide +kernel
theorem dX7_track_55 : decode cX7_track 55 = .ok (.if_acmp .eq 30, 3) := by decide +kernel
theorem dX7_track_58 : decode cX7_track 58 = .ok (.aload 6, 2) := by decide +kernel
theorem dX7_track_60 : decode cX7_track 60 = .ok (.getfield 182, 3) := by decide +kernel
theorem dX7_track_63 : decode cX7_track 63 = .ok (.ifCond .ne 22, 3) := by decide +kernel
theorem dX7_track_66 : decode cX7_track 66 = .ok (.aload_n 0, 1) := by decide +kernel
theorem dX7_track_67 : decode cX7_track 67 = .ok (.getfield 185, 3) := by decide +kernel
theorem dX7_track_70 : decode cX7_track 70 = .ok (.ifCond .lt 15, 3) := by decide +kernel
theorem dX7_track_73 : decode cX7_track 73 = .ok (.aload_n 0, 1) := by decide +kernel
theorem dX7_track_74 : decode cX7_track 74 = .ok (.getfield 185, 3) := by decide +kernel
theorem dX7_track_77 : decode cX7_track 77 = .ok (.aload_n 0, 1) := by decide +kernel
theorem dX7_track_78 : decode cX7_track 78 = .ok (.getfield 17, 3) := by decide +kernel
theorem dX7_track_81 : decode cX7_track 81 = .ok (.arraylength, 1) := by decide +kernel
theorem dX7_track_82 : decode cX7_track 82 = .ok (.if_icmp .lt 13, 3) := by decide +kernel
theorem dX7_track_85 : decode cX7_track 85 = .ok (.new 73, 3) := by decide +kernel
theorem dX7_track_88 : decode cX7_track 88 = .ok (.dup, 1) := by decide +kernel
theorem dX7_track_89 : decode cX7_track 89 = .ok (.ldc 188, 2) := by decide +kernel
theorem dX7_track_91 : decode cX7_track 91 = .ok (.invokespecial 77, 3) := by decide +kernel
theorem dX7_track_94 : decode cX7_track 94 = .ok (.athrow, 1) := by decide +kernel
theorem dX7_track_95 : decode cX7_track 95 = .ok (.aload 6, 2) := by decide +kernel
theorem dX7_track_97 : decode cX7_track 97 = .ok (.iconst 1, 1) := by decide +kernel
theorem dX7_track_98 : decode cX7_track 98 = .ok (.putfield 182, 3) := by decide +kernel
theorem dX7_track_101 : decode cX7_track 101 = .ok (.aload 6, 2) := by decide +kernel
theorem dX7_track_103 : decode cX7_track 103 = .ok (.iload_n 3, 1) := by decide +kernel
theorem dX7_track_104 : decode cX7_track 104 = .ok (.putfield 190, 3) := by decide +kernel
theorem dX7_track_107 : decode cX7_track 107 = .ok (.aload 6, 2) := by decide +kernel
theorem dX7_track_109 : decode cX7_track 109 = .ok (.iload 4, 2) := by decide +kernel
theorem dX7_track_111 : decode cX7_track 111 = .ok (.putfield 193, 3) := by decide +kernel
theorem dX7_track_114 : decode cX7_track 114 = .ok (.aload_n 0, 1) := by decide +kernel
theorem dX7_track_115 : decode cX7_track 115 = .ok (.getfield 17, 3) := by decide +kernel
theorem dX7_track_118 : decode cX7_track 118 = .ok (.aload_n 0, 1) := by decide +kernel
theorem dX7_track_119 : decode cX7_track 119 = .ok (.getfield 185, 3) := by decide +kernel
theorem dX7_track_122 : decode cX7_track 122 = .ok (.aload 6, 2) := by decide +kernel
theorem dX7_track_124 : decode cX7_track 124 = .ok (.aastore, 1) := by decide +kernel
theorem dX7_track_125 : decode cX7_track 125 = .ok (.aload_n 0, 1) := by decide +kernel
theorem dX7_track_126 : decode cX7_track 126 = .ok (.dup, 1) := by decide +kernel
theorem dX7_track_127 : decode cX7_track 127 = .ok (.getfield 185, 3) := by decide +kernel
theorem dX7_track_130 : decode cX7_track 130 = .ok (.iconst 1, 1) := by decide +kernel
theorem dX7_track_131 : decode cX7_track 131 = .ok (.iadd, 1) := by decide +kernel
theorem dX7_track_132 : decode cX7_track 132 = .ok (.putfield 185, 3) := by decide +kernel
theorem dX7_track_135 : decode cX7_track 135 = .ok (.aload_n 0, 1) := by decide +kernel
theorem dX7_track_136 : decode cX7_track 136 = .ok (.getfield 185, 3) := by decide +kernel
theorem dX7_track_139 : decode cX7_track 139 = .ok (.iconst 1, 1) := by decide +kernel
theorem dX7_track_140 : decode cX7_track 140 = .ok (.isub, 1) := by decide +kernel
theorem dX7_track_141 : decode cX7_track 141 = .ok (.ireturn, 1) := by decide +kernel
theorem dL_track_0 : decode cL_track 0 = .ok (.aload 5, 2) := by decide +kernel
theorem dL_track_2 : decode cL_track 2 = .ok (.iconst 0, 1) := by decide +kernel
theorem dL_track_3 : decode cL_track 3 = .ok (.aload_n 0, 1) := by decide +kernel
theorem dL_track_4 : decode cL_track 4 = .ok (.iload_n 1, 1) := by decide +kernel
theorem dL_track_5 : decode cL_track 5 = .ok (.iload_n 2, 1) := by decide +kernel
theorem dL_track_6 : decode cL_track 6 = .ok (.iload_n 3, 1) := by decide +kernel
theorem dL_track_7 : decode cL_track 7 = .ok (.iload 4, 2) := by decide +kernel
theorem dL_track_9 : decode cL_track 9 = .ok (.invokevirtual 59, 3) := by decide +kernel
theorem dL_track_12 : decode cL_track 12 = .ok (.i2l, 1) := by decide +kernel
theorem dL_track_13 : decode cL_track 13 = .ok (.lastore, 1) := by decide +kernel
theorem dL_track_14 : decode cL_track 14 = .ok (.goto 15, 3) := by decide +kernel
theorem dL_track_17 : decode cL_track 17 = .ok (.astore 6, 2) := by decide +kernel
theorem dL_track_19 : decode cL_track 19 = .ok (.iconst 1, 1) := by decide +kernel
theorem dL_track_20 : decode cL_track 20 = .ok (.ireturn, 1) := by decide +kernel
theorem dL_track_21 : decode cL_track 21 = .ok (.astore 6, 2) := by decide +kernel
theorem dL_track_23 : decode cL_track 23 = .ok (.iconst 2, 1) := by decide +kernel
theorem dL_track_24 : decode cL_track 24 = .ok (.ireturn, 1) := by decide +kernel
theorem dL_track_25 : decode cL_track 25 = .ok (.astore 6, 2) := by decide +kernel
theorem dL_track_27 : decode cL_track 27 = .ok (.iconst 3, 1) := by decide +kernel
theorem dL_track_28 : decode cL_track 28 = .ok (.ireturn, 1) := by decide +kernel
theorem dL_track_29 : decode cL_track 29 = .ok (.iconst 0, 1) := by decide +kernel
theorem dL_track_30 : decode cL_track 30 = .ok (.ireturn, 1) := by decide +kernel
theorem dX7_turn_0 : decode cX7_turn 0 = .ok (.aload_n 0, 1) := by decide +kernel
theorem dX7_turn_1 : decode cX7_turn 1 = .ok (.iload_n 1, 1) := by decide +kernel
theorem dX7_turn_2 : decode cX7_turn 2 = .ok (.invokevirtual 88, 3) := by decide +kernel
theorem dX7_turn_5 : decode cX7_turn 5 = .ok (.astore 4, 2) := by decide +kernel
theorem dX7_turn_7 : decode cX7_turn 7 = .ok (.aload 4, 2) := by decide +kernel
theorem dX7_turn_9 : decode cX7_turn 9 = .ok (.getfield 139, 3) := by decide +kernel
theorem dX7_turn_12 : decode cX7_turn 12 = .ok (.iload_n 2, 1) := by decide +kernel
theorem dX7_turn_13 : decode cX7_turn 13 = .ok (.invokevirtual 119, 3) := by decide +kernel
theorem dX7_turn_16 : decode cX7_turn 16 = .ok (.ifCond .ne 13, 3) := by decide +kernel
theorem dX7_turn_19 : decode cX7_turn 19 = .ok (.new 60, 3) := by decide +kernel
theorem dX7_turn_22 : decode cX7_turn 22 = .ok (.dup, 1) := by decide +kernel
theorem dX7_turn_23 : decode cX7_turn 23 = .ok (.ldc 142, 2) := by decide +kernel
theorem dX7_turn_25 : decode cX7_turn 25 = .ok (.invokespecial 64, 3) := by decide +kernel
theorem dX7_turn_28 : decode cX7_turn 28 = .ok (.athrow, 1) := by decide +kernel
theorem dX7_turn_29 : decode cX7_turn 29 = .ok (.aload 4, 2) := by decide +kernel
theorem dX7_turn_31 : decode cX7_turn 31 = .ok (.getfield 139, 3) := by decide +kernel
theorem dX7_turn_34 : decode cX7_turn 34 = .ok (.getfield 128, 3) := by decide +kernel
theorem dX7_turn_37 : decode cX7_turn 37 = .ok (.istore 5, 2) := by decide +kernel
theorem dX7_turn_39 : decode cX7_turn 39 = .ok (.aload 4, 2) := by decide +kernel
theorem dX7_turn_41 : decode cX7_turn 41 = .ok (.getfield 139, 3) := by decide +kernel
theorem dX7_turn_44 : decode cX7_turn 44 = .ok (.iload_n 2, 1) := by decide +kernel
theorem dX7_turn_45 : decode cX7_turn 45 = .ok (.putfield 128, 3) := by decide +kernel
theorem dX7_turn_48 : decode cX7_turn 48 = .ok (.aload 4, 2) := by decide +kernel
theorem dX7_turn_50 : decode cX7_turn 50 = .ok (.iload_n 3, 1) := by decide +kernel
theorem dX7_turn_51 : decode cX7_turn 51 = .ok (.putfield 144, 3) := by decide +kernel
theorem dX7_turn_54 : decode cX7_turn 54 = .ok (.iload 5, 2) := by decide +kernel
theorem dX7_turn_56 : decode cX7_turn 56 = .ok (.ireturn, 1) := by decide +kernel
theorem dL_turn_0 : decode cL_turn 0 = .ok (.aload 4, 2) := by decide +kernel
theorem dL_turn_2 : decode cL_turn 2 = .ok (.iconst 0, 1) := by decide +kernel
theorem dL_turn_3 : decode cL_turn 3 = .ok (.aload_n 0, 1) := by decide +kernel
theorem dL_turn_4 : decode cL_turn 4 = .ok (.iload_n 1, 1) := by decide +kernel
theorem dL_turn_5 : decode cL_turn 5 = .ok (.iload_n 2, 1) := by decide +kernel
theorem dL_turn_6 : decode cL_turn 6 = .ok (.iload_n 3, 1) := by decide +kernel
theorem dL_turn_7 : decode cL_turn 7 = .ok (.invokevirtual 34, 3) := by decide +kernel
theorem dL_turn_10 : decode cL_turn 10 = .ok (.i2l, 1) := by decide +kernel
theorem dL_turn_11 : decode cL_turn 11 = .ok (.lastore, 1) := by decide +kernel
theorem dL_turn_12 : decode cL_turn 12 = .ok (.goto 15, 3) := by decide +kernel
theorem dL_turn_15 : decode cL_turn 15 = .ok (.astore 5, 2) := by decide +kernel
theorem dL_turn_17 : decode cL_turn 17 = .ok (.iconst 1, 1) := by decide +kernel
theorem dL_turn_18 : decode cL_turn 18 = .ok (.ireturn, 1) := by decide +kernel
theorem dL_turn_19 : decode cL_turn 19 = .ok (.astore 5, 2) := by decide +kernel
theorem dL_turn_21 : decode cL_turn 21 = .ok (.iconst 2, 1) := by decide +kernel
theorem dL_turn_22 : decode cL_turn 22 = .ok (.ireturn, 1) := by decide +kernel
theorem dL_turn_23 : decode cL_turn 23 = .ok (.astore 5, 2) := by decide +kernel
theorem dL_turn_25 : decode cL_turn 25 = .ok (.iconst 3, 1) := by decide +kernel
theorem dL_turn_26 : decode cL_turn 26 = .ok (.ireturn, 1) := by decide +kernel
theorem dL_turn_27 : decode cL_turn 27 = .ok (.iconst 0, 1) := by decide +kernel
theorem dL_turn_28 : decode cL_turn 28 = .ok (.ireturn, 1) := by decide +kernel
theorem dX7_uncut_0 : decode cX7_uncut 0 = .ok (.aload_n 0, 1) := by decide +kernel
theorem dX7_uncut_1 : decode cX7_uncut 1 = .ok (.iload_n 1, 1) := by decide +kernel
theorem dX7_uncut_2 : decode cX7_uncut 2 = .ok (.invokevirtual 52, 3) := by decide +kernel
theorem dX7_uncut_5 : decode cX7_uncut 5 = .ok (.astore_n 2, 1) := by decide +kernel
theorem dX7_uncut_6 : decode cX7_uncut 6 = .ok (.aload_n 2, 1) := by decide +kernel
theorem dX7_uncut_7 : decode cX7_uncut 7 = .ok (.getfield 163, 3) := by decide +kernel
theorem dX7_uncut_10 : decode cX7_uncut 10 = .ok (.ifnull 7, 3) := by decide +kernel
theorem dX7_uncut_13 : decode cX7_uncut 13 = .ok (.iconst 1, 1) := by decide +kernel
theorem dX7_uncut_14 : decode cX7_uncut 14 = .ok (.goto 4, 3) := by decide +kernel
theorem dX7_uncut_17 : decode cX7_uncut 17 = .ok (.iconst 0, 1) := by decide +kernel
theorem dX7_uncut_18 : decode cX7_uncut 18 = .ok (.istore_n 3, 1) := by decide +kernel
theorem dX7_uncut_19 : decode cX7_uncut 19 = .ok (.aload_n 2, 1) := by decide +kernel
theorem dX7_uncut_20 : decode cX7_uncut 20 = .ok (.aconst_null, 1) := by decide +kernel
theorem dX7_uncut_21 : decode cX7_uncut 21 = .ok (.putfield 163, 3) := by decide +kernel
theorem dX7_uncut_24 : decode cX7_uncut 24 = .ok (.iload_n 3, 1) := by decide +kernel
theorem dX7_uncut_25 : decode cX7_uncut 25 = .ok (.ireturn, 1) := by decide +kernel
theorem dL_uncut_0 : decode cL_uncut 0 = .ok (.aload_n 2, 1) := by decide +kernel
theorem dL_uncut_1 : decode cL_uncut 1 = .ok (.iconst 0, 1) := by decide +kernel
theorem dL_uncut_2 : decode cL_uncut 2 = .ok (.aload_n 0, 1) := by decide +kernel
theorem dL_uncut_3 : decode cL_uncut 3 = .ok (.iload_n 1, 1) := by decide +kernel
theorem dL_uncut_4 : decode cL_uncut 4 = .ok (.invokevirtual 46, 3) := by decide +kernel
theorem dL_uncut_7 : decode cL_uncut 7 = .ok (.ifCond .eq 7, 3) := by decide +kernel
theorem dL_uncut_10 : decode cL_uncut 10 = .ok (.lconst 1, 1) := by decide +kernel
theorem dL_uncut_11 : decode cL_uncut 11 = .ok (.goto 4, 3) := by decide +kernel
theorem dL_uncut_14 : decode cL_uncut 14 = .ok (.lconst 0, 1) := by decide +kernel
theorem dL_uncut_15 : decode cL_uncut 15 = .ok (.lastore, 1) := by decide +kernel
theorem dL_uncut_16 : decode cL_uncut 16 = .ok (.goto 6, 3) := by decide +kernel
theorem dL_uncut_19 : decode cL_uncut 19 = .ok (.astore_n 3, 1) := by decide +kernel
theorem dL_uncut_20 : decode cL_uncut 20 = .ok (.iconst 1, 1) := by decide +kernel
theorem dL_uncut_21 : decode cL_uncut 21 = .ok (.ireturn, 1) := by decide +kernel
theorem dL_uncut_22 : decode cL_uncut 22 = .ok (.iconst 0, 1) := by decide +kernel
theorem dL_uncut_23 : decode cL_uncut 23 = .ok (.ireturn, 1) := by decide +kernel
theorem dX6_dropKey_0 : decode cX6_dropKey 0 = .ok (.aload_n 0, 1) := by decide +kernel
theorem dX6_dropKey_1 : decode cX6_dropKey 1 = .ok (.getfield 40, 3) := by decide +kernel
theorem dX6_dropKey_4 : decode cX6_dropKey 4 = .ok (.aload_n 1, 1) := by decide +kernel
theorem dX6_dropKey_5 : decode cX6_dropKey 5 = .ok (.if_acmp .ne 11, 3) := by decide +kernel
theorem dX6_dropKey_8 : decode cX6_dropKey 8 = .ok (.aload_n 0, 1) := by decide +kernel
theorem dX6_dropKey_9 : decode cX6_dropKey 9 = .ok (.aload_n 1, 1) := by decide +kernel
theorem dX6_dropKey_10 : decode cX6_dropKey 10 = .ok (.getfield 44, 3) := by decide +kernel
theorem dX6_dropKey_13 : decode cX6_dropKey 13 = .ok (.putfield 40, 3) := by decide +kernel
theorem dX6_dropKey_16 : decode cX6_dropKey 16 = .ok (.aload_n 0, 1) := by decide +kernel
theorem dX6_dropKey_17 : decode cX6_dropKey 17 = .ok (.getfield 40, 3) := by decide +kernel
theorem dX6_dropKey_20 : decode cX6_dropKey 20 = .ok (.astore_n 2, 1) := by decide +kernel
theorem dX6_dropKey_21 : decode cX6_dropKey 21 = .ok (.aload_n 2, 1) := by decide +kernel
theorem dX6_dropKey_22 : decode cX6_dropKey 22 = .ok (.ifnull 27, 3) := by decide +kernel
theorem dX6_dropKey_25 : decode cX6_dropKey 25 = .ok (.aload_n 2, 1) := by decide +kernel
theorem dX6_dropKey_26 : decode cX6_dropKey 26 = .ok (.getfield 44, 3) := by decide +kernel
theorem dX6_dropKey_29 : decode cX6_dropKey 29 = .ok (.aload_n 1, 1) := by decide +kernel
theorem dX6_dropKey_30 : decode cX6_dropKey 30 = .ok (.if_acmp .ne 11, 3) := by decide +kernel
theorem dX6_dropKey_33 : decode cX6_dropKey 33 = .ok (.aload_n 2, 1) := by decide +kernel
theorem dX6_dropKey_34 : decode cX6_dropKey 34 = .ok (.aload_n 1, 1) := by decide +kernel
theorem dX6_dropKey_35 : decode cX6_dropKey 35 = .ok (.getfield 44, 3) := by decide +kernel
theorem dX6_dropKey_38 : decode cX6_dropKey 38 = .ok (.putfield 44, 3) := by decide +kernel
theorem dX6_dropKey_41 : decode cX6_dropKey 41 = .ok (.aload_n 2, 1) := by decide +kernel
theorem dX6_dropKey_42 : decode cX6_dropKey 42 = .ok (.getfield 44, 3) := by decide +kernel
theorem dX6_dropKey_45 : decode cX6_dropKey 45 = .ok (.astore_n 2, 1) := by decide +kernel
theorem dX6_dropKey_46 : decode cX6_dropKey 46 = .ok (.goto (-25), 3) := by decide +kernel
theorem dX6_dropKey_49 : decode cX6_dropKey 49 = .ok (.aload_n 0, 1) := by decide +kernel
theorem dX6_dropKey_50 : decode cX6_dropKey 50 = .ok (.dup, 1) := by decide +kernel
theorem dX6_dropKey_51 : decode cX6_dropKey 51 = .ok (.getfield 47, 3) := by decide +kernel
theorem dX6_dropKey_54 : decode cX6_dropKey 54 = .ok (.iconst 1, 1) := by decide +kernel
theorem dX6_dropKey_55 : decode cX6_dropKey 55 = .ok (.isub, 1) := by decide +kernel
theorem dX6_dropKey_56 : decode cX6_dropKey 56 = .ok (.putfield 47, 3) := by decide +kernel
theorem dX6_dropKey_59 : decode cX6_dropKey 59 = .ok (.return_, 1) := by decide +kernel
theorem dX7_unkey_0 : decode cX7_unkey 0 = .ok (.aload_n 0, 1) := by decide +kernel
theorem dX7_unkey_1 : decode cX7_unkey 1 = .ok (.iload_n 1, 1) := by decide +kernel
theorem dX7_unkey_2 : decode cX7_unkey 2 = .ok (.invokevirtual 196, 3) := by decide +kernel
theorem dX7_unkey_5 : decode cX7_unkey 5 = .ok (.astore_n 3, 1) := by decide +kernel
theorem dX7_unkey_6 : decode cX7_unkey 6 = .ok (.aload_n 3, 1) := by decide +kernel
theorem dX7_unkey_7 : decode cX7_unkey 7 = .ok (.iload_n 2, 1) := by decide +kernel
theorem dX7_unkey_8 : decode cX7_unkey 8 = .ok (.invokevirtual 207, 3) := by decide +kernel
theorem dX7_unkey_11 : decode cX7_unkey 11 = .ok (.astore 4, 2) := by decide +kernel
theorem dX7_unkey_13 : decode cX7_unkey 13 = .ok (.aload 4, 2) := by decide +kernel
theorem dX7_unkey_15 : decode cX7_unkey 15 = .ok (.ifnonnull 13, 3) := by decide +kernel
theorem dX7_unkey_18 : decode cX7_unkey 18 = .ok (.new 73, 3) := by decide +kernel
theorem dX7_unkey_21 : decode cX7_unkey 21 = .ok (.dup, 1) := by decide +kernel
theorem dX7_unkey_22 : decode cX7_unkey 22 = .ok (.ldc 217, 2) := by decide +kernel
theorem dX7_unkey_24 : decode cX7_unkey 24 = .ok (.invokespecial 77, 3) := by decide +kernel
theorem dX7_unkey_27 : decode cX7_unkey 27 = .ok (.athrow, 1) := by decide +kernel
theorem dX7_unkey_28 : decode cX7_unkey 28 = .ok (.aload_n 3, 1) := by decide +kernel
theorem dX7_unkey_29 : decode cX7_unkey 29 = .ok (.aload 4, 2) := by decide +kernel
theorem dX7_unkey_31 : decode cX7_unkey 31 = .ok (.invokevirtual 219, 3) := by decide +kernel
theorem dX7_unkey_34 : decode cX7_unkey 34 = .ok (.aload 4, 2) := by decide +kernel
theorem dX7_unkey_36 : decode cX7_unkey 36 = .ok (.getfield 223, 3) := by decide +kernel
theorem dX7_unkey_39 : decode cX7_unkey 39 = .ok (.ireturn, 1) := by decide +kernel
theorem dL_unkey_0 : decode cL_unkey 0 = .ok (.aload_n 3, 1) := by decide +kernel
theorem dL_unkey_1 : decode cL_unkey 1 = .ok (.iconst 0, 1) := by decide +kernel
theorem dL_unkey_2 : decode cL_unkey 2 = .ok (.aload_n 0, 1) := by decide +kernel
theorem dL_unkey_3 : decode cL_unkey 3 = .ok (.iload_n 1, 1) := by decide +kernel
theorem dL_unkey_4 : decode cL_unkey 4 = .ok (.iload_n 2, 1) := by decide +kernel
theorem dL_unkey_5 : decode cL_unkey 5 = .ok (.invokevirtual 65, 3) := by decide +kernel
theorem dL_unkey_8 : decode cL_unkey 8 = .ok (.i2l, 1) := by decide +kernel
theorem dL_unkey_9 : decode cL_unkey 9 = .ok (.lastore, 1) := by decide +kernel
theorem dL_unkey_10 : decode cL_unkey 10 = .ok (.goto 11, 3) := by decide +kernel
theorem dL_unkey_13 : decode cL_unkey 13 = .ok (.astore 4, 2) := by decide +kernel
theorem dL_unkey_15 : decode cL_unkey 15 = .ok (.iconst 1, 1) := by decide +kernel
theorem dL_unkey_16 : decode cL_unkey 16 = .ok (.ireturn, 1) := by decide +kernel
theorem dL_unkey_17 : decode cL_unkey 17 = .ok (.astore 4, 2) := by decide +kernel
theorem dL_unkey_19 : decode cL_unkey 19 = .ok (.iconst 2, 1) := by decide +kernel
theorem dL_unkey_20 : decode cL_unkey 20 = .ok (.ireturn, 1) := by decide +kernel
theorem dL_unkey_21 : decode cL_unkey 21 = .ok (.iconst 0, 1) := by decide +kernel
theorem dL_unkey_22 : decode cL_unkey 22 = .ok (.ireturn, 1) := by decide +kernel
theorem dX7_added_0 : decode cX7_added 0 = .ok (.aload_n 0, 1) := by decide +kernel
theorem dX7_added_1 : decode cX7_added 1 = .ok (.getfield 42, 3) := by decide +kernel
theorem dX7_added_4 : decode cX7_added 4 = .ok (.ireturn, 1) := by decide +kernel
theorem dX7_mixed_0 : decode cX7_mixed 0 = .ok (.lload_n 0, 1) := by decide +kernel
theorem dX7_mixed_1 : decode cX7_mixed 1 = .ok (.ldc2_w 415, 3) := by decide +kernel
theorem dX7_mixed_4 : decode cX7_mixed 4 = .ok (.lmul, 1) := by decide +kernel
theorem dX7_mixed_5 : decode cX7_mixed 5 = .ok (.lload_n 2, 1) := by decide +kernel
theorem dX7_mixed_6 : decode cX7_mixed 6 = .ok (.ladd, 1) := by decide +kernel
theorem dX7_mixed_7 : decode cX7_mixed 7 = .ok (.lreturn, 1) := by decide +kernel
theorem dX7_mixedWithPoint_0 : decode cX7_mixedWithPoint 0 = .ok (.lload_n 1, 1) := by decide +kernel
theorem dX7_mixedWithPoint_1 : decode cX7_mixedWithPoint 1 = .ok (.lstore_n 3, 1) := by decide +kernel
theorem dX7_mixedWithPoint_2 : decode cX7_mixedWithPoint 2 = .ok (.iconst 0, 1) := by decide +kernel
theorem dX7_mixedWithPoint_3 : decode cX7_mixedWithPoint 3 = .ok (.istore 5, 2) := by decide +kernel
theorem dX7_mixedWithPoint_5 : decode cX7_mixedWithPoint 5 = .ok (.iload 5, 2) := by decide +kernel
theorem dX7_mixedWithPoint_7 : decode cX7_mixedWithPoint 7 = .ok (.iconst 3, 1) := by decide +kernel
theorem dX7_mixedWithPoint_8 : decode cX7_mixedWithPoint 8 = .ok (.if_icmp .gt 23, 3) := by decide +kernel
theorem dX7_mixedWithPoint_11 : decode cX7_mixedWithPoint 11 = .ok (.lload_n 3, 1) := by decide +kernel
theorem dX7_mixedWithPoint_12 : decode cX7_mixedWithPoint 12 = .ok (.aload_n 0, 1) := by decide +kernel
theorem dX7_mixedWithPoint_13 : decode cX7_mixedWithPoint 13 = .ok (.getfield 31, 3) := by decide +kernel
theorem dX7_mixedWithPoint_16 : decode cX7_mixedWithPoint 16 = .ok (.iload 5, 2) := by decide +kernel
theorem dX7_mixedWithPoint_18 : decode cX7_mixedWithPoint 18 = .ok (.invokevirtual 252, 3) := by decide +kernel
theorem dX7_mixedWithPoint_21 : decode cX7_mixedWithPoint 21 = .ok (.invokestatic 323, 3) := by decide +kernel
theorem dX7_mixedWithPoint_24 : decode cX7_mixedWithPoint 24 = .ok (.lstore_n 3, 1) := by decide +kernel
theorem dX7_mixedWithPoint_25 : decode cX7_mixedWithPoint 25 = .ok (.iinc 5 1, 3) := by decide +kernel
theorem dX7_mixedWithPoint_28 : decode cX7_mixedWithPoint 28 = .ok (.goto (-23), 3) := by decide +kernel
theorem dX7_mixedWithPoint_31 : decode cX7_mixedWithPoint 31 = .ok (.lload_n 3, 1) := by decide +kernel
theorem dX7_mixedWithPoint_32 : decode cX7_mixedWithPoint 32 = .ok (.lreturn, 1) := by decide +kernel
theorem dX7_mixedWithNode_0 : decode cX7_mixedWithNode 0 = .ok (.lload_n 1, 1) := by decide +kernel
theorem dX7_mixedWithNode_1 : decode cX7_mixedWithNode 1 = .ok (.aload_n 3, 1) := by decide +kernel
theorem dX7_mixedWithNode_2 : decode cX7_mixedWithNode 2 = .ok (.getfield 85, 3) := by decide +kernel
theorem dX7_mixedWithNode_5 : decode cX7_mixedWithNode 5 = .ok (.i2l, 1) := by decide +kernel
theorem dX7_mixedWithNode_6 : decode cX7_mixedWithNode 6 = .ok (.invokestatic 323, 3) := by decide +kernel
theorem dX7_mixedWithNode_9 : decode cX7_mixedWithNode 9 = .ok (.lstore 4, 2) := by decide +kernel
theorem dX7_mixedWithNode_11 : decode cX7_mixedWithNode 11 = .ok (.lload 4, 2) := by decide +kernel
theorem dX7_mixedWithNode_13 : decode cX7_mixedWithNode 13 = .ok (.aload_n 3, 1) := by decide +kernel
theorem dX7_mixedWithNode_14 : decode cX7_mixedWithNode 14 = .ok (.invokestatic 170, 3) := by decide +kernel
theorem dX7_mixedWithNode_17 : decode cX7_mixedWithNode 17 = .ok (.i2l, 1) := by decide +kernel
theorem dX7_mixedWithNode_18 : decode cX7_mixedWithNode 18 = .ok (.invokestatic 323, 3) := by decide +kernel
theorem dX7_mixedWithNode_21 : decode cX7_mixedWithNode 21 = .ok (.lstore 4, 2) := by decide +kernel
theorem dX7_mixedWithNode_23 : decode cX7_mixedWithNode 23 = .ok (.lload 4, 2) := by decide +kernel
theorem dX7_mixedWithNode_25 : decode cX7_mixedWithNode 25 = .ok (.aload_n 3, 1) := by decide +kernel
theorem dX7_mixedWithNode_26 : decode cX7_mixedWithNode 26 = .ok (.invokevirtual 69, 3) := by decide +kernel
theorem dX7_mixedWithNode_29 : decode cX7_mixedWithNode 29 = .ok (.i2l, 1) := by decide +kernel
theorem dX7_mixedWithNode_30 : decode cX7_mixedWithNode 30 = .ok (.invokestatic 323, 3) := by decide +kernel
theorem dX7_mixedWithNode_33 : decode cX7_mixedWithNode 33 = .ok (.lstore 4, 2) := by decide +kernel
theorem dX7_mixedWithNode_35 : decode cX7_mixedWithNode 35 = .ok (.lload 4, 2) := by decide +kernel
theorem dX7_mixedWithNode_37 : decode cX7_mixedWithNode 37 = .ok (.aload_n 3, 1) := by decide +kernel
theorem dX7_mixedWithNode_38 : decode cX7_mixedWithNode 38 = .ok (.getfield 115, 3) := by decide +kernel
theorem dX7_mixedWithNode_41 : decode cX7_mixedWithNode 41 = .ok (.aload_n 0, 1) := by decide +kernel
theorem dX7_mixedWithNode_42 : decode cX7_mixedWithNode 42 = .ok (.getfield 232, 3) := by decide +kernel
theorem dX7_mixedWithNode_45 : decode cX7_mixedWithNode 45 = .ok (.invokevirtual 237, 3) := by decide +kernel
theorem dX7_mixedWithNode_48 : decode cX7_mixedWithNode 48 = .ok (.i2l, 1) := by decide +kernel
theorem dX7_mixedWithNode_49 : decode cX7_mixedWithNode 49 = .ok (.invokestatic 323, 3) := by decide +kernel
theorem dX7_mixedWithNode_52 : decode cX7_mixedWithNode 52 = .ok (.lstore 4, 2) := by decide +kernel
theorem dX7_mixedWithNode_54 : decode cX7_mixedWithNode 54 = .ok (.lload 4, 2) := by decide +kernel
theorem dX7_mixedWithNode_56 : decode cX7_mixedWithNode 56 = .ok (.aload_n 3, 1) := by decide +kernel
theorem dX7_mixedWithNode_57 : decode cX7_mixedWithNode 57 = .ok (.getfield 123, 3) := by decide +kernel
theorem dX7_mixedWithNode_60 : decode cX7_mixedWithNode 60 = .ok (.aload_n 0, 1) := by decide +kernel
theorem dX7_mixedWithNode_61 : decode cX7_mixedWithNode 61 = .ok (.getfield 232, 3) := by decide +kernel
theorem dX7_mixedWithNode_64 : decode cX7_mixedWithNode 64 = .ok (.invokevirtual 237, 3) := by decide +kernel
theorem dX7_mixedWithNode_67 : decode cX7_mixedWithNode 67 = .ok (.i2l, 1) := by decide +kernel
theorem dX7_mixedWithNode_68 : decode cX7_mixedWithNode 68 = .ok (.invokestatic 323, 3) := by decide +kernel
theorem dX7_mixedWithNode_71 : decode cX7_mixedWithNode 71 = .ok (.lstore 4, 2) := by decide +kernel
theorem dX7_mixedWithNode_73 : decode cX7_mixedWithNode 73 = .ok (.lload 4, 2) := by decide +kernel
theorem dX7_mixedWithNode_75 : decode cX7_mixedWithNode 75 = .ok (.aload_n 3, 1) := by decide +kernel
theorem dX7_mixedWithNode_76 : decode cX7_mixedWithNode 76 = .ok (.getfield 139, 3) := by decide +kernel
theorem dX7_mixedWithNode_79 : decode cX7_mixedWithNode 79 = .ok (.aload_n 0, 1) := by decide +kernel
theorem dX7_mixedWithNode_80 : decode cX7_mixedWithNode 80 = .ok (.getfield 232, 3) := by decide +kernel
theorem dX7_mixedWithNode_83 : decode cX7_mixedWithNode 83 = .ok (.invokevirtual 237, 3) := by decide +kernel
theorem dX7_mixedWithNode_86 : decode cX7_mixedWithNode 86 = .ok (.i2l, 1) := by decide +kernel
theorem dX7_mixedWithNode_87 : decode cX7_mixedWithNode 87 = .ok (.invokestatic 323, 3) := by decide +kernel
theorem dX7_mixedWithNode_90 : decode cX7_mixedWithNode 90 = .ok (.lstore 4, 2) := by decide +kernel
theorem dX7_mixedWithNode_92 : decode cX7_mixedWithNode 92 = .ok (.lload 4, 2) := by decide +kernel
theorem dX7_mixedWithNode_94 : decode cX7_mixedWithNode 94 = .ok (.aload_n 3, 1) := by decide +kernel
theorem dX7_mixedWithNode_95 : decode cX7_mixedWithNode 95 = .ok (.getfield 148, 3) := by decide +kernel
theorem dX7_mixedWithNode_98 : decode cX7_mixedWithNode 98 = .ok (.aload_n 0, 1) := by decide +kernel
theorem dX7_mixedWithNode_99 : decode cX7_mixedWithNode 99 = .ok (.getfield 232, 3) := by decide +kernel
theorem dX7_mixedWithNode_102 : decode cX7_mixedWithNode 102 = .ok (.invokevirtual 237, 3) := by decide +kernel
theorem dX7_mixedWithNode_105 : decode cX7_mixedWithNode 105 = .ok (.i2l, 1) := by decide +kernel
theorem dX7_mixedWithNode_106 : decode cX7_mixedWithNode 106 = .ok (.invokestatic 323, 3) := by decide +kernel
theorem dX7_mixedWithNode_109 : decode cX7_mixedWithNode 109 = .ok (.lstore 4, 2) := by decide +kernel
theorem dX7_mixedWithNode_111 : decode cX7_mixedWithNode 111 = .ok (.lload 4, 2) := by decide +kernel
theorem dX7_mixedWithNode_113 : decode cX7_mixedWithNode 113 = .ok (.aload_n 3, 1) := by decide +kernel
theorem dX7_mixedWithNode_114 : decode cX7_mixedWithNode 114 = .ok (.aload_n 0, 1) := by decide +kernel
theorem dX7_mixedWithNode_115 : decode cX7_mixedWithNode 115 = .ok (.getfield 232, 3) := by decide +kernel
theorem dX7_mixedWithNode_118 : decode cX7_mixedWithNode 118 = .ok (.invokevirtual 280, 3) := by decide +kernel
theorem dX7_mixedWithNode_121 : decode cX7_mixedWithNode 121 = .ok (.ifCond .eq 7, 3) := by decide +kernel
theorem dX7_mixedWithNode_124 : decode cX7_mixedWithNode 124 = .ok (.lconst 1, 1) := by decide +kernel
theorem dX7_mixedWithNode_125 : decode cX7_mixedWithNode 125 = .ok (.goto 4, 3) := by decide +kernel
theorem dX7_mixedWithNode_128 : decode cX7_mixedWithNode 128 = .ok (.lconst 0, 1) := by decide +kernel
theorem dX7_mixedWithNode_129 : decode cX7_mixedWithNode 129 = .ok (.invokestatic 323, 3) := by decide +kernel
theorem dX7_mixedWithNode_132 : decode cX7_mixedWithNode 132 = .ok (.lstore 4, 2) := by decide +kernel
theorem dX7_mixedWithNode_134 : decode cX7_mixedWithNode 134 = .ok (.lload 4, 2) := by decide +kernel
theorem dX7_mixedWithNode_136 : decode cX7_mixedWithNode 136 = .ok (.aload_n 3, 1) := by decide +kernel
theorem dX7_mixedWithNode_137 : decode cX7_mixedWithNode 137 = .ok (.aload_n 0, 1) := by decide +kernel
theorem dX7_mixedWithNode_138 : decode cX7_mixedWithNode 138 = .ok (.getfield 232, 3) := by decide +kernel
theorem dX7_mixedWithNode_141 : decode cX7_mixedWithNode 141 = .ok (.iconst 0, 1) := by decide +kernel
theorem dX7_mixedWithNode_142 : decode cX7_mixedWithNode 142 = .ok (.invokestatic 283, 3) := by decide +kernel
theorem dX7_mixedWithNode_145 : decode cX7_mixedWithNode 145 = .ok (.i2l, 1) := by decide +kernel
theorem dX7_mixedWithNode_146 : decode cX7_mixedWithNode 146 = .ok (.invokestatic 323, 3) := by decide +kernel
theorem dX7_mixedWithNode_149 : decode cX7_mixedWithNode 149 = .ok (.lstore 4, 2) := by decide +kernel
theorem dX7_mixedWithNode_151 : decode cX7_mixedWithNode 151 = .ok (.lload 4, 2) := by decide +kernel
theorem dX7_mixedWithNode_153 : decode cX7_mixedWithNode 153 = .ok (.aload_n 3, 1) := by decide +kernel
theorem dX7_mixedWithNode_154 : decode cX7_mixedWithNode 154 = .ok (.getfield 287, 3) := by decide +kernel
theorem dX7_mixedWithNode_157 : decode cX7_mixedWithNode 157 = .ok (.i2l, 1) := by decide +kernel
theorem dX7_mixedWithNode_158 : decode cX7_mixedWithNode 158 = .ok (.invokestatic 323, 3) := by decide +kernel
theorem dX7_mixedWithNode_161 : decode cX7_mixedWithNode 161 = .ok (.lstore 4, 2) := by decide +kernel
theorem dX7_mixedWithNode_163 : decode cX7_mixedWithNode 163 = .ok (.aload_n 0, 1) := by decide +kernel
theorem dX7_mixedWithNode_164 : decode cX7_mixedWithNode 164 = .ok (.aload_n 3, 1) := by decide +kernel
theorem dX7_mixedWithNode_165 : decode cX7_mixedWithNode 165 = .ok (.iconst 1, 1) := by decide +kernel
theorem dX7_mixedWithNode_166 : decode cX7_mixedWithNode 166 = .ok (.iconst 2, 1) := by decide +kernel
theorem dX7_mixedWithNode_167 : decode cX7_mixedWithNode 167 = .ok (.invokevirtual 248, 3) := by decide +kernel
theorem dX7_mixedWithNode_170 : decode cX7_mixedWithNode 170 = .ok (.aload_n 0, 1) := by decide +kernel
theorem dX7_mixedWithNode_171 : decode cX7_mixedWithNode 171 = .ok (.lload 4, 2) := by decide +kernel
theorem dX7_mixedWithNode_173 : decode cX7_mixedWithNode 173 = .ok (.invokevirtual 417, 3) := by decide +kernel
theorem dX7_mixedWithNode_176 : decode cX7_mixedWithNode 176 = .ok (.lstore 4, 2) := by decide +kernel
theorem dX7_mixedWithNode_178 : decode cX7_mixedWithNode 178 = .ok (.aload_n 0, 1) := by decide +kernel
theorem dX7_mixedWithNode_179 : decode cX7_mixedWithNode 179 = .ok (.getfield 31, 3) := by decide +kernel
theorem dX7_mixedWithNode_182 : decode cX7_mixedWithNode 182 = .ok (.lconst 1, 1) := by decide +kernel
theorem dX7_mixedWithNode_183 : decode cX7_mixedWithNode 183 = .ok (.ldc2_w 421, 3) := by decide +kernel
theorem dX7_mixedWithNode_186 : decode cX7_mixedWithNode 186 = .ok (.lconst 1, 1) := by decide +kernel
theorem dX7_mixedWithNode_187 : decode cX7_mixedWithNode 187 = .ok (.invokevirtual 256, 3) := by decide +kernel
theorem dX7_mixedWithNode_190 : decode cX7_mixedWithNode 190 = .ok (.aload_n 0, 1) := by decide +kernel
theorem dX7_mixedWithNode_191 : decode cX7_mixedWithNode 191 = .ok (.getfield 31, 3) := by decide +kernel
theorem dX7_mixedWithNode_194 : decode cX7_mixedWithNode 194 = .ok (.aload_n 3, 1) := by decide +kernel
theorem dX7_mixedWithNode_195 : decode cX7_mixedWithNode 195 = .ok (.aload_n 0, 1) := by decide +kernel
theorem dX7_mixedWithNode_196 : decode cX7_mixedWithNode 196 = .ok (.getfield 232, 3) := by decide +kernel
theorem dX7_mixedWithNode_199 : decode cX7_mixedWithNode 199 = .ok (.iconst 0, 1) := by decide +kernel
theorem dX7_mixedWithNode_200 : decode cX7_mixedWithNode 200 = .ok (.invokestatic 260, 3) := by decide +kernel
theorem dX7_mixedWithNode_203 : decode cX7_mixedWithNode 203 = .ok (.aload_n 0, 1) := by decide +kernel
theorem dX7_mixedWithNode_204 : decode cX7_mixedWithNode 204 = .ok (.lload 4, 2) := by decide +kernel
theorem dX7_mixedWithNode_206 : decode cX7_mixedWithNode 206 = .ok (.invokevirtual 417, 3) := by decide +kernel
theorem dX7_mixedWithNode_209 : decode cX7_mixedWithNode 209 = .ok (.lstore 4, 2) := by decide +kernel
theorem dX7_mixedWithNode_211 : decode cX7_mixedWithNode 211 = .ok (.aload_n 0, 1) := by decide +kernel
theorem dX7_mixedWithNode_212 : decode cX7_mixedWithNode 212 = .ok (.aload_n 3, 1) := by decide +kernel
theorem dX7_mixedWithNode_213 : decode cX7_mixedWithNode 213 = .ok (.invokevirtual 266, 3) := by decide +kernel
theorem dX7_mixedWithNode_216 : decode cX7_mixedWithNode 216 = .ok (.iconst 0, 1) := by decide +kernel
theorem dX7_mixedWithNode_217 : decode cX7_mixedWithNode 217 = .ok (.istore 6, 2) := by decide +kernel
theorem dX7_mixedWithNode_219 : decode cX7_mixedWithNode 219 = .ok (.iload 6, 2) := by decide +kernel
theorem dX7_mixedWithNode_221 : decode cX7_mixedWithNode 221 = .ok (.iconst 3, 1) := by decide +kernel
theorem dX7_mixedWithNode_222 : decode cX7_mixedWithNode 222 = .ok (.if_icmp .gt 40, 3) := by decide +kernel
theorem dX7_mixedWithNode_225 : decode cX7_mixedWithNode 225 = .ok (.aload_n 0, 1) := by decide +kernel
theorem dX7_mixedWithNode_226 : decode cX7_mixedWithNode 226 = .ok (.getfield 38, 3) := by decide +kernel
theorem dX7_mixedWithNode_229 : decode cX7_mixedWithNode 229 = .ok (.iload 6, 2) := by decide +kernel
theorem dX7_mixedWithNode_231 : decode cX7_mixedWithNode 231 = .ok (.invokevirtual 269, 3) := by decide +kernel
theorem dX7_mixedWithNode_234 : decode cX7_mixedWithNode 234 = .ok (.astore 7, 2) := by decide +kernel
theorem dX7_mixedWithNode_236 : decode cX7_mixedWithNode 236 = .ok (.lload 4, 2) := by decide +kernel
theorem dX7_mixedWithNode_238 : decode cX7_mixedWithNode 238 = .ok (.aload 7, 2) := by decide +kernel
theorem dX7_mixedWithNode_240 : decode cX7_mixedWithNode 240 = .ok (.getfield 278, 3) := by decide +kernel
theorem dX7_mixedWithNode_243 : decode cX7_mixedWithNode 243 = .ok (.invokestatic 323, 3) := by decide +kernel
theorem dX7_mixedWithNode_246 : decode cX7_mixedWithNode 246 = .ok (.aload 7, 2) := by decide +kernel
theorem dX7_mixedWithNode_248 : decode cX7_mixedWithNode 248 = .ok (.getfield 273, 3) := by decide +kernel
theorem dX7_mixedWithNode_251 : decode cX7_mixedWithNode 251 = .ok (.invokestatic 323, 3) := by decide +kernel
theorem dX7_mixedWithNode_254 : decode cX7_mixedWithNode 254 = .ok (.lstore 4, 2) := by decide +kernel
theorem dX7_mixedWithNode_256 : decode cX7_mixedWithNode 256 = .ok (.iinc 6 1, 3) := by decide +kernel
theorem dX7_mixedWithNode_259 : decode cX7_mixedWithNode 259 = .ok (.goto (-40), 3) := by decide +kernel
theorem dX7_mixedWithNode_262 : decode cX7_mixedWithNode 262 = .ok (.lload 4, 2) := by decide +kernel
theorem dX7_mixedWithNode_264 : decode cX7_mixedWithNode 264 = .ok (.lreturn, 1) := by decide +kernel
theorem dX6_nextKeyTime_0 : decode cX6_nextKeyTime 0 = .ok (.aload_n 0, 1) := by decide +kernel
theorem dX6_nextKeyTime_1 : decode cX6_nextKeyTime 1 = .ok (.getfield 40, 3) := by decide +kernel
theorem dX6_nextKeyTime_4 : decode cX6_nextKeyTime 4 = .ok (.astore_n 2, 1) := by decide +kernel
theorem dX6_nextKeyTime_5 : decode cX6_nextKeyTime 5 = .ok (.aload_n 2, 1) := by decide +kernel
theorem dX6_nextKeyTime_6 : decode cX6_nextKeyTime 6 = .ok (.ifnull 24, 3) := by decide +kernel
theorem dX6_nextKeyTime_9 : decode cX6_nextKeyTime 9 = .ok (.aload_n 2, 1) := by decide +kernel
theorem dX6_nextKeyTime_10 : decode cX6_nextKeyTime 10 = .ok (.getfield 29, 3) := by decide +kernel
theorem dX6_nextKeyTime_13 : decode cX6_nextKeyTime 13 = .ok (.iload_n 1, 1) := by decide +kernel
theorem dX6_nextKeyTime_14 : decode cX6_nextKeyTime 14 = .ok (.if_icmp .le 8, 3) := by decide +kernel
theorem dX6_nextKeyTime_17 : decode cX6_nextKeyTime 17 = .ok (.aload_n 2, 1) := by decide +kernel
theorem dX6_nextKeyTime_18 : decode cX6_nextKeyTime 18 = .ok (.getfield 29, 3) := by decide +kernel
theorem dX6_nextKeyTime_21 : decode cX6_nextKeyTime 21 = .ok (.ireturn, 1) := by decide +kernel
theorem dX6_nextKeyTime_22 : decode cX6_nextKeyTime 22 = .ok (.aload_n 2, 1) := by decide +kernel
theorem dX6_nextKeyTime_23 : decode cX6_nextKeyTime 23 = .ok (.getfield 44, 3) := by decide +kernel
theorem dX6_nextKeyTime_26 : decode cX6_nextKeyTime 26 = .ok (.astore_n 2, 1) := by decide +kernel
theorem dX6_nextKeyTime_27 : decode cX6_nextKeyTime 27 = .ok (.goto (-22), 3) := by decide +kernel
theorem dX6_nextKeyTime_30 : decode cX6_nextKeyTime 30 = .ok (.iconst (-1), 1) := by decide +kernel
theorem dX6_nextKeyTime_31 : decode cX6_nextKeyTime 31 = .ok (.ireturn, 1) := by decide +kernel
theorem dX7_nextKey_0 : decode cX7_nextKey 0 = .ok (.iconst (-1), 1) := by decide +kernel
theorem dX7_nextKey_1 : decode cX7_nextKey 1 = .ok (.istore_n 1, 1) := by decide +kernel
theorem dX7_nextKey_2 : decode cX7_nextKey 2 = .ok (.iconst 0, 1) := by decide +kernel
theorem dX7_nextKey_3 : decode cX7_nextKey 3 = .ok (.istore_n 2, 1) := by decide +kernel
theorem dX7_nextKey_4 : decode cX7_nextKey 4 = .ok (.iload_n 2, 1) := by decide +kernel
theorem dX7_nextKey_5 : decode cX7_nextKey 5 = .ok (.aload_n 0, 1) := by decide +kernel
theorem dX7_nextKey_6 : decode cX7_nextKey 6 = .ok (.getfield 185, 3) := by decide +kernel
theorem dX7_nextKey_9 : decode cX7_nextKey 9 = .ok (.if_icmp .ge 62, 3) := by decide +kernel
theorem dX7_nextKey_12 : decode cX7_nextKey 12 = .ok (.iload_n 2, 1) := by decide +kernel
theorem dX7_nextKey_13 : decode cX7_nextKey 13 = .ok (.aload_n 0, 1) := by decide +kernel
theorem dX7_nextKey_14 : decode cX7_nextKey 14 = .ok (.getfield 17, 3) := by decide +kernel
theorem dX7_nextKey_17 : decode cX7_nextKey 17 = .ok (.arraylength, 1) := by decide +kernel
theorem dX7_nextKey_18 : decode cX7_nextKey 18 = .ok (.if_icmp .ge 53, 3) := by decide +kernel
theorem dX7_nextKey_21 : decode cX7_nextKey 21 = .ok (.aload_n 0, 1) := by decide +kernel
theorem dX7_nextKey_22 : decode cX7_nextKey 22 = .ok (.getfield 17, 3) := by decide +kernel
theorem dX7_nextKey_25 : decode cX7_nextKey 25 = .ok (.iload_n 2, 1) := by decide +kernel
theorem dX7_nextKey_26 : decode cX7_nextKey 26 = .ok (.aaload, 1) := by decide +kernel
theorem dX7_nextKey_27 : decode cX7_nextKey 27 = .ok (.ifnonnull 7, 3) := by decide +kernel
theorem dX7_nextKey_30 : decode cX7_nextKey 30 = .ok (.iconst (-1), 1) := by decide +kernel
theorem dX7_nextKey_31 : decode cX7_nextKey 31 = .ok (.goto 16, 3) := by decide +kernel
theorem dX7_nextKey_34 : decode cX7_nextKey 34 = .ok (.aload_n 0, 1) := by decide +kernel
theorem dX7_nextKey_35 : decode cX7_nextKey 35 = .ok (.getfield 17, 3) := by decide +kernel
theorem dX7_nextKey_38 : decode cX7_nextKey 38 = .ok (.iload_n 2, 1) := by decide +kernel
theorem dX7_nextKey_39 : decode cX7_nextKey 39 = .ok (.aaload, 1) := by decide +kernel
theorem dX7_nextKey_40 : decode cX7_nextKey 40 = .ok (.aload_n 0, 1) := by decide +kernel
theorem dX7_nextKey_41 : decode cX7_nextKey 41 = .ok (.getfield 232, 3) := by decide +kernel
theorem dX7_nextKey_44 : decode cX7_nextKey 44 = .ok (.invokevirtual 241, 3) := by decide +kernel
theorem dX7_nextKey_47 : decode cX7_nextKey 47 = .ok (.istore_n 3, 1) := by decide +kernel
theorem dX7_nextKey_48 : decode cX7_nextKey 48 = .ok (.iload_n 3, 1) := by decide +kernel
theorem dX7_nextKey_49 : decode cX7_nextKey 49 = .ok (.iconst (-1), 1) := by decide +kernel
theorem dX7_nextKey_50 : decode cX7_nextKey 50 = .ok (.if_icmp .eq 15, 3) := by decide +kernel
theorem dX7_nextKey_53 : decode cX7_nextKey 53 = .ok (.iload_n 1, 1) := by decide +kernel
theorem dX7_nextKey_54 : decode cX7_nextKey 54 = .ok (.iconst (-1), 1) := by decide +kernel
theorem dX7_nextKey_55 : decode cX7_nextKey 55 = .ok (.if_icmp .eq 8, 3) := by decide +kernel
theorem dX7_nextKey_58 : decode cX7_nextKey 58 = .ok (.iload_n 3, 1) := by decide +kernel
theorem dX7_nextKey_59 : decode cX7_nextKey 59 = .ok (.iload_n 1, 1) := by decide +kernel
theorem dX7_nextKey_60 : decode cX7_nextKey 60 = .ok (.if_icmp .ge 5, 3) := by decide +kernel
theorem dX7_nextKey_63 : decode cX7_nextKey 63 = .ok (.iload_n 3, 1) := by decide +kernel
theorem dX7_nextKey_64 : decode cX7_nextKey 64 = .ok (.istore_n 1, 1) := by decide +kernel
theorem dX7_nextKey_65 : decode cX7_nextKey 65 = .ok (.iinc 2 1, 3) := by decide +kernel
theorem dX7_nextKey_68 : decode cX7_nextKey 68 = .ok (.goto (-64), 3) := by decide +kernel
theorem dX7_nextKey_71 : decode cX7_nextKey 71 = .ok (.iload_n 1, 1) := by decide +kernel
theorem dX7_nextKey_72 : decode cX7_nextKey 72 = .ok (.ireturn, 1) := by decide +kernel
theorem dX7_digest_0 : decode cX7_digest 0 = .ok (.ldc2_w 321, 3) := by decide +kernel
theorem dX7_digest_3 : decode cX7_digest 3 = .ok (.aload_n 0, 1) := by decide +kernel
theorem dX7_digest_4 : decode cX7_digest 4 = .ok (.getfield 42, 3) := by decide +kernel
theorem dX7_digest_7 : decode cX7_digest 7 = .ok (.i2l, 1) := by decide +kernel
theorem dX7_digest_8 : decode cX7_digest 8 = .ok (.invokestatic 323, 3) := by decide +kernel
theorem dX7_digest_11 : decode cX7_digest 11 = .ok (.lstore_n 1, 1) := by decide +kernel
theorem dX7_digest_12 : decode cX7_digest 12 = .ok (.lload_n 1, 1) := by decide +kernel
theorem dX7_digest_13 : decode cX7_digest 13 = .ok (.aload_n 0, 1) := by decide +kernel
theorem dX7_digest_14 : decode cX7_digest 14 = .ok (.getfield 49, 3) := by decide +kernel
theorem dX7_digest_17 : decode cX7_digest 17 = .ok (.i2l, 1) := by decide +kernel
theorem dX7_digest_18 : decode cX7_digest 18 = .ok (.invokestatic 323, 3) := by decide +kernel
theorem dX7_digest_21 : decode cX7_digest 21 = .ok (.lstore_n 1, 1) := by decide +kernel
theorem dX7_digest_22 : decode cX7_digest 22 = .ok (.lload_n 1, 1) := by decide +kernel
theorem dX7_digest_23 : decode cX7_digest 23 = .ok (.aload_n 0, 1) := by decide +kernel
theorem dX7_digest_24 : decode cX7_digest 24 = .ok (.getfield 185, 3) := by decide +kernel
theorem dX7_digest_27 : decode cX7_digest 27 = .ok (.i2l, 1) := by decide +kernel
theorem dX7_digest_28 : decode cX7_digest 28 = .ok (.invokestatic 323, 3) := by decide +kernel
theorem dX7_digest_31 : decode cX7_digest 31 = .ok (.lstore_n 1, 1) := by decide +kernel
theorem dX7_digest_32 : decode cX7_digest 32 = .ok (.lload_n 1, 1) := by decide +kernel
theorem dX7_digest_33 : decode cX7_digest 33 = .ok (.aload_n 0, 1) := by decide +kernel
theorem dX7_digest_34 : decode cX7_digest 34 = .ok (.invokevirtual 327, 3) := by decide +kernel
theorem dX7_digest_37 : decode cX7_digest 37 = .ok (.i2l, 1) := by decide +kernel
theorem dX7_digest_38 : decode cX7_digest 38 = .ok (.invokestatic 323, 3) := by decide +kernel
theorem dX7_digest_41 : decode cX7_digest 41 = .ok (.lstore_n 1, 1) := by decide +kernel
theorem dX7_digest_42 : decode cX7_digest 42 = .ok (.iconst 0, 1) := by decide +kernel
theorem dX7_digest_43 : decode cX7_digest 43 = .ok (.istore_n 3, 1) := by decide +kernel
theorem dX7_digest_44 : decode cX7_digest 44 = .ok (.iload_n 3, 1) := by decide +kernel
theorem dX7_digest_45 : decode cX7_digest 45 = .ok (.aload_n 0, 1) := by decide +kernel
theorem dX7_digest_46 : decode cX7_digest 46 = .ok (.getfield 42, 3) := by decide +kernel
theorem dX7_digest_49 : decode cX7_digest 49 = .ok (.if_icmp .ge 29, 3) := by decide +kernel
theorem dX7_digest_52 : decode cX7_digest 52 = .ok (.aload_n 0, 1) := by decide +kernel
theorem dX7_digest_53 : decode cX7_digest 53 = .ok (.iload_n 3, 1) := by decide +kernel
theorem dX7_digest_54 : decode cX7_digest 54 = .ok (.invokevirtual 330, 3) := by decide +kernel
theorem dX7_digest_57 : decode cX7_digest 57 = .ok (.astore 4, 2) := by decide +kernel
theorem dX7_digest_59 : decode cX7_digest 59 = .ok (.aload 4, 2) := by decide +kernel
theorem dX7_digest_61 : decode cX7_digest 61 = .ok (.ifnull 11, 3) := by decide +kernel
theorem dX7_digest_64 : decode cX7_digest 64 = .ok (.aload_n 0, 1) := by decide +kernel
theorem dX7_digest_65 : decode cX7_digest 65 = .ok (.lload_n 1, 1) := by decide +kernel
theorem dX7_digest_66 : decode cX7_digest 66 = .ok (.aload 4, 2) := by decide +kernel
theorem dX7_digest_68 : decode cX7_digest 68 = .ok (.invokevirtual 333, 3) := by decide +kernel
theorem dX7_digest_71 : decode cX7_digest 71 = .ok (.lstore_n 1, 1) := by decide +kernel
theorem dX7_digest_72 : decode cX7_digest 72 = .ok (.iinc 3 1, 3) := by decide +kernel
theorem dX7_digest_75 : decode cX7_digest 75 = .ok (.goto (-31), 3) := by decide +kernel
theorem dX7_digest_78 : decode cX7_digest 78 = .ok (.iconst 0, 1) := by decide +kernel
theorem dX7_digest_79 : decode cX7_digest 79 = .ok (.istore_n 3, 1) := by decide +kernel
theorem dX7_digest_80 : decode cX7_digest 80 = .ok (.iload_n 3, 1) := by decide +kernel
theorem dX7_digest_81 : decode cX7_digest 81 = .ok (.bipush 90, 2) := by decide +kernel
theorem dX7_digest_83 : decode cX7_digest 83 = .ok (.if_icmp .gt 27, 3) := by decide +kernel
theorem dX7_digest_86 : decode cX7_digest 86 = .ok (.lload_n 1, 1) := by decide +kernel
theorem dX7_digest_87 : decode cX7_digest 87 = .ok (.aload_n 0, 1) := by decide +kernel
theorem dX7_digest_88 : decode cX7_digest 88 = .ok (.iload_n 3, 1) := by decide +kernel
theorem dX7_digest_89 : decode cX7_digest 89 = .ok (.iload_n 3, 1) := by decide +kernel
theorem dX7_digest_90 : decode cX7_digest 90 = .ok (.iconst 1, 1) := by decide +kernel
theorem dX7_digest_91 : decode cX7_digest 91 = .ok (.aload_n 0, 1) := by decide +kernel
theorem dX7_digest_92 : decode cX7_digest 92 = .ok (.getfield 232, 3) := by decide +kernel
theorem dX7_digest_95 : decode cX7_digest 95 = .ok (.aconst_null, 1) := by decide +kernel
theorem dX7_digest_96 : decode cX7_digest 96 = .ok (.invokevirtual 302, 3) := by decide +kernel
theorem dX7_digest_99 : decode cX7_digest 99 = .ok (.i2l, 1) := by decide +kernel
theorem dX7_digest_100 : decode cX7_digest 100 = .ok (.invokestatic 323, 3) := by decide +kernel
theorem dX7_digest_103 : decode cX7_digest 103 = .ok (.lstore_n 1, 1) := by decide +kernel
theorem dX7_digest_104 : decode cX7_digest 104 = .ok (.iinc 3 10, 3) := by decide +kernel
theorem dX7_digest_107 : decode cX7_digest 107 = .ok (.goto (-27), 3) := by decide +kernel
theorem dX7_digest_110 : decode cX7_digest 110 = .ok (.lload_n 1, 1) := by decide +kernel
theorem dX7_digest_111 : decode cX7_digest 111 = .ok (.aload_n 0, 1) := by decide +kernel
theorem dX7_digest_112 : decode cX7_digest 112 = .ok (.iconst 0, 1) := by decide +kernel
theorem dX7_digest_113 : decode cX7_digest 113 = .ok (.bipush 7, 2) := by decide +kernel
theorem dX7_digest_115 : decode cX7_digest 115 = .ok (.invokevirtual 337, 3) := by decide +kernel
theorem dX7_digest_118 : decode cX7_digest 118 = .ok (.i2l, 1) := by decide +kernel
theorem dX7_digest_119 : decode cX7_digest 119 = .ok (.invokestatic 323, 3) := by decide +kernel
theorem dX7_digest_122 : decode cX7_digest 122 = .ok (.lreturn, 1) := by decide +kernel
theorem dX1_init_0 : decode cX1_init 0 = .ok (.aload_n 0, 1) := by decide +kernel
theorem dX1_init_1 : decode cX1_init 1 = .ok (.invokespecial 1, 3) := by decide +kernel
theorem dX1_init_4 : decode cX1_init 4 = .ok (.return_, 1) := by decide +kernel
theorem dX0_init_0 : decode cX0_init 0 = .ok (.aload_n 0, 1) := by decide +kernel
theorem dX0_init_1 : decode cX0_init 1 = .ok (.invokespecial 1, 3) := by decide +kernel
theorem dX0_init_4 : decode cX0_init 4 = .ok (.aload_n 0, 1) := by decide +kernel
theorem dX0_init_5 : decode cX0_init 5 = .ok (.new 7, 3) := by decide +kernel
theorem dX0_init_8 : decode cX0_init 8 = .ok (.dup, 1) := by decide +kernel
theorem dX0_init_9 : decode cX0_init 9 = .ok (.invokespecial 9, 3) := by decide +kernel
theorem dX0_init_12 : decode cX0_init 12 = .ok (.putfield 10, 3) := by decide +kernel
theorem dX0_init_15 : decode cX0_init 15 = .ok (.aload_n 0, 1) := by decide +kernel
theorem dX0_init_16 : decode cX0_init 16 = .ok (.new 7, 3) := by decide +kernel
theorem dX0_init_19 : decode cX0_init 19 = .ok (.dup, 1) := by decide +kernel
theorem dX0_init_20 : decode cX0_init 20 = .ok (.invokespecial 9, 3) := by decide +kernel
theorem dX0_init_23 : decode cX0_init 23 = .ok (.putfield 16, 3) := by decide +kernel
theorem dX0_init_26 : decode cX0_init 26 = .ok (.aload_n 0, 1) := by decide +kernel
theorem dX0_init_27 : decode cX0_init 27 = .ok (.new 7, 3) := by decide +kernel
theorem dX0_init_30 : decode cX0_init 30 = .ok (.dup, 1) := by decide +kernel
theorem dX0_init_31 : decode cX0_init 31 = .ok (.invokespecial 9, 3) := by decide +kernel
theorem dX0_init_34 : decode cX0_init 34 = .ok (.putfield 19, 3) := by decide +kernel
theorem dX0_init_37 : decode cX0_init 37 = .ok (.aload_n 0, 1) := by decide +kernel
theorem dX0_init_38 : decode cX0_init 38 = .ok (.new 7, 3) := by decide +kernel
theorem dX0_init_41 : decode cX0_init 41 = .ok (.dup, 1) := by decide +kernel
theorem dX0_init_42 : decode cX0_init 42 = .ok (.invokespecial 9, 3) := by decide +kernel
theorem dX0_init_45 : decode cX0_init 45 = .ok (.putfield 22, 3) := by decide +kernel
theorem dX0_init_48 : decode cX0_init 48 = .ok (.return_, 1) := by decide +kernel
theorem dX5_init_0 : decode cX5_init 0 = .ok (.aload_n 0, 1) := by decide +kernel
theorem dX5_init_1 : decode cX5_init 1 = .ok (.invokespecial 3, 3) := by decide +kernel
theorem dX5_init_4 : decode cX5_init 4 = .ok (.aload_n 0, 1) := by decide +kernel
theorem dX5_init_5 : decode cX5_init 5 = .ok (.lconst 1, 1) := by decide +kernel
theorem dX5_init_6 : decode cX5_init 6 = .ok (.putfield 9, 3) := by decide +kernel
theorem dX5_init_9 : decode cX5_init 9 = .ok (.return_, 1) := by decide +kernel
noncomputable def f_X7_through_L59 (k17 : Option Nat → Int32 → Int32 → Int32 → Int32 → Option Nat → fSt → Option ((Int32 ⊕ Nat) × fSt)) (a0 : Option Nat) (a1 : Int32) (a2 : Int32) (a3 : Int32) (a4 : Int32) (a5 : Option Nat) (h : fSt) : Option ((Int32 ⊕ Nat) × fSt) := (fgR h a5 4 17).bind fun x1 => k17 a0 a1 a2 a3 a4 x1 h
noncomputable def f_X7_through_L17 (n : Nat) : Option Nat → Int32 → Int32 → Int32 → Int32 → Option Nat → fSt → Option ((Int32 ⊕ Nat) × fSt) := Nat.rec (motive := fun _ => Option Nat → Int32 → Int32 → Int32 → Int32 → Option Nat → fSt → Option ((Int32 ⊕ Nat) × fSt)) (fun _ _ _ _ _ _ _ => none) (fun _ k17 (a0 : Option Nat) (a1 : Int32) (a2 : Int32) (a3 : Int32) (a4 : Int32) (a5 : Option Nat) (h : fSt) => (if a5 = none then some (.inl a4, h) else (fgI h a0 7 7).bind fun x4 => (fobj h a0 7).bind fun b8 => (f_X7_coversAt b8 a5 a1 a2 a3 x4 h).bind fun r6 => (if r6.1 = 0 then f_X7_through_L59 k17 a0 a1 a2 a3 a4 a5 r6.2 else (fgI r6.2 a0 7 7).bind fun x11 => (f_X7_strengthOf 8 a5 x11 (0 : Int32) r6.2).bind fun r13 => f_X7_through_L59 k17 a0 a1 a2 a3 ((a4 * ((100 : Int32) - r13.1)) / (100 : Int32)) a5 r13.2))) n
noncomputable def f_X7_through_L0 (a0 : Option Nat) (a1 : Int32) (a2 : Int32) (a3 : Int32) (h : fSt) : Option ((Int32 ⊕ Nat) × fSt) := (f_X7_checkSpot a1 a2 a3 h).bind fun r15 => Sum.elim (fun v17 => (fgR r15.2 a0 7 8).bind fun x20 => f_X7_through_L17 4096 a0 a1 a2 a3 (10000 : Int32) x20 r15.2) (fun k18 => some (.inr k18, r15.2)) r15.1
noncomputable def f_X7_through (o : Nat) (p0 : Int32) (p1 : Int32) (p2 : Int32) (h : fSt) : Option ((Int32 ⊕ Nat) × fSt) := f_X7_through_L0 (some o) p0 p1 p2 h
noncomputable def f_L_through_L0 (a0 : Option Nat) (a1 : Int32) (a2 : Int32) (a3 : Int32) (a4 : Option Nat) (h : fSt) : Option ((Int32 ⊕ Nat) × fSt) := (fobj h a0 7).bind fun b3 => (f_X7_through b3 a1 a2 a3 h).bind fun r1 => Sum.elim (fun v5 => (fsJ r1.2 a4 1 (0 : Int32) (Int32.toInt64 v5)).bind fun h8 => some (.inl (0 : Int32), h8)) (fun k6 => (if k6 = 1 then some (.inl (1 : Int32), r1.2) else none)) r1.1
noncomputable def f_L_through (p0 : Option Nat) (p1 : Int32) (p2 : Int32) (p3 : Int32) (p4 : Option Nat) (h : fSt) : Option ((Int32 ⊕ Nat) × fSt) := f_L_through_L0 p0 p1 p2 p3 p4 h
noncomputable def f_X7_toWhole_L0 (a0 : Option Nat) (a1 : Int32) (a2 : Int32) (a3 : Int32) (a4 : Int32) (h : fSt) : Option ((Int32 ⊕ Nat) × fSt) := (fobj h a0 7).bind fun b3 => (f_X7_found b3 a1 h).bind fun r1 => Sum.elim (fun v5 => (f_X7_checkPoint a2 a3 a4 r1.2).bind fun r8 => Sum.elim (fun v10 => (fobj r8.2 a0 7).bind fun b15 => (f_X7_raise b15 v5 a2 a3 r8.2).bind fun r13 => (fgR r13.2 a0 7 3).bind fun x17 => (fobj r13.2 x17 5).bind fun b21 => (f_X5_part b21 a4 r13.2).bind fun r19 => some (.inl (Int64.toInt32 r19.1), r19.2)) (fun k11 => some (.inr k11, r8.2)) r8.1) (fun k6 => some (.inr k6, r1.2)) r1.1
noncomputable def f_X7_toWhole (o : Nat) (p0 : Int32) (p1 : Int32) (p2 : Int32) (p3 : Int32) (h : fSt) : Option ((Int32 ⊕ Nat) × fSt) := f_X7_toWhole_L0 (some o) p0 p1 p2 p3 h
noncomputable def f_L_toWhole_L0 (a0 : Option Nat) (a1 : Int32) (a2 : Int32) (a3 : Int32) (a4 : Int32) (a5 : Option Nat) (h : fSt) : Option ((Int32 ⊕ Nat) × fSt) := (fobj h a0 7).bind fun b3 => (f_X7_toWhole b3 a1 a2 a3 a4 h).bind fun r1 => Sum.elim (fun v5 => (fsJ r1.2 a5 1 (0 : Int32) (Int32.toInt64 v5)).bind fun h8 => some (.inl (0 : Int32), h8)) (fun k6 => (if k6 = 0 then some (.inl (1 : Int32), r1.2) else (if k6 = 1 then some (.inl (2 : Int32), r1.2) else none))) r1.1
noncomputable def f_L_toWhole (p0 : Option Nat) (p1 : Int32) (p2 : Int32) (p3 : Int32) (p4 : Int32) (p5 : Option Nat) (h : fSt) : Option ((Int32 ⊕ Nat) × fSt) := f_L_toWhole_L0 p0 p1 p2 p3 p4 p5 h
noncomputable def f_X7_track_L39  (h : fSt) : Option ((Int32 ⊕ Nat) × fSt) := (fthr h).bind fun h1 => some (.inr 1, h1)
noncomputable def f_X7_track_L85  (h : fSt) : Option ((Int32 ⊕ Nat) × fSt) := (fthr h).bind fun h3 => some (.inr 2, h3)
noncomputable def f_X7_track_L0 (a0 : Option Nat) (a1 : Int32) (a2 : Int32) (a3 : Int32) (a4 : Int32) (h : fSt) : Option ((Int32 ⊕ Nat) × fSt) := (fobj h a0 7).bind fun b7 => (f_X7_found b7 a1 h).bind fun r5 => Sum.elim (fun v9 => (fobj r5.2 v9 4).bind fun b14 => (f_X4_property b14 a2 r5.2).bind fun r12 => (if r12.1 = none then f_X7_track_L39 r12.2 else (f_X7_isFrom a3 (0 : Int32) (2 : Int32) r12.2).bind fun r17 => (if r17.1 = 0 then f_X7_track_L39 r17.2 else (f_X7_isFrom a4 (0 : Int32) (2 : Int32) r17.2).bind fun r20 => (if r20.1 = 0 then f_X7_track_L39 r20.2 else (fgR r20.2 a0 7 2).bind fun x23 => (if v9 = x23 then f_X7_track_L85 r20.2 else (fgI r20.2 r12.1 6 3).bind fun x26 => (if x26 = 0 then (fgI r20.2 a0 7 6).bind fun x29 => (if x29 < 0 then f_X7_track_L85 r20.2 else (fgI r20.2 a0 7 6).bind fun x32 => (fgR r20.2 a0 7 1).bind fun x34 => (flen r20.2 x34 5).bind fun x36 => (if x32 < x36 then (fputZ r20.2 r12.1 6 3 (1 : Int32)).bind fun h39 => (fput h39 r12.1 6 5 (.int a3)).bind fun h42 => (fput h42 r12.1 6 6 (.int a4)).bind fun h44 => (fgR h44 a0 7 1).bind fun x46 => (fgI h44 a0 7 6).bind fun x48 => (fsR h44 x46 5 6 x48 r12.1).bind fun h50 => (fgI h50 a0 7 6).bind fun x52 => (fput h50 a0 7 6 (.int (x52 + (1 : Int32)))).bind fun h54 => (fgI h54 a0 7 6).bind fun x56 => some (.inl (x56 - (1 : Int32)), h54) else f_X7_track_L85 r20.2)) else f_X7_track_L85 r20.2)))))) (fun k10 => some (.inr k10, r5.2)) r5.1
noncomputable def f_X7_track (o : Nat) (p0 : Int32) (p1 : Int32) (p2 : Int32) (p3 : Int32) (h : fSt) : Option ((Int32 ⊕ Nat) × fSt) := f_X7_track_L0 (some o) p0 p1 p2 p3 h
noncomputable def f_L_track_L0 (a0 : Option Nat) (a1 : Int32) (a2 : Int32) (a3 : Int32) (a4 : Int32) (a5 : Option Nat) (h : fSt) : Option ((Int32 ⊕ Nat) × fSt) := (fobj h a0 7).bind fun b3 => (f_X7_track b3 a1 a2 a3 a4 h).bind fun r1 => Sum.elim (fun v5 => (fsJ r1.2 a5 1 (0 : Int32) (Int32.toInt64 v5)).bind fun h8 => some (.inl (0 : Int32), h8)) (fun k6 => (if k6 = 0 then some (.inl (1 : Int32), r1.2) else (if k6 = 1 then some (.inl (2 : Int32), r1.2) else (if k6 = 2 then some (.inl (3 : Int32), r1.2) else none)))) r1.1
noncomputable def f_L_track (p0 : Option Nat) (p1 : Int32) (p2 : Int32) (p3 : Int32) (p4 : Int32) (p5 : Option Nat) (h : fSt) : Option ((Int32 ⊕ Nat) × fSt) := f_L_track_L0 p0 p1 p2 p3 p4 p5 h
noncomputable def f_X7_turn_L0 (a0 : Option Nat) (a1 : Int32) (a2 : Int32) (a3 : Int32) (h : fSt) : Option ((Int32 ⊕ Nat) × fSt) := (fobj h a0 7).bind fun b3 => (f_X7_foundBelowWhole b3 a1 h).bind fun r1 => Sum.elim (fun v5 => (fgR r1.2 v5 4 5).bind fun x8 => (fobj r1.2 x8 6).bind fun b12 => (f_X6_allows b12 a2 r1.2).bind fun r10 => (if r10.1 = 0 then (fthr r10.2).bind fun h26 => some (.inr 1, h26) else (fgR r10.2 v5 4 5).bind fun x15 => (fgI r10.2 x15 6 2).bind fun x17 => (fgR r10.2 v5 4 5).bind fun x19 => (fput r10.2 x19 6 2 (.int a2)).bind fun h21 => (fputZ h21 v5 4 9 a3).bind fun h23 => some (.inl x17, h23))) (fun k6 => some (.inr k6, r1.2)) r1.1
noncomputable def f_X7_turn (o : Nat) (p0 : Int32) (p1 : Int32) (p2 : Int32) (h : fSt) : Option ((Int32 ⊕ Nat) × fSt) := f_X7_turn_L0 (some o) p0 p1 p2 h
noncomputable def f_L_turn_L0 (a0 : Option Nat) (a1 : Int32) (a2 : Int32) (a3 : Int32) (a4 : Option Nat) (h : fSt) : Option ((Int32 ⊕ Nat) × fSt) := (fobj h a0 7).bind fun b3 => (f_X7_turn b3 a1 a2 a3 h).bind fun r1 => Sum.elim (fun v5 => (fsJ r1.2 a4 1 (0 : Int32) (Int32.toInt64 v5)).bind fun h8 => some (.inl (0 : Int32), h8)) (fun k6 => (if k6 = 0 then some (.inl (1 : Int32), r1.2) else (if k6 = 2 then some (.inl (2 : Int32), r1.2) else (if k6 = 1 then some (.inl (3 : Int32), r1.2) else none)))) r1.1
noncomputable def f_L_turn (p0 : Option Nat) (p1 : Int32) (p2 : Int32) (p3 : Int32) (p4 : Option Nat) (h : fSt) : Option ((Int32 ⊕ Nat) × fSt) := f_L_turn_L0 p0 p1 p2 p3 p4 h
noncomputable def f_X7_uncut_L18 (a2 : Option Nat) (s0 : Int32) (h : fSt) : Option ((Int32 ⊕ Nat) × fSt) := (fput h a2 4 12 (va_rf none)).bind fun h1 => if s0 = 0 ∨ s0 = 1 then some (.inl s0, h1) else none
noncomputable def f_X7_uncut_L0 (a0 : Option Nat) (a1 : Int32) (h : fSt) : Option ((Int32 ⊕ Nat) × fSt) := (fobj h a0 7).bind fun b6 => (f_X7_found b6 a1 h).bind fun r4 => Sum.elim (fun v8 => (fgR r4.2 v8 4 12).bind fun x11 => (if x11 = none then f_X7_uncut_L18 v8 (0 : Int32) r4.2 else f_X7_uncut_L18 v8 (1 : Int32) r4.2)) (fun k9 => some (.inr k9, r4.2)) r4.1
noncomputable def f_X7_uncut (o : Nat) (p0 : Int32) (h : fSt) : Option ((Int32 ⊕ Nat) × fSt) := f_X7_uncut_L0 (some o) p0 h
noncomputable def f_L_uncut_L15 (s2 : Int64) (s1 : Int32) (s0 : Option Nat) (h : fSt) : Option ((Int32 ⊕ Nat) × fSt) := (fsJ h s0 1 s1 s2).bind fun h1 => some (.inl (0 : Int32), h1)
noncomputable def f_L_uncut_L0 (a0 : Option Nat) (a1 : Int32) (a2 : Option Nat) (h : fSt) : Option ((Int32 ⊕ Nat) × fSt) := (fobj h a0 7).bind fun b5 => (f_X7_uncut b5 a1 h).bind fun r3 => Sum.elim (fun v7 => (if v7 = 0 then f_L_uncut_L15 (0 : Int64) (0 : Int32) a2 r3.2 else f_L_uncut_L15 (1 : Int64) (0 : Int32) a2 r3.2)) (fun k8 => (if k8 = 0 then some (.inl (1 : Int32), r3.2) else none)) r3.1
noncomputable def f_L_uncut (p0 : Option Nat) (p1 : Int32) (p2 : Option Nat) (h : fSt) : Option ((Int32 ⊕ Nat) × fSt) := f_L_uncut_L0 p0 p1 p2 h
noncomputable def f_X6_dropKey_L41 (k21 : Option Nat → Option Nat → Option Nat → fSt → Option (Unit × fSt)) (a0 : Option Nat) (a1 : Option Nat) (a2 : Option Nat) (h : fSt) : Option (Unit × fSt) := (fgR h a2 3 2).bind fun x1 => k21 a0 a1 x1 h
noncomputable def f_X6_dropKey_L21 (n : Nat) : Option Nat → Option Nat → Option Nat → fSt → Option (Unit × fSt) := Nat.rec (motive := fun _ => Option Nat → Option Nat → Option Nat → fSt → Option (Unit × fSt)) (fun _ _ _ _ => none) (fun _ k21 (a0 : Option Nat) (a1 : Option Nat) (a2 : Option Nat) (h : fSt) => (if a2 = none then (fgI h a0 6 8).bind fun x4 => (fput h a0 6 8 (.int (x4 - (1 : Int32)))).bind fun h6 => some ((), h6) else (fgR h a2 3 2).bind fun x8 => (if x8 = a1 then (fgR h a1 3 2).bind fun x11 => (fput h a2 3 2 (va_rf x11)).bind fun h13 => f_X6_dropKey_L41 k21 a0 a1 a2 h13 else f_X6_dropKey_L41 k21 a0 a1 a2 h))) n
noncomputable def f_X6_dropKey_L16 (a0 : Option Nat) (a1 : Option Nat) (h : fSt) : Option (Unit × fSt) := (fgR h a0 6 7).bind fun x15 => f_X6_dropKey_L21 4096 a0 a1 x15 h
noncomputable def f_X6_dropKey_L0 (a0 : Option Nat) (a1 : Option Nat) (h : fSt) : Option (Unit × fSt) := (fgR h a0 6 7).bind fun x17 => (if x17 = a1 then (fgR h a1 3 2).bind fun x20 => (fput h a0 6 7 (va_rf x20)).bind fun h22 => f_X6_dropKey_L16 a0 a1 h22 else f_X6_dropKey_L16 a0 a1 h)
noncomputable def f_X6_dropKey (o : Nat) (p0 : Option Nat) (h : fSt) : Option (Unit × fSt) := f_X6_dropKey_L0 (some o) p0 h
noncomputable def f_X7_unkey_L0 (a0 : Option Nat) (a1 : Int32) (a2 : Int32) (h : fSt) : Option ((Int32 ⊕ Nat) × fSt) := (fobj h a0 7).bind fun b3 => (f_X7_foundTrack b3 a1 h).bind fun r1 => Sum.elim (fun v5 => (fobj r1.2 v5 6).bind fun b10 => (f_X6_keyAt b10 a2 r1.2).bind fun r8 => (if r8.1 = none then (fthr r8.2).bind fun h19 => some (.inr 2, h19) else (fobj r8.2 v5 6).bind fun b15 => (f_X6_dropKey b15 r8.1 r8.2).bind fun r13 => (fgI r13.2 r8.1 3 1).bind fun x17 => some (.inl x17, r13.2))) (fun k6 => some (.inr k6, r1.2)) r1.1
noncomputable def f_X7_unkey (o : Nat) (p0 : Int32) (p1 : Int32) (h : fSt) : Option ((Int32 ⊕ Nat) × fSt) := f_X7_unkey_L0 (some o) p0 p1 h
noncomputable def f_L_unkey_L0 (a0 : Option Nat) (a1 : Int32) (a2 : Int32) (a3 : Option Nat) (h : fSt) : Option ((Int32 ⊕ Nat) × fSt) := (fobj h a0 7).bind fun b3 => (f_X7_unkey b3 a1 a2 h).bind fun r1 => Sum.elim (fun v5 => (fsJ r1.2 a3 1 (0 : Int32) (Int32.toInt64 v5)).bind fun h8 => some (.inl (0 : Int32), h8)) (fun k6 => (if k6 = 0 then some (.inl (1 : Int32), r1.2) else (if k6 = 2 then some (.inl (2 : Int32), r1.2) else none))) r1.1
noncomputable def f_L_unkey (p0 : Option Nat) (p1 : Int32) (p2 : Int32) (p3 : Option Nat) (h : fSt) : Option ((Int32 ⊕ Nat) × fSt) := f_L_unkey_L0 p0 p1 p2 p3 h
noncomputable def f_X7_added_L0 (a0 : Option Nat) (h : fSt) : Option (Int32 × fSt) := (fgI h a0 7 5).bind fun x1 => some (x1, h)
noncomputable def f_X7_added (o : Nat) (h : fSt) : Option (Int32 × fSt) := f_X7_added_L0 (some o) h
noncomputable def f_X7_mixed_L0 (a0 : Int64) (a2 : Int64) (h : fSt) : Option (Int64 × fSt) := some (((a0 * (31 : Int64)) + a2), h)
noncomputable def f_X7_mixed (p0 : Int64) (p1 : Int64) (h : fSt) : Option (Int64 × fSt) := f_X7_mixed_L0 p0 p1 h
noncomputable def f_X7_mixedWithPoint_L5 (n : Nat) : Option Nat → Int64 → Int32 → fSt → Option (Int64 × fSt) := Nat.rec (motive := fun _ => Option Nat → Int64 → Int32 → fSt → Option (Int64 × fSt)) (fun _ _ _ _ => none) (fun _ k5 (a0 : Option Nat) (a3 : Int64) (a5 : Int32) (h : fSt) => (if (3 : Int32) < a5 then some (a3, h) else (fgR h a0 7 3).bind fun x2 => (fobj h x2 5).bind fun b6 => (f_X5_part b6 a5 h).bind fun r4 => (f_X7_mixed a3 r4.1 r4.2).bind fun r8 => k5 a0 r8.1 (a5 + (1 : Int32)) r8.2)) n
noncomputable def f_X7_mixedWithPoint_L0 (a0 : Option Nat) (a1 : Int64) (h : fSt) : Option (Int64 × fSt) := f_X7_mixedWithPoint_L5 4096 a0 a1 (0 : Int32) h
noncomputable def f_X7_mixedWithPoint (o : Nat) (p0 : Int64) (h : fSt) : Option (Int64 × fSt) := f_X7_mixedWithPoint_L0 (some o) p0 h
noncomputable def f_X7_mixedWithNode_L219 (n : Nat) : Option Nat → Int64 → Int32 → fSt → Option (Int64 × fSt) := Nat.rec (motive := fun _ => Option Nat → Int64 → Int32 → fSt → Option (Int64 × fSt)) (fun _ _ _ _ => none) (fun _ k219 (a0 : Option Nat) (a4 : Int64) (a6 : Int32) (h : fSt) => (if (3 : Int32) < a6 then some (a4, h) else (fgR h a0 7 4).bind fun x2 => (fobj h x2 0).bind fun b6 => (f_X0_side b6 a6 h).bind fun r4 => (fgJ r4.2 r4.1 1 0).bind fun x8 => (f_X7_mixed a4 x8 r4.2).bind fun r10 => (fgJ r10.2 r4.1 1 1).bind fun x12 => (f_X7_mixed r10.1 x12 r10.2).bind fun r14 => k219 a0 r14.1 (a6 + (1 : Int32)) r14.2)) n
noncomputable def f_X7_mixedWithNode_L129 (a0 : Option Nat) (a3 : Option Nat) (s1 : Int64) (s0 : Int64) (h : fSt) : Option (Int64 × fSt) := (f_X7_mixed s0 s1 h).bind fun r16 => (fgI r16.2 a0 7 7).bind fun x18 => (f_X7_strengthOf 8 a3 x18 (0 : Int32) r16.2).bind fun r20 => (f_X7_mixed r16.1 (Int32.toInt64 r20.1) r20.2).bind fun r22 => (fgI r22.2 a3 4 18).bind fun x24 => (f_X7_mixed r22.1 (Int32.toInt64 x24) r22.2).bind fun r26 => (fobj r26.2 a0 7).bind fun b30 => (f_X7_raise b30 a3 (1 : Int32) (2 : Int32) r26.2).bind fun r28 => (fobj r28.2 a0 7).bind fun b34 => (f_X7_mixedWithPoint b34 r26.1 r28.2).bind fun r32 => (fgR r32.2 a0 7 3).bind fun x36 => (fobj r32.2 x36 5).bind fun b40 => (f_X5_set b40 (1 : Int64) (2 : Int64) (1 : Int64) r32.2).bind fun r38 => (fgR r38.2 a0 7 3).bind fun x42 => (fgI r38.2 a0 7 7).bind fun x44 => (f_X7_sink 8 x42 a3 x44 (0 : Int32) r38.2).bind fun r46 => (fobj r46.2 a0 7).bind fun b50 => (f_X7_mixedWithPoint b50 r32.1 r46.2).bind fun r48 => (fobj r48.2 a0 7).bind fun b54 => (f_X7_gatherBounds b54 a3 r48.2).bind fun r52 => f_X7_mixedWithNode_L219 4096 a0 r48.1 (0 : Int32) r52.2
noncomputable def f_X7_mixedWithNode_L0 (a0 : Option Nat) (a1 : Int64) (a3 : Option Nat) (h : fSt) : Option (Int64 × fSt) := (fgI h a3 4 0).bind fun x56 => (f_X7_mixed a1 (Int32.toInt64 x56) h).bind fun r58 => (f_X7_parentNumber a3 r58.2).bind fun r60 => (f_X7_mixed r58.1 (Int32.toInt64 r60.1) r60.2).bind fun r62 => (fobj r62.2 a3 4).bind fun b66 => (f_X4_depth b66 r62.2).bind fun r64 => (f_X7_mixed r62.1 (Int32.toInt64 r64.1) r64.2).bind fun r68 => (fgR r68.2 a3 4 3).bind fun x70 => (fgI r68.2 a0 7 7).bind fun x72 => (fobj r68.2 x70 6).bind fun b76 => (f_X6_at b76 x72 r68.2).bind fun r74 => (f_X7_mixed r68.1 (Int32.toInt64 r74.1) r74.2).bind fun r78 => (fgR r78.2 a3 4 4).bind fun x80 => (fgI r78.2 a0 7 7).bind fun x82 => (fobj r78.2 x80 6).bind fun b86 => (f_X6_at b86 x82 r78.2).bind fun r84 => (f_X7_mixed r78.1 (Int32.toInt64 r84.1) r84.2).bind fun r88 => (fgR r88.2 a3 4 5).bind fun x90 => (fgI r88.2 a0 7 7).bind fun x92 => (fobj r88.2 x90 6).bind fun b96 => (f_X6_at b96 x92 r88.2).bind fun r94 => (f_X7_mixed r88.1 (Int32.toInt64 r94.1) r94.2).bind fun r98 => (fgR r98.2 a3 4 6).bind fun x100 => (fgI r98.2 a0 7 7).bind fun x102 => (fobj r98.2 x100 6).bind fun b106 => (f_X6_at b106 x102 r98.2).bind fun r104 => (f_X7_mixed r98.1 (Int32.toInt64 r104.1) r104.2).bind fun r108 => (fgI r108.2 a0 7 7).bind fun x110 => (fobj r108.2 a3 4).bind fun b114 => (f_X4_isShownAt b114 x110 r108.2).bind fun r112 => (if r112.1 = 0 then f_X7_mixedWithNode_L129 a0 a3 (0 : Int64) r108.1 r112.2 else f_X7_mixedWithNode_L129 a0 a3 (1 : Int64) r108.1 r112.2)
noncomputable def f_X7_mixedWithNode (o : Nat) (p0 : Int64) (p1 : Option Nat) (h : fSt) : Option (Int64 × fSt) := f_X7_mixedWithNode_L0 (some o) p0 p1 h
noncomputable def f_X6_nextKeyTime_L5 (n : Nat) : Int32 → Option Nat → fSt → Option (Int32 × fSt) := Nat.rec (motive := fun _ => Int32 → Option Nat → fSt → Option (Int32 × fSt)) (fun _ _ _ => none) (fun _ k5 (a1 : Int32) (a2 : Option Nat) (h : fSt) => (if a2 = none then some ((-1 : Int32), h) else (fgI h a2 3 0).bind fun x2 => (if x2 ≤ a1 then (fgR h a2 3 2).bind fun x5 => k5 a1 x5 h else (fgI h a2 3 0).bind fun x7 => some (x7, h)))) n
noncomputable def f_X6_nextKeyTime_L0 (a0 : Option Nat) (a1 : Int32) (h : fSt) : Option (Int32 × fSt) := (fgR h a0 6 7).bind fun x9 => f_X6_nextKeyTime_L5 4096 a1 x9 h
noncomputable def f_X6_nextKeyTime (o : Nat) (p0 : Int32) (h : fSt) : Option (Int32 × fSt) := f_X6_nextKeyTime_L0 (some o) p0 h
noncomputable def f_X7_nextKey_L65 (k4 : Option Nat → Int32 → Int32 → fSt → Option (Int32 × fSt)) (a0 : Option Nat) (a1 : Int32) (a2 : Int32) (h : fSt) : Option (Int32 × fSt) := k4 a0 a1 (a2 + (1 : Int32)) h
noncomputable def f_X7_nextKey_L63 (k4 : Option Nat → Int32 → Int32 → fSt → Option (Int32 × fSt)) (a0 : Option Nat) (a2 : Int32) (a3 : Int32) (h : fSt) : Option (Int32 × fSt) := f_X7_nextKey_L65 k4 a0 a3 a2 h
noncomputable def f_X7_nextKey_L47 (k4 : Option Nat → Int32 → Int32 → fSt → Option (Int32 × fSt)) (a0 : Option Nat) (a1 : Int32) (a2 : Int32) (s0 : Int32) (h : fSt) : Option (Int32 × fSt) := (if s0 = (-1 : Int32) then f_X7_nextKey_L65 k4 a0 a1 a2 h else (if a1 = (-1 : Int32) then f_X7_nextKey_L63 k4 a0 a2 s0 h else (if a1 ≤ s0 then f_X7_nextKey_L65 k4 a0 a1 a2 h else f_X7_nextKey_L63 k4 a0 a2 s0 h)))
noncomputable def f_X7_nextKey_L71 (a1 : Int32) (h : fSt) : Option (Int32 × fSt) := some (a1, h)
noncomputable def f_X7_nextKey_L4 (n : Nat) : Option Nat → Int32 → Int32 → fSt → Option (Int32 × fSt) := Nat.rec (motive := fun _ => Option Nat → Int32 → Int32 → fSt → Option (Int32 × fSt)) (fun _ _ _ _ => none) (fun _ k4 (a0 : Option Nat) (a1 : Int32) (a2 : Int32) (h : fSt) => (fgI h a0 7 6).bind fun x4 => (if x4 ≤ a2 then f_X7_nextKey_L71 a1 h else (fgR h a0 7 1).bind fun x7 => (flen h x7 5).bind fun x9 => (if x9 ≤ a2 then f_X7_nextKey_L71 a1 h else (fgR h a0 7 1).bind fun x12 => (faR h x12 5 a2).bind fun x14 => (if x14 = none then f_X7_nextKey_L47 k4 a0 a1 a2 (-1 : Int32) h else (fgR h a0 7 1).bind fun x17 => (faR h x17 5 a2).bind fun x19 => (fgI h a0 7 7).bind fun x21 => (fobj h x19 6).bind fun b25 => (f_X6_nextKeyTime b25 x21 h).bind fun r23 => f_X7_nextKey_L47 k4 a0 a1 a2 r23.1 r23.2)))) n
noncomputable def f_X7_nextKey_L0 (a0 : Option Nat) (h : fSt) : Option (Int32 × fSt) := f_X7_nextKey_L4 4096 a0 (-1 : Int32) (0 : Int32) h
noncomputable def f_X7_nextKey (o : Nat) (h : fSt) : Option (Int32 × fSt) := f_X7_nextKey_L0 (some o) h
noncomputable def f_X7_digest_L72 (k44 : Option Nat → Int64 → Int32 → fSt → Option (Int64 × fSt)) (a0 : Option Nat) (a1 : Int64) (a3 : Int32) (h : fSt) : Option (Int64 × fSt) := k44 a0 a1 (a3 + (1 : Int32)) h
noncomputable def f_X7_digest_L80 (n : Nat) : Option Nat → Int64 → Int32 → fSt → Option (Int64 × fSt) := Nat.rec (motive := fun _ => Option Nat → Int64 → Int32 → fSt → Option (Int64 × fSt)) (fun _ _ _ _ => none) (fun _ k80 (a0 : Option Nat) (a1 : Int64) (a3 : Int32) (h : fSt) => (if (90 : Int32) < a3 then (fobj h a0 7).bind fun b4 => (f_X7_changes b4 (0 : Int32) (7 : Int32) h).bind fun r2 => Sum.elim (fun v6 => (f_X7_mixed a1 (Int32.toInt64 v6) r2.2).bind fun r9 => some (r9.1, r9.2)) (fun _ => none) r2.1 else (fgI h a0 7 7).bind fun x11 => (fobj h a0 7).bind fun b15 => (f_X7_topAt b15 a3 a3 (1 : Int32) x11 none h).bind fun r13 => (f_X7_mixed a1 (Int32.toInt64 r13.1) r13.2).bind fun r17 => k80 a0 r17.1 (a3 + (10 : Int32)) r17.2)) n
noncomputable def f_X7_digest_L44 (n : Nat) : Option Nat → Int64 → Int32 → fSt → Option (Int64 × fSt) := Nat.rec (motive := fun _ => Option Nat → Int64 → Int32 → fSt → Option (Int64 × fSt)) (fun _ _ _ _ => none) (fun _ k44 (a0 : Option Nat) (a1 : Int64) (a3 : Int32) (h : fSt) => (fgI h a0 7 5).bind fun x19 => (if x19 ≤ a3 then f_X7_digest_L80 4096 a0 a1 (0 : Int32) h else (fobj h a0 7).bind fun b24 => (f_X7_nodeOrNull b24 a3 h).bind fun r22 => (if r22.1 = none then f_X7_digest_L72 k44 a0 a1 a3 r22.2 else (fobj r22.2 a0 7).bind fun b29 => (f_X7_mixedWithNode b29 a1 r22.1 r22.2).bind fun r27 => f_X7_digest_L72 k44 a0 r27.1 a3 r27.2))) n
noncomputable def f_X7_digest_L0 (a0 : Option Nat) (h : fSt) : Option (Int64 × fSt) := (fgI h a0 7 5).bind fun x31 => (f_X7_mixed (2647 : Int64) (Int32.toInt64 x31) h).bind fun r33 => (fgI r33.2 a0 7 9).bind fun x35 => (f_X7_mixed r33.1 (Int32.toInt64 x35) r33.2).bind fun r37 => (fgI r37.2 a0 7 6).bind fun x39 => (f_X7_mixed r37.1 (Int32.toInt64 x39) r37.2).bind fun r41 => (fobj r41.2 a0 7).bind fun b45 => (f_X7_nextKey b45 r41.2).bind fun r43 => (f_X7_mixed r41.1 (Int32.toInt64 r43.1) r43.2).bind fun r47 => f_X7_digest_L44 4096 a0 r47.1 (0 : Int32) r47.2
noncomputable def f_X7_digest (o : Nat) (h : fSt) : Option (Int64 × fSt) := f_X7_digest_L0 (some o) h
noncomputable def f_X1_init_L0 (a0 : Option Nat) (h : fSt) : Option (Unit × fSt) := (fobj h a0 1).bind fun b1 => some ((), h)
noncomputable def f_X1_init (o : Nat) (h : fSt) : Option (Unit × fSt) := f_X1_init_L0 (some o) h
noncomputable def f_X0_init_L0 (a0 : Option Nat) (h : fSt) : Option (Unit × fSt) := (fobj h a0 0).bind fun b1 => (fnew h (.inl (1, [.long 0, .long 0])) 2).bind fun r3 => (f_X1_init r3.1 r3.2).bind fun r5 => (fput r5.2 a0 0 0 (va_rf (some r3.1))).bind fun h7 => (fnew h7 (.inl (1, [.long 0, .long 0])) 2).bind fun r9 => (f_X1_init r9.1 r9.2).bind fun r11 => (fput r11.2 a0 0 1 (va_rf (some r9.1))).bind fun h13 => (fnew h13 (.inl (1, [.long 0, .long 0])) 2).bind fun r15 => (f_X1_init r15.1 r15.2).bind fun r17 => (fput r17.2 a0 0 2 (va_rf (some r15.1))).bind fun h19 => (fnew h19 (.inl (1, [.long 0, .long 0])) 2).bind fun r21 => (f_X1_init r21.1 r21.2).bind fun r23 => (fput r23.2 a0 0 3 (va_rf (some r21.1))).bind fun h25 => some ((), h25)
noncomputable def f_X0_init (o : Nat) (h : fSt) : Option (Unit × fSt) := f_X0_init_L0 (some o) h
noncomputable def f_X5_init_L0 (a0 : Option Nat) (h : fSt) : Option (Unit × fSt) := (fobj h a0 5).bind fun b1 => (fput h a0 5 2 (.long (1 : Int64))).bind fun h3 => some ((), h3)
noncomputable def f_X5_init (o : Nat) (h : fSt) : Option (Unit × fSt) := f_X5_init_L0 (some o) h
set_option maxHeartbeats 4000000 in
set_option maxRecDepth 100000 in
theorem w_X7_through_L59 {p : Program} {l : Launch} {e : Env} {s : State} {m : MethodId} {args : Array Value} {below : List Frame} {meth : Method} {c : Code} {D : va_G} {cA : Nat → ClassId} {h0 : fSt} {r : ((Int32 ⊕ Nat) × fSt)} (M : fM p s m args meth c D cA h0 { frames := 26, cells := fCB h0 - fZ h0, slots := fLB h0 - fL h0, locals := 640 } cX7_through 6 (some (.int)) RX7) (hfl : l.stackTraces = false) (hno : ∀ x ∈ c.exceptionTable.toList, False) {k17 : Option Nat → Int32 → Int32 → Int32 → Int32 → Option Nat → fSt → Option ((Int32 ⊕ Nat) × fSt)} (hk17 : ∀ (a0 : Option Nat) (a1 : Int32) (a2 : Int32) (a3 : Int32) (a4 : Int32) (a5 : Option Nat) (h : fSt), k17 a0 a1 a2 a3 a4 a5 h = some r → ∀ (H : Heap) (locs : List Loc) (cells slots : Nat) (ls : Array Slot), fCur D cA s h0 h H locs → lv_has ls 6 [(0, va_rf a0), (1, .int a1), (2, .int a2), (3, .int a3), (4, .int a4), (5, va_rf a5)] → W p l e { frames := 26, cells := fCB h0 - fZ h0, slots := fLB h0 - fL h0, locals := 640 } s m args below meth c H locs cells slots (vx_MQ below (fQX D cA h0 r.2 (rI r.1)) (fXC D cA h0 r.2 (rI r.1)) args s (fCB h0 - fZ h0) (fLB h0 - fL h0) (fA h0)) (F0 m 17 ls [])) (a0 : Option Nat) (a1 : Int32) (a2 : Int32) (a3 : Int32) (a4 : Int32) (a5 : Option Nat) (h : fSt) (hf : f_X7_through_L59 k17 a0 a1 a2 a3 a4 a5 h = some r) : ∀ (H : Heap) (locs : List Loc) (cells slots : Nat) (ls : Array Slot), fCur D cA s h0 h H locs → lv_has ls 6 [(0, va_rf a0), (1, .int a1), (2, .int a2), (3, .int a3), (4, .int a4), (5, va_rf a5)] → W p l e { frames := 26, cells := fCB h0 - fZ h0, slots := fLB h0 - fL h0, locals := 640 } s m args below meth c H locs cells slots (vx_MQ below (fQX D cA h0 r.2 (rI r.1)) (fXC D cA h0 r.2 (rI r.1)) args s (fCB h0 - fZ h0) (fLB h0 - fL h0) (fA h0)) (F0 m 59 ls []) := by
  obtain ⟨hx, hb, hml, hr, hlocks, hts, hown, K, hR⟩ := id M
  intro H locs cells slots ls hC hl
  refine fr_aload hx hb dX7_through_59 (lv_at hl 5 rfl) ?_
  obtain ⟨x1, g2, hf⟩ := obind hf
  refine fr_get hx hb hts hown K hC ct_4 (fgR_get g2) (by decide) kw189 rfl dX7_through_61 ?_
  refine fr_astore (lv' := [(5, va_rf x1), (0, va_rf a0), (1, .int a1), (2, .int a2), (3, .int a3), (4, .int a4)]) hx hb dX7_through_64 hl (by decide) (congrArg (List.cons _) (flk rfl (flk rfl (flk rfl (flk rfl (flk rfl (fld rfl fln))))))) (fun ls hl => ?_)
  refine lv_goto (tgt := 17) hx hb dX7_through_66 (by decide) ?_
  exact hk17 _ _ _ _ _ _ _ hf _ _ _ _ _ hC (lv_sub hl [1, 2, 3, 4, 5, 0] rfl)
set_option maxHeartbeats 4000000 in
set_option maxRecDepth 100000 in
theorem w_X7_through_L17 {p : Program} {l : Launch} {e : Env} {s : State} {m : MethodId} {args : Array Value} {below : List Frame} {meth : Method} {c : Code} {D : va_G} {cA : Nat → ClassId} {h0 : fSt} {r : ((Int32 ⊕ Nat) × fSt)} (M : fM p s m args meth c D cA h0 { frames := 26, cells := fCB h0 - fZ h0, slots := fLB h0 - fL h0, locals := 640 } cX7_through 6 (some (.int)) RX7) (hfl : l.stackTraces = false) (hno : ∀ x ∈ c.exceptionTable.toList, False) : ∀ (n : Nat) (a0 : Option Nat) (a1 : Int32) (a2 : Int32) (a3 : Int32) (a4 : Int32) (a5 : Option Nat) (h : fSt), f_X7_through_L17 n a0 a1 a2 a3 a4 a5 h = some r → ∀ (H : Heap) (locs : List Loc) (cells slots : Nat) (ls : Array Slot), fCur D cA s h0 h H locs → lv_has ls 6 [(0, va_rf a0), (1, .int a1), (2, .int a2), (3, .int a3), (4, .int a4), (5, va_rf a5)] → W p l e { frames := 26, cells := fCB h0 - fZ h0, slots := fLB h0 - fL h0, locals := 640 } s m args below meth c H locs cells slots (vx_MQ below (fQX D cA h0 r.2 (rI r.1)) (fXC D cA h0 r.2 (rI r.1)) args s (fCB h0 - fZ h0) (fLB h0 - fL h0) (fA h0)) (F0 m 17 ls []) := by
  obtain ⟨hx, hb, hml, hr, hlocks, hts, hown, K, hR⟩ := id M
  intro n
  induction n with
  | zero =>
    intro a0 a1 a2 a3 a4 a5 h hf
    exact nomatch (show (none : Option ((Int32 ⊕ Nat) × fSt)) = some r from hf)
  | succ n hk17 =>
    intro a0 a1 a2 a3 a4 a5 h hf H locs cells slots ls hC hl
    refine fr_aload hx hb dX7_through_17 (lv_at hl 5 rfl) ?_
    refine fr_ifnull (tgt := 69) hx hb dX7_through_19 (by decide) (fun c3 => ?_) (fun c3 => ?_)
    · replace hf := opos c3 hf
      refine lv_iload hx hb dX7_through_69 (lv_at hl 4 rfl) ?_
      obtain rfl := Option.some.inj hf
      exact fr_retQ (fr_iret hx hb hr hlocks hC dX7_through_71)
    · replace hf := oneg c3 hf
      refine fr_aload_n hx hb dX7_through_22 rfl (lv_at hl 0 rfl) ?_
      refine fr_aload hx hb dX7_through_23 (lv_at hl 5 rfl) ?_
      refine lv_iload_n hx hb dX7_through_25 rfl (lv_at hl 1 rfl) ?_
      refine lv_iload_n hx hb dX7_through_26 rfl (lv_at hl 2 rfl) ?_
      refine lv_iload_n hx hb dX7_through_27 rfl (lv_at hl 3 rfl) ?_
      refine fr_aload_n hx hb dX7_through_28 rfl (lv_at hl 0 rfl) ?_
      obtain ⟨x4, g5, hf⟩ := obind hf
      refine fr_get hx hb hts hown K hC ct_7 (fgI_get g5) (by decide) kw297 rfl dX7_through_29 ?_
      obtain ⟨b8, q9, hf⟩ := obind hf
      obtain ⟨r6, g7, hf⟩ := obind hf
      refine fr_callV hx hb hml hts hown K hC hR ct_7 (c_X7_coversAt hfl D cA g7) 5 q9 kw473 kw470 kw472 kw10 kw55 (by decide +kernel) ⟨by exact Nat.le_of_ble_eq_true rfl, by exact Nat.le_of_ble_eq_true rfl⟩ rfl hl.1 (cat8 _ (by exact Nat.le_of_ble_eq_true rfl)) dX7_through_32 rfl (fun H locs _ _ hC => ?_)
      refine lv_if_eq (tgt := 59) hx hb dX7_through_35 (by decide) (fun c10 => ?_) (fun c10 => ?_)
      · replace hf := opos c10 hf
        exact w_X7_through_L59 M hfl hno hk17 _ _ _ _ _ _ _ hf _ _ _ _ _ hC (lv_sub hl [0, 1, 2, 3, 4, 5] rfl)
      · replace hf := oneg c10 hf
        refine lv_iload hx hb dX7_through_38 (lv_at hl 4 rfl) ?_
        refine lv_bipush (v := (100 : Int32)) hx hb dX7_through_40 (by decide) ?_
        refine fr_aload hx hb dX7_through_42 (lv_at hl 5 rfl) ?_
        refine fr_aload_n hx hb dX7_through_44 rfl (lv_at hl 0 rfl) ?_
        obtain ⟨x11, g12, hf⟩ := obind hf
        refine fr_get hx hb hts hown K hC ct_7 (fgI_get g12) (by decide) kw297 rfl dX7_through_45 ?_
        refine lv_iconst (v := (0 : Int32)) hx hb dX7_through_48 (by decide) ?_
        obtain ⟨r13, g14, hf⟩ := obind hf
        refine fr_callS hx hb hml hts hown K hC hR (c_X7_strengthOf hfl D cA 8 g14) 3 kw391 kw389 kw390 kw55 (by decide +kernel) ⟨by exact Nat.le_of_ble_eq_true rfl, by exact Nat.le_of_ble_eq_true rfl⟩ rfl hl.1 (cat8 _ (by exact Nat.le_of_ble_eq_true rfl)) dX7_through_49 rfl (fun H locs _ _ hC => ?_)
        refine lv_isub hx hb dX7_through_52 ?_
        refine lv_imul hx hb dX7_through_53 ?_
        refine lv_bipush (v := (100 : Int32)) hx hb dX7_through_54 (by decide) ?_
        refine lv_idiv hx hb dX7_through_56 (by decide) ?_
        refine lv_istore (lv' := [(4, .int ((a4 * ((100 : Int32) - r13.1)) / (100 : Int32))), (0, va_rf a0), (1, .int a1), (2, .int a2), (3, .int a3), (5, va_rf a5)]) hx hb dX7_through_57 hl (by decide) (congrArg (List.cons _) (flk rfl (flk rfl (flk rfl (flk rfl (fld rfl (flk rfl fln))))))) (fun ls hl => ?_)
        exact w_X7_through_L59 M hfl hno hk17 _ _ _ _ _ _ _ hf _ _ _ _ _ hC (lv_sub hl [1, 2, 3, 4, 0, 5] rfl)
set_option maxHeartbeats 4000000 in
set_option maxRecDepth 100000 in
theorem w_X7_through_L0 {p : Program} {l : Launch} {e : Env} {s : State} {m : MethodId} {args : Array Value} {below : List Frame} {meth : Method} {c : Code} {D : va_G} {cA : Nat → ClassId} {h0 : fSt} {r : ((Int32 ⊕ Nat) × fSt)} (M : fM p s m args meth c D cA h0 { frames := 26, cells := fCB h0 - fZ h0, slots := fLB h0 - fL h0, locals := 640 } cX7_through 6 (some (.int)) RX7) (hfl : l.stackTraces = false) (hno : ∀ x ∈ c.exceptionTable.toList, False) (a0 : Option Nat) (a1 : Int32) (a2 : Int32) (a3 : Int32) (h : fSt) (hf : f_X7_through_L0 a0 a1 a2 a3 h = some r) : ∀ (H : Heap) (locs : List Loc) (cells slots : Nat) (ls : Array Slot), fCur D cA s h0 h H locs → lv_has ls 6 [(0, va_rf a0), (1, .int a1), (2, .int a2), (3, .int a3)] → W p l e { frames := 26, cells := fCB h0 - fZ h0, slots := fLB h0 - fL h0, locals := 640 } s m args below meth c H locs cells slots (vx_MQ below (fQX D cA h0 r.2 (rI r.1)) (fXC D cA h0 r.2 (rI r.1)) args s (fCB h0 - fZ h0) (fLB h0 - fL h0) (fA h0)) (F0 m 0 ls []) := by
  obtain ⟨hx, hb, hml, hr, hlocks, hts, hown, K, hR⟩ := id M
  intro H locs cells slots ls hC hl
  refine lv_iload_n hx hb dX7_through_0 rfl (lv_at hl 1 rfl) ?_
  refine lv_iload_n hx hb dX7_through_1 rfl (lv_at hl 2 rfl) ?_
  refine lv_iload_n hx hb dX7_through_2 rfl (lv_at hl 3 rfl) ?_
  obtain ⟨⟨v17 | k18, h19⟩, g16, hf⟩ := obind hf
  · refine fr_callSX hx hb hml hts hown K hC hR (c_X7_checkSpot hfl D cA g16) 3 kw907 kw905 kw906 kw55 (by decide +kernel) ⟨by exact Nat.le_of_ble_eq_true rfl, by exact Nat.le_of_ble_eq_true rfl⟩ rfl hl.1 (cat8 _ (by exact Nat.le_of_ble_eq_true rfl)) dX7_through_3 rfl (fun H locs _ _ hC => ?_)
    refine lv_sipush (v := (10000 : Int32)) hx hb dX7_through_6 (by decide) ?_
    refine lv_istore (lv' := [(4, .int (10000 : Int32)), (0, va_rf a0), (1, .int a1), (2, .int a2), (3, .int a3)]) hx hb dX7_through_9 hl (by decide) (congrArg (List.cons _) (flk rfl (flk rfl (flk rfl (flk rfl fln))))) (fun ls hl => ?_)
    refine fr_aload_n hx hb dX7_through_11 rfl (lv_at hl 1 rfl) ?_
    obtain ⟨x20, g21, hf⟩ := obind hf
    refine fr_get hx hb hts hown K hC ct_7 (fgR_get g21) (by decide) kw298 rfl dX7_through_12 ?_
    refine fr_astore (lv' := [(5, va_rf x20), (4, .int (10000 : Int32)), (0, va_rf a0), (1, .int a1), (2, .int a2), (3, .int a3)]) hx hb dX7_through_15 hl (by decide) (congrArg (List.cons _) (flk rfl (flk rfl (flk rfl (flk rfl (flk rfl fln)))))) (fun ls hl => ?_)
    exact w_X7_through_L17 M hfl hno 4096 _ _ _ _ _ _ _ hf _ _ _ _ _ hC (lv_sub hl [2, 3, 4, 5, 1, 0] rfl)
  · obtain rfl := Option.some.inj hf
    refine fr_callST hx hb hml hts hown K hC hR (c_X7_checkSpot hfl D cA g16) 3 kw907 kw905 kw906 kw55 (by decide +kernel) ⟨by exact Nat.le_of_ble_eq_true rfl, by exact Nat.le_of_ble_eq_true rfl⟩ rfl hl.1 (cat8 _ (by exact Nat.le_of_ble_eq_true rfl)) dX7_through_3 rfl (fun H locs _ _ q ce hC e1 e2 e3 => ?_)
    exact fr_out (fun x hx9 => (hno x hx9).elim) hlocks hC e1 e2 e3
set_option maxRecDepth 100000 in
theorem c_X7_through {l : Launch} (hfl : l.stackTraces = false) (D : va_G) (cA : Nat → ClassId) {o : Nat} {p0 : Int32} {p1 : Int32} {p2 : Int32} {h : fSt} {r : ((Int32 ⊕ Nat) × fSt)} (hf : f_X7_through o p0 p1 p2 h = some r) : fMetX l yX7_through (wsC yX7_through cX7_through 6 (some (.int))) (26) (640) D cA [.ref o, .int p0, .int p1, .int p2] h r.2 (rI r.1) := by
  exact fMetX.of (own := RX7) (by decide +kernel) rfl (lva1 rfl (lva1 rfl (lva1 rfl (lva1 rfl lva0)))) (lgl1 rfl (lgl1 rfl (lgl1 rfl (lgl1 rfl lgl0)))) (Nat.le_of_ble_eq_true rfl) (fun p e s m args below meth c ls hno M hC hl => by
    have hl : lv_has ls 6 [(0, va_rf (some o)), (1, .int p0), (2, .int p1), (3, .int p2)] := hl
    exact w_X7_through_L0 M hfl hno _ _ _ _ _ hf _ _ _ _ _ hC (lv_sub hl [0, 1, 2, 3] rfl))
set_option maxHeartbeats 4000000 in
set_option maxRecDepth 100000 in
theorem w_L_through_L0 {p : Program} {l : Launch} {e : Env} {s : State} {m : MethodId} {args : Array Value} {below : List Frame} {meth : Method} {c : Code} {D : va_G} {cA : Nat → ClassId} {h0 : fSt} {r : ((Int32 ⊕ Nat) × fSt)} (M : fM p s m args meth c D cA h0 { frames := 27, cells := fCB h0 - fZ h0, slots := fLB h0 - fL h0, locals := 665 } cL_through 6 (some (.int)) RL) (hfl : l.stackTraces = false) (hno : c.exceptionTable.toList = tableOf [(0, 12, 15, 15)]) (a0 : Option Nat) (a1 : Int32) (a2 : Int32) (a3 : Int32) (a4 : Option Nat) (h : fSt) (hf : f_L_through_L0 a0 a1 a2 a3 a4 h = some r) : ∀ (H : Heap) (locs : List Loc) (cells slots : Nat) (ls : Array Slot), fCur D cA s h0 h H locs → lv_has ls 6 [(0, va_rf a0), (1, .int a1), (2, .int a2), (3, .int a3), (4, va_rf a4)] → W p l e { frames := 27, cells := fCB h0 - fZ h0, slots := fLB h0 - fL h0, locals := 665 } s m args below meth c H locs cells slots (vx_MQ below (fQX D cA h0 r.2 (rI r.1)) (fXC D cA h0 r.2 (rI r.1)) args s (fCB h0 - fZ h0) (fLB h0 - fL h0) (fA h0)) (F0 m 0 ls []) := by
  obtain ⟨hx, hb, hml, hr, hlocks, hts, hown, K, hR⟩ := id M
  intro H locs cells slots ls hC hl
  refine fr_aload hx hb dL_through_0 (lv_at hl 4 rfl) ?_
  refine lv_iconst (v := (0 : Int32)) hx hb dL_through_2 (by decide) ?_
  refine fr_aload_n hx hb dL_through_3 rfl (lv_at hl 0 rfl) ?_
  refine lv_iload_n hx hb dL_through_4 rfl (lv_at hl 1 rfl) ?_
  refine lv_iload_n hx hb dL_through_5 rfl (lv_at hl 2 rfl) ?_
  refine lv_iload_n hx hb dL_through_6 rfl (lv_at hl 3 rfl) ?_
  obtain ⟨b3, q4, hf⟩ := obind hf
  obtain ⟨⟨v5 | k6, h7⟩, g2, hf⟩ := obind hf
  · refine fr_callVX hx hb hml hts hown K hC hR ct_7 (c_X7_through hfl D cA g2) 3 q4 kw930 kw927 kw928 kw929 kw55 (by decide +kernel) ⟨by exact Nat.le_of_ble_eq_true rfl, by exact Nat.le_of_ble_eq_true rfl⟩ rfl hl.1 (cat8 _ (by exact Nat.le_of_ble_eq_true rfl)) dL_through_7 rfl (fun H locs _ _ hC => ?_)
    refine lv_i2l (v := (Int32.toInt64 v5)) hx hb dL_through_10 rfl ?_
    obtain ⟨h8, g9, hf⟩ := obind hf
    refine fr_last hx hb K hC (t := 1) rfl g9 dL_through_11 (fun H locs hC => ?_)
    refine lv_goto (tgt := 19) hx hb dL_through_12 (by decide) ?_
    refine lv_iconst (v := (0 : Int32)) hx hb dL_through_19 (by decide) ?_
    obtain rfl := Option.some.inj hf
    exact fr_retQ (fr_iret hx hb hr hlocks hC dL_through_20)
  · refine fr_callVT hx hb hml hts hown K hC hR ct_7 (c_X7_through hfl D cA g2) 3 q4 kw930 kw927 kw928 kw929 kw55 (by decide +kernel) ⟨by exact Nat.le_of_ble_eq_true rfl, by exact Nat.le_of_ble_eq_true rfl⟩ rfl hl.1 (cat8 _ (by exact Nat.le_of_ble_eq_true rfl)) dL_through_7 rfl (fun H locs _ _ q ce hC e1 e2 e3 => ?_)
    by_cases c10 : k6 = 1
    · replace hf := opos c10 hf
      subst c10
      refine fr_catch (k9 := 1) (name := "java/lang/IllegalArgumentException") hts K hown [] ⟨0, 12, 15, 15⟩ [] (by rw [hno]; rfl) (fun z hz => nomatch hz) (by decide) (by decide) kw574 kn495 e1 e2 e3 ?_
      refine fr_astore (lv' := [(5, va_rf (some q)), (0, va_rf a0), (1, .int a1), (2, .int a2), (3, .int a3), (4, va_rf a4)]) hx hb dL_through_15 hl (by decide) (congrArg (List.cons _) (flk rfl (flk rfl (flk rfl (flk rfl (flk (adj1 _ _) fln)))))) (fun ls hl => ?_)
      refine lv_iconst (v := (1 : Int32)) hx hb dL_through_17 (by decide) ?_
      obtain rfl := Option.some.inj hf
      exact fr_retQ (fr_iret hx hb hr hlocks hC dL_through_18)
    replace hf := oneg c10 hf
    exact nomatch hf
set_option maxRecDepth 100000 in
theorem c_L_through {l : Launch} (hfl : l.stackTraces = false) (D : va_G) (cA : Nat → ClassId) {p0 : Option Nat} {p1 : Int32} {p2 : Int32} {p3 : Int32} {p4 : Option Nat} {h : fSt} {r : ((Int32 ⊕ Nat) × fSt)} (hf : f_L_through p0 p1 p2 p3 p4 h = some r) : fMetX l yL_through (wsCH yL_through cL_through 6 (some (.int)) [(0, 12, 15, 15)]) (27) (665) D cA [va_rf p0, .int p1, .int p2, .int p3, va_rf p4] h r.2 (rI r.1) := by
  exact fMetX.ofH (own := RL) (by decide +kernel) rfl (lva1 (va_rf_cat _) (lva1 rfl (lva1 rfl (lva1 rfl (lva1 (va_rf_cat _) lva0))))) (lgl1 (va_rf_cat _) (lgl1 rfl (lgl1 rfl (lgl1 rfl (lgl1 (va_rf_cat _) lgl0))))) (Nat.le_of_ble_eq_true rfl) (fun p e s m args below meth c ls hno M hC hl => by
    have hl : lv_has ls 6 [(0, va_rf p0), (1, .int p1), (2, .int p2), (3, .int p3), (4, va_rf p4)] := hl
    exact w_L_through_L0 M hfl hno _ _ _ _ _ _ hf _ _ _ _ _ hC (lv_sub hl [0, 1, 2, 3, 4] rfl))
set_option maxHeartbeats 4000000 in
set_option maxRecDepth 100000 in
theorem w_X7_toWhole_L0 {p : Program} {l : Launch} {e : Env} {s : State} {m : MethodId} {args : Array Value} {below : List Frame} {meth : Method} {c : Code} {D : va_G} {cA : Nat → ClassId} {h0 : fSt} {r : ((Int32 ⊕ Nat) × fSt)} (M : fM p s m args meth c D cA h0 { frames := 7, cells := fCB h0 - fZ h0, slots := fLB h0 - fL h0, locals := 112 } cX7_toWhole 6 (some (.int)) RX7) (hfl : l.stackTraces = false) (hno : ∀ x ∈ c.exceptionTable.toList, False) (a0 : Option Nat) (a1 : Int32) (a2 : Int32) (a3 : Int32) (a4 : Int32) (h : fSt) (hf : f_X7_toWhole_L0 a0 a1 a2 a3 a4 h = some r) : ∀ (H : Heap) (locs : List Loc) (cells slots : Nat) (ls : Array Slot), fCur D cA s h0 h H locs → lv_has ls 6 [(0, va_rf a0), (1, .int a1), (2, .int a2), (3, .int a3), (4, .int a4)] → W p l e { frames := 7, cells := fCB h0 - fZ h0, slots := fLB h0 - fL h0, locals := 112 } s m args below meth c H locs cells slots (vx_MQ below (fQX D cA h0 r.2 (rI r.1)) (fXC D cA h0 r.2 (rI r.1)) args s (fCB h0 - fZ h0) (fLB h0 - fL h0) (fA h0)) (F0 m 0 ls []) := by
  obtain ⟨hx, hb, hml, hr, hlocks, hts, hown, K, hR⟩ := id M
  intro H locs cells slots ls hC hl
  refine fr_aload_n hx hb dX7_toWhole_0 rfl (lv_at hl 0 rfl) ?_
  refine lv_iload_n hx hb dX7_toWhole_1 rfl (lv_at hl 1 rfl) ?_
  obtain ⟨b3, q4, hf⟩ := obind hf
  obtain ⟨⟨v5 | k6, h7⟩, g2, hf⟩ := obind hf
  · refine fr_callVX hx hb hml hts hown K hC hR ct_7 (c_X7_found hfl D cA g2) 1 q4 kw583 kw580 kw582 kw12 kw55 (by decide +kernel) ⟨by exact Nat.le_of_ble_eq_true rfl, by exact Nat.le_of_ble_eq_true rfl⟩ rfl hl.1 (cat8 _ (by exact Nat.le_of_ble_eq_true rfl)) dX7_toWhole_2 rfl (fun H locs _ _ hC => ?_)
    refine fr_astore (lv' := [(5, va_rf v5), (0, va_rf a0), (1, .int a1), (2, .int a2), (3, .int a3), (4, .int a4)]) hx hb dX7_toWhole_5 hl (by decide) (congrArg (List.cons _) (flk rfl (flk rfl (flk rfl (flk rfl (flk rfl fln)))))) (fun ls hl => ?_)
    refine lv_iload_n hx hb dX7_toWhole_7 rfl (lv_at hl 3 rfl) ?_
    refine lv_iload_n hx hb dX7_toWhole_8 rfl (lv_at hl 4 rfl) ?_
    refine lv_iload hx hb dX7_toWhole_9 (lv_at hl 5 rfl) ?_
    obtain ⟨⟨v10 | k11, h12⟩, g9, hf⟩ := obind hf
    · refine fr_callSX hx hb hml hts hown K hC hR (c_X7_checkPoint hfl D cA g9) 3 kw844 kw842 kw843 kw55 (by decide +kernel) ⟨by exact Nat.le_of_ble_eq_true rfl, by exact Nat.le_of_ble_eq_true rfl⟩ rfl hl.1 (cat8 _ (by exact Nat.le_of_ble_eq_true rfl)) dX7_toWhole_11 rfl (fun H locs _ _ hC => ?_)
      refine fr_aload_n hx hb dX7_toWhole_14 rfl (lv_at hl 1 rfl) ?_
      refine fr_aload hx hb dX7_toWhole_15 (lv_at hl 0 rfl) ?_
      refine lv_iload_n hx hb dX7_toWhole_17 rfl (lv_at hl 3 rfl) ?_
      refine lv_iload_n hx hb dX7_toWhole_18 rfl (lv_at hl 4 rfl) ?_
      obtain ⟨b15, q16, hf⟩ := obind hf
      obtain ⟨r13, g14, hf⟩ := obind hf
      refine fr_callV hx hb hml hts hown K hC hR ct_7 (c_X7_raise hfl D cA g14) 3 q16 kw395 kw392 kw394 kw5 kw55 (by decide +kernel) ⟨by exact Nat.le_of_ble_eq_true rfl, by exact Nat.le_of_ble_eq_true rfl⟩ rfl hl.1 (cat8 _ (by exact Nat.le_of_ble_eq_true rfl)) dX7_toWhole_19 rfl (fun H locs _ _ hC => ?_)
      refine fr_aload_n hx hb dX7_toWhole_22 rfl (lv_at hl 1 rfl) ?_
      obtain ⟨x17, g18, hf⟩ := obind hf
      refine fr_get hx hb hts hown K hC ct_7 (fgR_get g18) (by decide) kw293 rfl dX7_toWhole_23 ?_
      refine lv_iload hx hb dX7_toWhole_26 (lv_at hl 5 rfl) ?_
      obtain ⟨b21, q22, hf⟩ := obind hf
      obtain ⟨r19, g20, hf⟩ := obind hf
      refine fr_callV hx hb hml hts hown K hC hR ct_5 (c_X5_part hfl D cA g20) 1 q22 kw416 kw413 kw414 kw415 kw59 (by decide +kernel) ⟨by exact Nat.le_of_ble_eq_true rfl, by exact Nat.le_of_ble_eq_true rfl⟩ rfl hl.1 (cat8 _ (by exact Nat.le_of_ble_eq_true rfl)) dX7_toWhole_28 rfl (fun H locs _ _ hC => ?_)
      refine lv_l2i (v := (Int64.toInt32 r19.1)) hx hb dX7_toWhole_31 rfl ?_
      obtain rfl := Option.some.inj hf
      exact fr_retQ (fr_iret hx hb hr hlocks hC dX7_toWhole_32)
    · obtain rfl := Option.some.inj hf
      refine fr_callST hx hb hml hts hown K hC hR (c_X7_checkPoint hfl D cA g9) 3 kw844 kw842 kw843 kw55 (by decide +kernel) ⟨by exact Nat.le_of_ble_eq_true rfl, by exact Nat.le_of_ble_eq_true rfl⟩ rfl hl.1 (cat8 _ (by exact Nat.le_of_ble_eq_true rfl)) dX7_toWhole_11 rfl (fun H locs _ _ q ce hC e1 e2 e3 => ?_)
      exact fr_out (fun x hx9 => (hno x hx9).elim) hlocks hC e1 e2 e3
  · obtain rfl := Option.some.inj hf
    refine fr_callVT hx hb hml hts hown K hC hR ct_7 (c_X7_found hfl D cA g2) 1 q4 kw583 kw580 kw582 kw12 kw55 (by decide +kernel) ⟨by exact Nat.le_of_ble_eq_true rfl, by exact Nat.le_of_ble_eq_true rfl⟩ rfl hl.1 (cat8 _ (by exact Nat.le_of_ble_eq_true rfl)) dX7_toWhole_2 rfl (fun H locs _ _ q ce hC e1 e2 e3 => ?_)
    exact fr_out (fun x hx9 => (hno x hx9).elim) hlocks hC e1 e2 e3
set_option maxRecDepth 100000 in
theorem c_X7_toWhole {l : Launch} (hfl : l.stackTraces = false) (D : va_G) (cA : Nat → ClassId) {o : Nat} {p0 : Int32} {p1 : Int32} {p2 : Int32} {p3 : Int32} {h : fSt} {r : ((Int32 ⊕ Nat) × fSt)} (hf : f_X7_toWhole o p0 p1 p2 p3 h = some r) : fMetX l yX7_toWhole (wsC yX7_toWhole cX7_toWhole 6 (some (.int))) (7) (112) D cA [.ref o, .int p0, .int p1, .int p2, .int p3] h r.2 (rI r.1) := by
  exact fMetX.of (own := RX7) (by decide +kernel) rfl (lva1 rfl (lva1 rfl (lva1 rfl (lva1 rfl (lva1 rfl lva0))))) (lgl1 rfl (lgl1 rfl (lgl1 rfl (lgl1 rfl (lgl1 rfl lgl0))))) (Nat.le_of_ble_eq_true rfl) (fun p e s m args below meth c ls hno M hC hl => by
    have hl : lv_has ls 6 [(0, va_rf (some o)), (1, .int p0), (2, .int p1), (3, .int p2), (4, .int p3)] := hl
    exact w_X7_toWhole_L0 M hfl hno _ _ _ _ _ _ hf _ _ _ _ _ hC (lv_sub hl [0, 1, 2, 3, 4] rfl))
set_option maxHeartbeats 4000000 in
set_option maxRecDepth 100000 in
theorem w_L_toWhole_L0 {p : Program} {l : Launch} {e : Env} {s : State} {m : MethodId} {args : Array Value} {below : List Frame} {meth : Method} {c : Code} {D : va_G} {cA : Nat → ClassId} {h0 : fSt} {r : ((Int32 ⊕ Nat) × fSt)} (M : fM p s m args meth c D cA h0 { frames := 8, cells := fCB h0 - fZ h0, slots := fLB h0 - fL h0, locals := 137 } cL_toWhole 7 (some (.int)) RL) (hfl : l.stackTraces = false) (hno : c.exceptionTable.toList = tableOf [(0, 14, 17, 13), (0, 14, 21, 15)]) (a0 : Option Nat) (a1 : Int32) (a2 : Int32) (a3 : Int32) (a4 : Int32) (a5 : Option Nat) (h : fSt) (hf : f_L_toWhole_L0 a0 a1 a2 a3 a4 a5 h = some r) : ∀ (H : Heap) (locs : List Loc) (cells slots : Nat) (ls : Array Slot), fCur D cA s h0 h H locs → lv_has ls 7 [(0, va_rf a0), (1, .int a1), (2, .int a2), (3, .int a3), (4, .int a4), (5, va_rf a5)] → W p l e { frames := 8, cells := fCB h0 - fZ h0, slots := fLB h0 - fL h0, locals := 137 } s m args below meth c H locs cells slots (vx_MQ below (fQX D cA h0 r.2 (rI r.1)) (fXC D cA h0 r.2 (rI r.1)) args s (fCB h0 - fZ h0) (fLB h0 - fL h0) (fA h0)) (F0 m 0 ls []) := by
  obtain ⟨hx, hb, hml, hr, hlocks, hts, hown, K, hR⟩ := id M
  intro H locs cells slots ls hC hl
  refine fr_aload hx hb dL_toWhole_0 (lv_at hl 5 rfl) ?_
  refine lv_iconst (v := (0 : Int32)) hx hb dL_toWhole_2 (by decide) ?_
  refine fr_aload_n hx hb dL_toWhole_3 rfl (lv_at hl 0 rfl) ?_
  refine lv_iload_n hx hb dL_toWhole_4 rfl (lv_at hl 1 rfl) ?_
  refine lv_iload_n hx hb dL_toWhole_5 rfl (lv_at hl 2 rfl) ?_
  refine lv_iload_n hx hb dL_toWhole_6 rfl (lv_at hl 3 rfl) ?_
  refine lv_iload hx hb dL_toWhole_7 (lv_at hl 4 rfl) ?_
  obtain ⟨b3, q4, hf⟩ := obind hf
  obtain ⟨⟨v5 | k6, h7⟩, g2, hf⟩ := obind hf
  · refine fr_callVX hx hb hml hts hown K hC hR ct_7 (c_X7_toWhole hfl D cA g2) 4 q4 kw841 kw838 kw839 kw840 kw55 (by decide +kernel) ⟨by exact Nat.le_of_ble_eq_true rfl, by exact Nat.le_of_ble_eq_true rfl⟩ rfl hl.1 (cat8 _ (by exact Nat.le_of_ble_eq_true rfl)) dL_toWhole_9 rfl (fun H locs _ _ hC => ?_)
    refine lv_i2l (v := (Int32.toInt64 v5)) hx hb dL_toWhole_12 rfl ?_
    obtain ⟨h8, g9, hf⟩ := obind hf
    refine fr_last hx hb K hC (t := 1) rfl g9 dL_toWhole_13 (fun H locs hC => ?_)
    refine lv_goto (tgt := 25) hx hb dL_toWhole_14 (by decide) ?_
    refine lv_iconst (v := (0 : Int32)) hx hb dL_toWhole_25 (by decide) ?_
    obtain rfl := Option.some.inj hf
    exact fr_retQ (fr_iret hx hb hr hlocks hC dL_toWhole_26)
  · refine fr_callVT hx hb hml hts hown K hC hR ct_7 (c_X7_toWhole hfl D cA g2) 4 q4 kw841 kw838 kw839 kw840 kw55 (by decide +kernel) ⟨by exact Nat.le_of_ble_eq_true rfl, by exact Nat.le_of_ble_eq_true rfl⟩ rfl hl.1 (cat8 _ (by exact Nat.le_of_ble_eq_true rfl)) dL_toWhole_9 rfl (fun H locs _ _ q ce hC e1 e2 e3 => ?_)
    by_cases c10 : k6 = 0
    · replace hf := opos c10 hf
      subst c10
      refine fr_catch (k9 := 0) (name := "java/lang/IndexOutOfBoundsException") hts K hown [] ⟨0, 14, 17, 13⟩ [⟨0, 14, 21, 15⟩] (by rw [hno]; rfl) (fun z hz => nomatch hz) (by decide) (by decide) kw573 kn586 e1 e2 e3 ?_
      refine fr_astore (lv' := [(6, va_rf (some q)), (0, va_rf a0), (1, .int a1), (2, .int a2), (3, .int a3), (4, .int a4), (5, va_rf a5)]) hx hb dL_toWhole_17 hl (by decide) (congrArg (List.cons _) (flk rfl (flk rfl (flk rfl (flk rfl (flk rfl (flk (adj1 _ _) fln))))))) (fun ls hl => ?_)
      refine lv_iconst (v := (1 : Int32)) hx hb dL_toWhole_19 (by decide) ?_
      obtain rfl := Option.some.inj hf
      exact fr_retQ (fr_iret hx hb hr hlocks hC dL_toWhole_20)
    replace hf := oneg c10 hf
    by_cases c12 : k6 = 1
    · replace hf := opos c12 hf
      subst c12
      refine fr_catch (k9 := 1) (name := "java/lang/IllegalArgumentException") hts K hown [⟨0, 14, 17, 13⟩] ⟨0, 14, 21, 15⟩ [] (by rw [hno]; rfl) (all1 ⟨by decide, _, kw573, by decide +kernel⟩) (by decide) (by decide) kw574 kn495 e1 e2 e3 ?_
      refine fr_astore (lv' := [(6, va_rf (some q)), (0, va_rf a0), (1, .int a1), (2, .int a2), (3, .int a3), (4, .int a4), (5, va_rf a5)]) hx hb dL_toWhole_21 hl (by decide) (congrArg (List.cons _) (flk rfl (flk rfl (flk rfl (flk rfl (flk rfl (flk (adj1 _ _) fln))))))) (fun ls hl => ?_)
      refine lv_iconst (v := (2 : Int32)) hx hb dL_toWhole_23 (by decide) ?_
      obtain rfl := Option.some.inj hf
      exact fr_retQ (fr_iret hx hb hr hlocks hC dL_toWhole_24)
    replace hf := oneg c12 hf
    exact nomatch hf
set_option maxRecDepth 100000 in
theorem c_L_toWhole {l : Launch} (hfl : l.stackTraces = false) (D : va_G) (cA : Nat → ClassId) {p0 : Option Nat} {p1 : Int32} {p2 : Int32} {p3 : Int32} {p4 : Int32} {p5 : Option Nat} {h : fSt} {r : ((Int32 ⊕ Nat) × fSt)} (hf : f_L_toWhole p0 p1 p2 p3 p4 p5 h = some r) : fMetX l yL_toWhole (wsCH yL_toWhole cL_toWhole 7 (some (.int)) [(0, 14, 17, 13), (0, 14, 21, 15)]) (8) (137) D cA [va_rf p0, .int p1, .int p2, .int p3, .int p4, va_rf p5] h r.2 (rI r.1) := by
  exact fMetX.ofH (own := RL) (by decide +kernel) rfl (lva1 (va_rf_cat _) (lva1 rfl (lva1 rfl (lva1 rfl (lva1 rfl (lva1 (va_rf_cat _) lva0)))))) (lgl1 (va_rf_cat _) (lgl1 rfl (lgl1 rfl (lgl1 rfl (lgl1 rfl (lgl1 (va_rf_cat _) lgl0)))))) (Nat.le_of_ble_eq_true rfl) (fun p e s m args below meth c ls hno M hC hl => by
    have hl : lv_has ls 7 [(0, va_rf p0), (1, .int p1), (2, .int p2), (3, .int p3), (4, .int p4), (5, va_rf p5)] := hl
    exact w_L_toWhole_L0 M hfl hno _ _ _ _ _ _ _ hf _ _ _ _ _ hC (lv_sub hl [0, 1, 2, 3, 4, 5] rfl))
set_option maxHeartbeats 4000000 in
set_option maxRecDepth 100000 in
theorem w_X7_track_L39 {p : Program} {l : Launch} {e : Env} {s : State} {m : MethodId} {args : Array Value} {below : List Frame} {meth : Method} {c : Code} {D : va_G} {cA : Nat → ClassId} {h0 : fSt} {r : ((Int32 ⊕ Nat) × fSt)} (M : fM p s m args meth c D cA h0 { frames := 7, cells := fCB h0 - fZ h0, slots := fLB h0 - fL h0, locals := 112 } cX7_track 7 (some (.int)) RX7) (hfl : l.stackTraces = false) (hno : ∀ x ∈ c.exceptionTable.toList, False)  (h : fSt) (hf : f_X7_track_L39  h = some r) : ∀ (H : Heap) (locs : List Loc) (cells slots : Nat) (ls : Array Slot), fCur D cA s h0 h H locs → lv_has ls 7 [] → W p l e { frames := 7, cells := fCB h0 - fZ h0, slots := fLB h0 - fL h0, locals := 112 } s m args below meth c H locs cells slots (vx_MQ below (fQX D cA h0 r.2 (rI r.1)) (fXC D cA h0 r.2 (rI r.1)) args s (fCB h0 - fZ h0) (fLB h0 - fL h0) (fA h0)) (F0 m 39 ls []) := by
  obtain ⟨hx, hb, hml, hr, hlocks, hts, hown, K, hR⟩ := id M
  intro H locs cells slots ls hC hl
  obtain ⟨h1, g2, hf⟩ := obind hf
  obtain rfl := Option.some.inj hf
  exact fr_throwS hx hb hml hts hfl hown K hC hR th_RX7_60_64_1 st_RX7_180 hl.1 dX7_track_39 dX7_track_42 dX7_track_43 dX7_track_45 dX7_track_48 hno (by exact Nat.le_of_ble_eq_true rfl) (catL _ _ (by exact Nat.le_of_ble_eq_true rfl) (by exact Nat.le_of_ble_eq_true rfl)) hlocks g2
set_option maxHeartbeats 4000000 in
set_option maxRecDepth 100000 in
theorem w_X7_track_L85 {p : Program} {l : Launch} {e : Env} {s : State} {m : MethodId} {args : Array Value} {below : List Frame} {meth : Method} {c : Code} {D : va_G} {cA : Nat → ClassId} {h0 : fSt} {r : ((Int32 ⊕ Nat) × fSt)} (M : fM p s m args meth c D cA h0 { frames := 7, cells := fCB h0 - fZ h0, slots := fLB h0 - fL h0, locals := 112 } cX7_track 7 (some (.int)) RX7) (hfl : l.stackTraces = false) (hno : ∀ x ∈ c.exceptionTable.toList, False)  (h : fSt) (hf : f_X7_track_L85  h = some r) : ∀ (H : Heap) (locs : List Loc) (cells slots : Nat) (ls : Array Slot), fCur D cA s h0 h H locs → lv_has ls 7 [] → W p l e { frames := 7, cells := fCB h0 - fZ h0, slots := fLB h0 - fL h0, locals := 112 } s m args below meth c H locs cells slots (vx_MQ below (fQX D cA h0 r.2 (rI r.1)) (fXC D cA h0 r.2 (rI r.1)) args s (fCB h0 - fZ h0) (fLB h0 - fL h0) (fA h0)) (F0 m 85 ls []) := by
  obtain ⟨hx, hb, hml, hr, hlocks, hts, hown, K, hR⟩ := id M
  intro H locs cells slots ls hC hl
  obtain ⟨h3, g4, hf⟩ := obind hf
  obtain rfl := Option.some.inj hf
  exact fr_throwS hx hb hml hts hfl hown K hC hR th_RX7_73_77_2 st_RX7_188 hl.1 dX7_track_85 dX7_track_88 dX7_track_89 dX7_track_91 dX7_track_94 hno (by exact Nat.le_of_ble_eq_true rfl) (catL _ _ (by exact Nat.le_of_ble_eq_true rfl) (by exact Nat.le_of_ble_eq_true rfl)) hlocks g4
set_option maxHeartbeats 4000000 in
set_option maxRecDepth 100000 in
theorem w_X7_track_L0 {p : Program} {l : Launch} {e : Env} {s : State} {m : MethodId} {args : Array Value} {below : List Frame} {meth : Method} {c : Code} {D : va_G} {cA : Nat → ClassId} {h0 : fSt} {r : ((Int32 ⊕ Nat) × fSt)} (M : fM p s m args meth c D cA h0 { frames := 7, cells := fCB h0 - fZ h0, slots := fLB h0 - fL h0, locals := 112 } cX7_track 7 (some (.int)) RX7) (hfl : l.stackTraces = false) (hno : ∀ x ∈ c.exceptionTable.toList, False) (a0 : Option Nat) (a1 : Int32) (a2 : Int32) (a3 : Int32) (a4 : Int32) (h : fSt) (hf : f_X7_track_L0 a0 a1 a2 a3 a4 h = some r) : ∀ (H : Heap) (locs : List Loc) (cells slots : Nat) (ls : Array Slot), fCur D cA s h0 h H locs → lv_has ls 7 [(0, va_rf a0), (1, .int a1), (2, .int a2), (3, .int a3), (4, .int a4)] → W p l e { frames := 7, cells := fCB h0 - fZ h0, slots := fLB h0 - fL h0, locals := 112 } s m args below meth c H locs cells slots (vx_MQ below (fQX D cA h0 r.2 (rI r.1)) (fXC D cA h0 r.2 (rI r.1)) args s (fCB h0 - fZ h0) (fLB h0 - fL h0) (fA h0)) (F0 m 0 ls []) := by
  obtain ⟨hx, hb, hml, hr, hlocks, hts, hown, K, hR⟩ := id M
  intro H locs cells slots ls hC hl
  refine fr_aload_n hx hb dX7_track_0 rfl (lv_at hl 0 rfl) ?_
  refine lv_iload_n hx hb dX7_track_1 rfl (lv_at hl 1 rfl) ?_
  obtain ⟨b7, q8, hf⟩ := obind hf
  obtain ⟨⟨v9 | k10, h11⟩, g6, hf⟩ := obind hf
  · refine fr_callVX hx hb hml hts hown K hC hR ct_7 (c_X7_found hfl D cA g6) 1 q8 kw583 kw580 kw582 kw12 kw55 (by decide +kernel) ⟨by exact Nat.le_of_ble_eq_true rfl, by exact Nat.le_of_ble_eq_true rfl⟩ rfl hl.1 (cat8 _ (by exact Nat.le_of_ble_eq_true rfl)) dX7_track_2 rfl (fun H locs _ _ hC => ?_)
    refine fr_astore (lv' := [(5, va_rf v9), (0, va_rf a0), (1, .int a1), (2, .int a2), (3, .int a3), (4, .int a4)]) hx hb dX7_track_5 hl (by decide) (congrArg (List.cons _) (flk rfl (flk rfl (flk rfl (flk rfl (flk rfl fln)))))) (fun ls hl => ?_)
    refine fr_aload hx hb dX7_track_7 (lv_at hl 0 rfl) ?_
    refine lv_iload_n hx hb dX7_track_9 rfl (lv_at hl 3 rfl) ?_
    obtain ⟨b14, q15, hf⟩ := obind hf
    obtain ⟨r12, g13, hf⟩ := obind hf
    refine fr_callV hx hb hml hts hown K hC hR ct_4 (c_X4_property hfl D cA g13) 1 q15 kw764 kw761 kw762 kw763 kw56 (by decide +kernel) ⟨by exact Nat.le_of_ble_eq_true rfl, by exact Nat.le_of_ble_eq_true rfl⟩ rfl hl.1 (cat8 _ (by exact Nat.le_of_ble_eq_true rfl)) dX7_track_10 rfl (fun H locs _ _ hC => ?_)
    refine fr_astore (lv' := [(6, va_rf r12.1), (5, va_rf v9), (0, va_rf a0), (1, .int a1), (2, .int a2), (3, .int a3), (4, .int a4)]) hx hb dX7_track_13 hl (by decide) (congrArg (List.cons _) (flk (adj1 _ _) (flk rfl (flk rfl (flk rfl (flk rfl (flk rfl fln))))))) (fun ls hl => ?_)
    refine fr_aload hx hb dX7_track_15 (lv_at hl 0 rfl) ?_
    refine fr_ifnull (tgt := 39) hx hb dX7_track_17 (by decide) (fun c16 => ?_) (fun c16 => ?_)
    · replace hf := opos c16 hf
      exact w_X7_track_L39 M hfl hno _ hf _ _ _ _ _ hC (lv_sub hl [] rfl)
    · replace hf := oneg c16 hf
      refine lv_iload_n hx hb dX7_track_20 rfl (lv_at hl 5 rfl) ?_
      refine lv_iconst (v := (0 : Int32)) hx hb dX7_track_21 (by decide) ?_
      refine lv_iconst (v := (2 : Int32)) hx hb dX7_track_22 (by decide) ?_
      obtain ⟨r17, g18, hf⟩ := obind hf
      refine fr_callS hx hb hml hts hown K hC hR (c_X7_isFrom hfl D cA g18) 3 kw492 kw490 kw491 kw55 (by decide +kernel) ⟨by exact Nat.le_of_ble_eq_true rfl, by exact Nat.le_of_ble_eq_true rfl⟩ rfl hl.1 (cat8 _ (by exact Nat.le_of_ble_eq_true rfl)) dX7_track_23 rfl (fun H locs _ _ hC => ?_)
      refine lv_if_eq (tgt := 39) hx hb dX7_track_26 (by decide) (fun c19 => ?_) (fun c19 => ?_)
      · replace hf := opos c19 hf
        exact w_X7_track_L39 M hfl hno _ hf _ _ _ _ _ hC (lv_sub hl [] rfl)
      · replace hf := oneg c19 hf
        refine lv_iload hx hb dX7_track_29 (lv_at hl 6 rfl) ?_
        refine lv_iconst (v := (0 : Int32)) hx hb dX7_track_31 (by decide) ?_
        refine lv_iconst (v := (2 : Int32)) hx hb dX7_track_32 (by decide) ?_
        obtain ⟨r20, g21, hf⟩ := obind hf
        refine fr_callS hx hb hml hts hown K hC hR (c_X7_isFrom hfl D cA g21) 3 kw492 kw490 kw491 kw55 (by decide +kernel) ⟨by exact Nat.le_of_ble_eq_true rfl, by exact Nat.le_of_ble_eq_true rfl⟩ rfl hl.1 (cat8 _ (by exact Nat.le_of_ble_eq_true rfl)) dX7_track_33 rfl (fun H locs _ _ hC => ?_)
        refine lv_if_ne (tgt := 49) hx hb dX7_track_36 (by decide) (fun c22 => ?_) (fun c22 => ?_)
        · replace hf := oneg c22 hf
          refine fr_aload hx hb dX7_track_49 (lv_at hl 1 rfl) ?_
          refine fr_aload_n hx hb dX7_track_51 rfl (lv_at hl 2 rfl) ?_
          obtain ⟨x23, g24, hf⟩ := obind hf
          refine fr_get hx hb hts hown K hC ct_7 (fgR_get g24) (by decide) kw292 rfl dX7_track_52 ?_
          refine lv_acmp_eq (tgt := 85) hx hb dX7_track_55 (by decide) (fun c25 => ?_) (fun c25 => ?_)
          · replace hf := opos c25 hf
            exact w_X7_track_L85 M hfl hno _ hf _ _ _ _ _ hC (lv_sub hl [] rfl)
          · replace hf := oneg c25 hf
            refine fr_aload hx hb dX7_track_58 (lv_at hl 0 rfl) ?_
            obtain ⟨x26, g27, hf⟩ := obind hf
            refine fr_get hx hb hts hown K hC ct_6 (fgI_get g27) (by decide) kw99 rfl dX7_track_60 ?_
            refine lv_if_ne (tgt := 85) hx hb dX7_track_63 (by decide) (fun c28 => ?_) (fun c28 => ?_)
            · replace hf := oneg c28 hf
              exact w_X7_track_L85 M hfl hno _ hf _ _ _ _ _ hC (lv_sub hl [] rfl)
            · replace hf := opos c28 hf
              refine fr_aload_n hx hb dX7_track_66 rfl (lv_at hl 2 rfl) ?_
              obtain ⟨x29, g30, hf⟩ := obind hf
              refine fr_get hx hb hts hown K hC ct_7 (fgI_get g30) (by decide) kw296 rfl dX7_track_67 ?_
              refine lv_if_lt (tgt := 85) hx hb dX7_track_70 (by decide) (fun c31 => ?_) (fun c31 => ?_)
              · replace hf := opos c31 hf
                exact w_X7_track_L85 M hfl hno _ hf _ _ _ _ _ hC (lv_sub hl [] rfl)
              · replace hf := oneg c31 hf
                refine fr_aload_n hx hb dX7_track_73 rfl (lv_at hl 2 rfl) ?_
                obtain ⟨x32, g33, hf⟩ := obind hf
                refine fr_get hx hb hts hown K hC ct_7 (fgI_get g33) (by decide) kw296 rfl dX7_track_74 ?_
                refine fr_aload_n hx hb dX7_track_77 rfl (lv_at hl 2 rfl) ?_
                obtain ⟨x34, g35, hf⟩ := obind hf
                refine fr_get hx hb hts hown K hC ct_7 (fgR_get g35) (by decide) kw291 rfl dX7_track_78 ?_
                obtain ⟨x36, g37, hf⟩ := obind hf
                refine fr_alen hx hb K hC (t := 5) rfl g37 dX7_track_81 ?_
                refine lv_icmp_lt (tgt := 95) hx hb dX7_track_82 (by decide) (fun c38 => ?_) (fun c38 => ?_)
                · replace hf := opos c38 hf
                  refine fr_aload hx hb dX7_track_95 (lv_at hl 0 rfl) ?_
                  refine lv_iconst (v := (1 : Int32)) hx hb dX7_track_97 (by decide) ?_
                  obtain ⟨h39, g40, hf⟩ := obind hf
                  obtain ⟨z41, g40⟩ := fputZ_inv g40
                  refine fr_put hx hb hts hown K hC ct_6 g40 (by decide) kw99 rfl rfl (nZ z41) (fZ9 z41) dX7_track_98 (fun H locs hC => ?_)
                  refine fr_aload hx hb dX7_track_101 (lv_at hl 0 rfl) ?_
                  refine lv_iload_n hx hb dX7_track_103 rfl (lv_at hl 5 rfl) ?_
                  obtain ⟨h42, g43, hf⟩ := obind hf
                  refine fr_put hx hb hts hown K hC ct_6 g43 (by decide) kw103 rfl rfl rfl rfl dX7_track_104 (fun H locs hC => ?_)
                  refine fr_aload hx hb dX7_track_107 (lv_at hl 0 rfl) ?_
                  refine lv_iload hx hb dX7_track_109 (lv_at hl 6 rfl) ?_
                  obtain ⟨h44, g45, hf⟩ := obind hf
                  refine fr_put hx hb hts hown K hC ct_6 g45 (by decide) kw105 rfl rfl rfl rfl dX7_track_111 (fun H locs hC => ?_)
                  refine fr_aload_n hx hb dX7_track_114 rfl (lv_at hl 2 rfl) ?_
                  obtain ⟨x46, g47, hf⟩ := obind hf
                  refine fr_get hx hb hts hown K hC ct_7 (fgR_get g47) (by decide) kw291 rfl dX7_track_115 ?_
                  refine fr_aload_n hx hb dX7_track_118 rfl (lv_at hl 2 rfl) ?_
                  obtain ⟨x48, g49, hf⟩ := obind hf
                  refine fr_get hx hb hts hown K hC ct_7 (fgI_get g49) (by decide) kw296 rfl dX7_track_119 ?_
                  refine fr_aload hx hb dX7_track_122 (lv_at hl 0 rfl) ?_
                  obtain ⟨h50, g51, hf⟩ := obind hf
                  refine fr_aast hx hb K hC (t := 5) ct_6 rfl g51 dX7_track_124 (fun H locs hC => ?_)
                  refine fr_aload_n hx hb dX7_track_125 rfl (lv_at hl 2 rfl) ?_
                  refine lv_dup hx hb dX7_track_126 (va_rf_cat _) ?_
                  obtain ⟨x52, g53, hf⟩ := obind hf
                  refine fr_get hx hb hts hown K hC ct_7 (fgI_get g53) (by decide) kw296 rfl dX7_track_127 ?_
                  refine lv_iconst (v := (1 : Int32)) hx hb dX7_track_130 (by decide) ?_
                  refine lv_iadd hx hb dX7_track_131 ?_
                  obtain ⟨h54, g55, hf⟩ := obind hf
                  refine fr_put hx hb hts hown K hC ct_7 g55 (by decide) kw296 rfl rfl rfl rfl dX7_track_132 (fun H locs hC => ?_)
                  refine fr_aload_n hx hb dX7_track_135 rfl (lv_at hl 2 rfl) ?_
                  obtain ⟨x56, g57, hf⟩ := obind hf
                  refine fr_get hx hb hts hown K hC ct_7 (fgI_get g57) (by decide) kw296 rfl dX7_track_136 ?_
                  refine lv_iconst (v := (1 : Int32)) hx hb dX7_track_139 (by decide) ?_
                  refine lv_isub hx hb dX7_track_140 ?_
                  obtain rfl := Option.some.inj hf
                  exact fr_retQ (fr_iret hx hb hr hlocks hC dX7_track_141)
                · replace hf := oneg c38 hf
                  exact w_X7_track_L85 M hfl hno _ hf _ _ _ _ _ hC (lv_sub hl [] rfl)
        · replace hf := opos c22 hf
          exact w_X7_track_L39 M hfl hno _ hf _ _ _ _ _ hC (lv_sub hl [] rfl)
  · obtain rfl := Option.some.inj hf
    refine fr_callVT hx hb hml hts hown K hC hR ct_7 (c_X7_found hfl D cA g6) 1 q8 kw583 kw580 kw582 kw12 kw55 (by decide +kernel) ⟨by exact Nat.le_of_ble_eq_true rfl, by exact Nat.le_of_ble_eq_true rfl⟩ rfl hl.1 (cat8 _ (by exact Nat.le_of_ble_eq_true rfl)) dX7_track_2 rfl (fun H locs _ _ q ce hC e1 e2 e3 => ?_)
    exact fr_out (fun x hx9 => (hno x hx9).elim) hlocks hC e1 e2 e3
set_option maxRecDepth 100000 in
theorem c_X7_track {l : Launch} (hfl : l.stackTraces = false) (D : va_G) (cA : Nat → ClassId) {o : Nat} {p0 : Int32} {p1 : Int32} {p2 : Int32} {p3 : Int32} {h : fSt} {r : ((Int32 ⊕ Nat) × fSt)} (hf : f_X7_track o p0 p1 p2 p3 h = some r) : fMetX l yX7_track (wsC yX7_track cX7_track 7 (some (.int))) (7) (112) D cA [.ref o, .int p0, .int p1, .int p2, .int p3] h r.2 (rI r.1) := by
  exact fMetX.of (own := RX7) (by decide +kernel) rfl (lva1 rfl (lva1 rfl (lva1 rfl (lva1 rfl (lva1 rfl lva0))))) (lgl1 rfl (lgl1 rfl (lgl1 rfl (lgl1 rfl (lgl1 rfl lgl0))))) (Nat.le_of_ble_eq_true rfl) (fun p e s m args below meth c ls hno M hC hl => by
    have hl : lv_has ls 7 [(0, va_rf (some o)), (1, .int p0), (2, .int p1), (3, .int p2), (4, .int p3)] := hl
    exact w_X7_track_L0 M hfl hno _ _ _ _ _ _ hf _ _ _ _ _ hC (lv_sub hl [0, 1, 2, 3, 4] rfl))
set_option maxHeartbeats 4000000 in
set_option maxRecDepth 100000 in
theorem w_L_track_L0 {p : Program} {l : Launch} {e : Env} {s : State} {m : MethodId} {args : Array Value} {below : List Frame} {meth : Method} {c : Code} {D : va_G} {cA : Nat → ClassId} {h0 : fSt} {r : ((Int32 ⊕ Nat) × fSt)} (M : fM p s m args meth c D cA h0 { frames := 8, cells := fCB h0 - fZ h0, slots := fLB h0 - fL h0, locals := 138 } cL_track 7 (some (.int)) RL) (hfl : l.stackTraces = false) (hno : c.exceptionTable.toList = tableOf [(0, 14, 17, 13), (0, 14, 21, 15), (0, 14, 25, 17)]) (a0 : Option Nat) (a1 : Int32) (a2 : Int32) (a3 : Int32) (a4 : Int32) (a5 : Option Nat) (h : fSt) (hf : f_L_track_L0 a0 a1 a2 a3 a4 a5 h = some r) : ∀ (H : Heap) (locs : List Loc) (cells slots : Nat) (ls : Array Slot), fCur D cA s h0 h H locs → lv_has ls 7 [(0, va_rf a0), (1, .int a1), (2, .int a2), (3, .int a3), (4, .int a4), (5, va_rf a5)] → W p l e { frames := 8, cells := fCB h0 - fZ h0, slots := fLB h0 - fL h0, locals := 138 } s m args below meth c H locs cells slots (vx_MQ below (fQX D cA h0 r.2 (rI r.1)) (fXC D cA h0 r.2 (rI r.1)) args s (fCB h0 - fZ h0) (fLB h0 - fL h0) (fA h0)) (F0 m 0 ls []) := by
  obtain ⟨hx, hb, hml, hr, hlocks, hts, hown, K, hR⟩ := id M
  intro H locs cells slots ls hC hl
  refine fr_aload hx hb dL_track_0 (lv_at hl 5 rfl) ?_
  refine lv_iconst (v := (0 : Int32)) hx hb dL_track_2 (by decide) ?_
  refine fr_aload_n hx hb dL_track_3 rfl (lv_at hl 0 rfl) ?_
  refine lv_iload_n hx hb dL_track_4 rfl (lv_at hl 1 rfl) ?_
  refine lv_iload_n hx hb dL_track_5 rfl (lv_at hl 2 rfl) ?_
  refine lv_iload_n hx hb dL_track_6 rfl (lv_at hl 3 rfl) ?_
  refine lv_iload hx hb dL_track_7 (lv_at hl 4 rfl) ?_
  obtain ⟨b3, q4, hf⟩ := obind hf
  obtain ⟨⟨v5 | k6, h7⟩, g2, hf⟩ := obind hf
  · refine fr_callVX hx hb hml hts hown K hC hR ct_7 (c_X7_track hfl D cA g2) 4 q4 kw760 kw757 kw758 kw759 kw55 (by decide +kernel) ⟨by exact Nat.le_of_ble_eq_true rfl, by exact Nat.le_of_ble_eq_true rfl⟩ rfl hl.1 (cat8 _ (by exact Nat.le_of_ble_eq_true rfl)) dL_track_9 rfl (fun H locs _ _ hC => ?_)
    refine lv_i2l (v := (Int32.toInt64 v5)) hx hb dL_track_12 rfl ?_
    obtain ⟨h8, g9, hf⟩ := obind hf
    refine fr_last hx hb K hC (t := 1) rfl g9 dL_track_13 (fun H locs hC => ?_)
    refine lv_goto (tgt := 29) hx hb dL_track_14 (by decide) ?_
    refine lv_iconst (v := (0 : Int32)) hx hb dL_track_29 (by decide) ?_
    obtain rfl := Option.some.inj hf
    exact fr_retQ (fr_iret hx hb hr hlocks hC dL_track_30)
  · refine fr_callVT hx hb hml hts hown K hC hR ct_7 (c_X7_track hfl D cA g2) 4 q4 kw760 kw757 kw758 kw759 kw55 (by decide +kernel) ⟨by exact Nat.le_of_ble_eq_true rfl, by exact Nat.le_of_ble_eq_true rfl⟩ rfl hl.1 (cat8 _ (by exact Nat.le_of_ble_eq_true rfl)) dL_track_9 rfl (fun H locs _ _ q ce hC e1 e2 e3 => ?_)
    by_cases c10 : k6 = 0
    · replace hf := opos c10 hf
      subst c10
      refine fr_catch (k9 := 0) (name := "java/lang/IndexOutOfBoundsException") hts K hown [] ⟨0, 14, 17, 13⟩ [⟨0, 14, 21, 15⟩, ⟨0, 14, 25, 17⟩] (by rw [hno]; rfl) (fun z hz => nomatch hz) (by decide) (by decide) kw573 kn586 e1 e2 e3 ?_
      refine fr_astore (lv' := [(6, va_rf (some q)), (0, va_rf a0), (1, .int a1), (2, .int a2), (3, .int a3), (4, .int a4), (5, va_rf a5)]) hx hb dL_track_17 hl (by decide) (congrArg (List.cons _) (flk rfl (flk rfl (flk rfl (flk rfl (flk rfl (flk (adj1 _ _) fln))))))) (fun ls hl => ?_)
      refine lv_iconst (v := (1 : Int32)) hx hb dL_track_19 (by decide) ?_
      obtain rfl := Option.some.inj hf
      exact fr_retQ (fr_iret hx hb hr hlocks hC dL_track_20)
    replace hf := oneg c10 hf
    by_cases c12 : k6 = 1
    · replace hf := opos c12 hf
      subst c12
      refine fr_catch (k9 := 1) (name := "java/lang/IllegalArgumentException") hts K hown [⟨0, 14, 17, 13⟩] ⟨0, 14, 21, 15⟩ [⟨0, 14, 25, 17⟩] (by rw [hno]; rfl) (all1 ⟨by decide, _, kw573, by decide +kernel⟩) (by decide) (by decide) kw574 kn495 e1 e2 e3 ?_
      refine fr_astore (lv' := [(6, va_rf (some q)), (0, va_rf a0), (1, .int a1), (2, .int a2), (3, .int a3), (4, .int a4), (5, va_rf a5)]) hx hb dL_track_21 hl (by decide) (congrArg (List.cons _) (flk rfl (flk rfl (flk rfl (flk rfl (flk rfl (flk (adj1 _ _) fln))))))) (fun ls hl => ?_)
      refine lv_iconst (v := (2 : Int32)) hx hb dL_track_23 (by decide) ?_
      obtain rfl := Option.some.inj hf
      exact fr_retQ (fr_iret hx hb hr hlocks hC dL_track_24)
    replace hf := oneg c12 hf
    by_cases c14 : k6 = 2
    · replace hf := opos c14 hf
      subst c14
      refine fr_catch (k9 := 2) (name := "java/lang/IllegalStateException") hts K hown [⟨0, 14, 17, 13⟩, ⟨0, 14, 21, 15⟩] ⟨0, 14, 25, 17⟩ [] (by rw [hno]; rfl) (all2 ⟨by decide, _, kw573, by decide +kernel⟩ ⟨by decide, _, kw574, by decide +kernel⟩) (by decide) (by decide) kw575 kn604 e1 e2 e3 ?_
      refine fr_astore (lv' := [(6, va_rf (some q)), (0, va_rf a0), (1, .int a1), (2, .int a2), (3, .int a3), (4, .int a4), (5, va_rf a5)]) hx hb dL_track_25 hl (by decide) (congrArg (List.cons _) (flk rfl (flk rfl (flk rfl (flk rfl (flk rfl (flk (adj1 _ _) fln))))))) (fun ls hl => ?_)
      refine lv_iconst (v := (3 : Int32)) hx hb dL_track_27 (by decide) ?_
      obtain rfl := Option.some.inj hf
      exact fr_retQ (fr_iret hx hb hr hlocks hC dL_track_28)
    replace hf := oneg c14 hf
    exact nomatch hf
set_option maxRecDepth 100000 in
theorem c_L_track {l : Launch} (hfl : l.stackTraces = false) (D : va_G) (cA : Nat → ClassId) {p0 : Option Nat} {p1 : Int32} {p2 : Int32} {p3 : Int32} {p4 : Int32} {p5 : Option Nat} {h : fSt} {r : ((Int32 ⊕ Nat) × fSt)} (hf : f_L_track p0 p1 p2 p3 p4 p5 h = some r) : fMetX l yL_track (wsCH yL_track cL_track 7 (some (.int)) [(0, 14, 17, 13), (0, 14, 21, 15), (0, 14, 25, 17)]) (8) (138) D cA [va_rf p0, .int p1, .int p2, .int p3, .int p4, va_rf p5] h r.2 (rI r.1) := by
  exact fMetX.ofH (own := RL) (by decide +kernel) rfl (lva1 (va_rf_cat _) (lva1 rfl (lva1 rfl (lva1 rfl (lva1 rfl (lva1 (va_rf_cat _) lva0)))))) (lgl1 (va_rf_cat _) (lgl1 rfl (lgl1 rfl (lgl1 rfl (lgl1 rfl (lgl1 (va_rf_cat _) lgl0)))))) (Nat.le_of_ble_eq_true rfl) (fun p e s m args below meth c ls hno M hC hl => by
    have hl : lv_has ls 7 [(0, va_rf p0), (1, .int p1), (2, .int p2), (3, .int p3), (4, .int p4), (5, va_rf p5)] := hl
    exact w_L_track_L0 M hfl hno _ _ _ _ _ _ _ hf _ _ _ _ _ hC (lv_sub hl [0, 1, 2, 3, 4, 5] rfl))
set_option maxHeartbeats 4000000 in
set_option maxRecDepth 100000 in
theorem w_X7_turn_L0 {p : Program} {l : Launch} {e : Env} {s : State} {m : MethodId} {args : Array Value} {below : List Frame} {meth : Method} {c : Code} {D : va_G} {cA : Nat → ClassId} {h0 : fSt} {r : ((Int32 ⊕ Nat) × fSt)} (M : fM p s m args meth c D cA h0 { frames := 8, cells := fCB h0 - fZ h0, slots := fLB h0 - fL h0, locals := 134 } cX7_turn 6 (some (.int)) RX7) (hfl : l.stackTraces = false) (hno : ∀ x ∈ c.exceptionTable.toList, False) (a0 : Option Nat) (a1 : Int32) (a2 : Int32) (a3 : Int32) (h : fSt) (hf : f_X7_turn_L0 a0 a1 a2 a3 h = some r) : ∀ (H : Heap) (locs : List Loc) (cells slots : Nat) (ls : Array Slot), fCur D cA s h0 h H locs → lv_has ls 6 [(0, va_rf a0), (1, .int a1), (2, .int a2), (3, .int a3)] → W p l e { frames := 8, cells := fCB h0 - fZ h0, slots := fLB h0 - fL h0, locals := 134 } s m args below meth c H locs cells slots (vx_MQ below (fQX D cA h0 r.2 (rI r.1)) (fXC D cA h0 r.2 (rI r.1)) args s (fCB h0 - fZ h0) (fLB h0 - fL h0) (fA h0)) (F0 m 0 ls []) := by
  obtain ⟨hx, hb, hml, hr, hlocks, hts, hown, K, hR⟩ := id M
  intro H locs cells slots ls hC hl
  refine fr_aload_n hx hb dX7_turn_0 rfl (lv_at hl 0 rfl) ?_
  refine lv_iload_n hx hb dX7_turn_1 rfl (lv_at hl 1 rfl) ?_
  obtain ⟨b3, q4, hf⟩ := obind hf
  obtain ⟨⟨v5 | k6, h7⟩, g2, hf⟩ := obind hf
  · refine fr_callVX hx hb hml hts hown K hC hR ct_7 (c_X7_foundBelowWhole hfl D cA g2) 1 q4 kw644 kw641 kw643 kw16 kw55 (by decide +kernel) ⟨by exact Nat.le_of_ble_eq_true rfl, by exact Nat.le_of_ble_eq_true rfl⟩ rfl hl.1 (cat8 _ (by exact Nat.le_of_ble_eq_true rfl)) dX7_turn_2 rfl (fun H locs _ _ hC => ?_)
    refine fr_astore (lv' := [(4, va_rf v5), (0, va_rf a0), (1, .int a1), (2, .int a2), (3, .int a3)]) hx hb dX7_turn_5 hl (by decide) (congrArg (List.cons _) (flk rfl (flk rfl (flk rfl (flk rfl fln))))) (fun ls hl => ?_)
    refine fr_aload hx hb dX7_turn_7 (lv_at hl 0 rfl) ?_
    obtain ⟨x8, g9, hf⟩ := obind hf
    refine fr_get hx hb hts hown K hC ct_4 (fgR_get g9) (by decide) kw165 rfl dX7_turn_9 ?_
    refine lv_iload_n hx hb dX7_turn_12 rfl (lv_at hl 3 rfl) ?_
    obtain ⟨b12, q13, hf⟩ := obind hf
    obtain ⟨r10, g11, hf⟩ := obind hf
    refine fr_callV hx hb hml hts hown K hC hR ct_6 (c_X6_allows hfl D cA g11) 1 q13 kw688 kw685 kw686 kw687 kw57 (by decide +kernel) ⟨by exact Nat.le_of_ble_eq_true rfl, by exact Nat.le_of_ble_eq_true rfl⟩ rfl hl.1 (cat8 _ (by exact Nat.le_of_ble_eq_true rfl)) dX7_turn_13 rfl (fun H locs _ _ hC => ?_)
    refine lv_if_ne (tgt := 29) hx hb dX7_turn_16 (by decide) (fun c14 => ?_) (fun c14 => ?_)
    · replace hf := oneg c14 hf
      refine fr_aload hx hb dX7_turn_29 (lv_at hl 0 rfl) ?_
      obtain ⟨x15, g16, hf⟩ := obind hf
      refine fr_get hx hb hts hown K hC ct_4 (fgR_get g16) (by decide) kw165 rfl dX7_turn_31 ?_
      obtain ⟨x17, g18, hf⟩ := obind hf
      refine fr_get hx hb hts hown K hC ct_6 (fgI_get g18) (by decide) kw98 rfl dX7_turn_34 ?_
      refine lv_istore (lv' := [(5, .int x17), (4, va_rf v5), (0, va_rf a0), (1, .int a1), (2, .int a2), (3, .int a3)]) hx hb dX7_turn_37 hl (by decide) (congrArg (List.cons _) (flk (adj1 _ _) (flk rfl (flk rfl (flk rfl (flk rfl fln)))))) (fun ls hl => ?_)
      refine fr_aload hx hb dX7_turn_39 (lv_at hl 1 rfl) ?_
      obtain ⟨x19, g20, hf⟩ := obind hf
      refine fr_get hx hb hts hown K hC ct_4 (fgR_get g20) (by decide) kw165 rfl dX7_turn_41 ?_
      refine lv_iload_n hx hb dX7_turn_44 rfl (lv_at hl 4 rfl) ?_
      obtain ⟨h21, g22, hf⟩ := obind hf
      refine fr_put hx hb hts hown K hC ct_6 g22 (by decide) kw98 rfl rfl rfl rfl dX7_turn_45 (fun H locs hC => ?_)
      refine fr_aload hx hb dX7_turn_48 (lv_at hl 1 rfl) ?_
      refine lv_iload_n hx hb dX7_turn_50 rfl (lv_at hl 5 rfl) ?_
      obtain ⟨h23, g24, hf⟩ := obind hf
      obtain ⟨z25, g24⟩ := fputZ_inv g24
      refine fr_put hx hb hts hown K hC ct_4 g24 (by decide) kw175 rfl rfl (nZ z25) (fZ9 z25) dX7_turn_51 (fun H locs hC => ?_)
      refine lv_iload hx hb dX7_turn_54 (lv_at hl 0 rfl) ?_
      obtain rfl := Option.some.inj hf
      exact fr_retQ (fr_iret hx hb hr hlocks hC dX7_turn_56)
    · replace hf := opos c14 hf
      obtain ⟨h26, g27, hf⟩ := obind hf
      obtain rfl := Option.some.inj hf
      exact fr_throwS hx hb hml hts hfl hown K hC hR th_RX7_60_64_1 st_RX7_142 hl.1 dX7_turn_19 dX7_turn_22 dX7_turn_23 dX7_turn_25 dX7_turn_28 hno (by exact Nat.le_of_ble_eq_true rfl) (catL _ _ (by exact Nat.le_of_ble_eq_true rfl) (by exact Nat.le_of_ble_eq_true rfl)) hlocks g27
  · obtain rfl := Option.some.inj hf
    refine fr_callVT hx hb hml hts hown K hC hR ct_7 (c_X7_foundBelowWhole hfl D cA g2) 1 q4 kw644 kw641 kw643 kw16 kw55 (by decide +kernel) ⟨by exact Nat.le_of_ble_eq_true rfl, by exact Nat.le_of_ble_eq_true rfl⟩ rfl hl.1 (cat8 _ (by exact Nat.le_of_ble_eq_true rfl)) dX7_turn_2 rfl (fun H locs _ _ q ce hC e1 e2 e3 => ?_)
    exact fr_out (fun x hx9 => (hno x hx9).elim) hlocks hC e1 e2 e3
set_option maxRecDepth 100000 in
theorem c_X7_turn {l : Launch} (hfl : l.stackTraces = false) (D : va_G) (cA : Nat → ClassId) {o : Nat} {p0 : Int32} {p1 : Int32} {p2 : Int32} {h : fSt} {r : ((Int32 ⊕ Nat) × fSt)} (hf : f_X7_turn o p0 p1 p2 h = some r) : fMetX l yX7_turn (wsC yX7_turn cX7_turn 6 (some (.int))) (8) (134) D cA [.ref o, .int p0, .int p1, .int p2] h r.2 (rI r.1) := by
  exact fMetX.of (own := RX7) (by decide +kernel) rfl (lva1 rfl (lva1 rfl (lva1 rfl (lva1 rfl lva0)))) (lgl1 rfl (lgl1 rfl (lgl1 rfl (lgl1 rfl lgl0)))) (Nat.le_of_ble_eq_true rfl) (fun p e s m args below meth c ls hno M hC hl => by
    have hl : lv_has ls 6 [(0, va_rf (some o)), (1, .int p0), (2, .int p1), (3, .int p2)] := hl
    exact w_X7_turn_L0 M hfl hno _ _ _ _ _ hf _ _ _ _ _ hC (lv_sub hl [0, 1, 2, 3] rfl))
set_option maxHeartbeats 4000000 in
set_option maxRecDepth 100000 in
theorem w_L_turn_L0 {p : Program} {l : Launch} {e : Env} {s : State} {m : MethodId} {args : Array Value} {below : List Frame} {meth : Method} {c : Code} {D : va_G} {cA : Nat → ClassId} {h0 : fSt} {r : ((Int32 ⊕ Nat) × fSt)} (M : fM p s m args meth c D cA h0 { frames := 9, cells := fCB h0 - fZ h0, slots := fLB h0 - fL h0, locals := 159 } cL_turn 6 (some (.int)) RL) (hfl : l.stackTraces = false) (hno : c.exceptionTable.toList = tableOf [(0, 12, 15, 13), (0, 12, 19, 17), (0, 12, 23, 15)]) (a0 : Option Nat) (a1 : Int32) (a2 : Int32) (a3 : Int32) (a4 : Option Nat) (h : fSt) (hf : f_L_turn_L0 a0 a1 a2 a3 a4 h = some r) : ∀ (H : Heap) (locs : List Loc) (cells slots : Nat) (ls : Array Slot), fCur D cA s h0 h H locs → lv_has ls 6 [(0, va_rf a0), (1, .int a1), (2, .int a2), (3, .int a3), (4, va_rf a4)] → W p l e { frames := 9, cells := fCB h0 - fZ h0, slots := fLB h0 - fL h0, locals := 159 } s m args below meth c H locs cells slots (vx_MQ below (fQX D cA h0 r.2 (rI r.1)) (fXC D cA h0 r.2 (rI r.1)) args s (fCB h0 - fZ h0) (fLB h0 - fL h0) (fA h0)) (F0 m 0 ls []) := by
  obtain ⟨hx, hb, hml, hr, hlocks, hts, hown, K, hR⟩ := id M
  intro H locs cells slots ls hC hl
  refine fr_aload hx hb dL_turn_0 (lv_at hl 4 rfl) ?_
  refine lv_iconst (v := (0 : Int32)) hx hb dL_turn_2 (by decide) ?_
  refine fr_aload_n hx hb dL_turn_3 rfl (lv_at hl 0 rfl) ?_
  refine lv_iload_n hx hb dL_turn_4 rfl (lv_at hl 1 rfl) ?_
  refine lv_iload_n hx hb dL_turn_5 rfl (lv_at hl 2 rfl) ?_
  refine lv_iload_n hx hb dL_turn_6 rfl (lv_at hl 3 rfl) ?_
  obtain ⟨b3, q4, hf⟩ := obind hf
  obtain ⟨⟨v5 | k6, h7⟩, g2, hf⟩ := obind hf
  · refine fr_callVX hx hb hml hts hown K hC hR ct_7 (c_X7_turn hfl D cA g2) 3 q4 kw705 kw702 kw703 kw704 kw55 (by decide +kernel) ⟨by exact Nat.le_of_ble_eq_true rfl, by exact Nat.le_of_ble_eq_true rfl⟩ rfl hl.1 (cat8 _ (by exact Nat.le_of_ble_eq_true rfl)) dL_turn_7 rfl (fun H locs _ _ hC => ?_)
    refine lv_i2l (v := (Int32.toInt64 v5)) hx hb dL_turn_10 rfl ?_
    obtain ⟨h8, g9, hf⟩ := obind hf
    refine fr_last hx hb K hC (t := 1) rfl g9 dL_turn_11 (fun H locs hC => ?_)
    refine lv_goto (tgt := 27) hx hb dL_turn_12 (by decide) ?_
    refine lv_iconst (v := (0 : Int32)) hx hb dL_turn_27 (by decide) ?_
    obtain rfl := Option.some.inj hf
    exact fr_retQ (fr_iret hx hb hr hlocks hC dL_turn_28)
  · refine fr_callVT hx hb hml hts hown K hC hR ct_7 (c_X7_turn hfl D cA g2) 3 q4 kw705 kw702 kw703 kw704 kw55 (by decide +kernel) ⟨by exact Nat.le_of_ble_eq_true rfl, by exact Nat.le_of_ble_eq_true rfl⟩ rfl hl.1 (cat8 _ (by exact Nat.le_of_ble_eq_true rfl)) dL_turn_7 rfl (fun H locs _ _ q ce hC e1 e2 e3 => ?_)
    by_cases c10 : k6 = 0
    · replace hf := opos c10 hf
      subst c10
      refine fr_catch (k9 := 0) (name := "java/lang/IndexOutOfBoundsException") hts K hown [] ⟨0, 12, 15, 13⟩ [⟨0, 12, 19, 17⟩, ⟨0, 12, 23, 15⟩] (by rw [hno]; rfl) (fun z hz => nomatch hz) (by decide) (by decide) kw573 kn586 e1 e2 e3 ?_
      refine fr_astore (lv' := [(5, va_rf (some q)), (0, va_rf a0), (1, .int a1), (2, .int a2), (3, .int a3), (4, va_rf a4)]) hx hb dL_turn_15 hl (by decide) (congrArg (List.cons _) (flk rfl (flk rfl (flk rfl (flk rfl (flk (adj1 _ _) fln)))))) (fun ls hl => ?_)
      refine lv_iconst (v := (1 : Int32)) hx hb dL_turn_17 (by decide) ?_
      obtain rfl := Option.some.inj hf
      exact fr_retQ (fr_iret hx hb hr hlocks hC dL_turn_18)
    replace hf := oneg c10 hf
    by_cases c12 : k6 = 2
    · replace hf := opos c12 hf
      subst c12
      refine fr_catch (k9 := 2) (name := "java/lang/IllegalStateException") hts K hown [⟨0, 12, 15, 13⟩] ⟨0, 12, 19, 17⟩ [⟨0, 12, 23, 15⟩] (by rw [hno]; rfl) (all1 ⟨by decide, _, kw573, by decide +kernel⟩) (by decide) (by decide) kw575 kn604 e1 e2 e3 ?_
      refine fr_astore (lv' := [(5, va_rf (some q)), (0, va_rf a0), (1, .int a1), (2, .int a2), (3, .int a3), (4, va_rf a4)]) hx hb dL_turn_19 hl (by decide) (congrArg (List.cons _) (flk rfl (flk rfl (flk rfl (flk rfl (flk (adj1 _ _) fln)))))) (fun ls hl => ?_)
      refine lv_iconst (v := (2 : Int32)) hx hb dL_turn_21 (by decide) ?_
      obtain rfl := Option.some.inj hf
      exact fr_retQ (fr_iret hx hb hr hlocks hC dL_turn_22)
    replace hf := oneg c12 hf
    by_cases c14 : k6 = 1
    · replace hf := opos c14 hf
      subst c14
      refine fr_catch (k9 := 1) (name := "java/lang/IllegalArgumentException") hts K hown [⟨0, 12, 15, 13⟩, ⟨0, 12, 19, 17⟩] ⟨0, 12, 23, 15⟩ [] (by rw [hno]; rfl) (all2 ⟨by decide, _, kw573, by decide +kernel⟩ ⟨by decide, _, kw575, by decide +kernel⟩) (by decide) (by decide) kw574 kn495 e1 e2 e3 ?_
      refine fr_astore (lv' := [(5, va_rf (some q)), (0, va_rf a0), (1, .int a1), (2, .int a2), (3, .int a3), (4, va_rf a4)]) hx hb dL_turn_23 hl (by decide) (congrArg (List.cons _) (flk rfl (flk rfl (flk rfl (flk rfl (flk (adj1 _ _) fln)))))) (fun ls hl => ?_)
      refine lv_iconst (v := (3 : Int32)) hx hb dL_turn_25 (by decide) ?_
      obtain rfl := Option.some.inj hf
      exact fr_retQ (fr_iret hx hb hr hlocks hC dL_turn_26)
    replace hf := oneg c14 hf
    exact nomatch hf
set_option maxRecDepth 100000 in
theorem c_L_turn {l : Launch} (hfl : l.stackTraces = false) (D : va_G) (cA : Nat → ClassId) {p0 : Option Nat} {p1 : Int32} {p2 : Int32} {p3 : Int32} {p4 : Option Nat} {h : fSt} {r : ((Int32 ⊕ Nat) × fSt)} (hf : f_L_turn p0 p1 p2 p3 p4 h = some r) : fMetX l yL_turn (wsCH yL_turn cL_turn 6 (some (.int)) [(0, 12, 15, 13), (0, 12, 19, 17), (0, 12, 23, 15)]) (9) (159) D cA [va_rf p0, .int p1, .int p2, .int p3, va_rf p4] h r.2 (rI r.1) := by
  exact fMetX.ofH (own := RL) (by decide +kernel) rfl (lva1 (va_rf_cat _) (lva1 rfl (lva1 rfl (lva1 rfl (lva1 (va_rf_cat _) lva0))))) (lgl1 (va_rf_cat _) (lgl1 rfl (lgl1 rfl (lgl1 rfl (lgl1 (va_rf_cat _) lgl0))))) (Nat.le_of_ble_eq_true rfl) (fun p e s m args below meth c ls hno M hC hl => by
    have hl : lv_has ls 6 [(0, va_rf p0), (1, .int p1), (2, .int p2), (3, .int p3), (4, va_rf p4)] := hl
    exact w_L_turn_L0 M hfl hno _ _ _ _ _ _ hf _ _ _ _ _ hC (lv_sub hl [0, 1, 2, 3, 4] rfl))
set_option maxHeartbeats 4000000 in
set_option maxRecDepth 100000 in
theorem w_X7_uncut_L18 {p : Program} {l : Launch} {e : Env} {s : State} {m : MethodId} {args : Array Value} {below : List Frame} {meth : Method} {c : Code} {D : va_G} {cA : Nat → ClassId} {h0 : fSt} {r : ((Int32 ⊕ Nat) × fSt)} (M : fM p s m args meth c D cA h0 { frames := 7, cells := fCB h0 - fZ h0, slots := fLB h0 - fL h0, locals := 112 } cX7_uncut 4 (some (.boolean)) RX7) (hfl : l.stackTraces = false) (hno : ∀ x ∈ c.exceptionTable.toList, False) (a2 : Option Nat) (s0 : Int32) (h : fSt) (hf : f_X7_uncut_L18 a2 s0 h = some r) : ∀ (H : Heap) (locs : List Loc) (cells slots : Nat) (ls : Array Slot), fCur D cA s h0 h H locs → lv_has ls 4 [(2, va_rf a2)] → W p l e { frames := 7, cells := fCB h0 - fZ h0, slots := fLB h0 - fL h0, locals := 112 } s m args below meth c H locs cells slots (vx_MQ below (fQX D cA h0 r.2 (rI r.1)) (fXC D cA h0 r.2 (rI r.1)) args s (fCB h0 - fZ h0) (fLB h0 - fL h0) (fA h0)) (F0 m 18 ls [.int s0]) := by
  obtain ⟨hx, hb, hml, hr, hlocks, hts, hown, K, hR⟩ := id M
  intro H locs cells slots ls hC hl
  refine lv_istore_n (lv' := [(3, .int s0), (2, va_rf a2)]) hx hb dX7_uncut_18 rfl hl (by decide) (congrArg (List.cons _) (flk (adj1 _ _) fln)) (fun ls hl => ?_)
  refine fr_aload_n hx hb dX7_uncut_19 rfl (lv_at hl 1 rfl) ?_
  refine fr_null hx hb dX7_uncut_20 ?_
  obtain ⟨h1, g2, hf⟩ := obind hf
  refine fr_put hx hb hts hown K hC ct_4 g2 (by decide) kw180 rfl rfl (nR _ _) (fR _ _) dX7_uncut_21 (fun H locs hC => ?_)
  refine lv_iload_n hx hb dX7_uncut_24 rfl (lv_at hl 0 rfl) ?_
  by_cases c3 : s0 = 0 ∨ s0 = 1
  rotate_left
  · exact nomatch (oneg c3 hf)
  obtain rfl := Option.some.inj (opos c3 hf)
  exact fr_retQ (fr_zret hx hb hr hlocks hC c3 dX7_uncut_25)
set_option maxHeartbeats 4000000 in
set_option maxRecDepth 100000 in
theorem w_X7_uncut_L0 {p : Program} {l : Launch} {e : Env} {s : State} {m : MethodId} {args : Array Value} {below : List Frame} {meth : Method} {c : Code} {D : va_G} {cA : Nat → ClassId} {h0 : fSt} {r : ((Int32 ⊕ Nat) × fSt)} (M : fM p s m args meth c D cA h0 { frames := 7, cells := fCB h0 - fZ h0, slots := fLB h0 - fL h0, locals := 112 } cX7_uncut 4 (some (.boolean)) RX7) (hfl : l.stackTraces = false) (hno : ∀ x ∈ c.exceptionTable.toList, False) (a0 : Option Nat) (a1 : Int32) (h : fSt) (hf : f_X7_uncut_L0 a0 a1 h = some r) : ∀ (H : Heap) (locs : List Loc) (cells slots : Nat) (ls : Array Slot), fCur D cA s h0 h H locs → lv_has ls 4 [(0, va_rf a0), (1, .int a1)] → W p l e { frames := 7, cells := fCB h0 - fZ h0, slots := fLB h0 - fL h0, locals := 112 } s m args below meth c H locs cells slots (vx_MQ below (fQX D cA h0 r.2 (rI r.1)) (fXC D cA h0 r.2 (rI r.1)) args s (fCB h0 - fZ h0) (fLB h0 - fL h0) (fA h0)) (F0 m 0 ls []) := by
  obtain ⟨hx, hb, hml, hr, hlocks, hts, hown, K, hR⟩ := id M
  intro H locs cells slots ls hC hl
  refine fr_aload_n hx hb dX7_uncut_0 rfl (lv_at hl 0 rfl) ?_
  refine lv_iload_n hx hb dX7_uncut_1 rfl (lv_at hl 1 rfl) ?_
  obtain ⟨b6, q7, hf⟩ := obind hf
  obtain ⟨⟨v8 | k9, h10⟩, g5, hf⟩ := obind hf
  · refine fr_callVX hx hb hml hts hown K hC hR ct_7 (c_X7_found hfl D cA g5) 1 q7 kw583 kw580 kw582 kw12 kw55 (by decide +kernel) ⟨by exact Nat.le_of_ble_eq_true rfl, by exact Nat.le_of_ble_eq_true rfl⟩ rfl hl.1 (cat8 _ (by exact Nat.le_of_ble_eq_true rfl)) dX7_uncut_2 rfl (fun H locs _ _ hC => ?_)
    refine fr_astore_n (lv' := [(2, va_rf v8), (0, va_rf a0), (1, .int a1)]) hx hb dX7_uncut_5 rfl hl (by decide) (congrArg (List.cons _) (flk rfl (flk rfl fln))) (fun ls hl => ?_)
    refine fr_aload_n hx hb dX7_uncut_6 rfl (lv_at hl 0 rfl) ?_
    obtain ⟨x11, g12, hf⟩ := obind hf
    refine fr_get hx hb hts hown K hC ct_4 (fgR_get g12) (by decide) kw180 rfl dX7_uncut_7 ?_
    refine fr_ifnull (tgt := 17) hx hb dX7_uncut_10 (by decide) (fun c13 => ?_) (fun c13 => ?_)
    · replace hf := opos c13 hf
      refine lv_iconst (v := (0 : Int32)) hx hb dX7_uncut_17 (by decide) ?_
      exact w_X7_uncut_L18 M hfl hno _ _ _ hf _ _ _ _ _ hC (lv_sub hl [0] rfl)
    · replace hf := oneg c13 hf
      refine lv_iconst (v := (1 : Int32)) hx hb dX7_uncut_13 (by decide) ?_
      refine lv_goto (tgt := 18) hx hb dX7_uncut_14 (by decide) ?_
      exact w_X7_uncut_L18 M hfl hno _ _ _ hf _ _ _ _ _ hC (lv_sub hl [0] rfl)
  · obtain rfl := Option.some.inj hf
    refine fr_callVT hx hb hml hts hown K hC hR ct_7 (c_X7_found hfl D cA g5) 1 q7 kw583 kw580 kw582 kw12 kw55 (by decide +kernel) ⟨by exact Nat.le_of_ble_eq_true rfl, by exact Nat.le_of_ble_eq_true rfl⟩ rfl hl.1 (cat8 _ (by exact Nat.le_of_ble_eq_true rfl)) dX7_uncut_2 rfl (fun H locs _ _ q ce hC e1 e2 e3 => ?_)
    exact fr_out (fun x hx9 => (hno x hx9).elim) hlocks hC e1 e2 e3
set_option maxRecDepth 100000 in
theorem c_X7_uncut {l : Launch} (hfl : l.stackTraces = false) (D : va_G) (cA : Nat → ClassId) {o : Nat} {p0 : Int32} {h : fSt} {r : ((Int32 ⊕ Nat) × fSt)} (hf : f_X7_uncut o p0 h = some r) : fMetX l yX7_uncut (wsC yX7_uncut cX7_uncut 4 (some (.boolean))) (7) (112) D cA [.ref o, .int p0] h r.2 (rI r.1) := by
  exact fMetX.of (own := RX7) (by decide +kernel) rfl (lva1 rfl (lva1 rfl lva0)) (lgl1 rfl (lgl1 rfl lgl0)) (Nat.le_of_ble_eq_true rfl) (fun p e s m args below meth c ls hno M hC hl => by
    have hl : lv_has ls 4 [(0, va_rf (some o)), (1, .int p0)] := hl
    exact w_X7_uncut_L0 M hfl hno _ _ _ hf _ _ _ _ _ hC (lv_sub hl [0, 1] rfl))
set_option maxHeartbeats 4000000 in
set_option maxRecDepth 100000 in
theorem w_L_uncut_L15 {p : Program} {l : Launch} {e : Env} {s : State} {m : MethodId} {args : Array Value} {below : List Frame} {meth : Method} {c : Code} {D : va_G} {cA : Nat → ClassId} {h0 : fSt} {r : ((Int32 ⊕ Nat) × fSt)} (M : fM p s m args meth c D cA h0 { frames := 8, cells := fCB h0 - fZ h0, slots := fLB h0 - fL h0, locals := 135 } cL_uncut 4 (some (.int)) RL) (hfl : l.stackTraces = false) (hno : c.exceptionTable.toList = tableOf [(0, 16, 19, 13)]) (s2 : Int64) (s1 : Int32) (s0 : Option Nat) (h : fSt) (hf : f_L_uncut_L15 s2 s1 s0 h = some r) : ∀ (H : Heap) (locs : List Loc) (cells slots : Nat) (ls : Array Slot), fCur D cA s h0 h H locs → lv_has ls 4 [] → W p l e { frames := 8, cells := fCB h0 - fZ h0, slots := fLB h0 - fL h0, locals := 135 } s m args below meth c H locs cells slots (vx_MQ below (fQX D cA h0 r.2 (rI r.1)) (fXC D cA h0 r.2 (rI r.1)) args s (fCB h0 - fZ h0) (fLB h0 - fL h0) (fA h0)) (F0 m 15 ls [.long s2, .int s1, va_rf s0]) := by
  obtain ⟨hx, hb, hml, hr, hlocks, hts, hown, K, hR⟩ := id M
  intro H locs cells slots ls hC hl
  obtain ⟨h1, g2, hf⟩ := obind hf
  refine fr_last hx hb K hC (t := 1) rfl g2 dL_uncut_15 (fun H locs hC => ?_)
  refine lv_goto (tgt := 22) hx hb dL_uncut_16 (by decide) ?_
  refine lv_iconst (v := (0 : Int32)) hx hb dL_uncut_22 (by decide) ?_
  obtain rfl := Option.some.inj hf
  exact fr_retQ (fr_iret hx hb hr hlocks hC dL_uncut_23)
set_option maxHeartbeats 4000000 in
set_option maxRecDepth 100000 in
theorem w_L_uncut_L0 {p : Program} {l : Launch} {e : Env} {s : State} {m : MethodId} {args : Array Value} {below : List Frame} {meth : Method} {c : Code} {D : va_G} {cA : Nat → ClassId} {h0 : fSt} {r : ((Int32 ⊕ Nat) × fSt)} (M : fM p s m args meth c D cA h0 { frames := 8, cells := fCB h0 - fZ h0, slots := fLB h0 - fL h0, locals := 135 } cL_uncut 4 (some (.int)) RL) (hfl : l.stackTraces = false) (hno : c.exceptionTable.toList = tableOf [(0, 16, 19, 13)]) (a0 : Option Nat) (a1 : Int32) (a2 : Option Nat) (h : fSt) (hf : f_L_uncut_L0 a0 a1 a2 h = some r) : ∀ (H : Heap) (locs : List Loc) (cells slots : Nat) (ls : Array Slot), fCur D cA s h0 h H locs → lv_has ls 4 [(0, va_rf a0), (1, .int a1), (2, va_rf a2)] → W p l e { frames := 8, cells := fCB h0 - fZ h0, slots := fLB h0 - fL h0, locals := 135 } s m args below meth c H locs cells slots (vx_MQ below (fQX D cA h0 r.2 (rI r.1)) (fXC D cA h0 r.2 (rI r.1)) args s (fCB h0 - fZ h0) (fLB h0 - fL h0) (fA h0)) (F0 m 0 ls []) := by
  obtain ⟨hx, hb, hml, hr, hlocks, hts, hown, K, hR⟩ := id M
  intro H locs cells slots ls hC hl
  refine fr_aload_n hx hb dL_uncut_0 rfl (lv_at hl 2 rfl) ?_
  refine lv_iconst (v := (0 : Int32)) hx hb dL_uncut_1 (by decide) ?_
  refine fr_aload_n hx hb dL_uncut_2 rfl (lv_at hl 0 rfl) ?_
  refine lv_iload_n hx hb dL_uncut_3 rfl (lv_at hl 1 rfl) ?_
  obtain ⟨b5, q6, hf⟩ := obind hf
  obtain ⟨⟨v7 | k8, h9⟩, g4, hf⟩ := obind hf
  · refine fr_callVX hx hb hml hts hown K hC hR ct_7 (c_X7_uncut hfl D cA g4) 1 q6 kw732 kw729 kw730 kw731 kw55 (by decide +kernel) ⟨by exact Nat.le_of_ble_eq_true rfl, by exact Nat.le_of_ble_eq_true rfl⟩ rfl hl.1 (cat8 _ (by exact Nat.le_of_ble_eq_true rfl)) dL_uncut_4 rfl (fun H locs _ _ hC => ?_)
    refine lv_if_eq (tgt := 14) hx hb dL_uncut_7 (by decide) (fun c10 => ?_) (fun c10 => ?_)
    · replace hf := opos c10 hf
      refine lv_lconst (v := (0 : Int64)) hx hb dL_uncut_14 (by decide) ?_
      exact w_L_uncut_L15 M hfl hno _ _ _ _ hf _ _ _ _ _ hC (lv_sub hl [] rfl)
    · replace hf := oneg c10 hf
      refine lv_lconst (v := (1 : Int64)) hx hb dL_uncut_10 (by decide) ?_
      refine lv_goto (tgt := 15) hx hb dL_uncut_11 (by decide) ?_
      exact w_L_uncut_L15 M hfl hno _ _ _ _ hf _ _ _ _ _ hC (lv_sub hl [] rfl)
  · refine fr_callVT hx hb hml hts hown K hC hR ct_7 (c_X7_uncut hfl D cA g4) 1 q6 kw732 kw729 kw730 kw731 kw55 (by decide +kernel) ⟨by exact Nat.le_of_ble_eq_true rfl, by exact Nat.le_of_ble_eq_true rfl⟩ rfl hl.1 (cat8 _ (by exact Nat.le_of_ble_eq_true rfl)) dL_uncut_4 rfl (fun H locs _ _ q ce hC e1 e2 e3 => ?_)
    by_cases c11 : k8 = 0
    · replace hf := opos c11 hf
      subst c11
      refine fr_catch (k9 := 0) (name := "java/lang/IndexOutOfBoundsException") hts K hown [] ⟨0, 16, 19, 13⟩ [] (by rw [hno]; rfl) (fun z hz => nomatch hz) (by decide) (by decide) kw573 kn586 e1 e2 e3 ?_
      refine fr_astore_n (lv' := [(3, va_rf (some q)), (0, va_rf a0), (1, .int a1), (2, va_rf a2)]) hx hb dL_uncut_19 rfl hl (by decide) (congrArg (List.cons _) (flk rfl (flk rfl (flk (adj1 _ _) fln)))) (fun ls hl => ?_)
      refine lv_iconst (v := (1 : Int32)) hx hb dL_uncut_20 (by decide) ?_
      obtain rfl := Option.some.inj hf
      exact fr_retQ (fr_iret hx hb hr hlocks hC dL_uncut_21)
    replace hf := oneg c11 hf
    exact nomatch hf
set_option maxRecDepth 100000 in
theorem c_L_uncut {l : Launch} (hfl : l.stackTraces = false) (D : va_G) (cA : Nat → ClassId) {p0 : Option Nat} {p1 : Int32} {p2 : Option Nat} {h : fSt} {r : ((Int32 ⊕ Nat) × fSt)} (hf : f_L_uncut p0 p1 p2 h = some r) : fMetX l yL_uncut (wsCH yL_uncut cL_uncut 4 (some (.int)) [(0, 16, 19, 13)]) (8) (135) D cA [va_rf p0, .int p1, va_rf p2] h r.2 (rI r.1) := by
  exact fMetX.ofH (own := RL) (by decide +kernel) rfl (lva1 (va_rf_cat _) (lva1 rfl (lva1 (va_rf_cat _) lva0))) (lgl1 (va_rf_cat _) (lgl1 rfl (lgl1 (va_rf_cat _) lgl0))) (Nat.le_of_ble_eq_true rfl) (fun p e s m args below meth c ls hno M hC hl => by
    have hl : lv_has ls 4 [(0, va_rf p0), (1, .int p1), (2, va_rf p2)] := hl
    exact w_L_uncut_L0 M hfl hno _ _ _ _ hf _ _ _ _ _ hC (lv_sub hl [0, 1, 2] rfl))
set_option maxHeartbeats 4000000 in
set_option maxRecDepth 100000 in
theorem w_X6_dropKey_L41 {p : Program} {l : Launch} {e : Env} {s : State} {m : MethodId} {args : Array Value} {below : List Frame} {meth : Method} {c : Code} {D : va_G} {cA : Nat → ClassId} {h0 : fSt} {r : (Unit × fSt)} (M : fM p s m args meth c D cA h0 { frames := 0, cells := fCB h0 - fZ h0, slots := fLB h0 - fL h0, locals := 0 } cX6_dropKey 3 none RX6) (hfl : l.stackTraces = false) {k21 : Option Nat → Option Nat → Option Nat → fSt → Option (Unit × fSt)} (hk21 : ∀ (a0 : Option Nat) (a1 : Option Nat) (a2 : Option Nat) (h : fSt), k21 a0 a1 a2 h = some r → ∀ (H : Heap) (locs : List Loc) (cells slots : Nat) (ls : Array Slot), fCur D cA s h0 h H locs → lv_has ls 3 [(0, va_rf a0), (1, va_rf a1), (2, va_rf a2)] → W p l e { frames := 0, cells := fCB h0 - fZ h0, slots := fLB h0 - fL h0, locals := 0 } s m args below meth c H locs cells slots (MQ below (fQ D cA h0 r.2 none) args s (fCB h0 - fZ h0) (fLB h0 - fL h0) (fA h0)) (F0 m 21 ls [])) (a0 : Option Nat) (a1 : Option Nat) (a2 : Option Nat) (h : fSt) (hf : f_X6_dropKey_L41 k21 a0 a1 a2 h = some r) : ∀ (H : Heap) (locs : List Loc) (cells slots : Nat) (ls : Array Slot), fCur D cA s h0 h H locs → lv_has ls 3 [(0, va_rf a0), (1, va_rf a1), (2, va_rf a2)] → W p l e { frames := 0, cells := fCB h0 - fZ h0, slots := fLB h0 - fL h0, locals := 0 } s m args below meth c H locs cells slots (MQ below (fQ D cA h0 r.2 none) args s (fCB h0 - fZ h0) (fLB h0 - fL h0) (fA h0)) (F0 m 41 ls []) := by
  obtain ⟨hx, hb, hml, hr, hlocks, hts, hown, K, hR⟩ := id M
  intro H locs cells slots ls hC hl
  refine fr_aload_n hx hb dX6_dropKey_41 rfl (lv_at hl 2 rfl) ?_
  obtain ⟨x1, g2, hf⟩ := obind hf
  refine fr_get hx hb hts hown K hC ct_3 (fgR_get g2) (by decide) kw800 rfl dX6_dropKey_42 ?_
  refine fr_astore_n (lv' := [(2, va_rf x1), (0, va_rf a0), (1, va_rf a1)]) hx hb dX6_dropKey_45 rfl hl (by decide) (congrArg (List.cons _) (flk rfl (flk (adj1 _ _) (fld rfl fln)))) (fun ls hl => ?_)
  refine lv_goto (tgt := 21) hx hb dX6_dropKey_46 (by decide) ?_
  exact hk21 _ _ _ _ hf _ _ _ _ _ hC (lv_sub hl [1, 2, 0] rfl)
set_option maxHeartbeats 4000000 in
set_option maxRecDepth 100000 in
theorem w_X6_dropKey_L21 {p : Program} {l : Launch} {e : Env} {s : State} {m : MethodId} {args : Array Value} {below : List Frame} {meth : Method} {c : Code} {D : va_G} {cA : Nat → ClassId} {h0 : fSt} {r : (Unit × fSt)} (M : fM p s m args meth c D cA h0 { frames := 0, cells := fCB h0 - fZ h0, slots := fLB h0 - fL h0, locals := 0 } cX6_dropKey 3 none RX6) (hfl : l.stackTraces = false) : ∀ (n : Nat) (a0 : Option Nat) (a1 : Option Nat) (a2 : Option Nat) (h : fSt), f_X6_dropKey_L21 n a0 a1 a2 h = some r → ∀ (H : Heap) (locs : List Loc) (cells slots : Nat) (ls : Array Slot), fCur D cA s h0 h H locs → lv_has ls 3 [(0, va_rf a0), (1, va_rf a1), (2, va_rf a2)] → W p l e { frames := 0, cells := fCB h0 - fZ h0, slots := fLB h0 - fL h0, locals := 0 } s m args below meth c H locs cells slots (MQ below (fQ D cA h0 r.2 none) args s (fCB h0 - fZ h0) (fLB h0 - fL h0) (fA h0)) (F0 m 21 ls []) := by
  obtain ⟨hx, hb, hml, hr, hlocks, hts, hown, K, hR⟩ := id M
  intro n
  induction n with
  | zero =>
    intro a0 a1 a2 h hf
    exact nomatch (show (none : Option (Unit × fSt)) = some r from hf)
  | succ n hk21 =>
    intro a0 a1 a2 h hf H locs cells slots ls hC hl
    refine fr_aload_n hx hb dX6_dropKey_21 rfl (lv_at hl 2 rfl) ?_
    refine fr_ifnull (tgt := 49) hx hb dX6_dropKey_22 (by decide) (fun c3 => ?_) (fun c3 => ?_)
    · replace hf := opos c3 hf
      refine fr_aload_n hx hb dX6_dropKey_49 rfl (lv_at hl 0 rfl) ?_
      refine lv_dup hx hb dX6_dropKey_50 (va_rf_cat _) ?_
      obtain ⟨x4, g5, hf⟩ := obind hf
      refine fr_get hx hb hts hown K hC ct_6 (fgI_get g5) (by decide) kw107 rfl dX6_dropKey_51 ?_
      refine lv_iconst (v := (1 : Int32)) hx hb dX6_dropKey_54 (by decide) ?_
      refine lv_isub hx hb dX6_dropKey_55 ?_
      obtain ⟨h6, g7, hf⟩ := obind hf
      refine fr_put hx hb hts hown K hC ct_6 g7 (by decide) kw107 rfl rfl rfl rfl dX6_dropKey_56 (fun H locs hC => ?_)
      obtain rfl := Option.some.inj hf
      exact fr_vret hx hb hr hlocks hC dX6_dropKey_59
    · replace hf := oneg c3 hf
      refine fr_aload_n hx hb dX6_dropKey_25 rfl (lv_at hl 2 rfl) ?_
      obtain ⟨x8, g9, hf⟩ := obind hf
      refine fr_get hx hb hts hown K hC ct_3 (fgR_get g9) (by decide) kw800 rfl dX6_dropKey_26 ?_
      refine fr_aload_n hx hb dX6_dropKey_29 rfl (lv_at hl 1 rfl) ?_
      refine lv_acmp_ne (tgt := 41) hx hb dX6_dropKey_30 (by decide) (fun c10 => ?_) (fun c10 => ?_)
      · replace hf := oneg c10 hf
        exact w_X6_dropKey_L41 M hfl hk21 _ _ _ _ hf _ _ _ _ _ hC (lv_sub hl [0, 1, 2] rfl)
      · replace hf := opos c10 hf
        refine fr_aload_n hx hb dX6_dropKey_33 rfl (lv_at hl 2 rfl) ?_
        refine fr_aload_n hx hb dX6_dropKey_34 rfl (lv_at hl 1 rfl) ?_
        obtain ⟨x11, g12, hf⟩ := obind hf
        refine fr_get hx hb hts hown K hC ct_3 (fgR_get g12) (by decide) kw800 rfl dX6_dropKey_35 ?_
        obtain ⟨h13, g14, hf⟩ := obind hf
        refine fr_put hx hb hts hown K hC ct_3 g14 (by decide) kw800 rfl rfl (nR _ _) (fR _ _) dX6_dropKey_38 (fun H locs hC => ?_)
        exact w_X6_dropKey_L41 M hfl hk21 _ _ _ _ hf _ _ _ _ _ hC (lv_sub hl [0, 1, 2] rfl)
set_option maxHeartbeats 4000000 in
set_option maxRecDepth 100000 in
theorem w_X6_dropKey_L16 {p : Program} {l : Launch} {e : Env} {s : State} {m : MethodId} {args : Array Value} {below : List Frame} {meth : Method} {c : Code} {D : va_G} {cA : Nat → ClassId} {h0 : fSt} {r : (Unit × fSt)} (M : fM p s m args meth c D cA h0 { frames := 0, cells := fCB h0 - fZ h0, slots := fLB h0 - fL h0, locals := 0 } cX6_dropKey 3 none RX6) (hfl : l.stackTraces = false) (a0 : Option Nat) (a1 : Option Nat) (h : fSt) (hf : f_X6_dropKey_L16 a0 a1 h = some r) : ∀ (H : Heap) (locs : List Loc) (cells slots : Nat) (ls : Array Slot), fCur D cA s h0 h H locs → lv_has ls 3 [(0, va_rf a0), (1, va_rf a1)] → W p l e { frames := 0, cells := fCB h0 - fZ h0, slots := fLB h0 - fL h0, locals := 0 } s m args below meth c H locs cells slots (MQ below (fQ D cA h0 r.2 none) args s (fCB h0 - fZ h0) (fLB h0 - fL h0) (fA h0)) (F0 m 16 ls []) := by
  obtain ⟨hx, hb, hml, hr, hlocks, hts, hown, K, hR⟩ := id M
  intro H locs cells slots ls hC hl
  refine fr_aload_n hx hb dX6_dropKey_16 rfl (lv_at hl 0 rfl) ?_
  obtain ⟨x15, g16, hf⟩ := obind hf
  refine fr_get hx hb hts hown K hC ct_6 (fgR_get g16) (by decide) kw106 rfl dX6_dropKey_17 ?_
  refine fr_astore_n (lv' := [(2, va_rf x15), (0, va_rf a0), (1, va_rf a1)]) hx hb dX6_dropKey_20 rfl hl (by decide) (congrArg (List.cons _) (flk rfl (flk (adj1 _ _) fln))) (fun ls hl => ?_)
  exact w_X6_dropKey_L21 M hfl 4096 _ _ _ _ hf _ _ _ _ _ hC (lv_sub hl [1, 2, 0] rfl)
set_option maxHeartbeats 4000000 in
set_option maxRecDepth 100000 in
theorem w_X6_dropKey_L0 {p : Program} {l : Launch} {e : Env} {s : State} {m : MethodId} {args : Array Value} {below : List Frame} {meth : Method} {c : Code} {D : va_G} {cA : Nat → ClassId} {h0 : fSt} {r : (Unit × fSt)} (M : fM p s m args meth c D cA h0 { frames := 0, cells := fCB h0 - fZ h0, slots := fLB h0 - fL h0, locals := 0 } cX6_dropKey 3 none RX6) (hfl : l.stackTraces = false) (a0 : Option Nat) (a1 : Option Nat) (h : fSt) (hf : f_X6_dropKey_L0 a0 a1 h = some r) : ∀ (H : Heap) (locs : List Loc) (cells slots : Nat) (ls : Array Slot), fCur D cA s h0 h H locs → lv_has ls 3 [(0, va_rf a0), (1, va_rf a1)] → W p l e { frames := 0, cells := fCB h0 - fZ h0, slots := fLB h0 - fL h0, locals := 0 } s m args below meth c H locs cells slots (MQ below (fQ D cA h0 r.2 none) args s (fCB h0 - fZ h0) (fLB h0 - fL h0) (fA h0)) (F0 m 0 ls []) := by
  obtain ⟨hx, hb, hml, hr, hlocks, hts, hown, K, hR⟩ := id M
  intro H locs cells slots ls hC hl
  refine fr_aload_n hx hb dX6_dropKey_0 rfl (lv_at hl 0 rfl) ?_
  obtain ⟨x17, g18, hf⟩ := obind hf
  refine fr_get hx hb hts hown K hC ct_6 (fgR_get g18) (by decide) kw106 rfl dX6_dropKey_1 ?_
  refine fr_aload_n hx hb dX6_dropKey_4 rfl (lv_at hl 1 rfl) ?_
  refine lv_acmp_ne (tgt := 16) hx hb dX6_dropKey_5 (by decide) (fun c19 => ?_) (fun c19 => ?_)
  · replace hf := oneg c19 hf
    exact w_X6_dropKey_L16 M hfl _ _ _ hf _ _ _ _ _ hC (lv_sub hl [0, 1] rfl)
  · replace hf := opos c19 hf
    refine fr_aload_n hx hb dX6_dropKey_8 rfl (lv_at hl 0 rfl) ?_
    refine fr_aload_n hx hb dX6_dropKey_9 rfl (lv_at hl 1 rfl) ?_
    obtain ⟨x20, g21, hf⟩ := obind hf
    refine fr_get hx hb hts hown K hC ct_3 (fgR_get g21) (by decide) kw800 rfl dX6_dropKey_10 ?_
    obtain ⟨h22, g23, hf⟩ := obind hf
    refine fr_put hx hb hts hown K hC ct_6 g23 (by decide) kw106 rfl rfl (nR _ _) (fR _ _) dX6_dropKey_13 (fun H locs hC => ?_)
    exact w_X6_dropKey_L16 M hfl _ _ _ hf _ _ _ _ _ hC (lv_sub hl [0, 1] rfl)
set_option maxRecDepth 100000 in
theorem c_X6_dropKey {l : Launch} (hfl : l.stackTraces = false) (D : va_G) (cA : Nat → ClassId) {o : Nat} {p0 : Option Nat} {h : fSt} {r : (Unit × fSt)} (hf : f_X6_dropKey o p0 h = some r) : fMet l yX6_dropKey (wsC yX6_dropKey cX6_dropKey 3 none) (0) (0) D cA [.ref o, va_rf p0] h r.2 none := by
  exact fMet.of (own := RX6) (by decide +kernel) rfl (lva1 rfl (lva1 (va_rf_cat _) lva0)) (lgl1 rfl (lgl1 (va_rf_cat _) lgl0)) (Nat.le_of_ble_eq_true rfl) (fun p e s m args below meth c ls hnm _ M hC hl => by
    have hl : lv_has ls 3 [(0, va_rf (some o)), (1, va_rf p0)] := hl
    exact w_X6_dropKey_L0 M hfl _ _ _ hf _ _ _ _ _ hC (lv_sub hl [0, 1] rfl))
set_option maxHeartbeats 4000000 in
set_option maxRecDepth 100000 in
theorem w_X7_unkey_L0 {p : Program} {l : Launch} {e : Env} {s : State} {m : MethodId} {args : Array Value} {below : List Frame} {meth : Method} {c : Code} {D : va_G} {cA : Nat → ClassId} {h0 : fSt} {r : ((Int32 ⊕ Nat) × fSt)} (M : fM p s m args meth c D cA h0 { frames := 7, cells := fCB h0 - fZ h0, slots := fLB h0 - fL h0, locals := 112 } cX7_unkey 5 (some (.int)) RX7) (hfl : l.stackTraces = false) (hno : ∀ x ∈ c.exceptionTable.toList, False) (a0 : Option Nat) (a1 : Int32) (a2 : Int32) (h : fSt) (hf : f_X7_unkey_L0 a0 a1 a2 h = some r) : ∀ (H : Heap) (locs : List Loc) (cells slots : Nat) (ls : Array Slot), fCur D cA s h0 h H locs → lv_has ls 5 [(0, va_rf a0), (1, .int a1), (2, .int a2)] → W p l e { frames := 7, cells := fCB h0 - fZ h0, slots := fLB h0 - fL h0, locals := 112 } s m args below meth c H locs cells slots (vx_MQ below (fQX D cA h0 r.2 (rI r.1)) (fXC D cA h0 r.2 (rI r.1)) args s (fCB h0 - fZ h0) (fLB h0 - fL h0) (fA h0)) (F0 m 0 ls []) := by
  obtain ⟨hx, hb, hml, hr, hlocks, hts, hown, K, hR⟩ := id M
  intro H locs cells slots ls hC hl
  refine fr_aload_n hx hb dX7_unkey_0 rfl (lv_at hl 0 rfl) ?_
  refine lv_iload_n hx hb dX7_unkey_1 rfl (lv_at hl 1 rfl) ?_
  obtain ⟨b3, q4, hf⟩ := obind hf
  obtain ⟨⟨v5 | k6, h7⟩, g2, hf⟩ := obind hf
  · refine fr_callVX hx hb hml hts hown K hC hR ct_7 (c_X7_foundTrack hfl D cA g2) 1 q4 kw777 kw774 kw776 kw18 kw55 (by decide +kernel) ⟨by exact Nat.le_of_ble_eq_true rfl, by exact Nat.le_of_ble_eq_true rfl⟩ rfl hl.1 (cat8 _ (by exact Nat.le_of_ble_eq_true rfl)) dX7_unkey_2 rfl (fun H locs _ _ hC => ?_)
    refine fr_astore_n (lv' := [(3, va_rf v5), (0, va_rf a0), (1, .int a1), (2, .int a2)]) hx hb dX7_unkey_5 rfl hl (by decide) (congrArg (List.cons _) (flk rfl (flk rfl (flk rfl fln)))) (fun ls hl => ?_)
    refine fr_aload_n hx hb dX7_unkey_6 rfl (lv_at hl 0 rfl) ?_
    refine lv_iload_n hx hb dX7_unkey_7 rfl (lv_at hl 3 rfl) ?_
    obtain ⟨b10, q11, hf⟩ := obind hf
    obtain ⟨r8, g9, hf⟩ := obind hf
    refine fr_callV hx hb hml hts hown K hC hR ct_6 (c_X6_keyAt hfl D cA g9) 1 q11 kw783 kw780 kw781 kw782 kw57 (by decide +kernel) ⟨by exact Nat.le_of_ble_eq_true rfl, by exact Nat.le_of_ble_eq_true rfl⟩ rfl hl.1 (cat8 _ (by exact Nat.le_of_ble_eq_true rfl)) dX7_unkey_8 rfl (fun H locs _ _ hC => ?_)
    refine fr_astore (lv' := [(4, va_rf r8.1), (3, va_rf v5), (0, va_rf a0), (1, .int a1), (2, .int a2)]) hx hb dX7_unkey_11 hl (by decide) (congrArg (List.cons _) (flk (adj1 _ _) (flk rfl (flk rfl (flk rfl fln))))) (fun ls hl => ?_)
    refine fr_aload hx hb dX7_unkey_13 (lv_at hl 0 rfl) ?_
    refine fr_ifnonnull (tgt := 28) hx hb dX7_unkey_15 (by decide) (fun c12 => ?_) (fun c12 => ?_)
    · replace hf := oneg c12 hf
      refine fr_aload_n hx hb dX7_unkey_28 rfl (lv_at hl 1 rfl) ?_
      refine fr_aload hx hb dX7_unkey_29 (lv_at hl 0 rfl) ?_
      obtain ⟨b15, q16, hf⟩ := obind hf
      obtain ⟨r13, g14, hf⟩ := obind hf
      refine fr_callV hx hb hml hts hown K hC hR ct_6 (c_X6_dropKey hfl D cA g14) 1 q16 kw819 kw816 kw817 kw818 kw57 (by decide +kernel) ⟨by exact Nat.le_of_ble_eq_true rfl, by exact Nat.le_of_ble_eq_true rfl⟩ rfl hl.1 (cat8 _ (by exact Nat.le_of_ble_eq_true rfl)) dX7_unkey_31 rfl (fun H locs _ _ hC => ?_)
      refine fr_aload hx hb dX7_unkey_34 (lv_at hl 0 rfl) ?_
      obtain ⟨x17, g18, hf⟩ := obind hf
      refine fr_get hx hb hts hown K hC ct_3 (fgI_get g18) (by decide) kw799 rfl dX7_unkey_36 ?_
      obtain rfl := Option.some.inj hf
      exact fr_retQ (fr_iret hx hb hr hlocks hC dX7_unkey_39)
    · replace hf := opos c12 hf
      obtain ⟨h19, g20, hf⟩ := obind hf
      obtain rfl := Option.some.inj hf
      exact fr_throwS hx hb hml hts hfl hown K hC hR th_RX7_73_77_2 st_RX7_217 hl.1 dX7_unkey_18 dX7_unkey_21 dX7_unkey_22 dX7_unkey_24 dX7_unkey_27 hno (by exact Nat.le_of_ble_eq_true rfl) (catL _ _ (by exact Nat.le_of_ble_eq_true rfl) (by exact Nat.le_of_ble_eq_true rfl)) hlocks g20
  · obtain rfl := Option.some.inj hf
    refine fr_callVT hx hb hml hts hown K hC hR ct_7 (c_X7_foundTrack hfl D cA g2) 1 q4 kw777 kw774 kw776 kw18 kw55 (by decide +kernel) ⟨by exact Nat.le_of_ble_eq_true rfl, by exact Nat.le_of_ble_eq_true rfl⟩ rfl hl.1 (cat8 _ (by exact Nat.le_of_ble_eq_true rfl)) dX7_unkey_2 rfl (fun H locs _ _ q ce hC e1 e2 e3 => ?_)
    exact fr_out (fun x hx9 => (hno x hx9).elim) hlocks hC e1 e2 e3
set_option maxRecDepth 100000 in
theorem c_X7_unkey {l : Launch} (hfl : l.stackTraces = false) (D : va_G) (cA : Nat → ClassId) {o : Nat} {p0 : Int32} {p1 : Int32} {h : fSt} {r : ((Int32 ⊕ Nat) × fSt)} (hf : f_X7_unkey o p0 p1 h = some r) : fMetX l yX7_unkey (wsC yX7_unkey cX7_unkey 5 (some (.int))) (7) (112) D cA [.ref o, .int p0, .int p1] h r.2 (rI r.1) := by
  exact fMetX.of (own := RX7) (by decide +kernel) rfl (lva1 rfl (lva1 rfl (lva1 rfl lva0))) (lgl1 rfl (lgl1 rfl (lgl1 rfl lgl0))) (Nat.le_of_ble_eq_true rfl) (fun p e s m args below meth c ls hno M hC hl => by
    have hl : lv_has ls 5 [(0, va_rf (some o)), (1, .int p0), (2, .int p1)] := hl
    exact w_X7_unkey_L0 M hfl hno _ _ _ _ hf _ _ _ _ _ hC (lv_sub hl [0, 1, 2] rfl))
set_option maxHeartbeats 4000000 in
set_option maxRecDepth 100000 in
theorem w_L_unkey_L0 {p : Program} {l : Launch} {e : Env} {s : State} {m : MethodId} {args : Array Value} {below : List Frame} {meth : Method} {c : Code} {D : va_G} {cA : Nat → ClassId} {h0 : fSt} {r : ((Int32 ⊕ Nat) × fSt)} (M : fM p s m args meth c D cA h0 { frames := 8, cells := fCB h0 - fZ h0, slots := fLB h0 - fL h0, locals := 136 } cL_unkey 5 (some (.int)) RL) (hfl : l.stackTraces = false) (hno : c.exceptionTable.toList = tableOf [(0, 10, 13, 13), (0, 10, 17, 17)]) (a0 : Option Nat) (a1 : Int32) (a2 : Int32) (a3 : Option Nat) (h : fSt) (hf : f_L_unkey_L0 a0 a1 a2 a3 h = some r) : ∀ (H : Heap) (locs : List Loc) (cells slots : Nat) (ls : Array Slot), fCur D cA s h0 h H locs → lv_has ls 5 [(0, va_rf a0), (1, .int a1), (2, .int a2), (3, va_rf a3)] → W p l e { frames := 8, cells := fCB h0 - fZ h0, slots := fLB h0 - fL h0, locals := 136 } s m args below meth c H locs cells slots (vx_MQ below (fQX D cA h0 r.2 (rI r.1)) (fXC D cA h0 r.2 (rI r.1)) args s (fCB h0 - fZ h0) (fLB h0 - fL h0) (fA h0)) (F0 m 0 ls []) := by
  obtain ⟨hx, hb, hml, hr, hlocks, hts, hown, K, hR⟩ := id M
  intro H locs cells slots ls hC hl
  refine fr_aload_n hx hb dL_unkey_0 rfl (lv_at hl 3 rfl) ?_
  refine lv_iconst (v := (0 : Int32)) hx hb dL_unkey_1 (by decide) ?_
  refine fr_aload_n hx hb dL_unkey_2 rfl (lv_at hl 0 rfl) ?_
  refine lv_iload_n hx hb dL_unkey_3 rfl (lv_at hl 1 rfl) ?_
  refine lv_iload_n hx hb dL_unkey_4 rfl (lv_at hl 2 rfl) ?_
  obtain ⟨b3, q4, hf⟩ := obind hf
  obtain ⟨⟨v5 | k6, h7⟩, g2, hf⟩ := obind hf
  · refine fr_callVX hx hb hml hts hown K hC hR ct_7 (c_X7_unkey hfl D cA g2) 2 q4 kw814 kw811 kw812 kw813 kw55 (by decide +kernel) ⟨by exact Nat.le_of_ble_eq_true rfl, by exact Nat.le_of_ble_eq_true rfl⟩ rfl hl.1 (cat8 _ (by exact Nat.le_of_ble_eq_true rfl)) dL_unkey_5 rfl (fun H locs _ _ hC => ?_)
    refine lv_i2l (v := (Int32.toInt64 v5)) hx hb dL_unkey_8 rfl ?_
    obtain ⟨h8, g9, hf⟩ := obind hf
    refine fr_last hx hb K hC (t := 1) rfl g9 dL_unkey_9 (fun H locs hC => ?_)
    refine lv_goto (tgt := 21) hx hb dL_unkey_10 (by decide) ?_
    refine lv_iconst (v := (0 : Int32)) hx hb dL_unkey_21 (by decide) ?_
    obtain rfl := Option.some.inj hf
    exact fr_retQ (fr_iret hx hb hr hlocks hC dL_unkey_22)
  · refine fr_callVT hx hb hml hts hown K hC hR ct_7 (c_X7_unkey hfl D cA g2) 2 q4 kw814 kw811 kw812 kw813 kw55 (by decide +kernel) ⟨by exact Nat.le_of_ble_eq_true rfl, by exact Nat.le_of_ble_eq_true rfl⟩ rfl hl.1 (cat8 _ (by exact Nat.le_of_ble_eq_true rfl)) dL_unkey_5 rfl (fun H locs _ _ q ce hC e1 e2 e3 => ?_)
    by_cases c10 : k6 = 0
    · replace hf := opos c10 hf
      subst c10
      refine fr_catch (k9 := 0) (name := "java/lang/IndexOutOfBoundsException") hts K hown [] ⟨0, 10, 13, 13⟩ [⟨0, 10, 17, 17⟩] (by rw [hno]; rfl) (fun z hz => nomatch hz) (by decide) (by decide) kw573 kn586 e1 e2 e3 ?_
      refine fr_astore (lv' := [(4, va_rf (some q)), (0, va_rf a0), (1, .int a1), (2, .int a2), (3, va_rf a3)]) hx hb dL_unkey_13 hl (by decide) (congrArg (List.cons _) (flk rfl (flk rfl (flk rfl (flk (adj1 _ _) fln))))) (fun ls hl => ?_)
      refine lv_iconst (v := (1 : Int32)) hx hb dL_unkey_15 (by decide) ?_
      obtain rfl := Option.some.inj hf
      exact fr_retQ (fr_iret hx hb hr hlocks hC dL_unkey_16)
    replace hf := oneg c10 hf
    by_cases c12 : k6 = 2
    · replace hf := opos c12 hf
      subst c12
      refine fr_catch (k9 := 2) (name := "java/lang/IllegalStateException") hts K hown [⟨0, 10, 13, 13⟩] ⟨0, 10, 17, 17⟩ [] (by rw [hno]; rfl) (all1 ⟨by decide, _, kw573, by decide +kernel⟩) (by decide) (by decide) kw575 kn604 e1 e2 e3 ?_
      refine fr_astore (lv' := [(4, va_rf (some q)), (0, va_rf a0), (1, .int a1), (2, .int a2), (3, va_rf a3)]) hx hb dL_unkey_17 hl (by decide) (congrArg (List.cons _) (flk rfl (flk rfl (flk rfl (flk (adj1 _ _) fln))))) (fun ls hl => ?_)
      refine lv_iconst (v := (2 : Int32)) hx hb dL_unkey_19 (by decide) ?_
      obtain rfl := Option.some.inj hf
      exact fr_retQ (fr_iret hx hb hr hlocks hC dL_unkey_20)
    replace hf := oneg c12 hf
    exact nomatch hf
set_option maxRecDepth 100000 in
theorem c_L_unkey {l : Launch} (hfl : l.stackTraces = false) (D : va_G) (cA : Nat → ClassId) {p0 : Option Nat} {p1 : Int32} {p2 : Int32} {p3 : Option Nat} {h : fSt} {r : ((Int32 ⊕ Nat) × fSt)} (hf : f_L_unkey p0 p1 p2 p3 h = some r) : fMetX l yL_unkey (wsCH yL_unkey cL_unkey 5 (some (.int)) [(0, 10, 13, 13), (0, 10, 17, 17)]) (8) (136) D cA [va_rf p0, .int p1, .int p2, va_rf p3] h r.2 (rI r.1) := by
  exact fMetX.ofH (own := RL) (by decide +kernel) rfl (lva1 (va_rf_cat _) (lva1 rfl (lva1 rfl (lva1 (va_rf_cat _) lva0)))) (lgl1 (va_rf_cat _) (lgl1 rfl (lgl1 rfl (lgl1 (va_rf_cat _) lgl0)))) (Nat.le_of_ble_eq_true rfl) (fun p e s m args below meth c ls hno M hC hl => by
    have hl : lv_has ls 5 [(0, va_rf p0), (1, .int p1), (2, .int p2), (3, va_rf p3)] := hl
    exact w_L_unkey_L0 M hfl hno _ _ _ _ _ hf _ _ _ _ _ hC (lv_sub hl [0, 1, 2, 3] rfl))
set_option maxHeartbeats 4000000 in
set_option maxRecDepth 100000 in
theorem w_X7_added_L0 {p : Program} {l : Launch} {e : Env} {s : State} {m : MethodId} {args : Array Value} {below : List Frame} {meth : Method} {c : Code} {D : va_G} {cA : Nat → ClassId} {h0 : fSt} {r : (Int32 × fSt)} (M : fM p s m args meth c D cA h0 { frames := 0, cells := fCB h0 - fZ h0, slots := fLB h0 - fL h0, locals := 0 } cX7_added 1 (some (.int)) RX7) (hfl : l.stackTraces = false) (a0 : Option Nat) (h : fSt) (hf : f_X7_added_L0 a0 h = some r) : ∀ (H : Heap) (locs : List Loc) (cells slots : Nat) (ls : Array Slot), fCur D cA s h0 h H locs → lv_has ls 1 [(0, va_rf a0)] → W p l e { frames := 0, cells := fCB h0 - fZ h0, slots := fLB h0 - fL h0, locals := 0 } s m args below meth c H locs cells slots (MQ below (fQ D cA h0 r.2 (some (.int r.1))) args s (fCB h0 - fZ h0) (fLB h0 - fL h0) (fA h0)) (F0 m 0 ls []) := by
  obtain ⟨hx, hb, hml, hr, hlocks, hts, hown, K, hR⟩ := id M
  intro H locs cells slots ls hC hl
  refine fr_aload_n hx hb dX7_added_0 rfl (lv_at hl 0 rfl) ?_
  obtain ⟨x1, g2, hf⟩ := obind hf
  refine fr_get hx hb hts hown K hC ct_7 (fgI_get g2) (by decide) kw295 rfl dX7_added_1 ?_
  obtain rfl := Option.some.inj hf
  exact fr_iret hx hb hr hlocks hC dX7_added_4
set_option maxRecDepth 100000 in
theorem c_X7_added {l : Launch} (hfl : l.stackTraces = false) (D : va_G) (cA : Nat → ClassId) {o : Nat} {h : fSt} {r : (Int32 × fSt)} (hf : f_X7_added o h = some r) : fMet l yX7_added (wsC yX7_added cX7_added 1 (some (.int))) (0) (0) D cA [.ref o] h r.2 (some (.int r.1)) := by
  exact fMet.of (own := RX7) (by decide +kernel) rfl (lva1 rfl lva0) (lgl1 rfl lgl0) (Nat.le_of_ble_eq_true rfl) (fun p e s m args below meth c ls hnm _ M hC hl => by
    have hl : lv_has ls 1 [(0, va_rf (some o))] := hl
    exact w_X7_added_L0 M hfl _ _ hf _ _ _ _ _ hC (lv_sub hl [0] rfl))
set_option maxHeartbeats 4000000 in
set_option maxRecDepth 100000 in
theorem w_X7_mixed_L0 {p : Program} {l : Launch} {e : Env} {s : State} {m : MethodId} {args : Array Value} {below : List Frame} {meth : Method} {c : Code} {D : va_G} {cA : Nat → ClassId} {h0 : fSt} {r : (Int64 × fSt)} (M : fM p s m args meth c D cA h0 { frames := 0, cells := fCB h0 - fZ h0, slots := fLB h0 - fL h0, locals := 0 } cX7_mixed 4 (some (.long)) RX7) (hfl : l.stackTraces = false) (a0 : Int64) (a2 : Int64) (h : fSt) (hf : f_X7_mixed_L0 a0 a2 h = some r) : ∀ (H : Heap) (locs : List Loc) (cells slots : Nat) (ls : Array Slot), fCur D cA s h0 h H locs → lv_has ls 4 [(0, .long a0), (2, .long a2)] → W p l e { frames := 0, cells := fCB h0 - fZ h0, slots := fLB h0 - fL h0, locals := 0 } s m args below meth c H locs cells slots (MQ below (fQ D cA h0 r.2 (some (.long r.1))) args s (fCB h0 - fZ h0) (fLB h0 - fL h0) (fA h0)) (F0 m 0 ls []) := by
  obtain ⟨hx, hb, hml, hr, hlocks, hts, hown, K, hR⟩ := id M
  intro H locs cells slots ls hC hl
  refine lv_lload_n hx hb dX7_mixed_0 rfl (lv_at hl 0 rfl) ?_
  refine fr_ldc2 (v := (31 : Int64)) hx hb hts hown kw349 dX7_mixed_1 ?_
  refine lv_lmul hx hb dX7_mixed_4 ?_
  refine lv_lload_n hx hb dX7_mixed_5 rfl (lv_at hl 1 rfl) ?_
  refine lv_ladd hx hb dX7_mixed_6 ?_
  obtain rfl := Option.some.inj hf
  exact fr_lret hx hb hr hlocks hC dX7_mixed_7
set_option maxRecDepth 100000 in
theorem c_X7_mixed {l : Launch} (hfl : l.stackTraces = false) (D : va_G) (cA : Nat → ClassId) {p0 : Int64} {p1 : Int64} {h : fSt} {r : (Int64 × fSt)} (hf : f_X7_mixed p0 p1 h = some r) : fMet l yX7_mixed (wsC yX7_mixed cX7_mixed 4 (some (.long))) (0) (0) D cA [.long p0, .long p1] h r.2 (some (.long r.1)) := by
  exact fMet.of (own := RX7) (by decide +kernel) rfl (lva2 rfl (lva2 rfl lva0)) (lgl2 rfl (lgl2 rfl lgl0)) (Nat.le_of_ble_eq_true rfl) (fun p e s m args below meth c ls hnm _ M hC hl => by
    have hl : lv_has ls 4 [(0, .long p0), (2, .long p1)] := hl
    exact w_X7_mixed_L0 M hfl _ _ _ hf _ _ _ _ _ hC (lv_sub hl [0, 1] rfl))
set_option maxHeartbeats 4000000 in
set_option maxRecDepth 100000 in
theorem w_X7_mixedWithPoint_L5 {p : Program} {l : Launch} {e : Env} {s : State} {m : MethodId} {args : Array Value} {below : List Frame} {meth : Method} {c : Code} {D : va_G} {cA : Nat → ClassId} {h0 : fSt} {r : (Int64 × fSt)} (M : fM p s m args meth c D cA h0 { frames := 2, cells := fCB h0 - fZ h0, slots := fLB h0 - fL h0, locals := 55 } cX7_mixedWithPoint 6 (some (.long)) RX7) (hfl : l.stackTraces = false) : ∀ (n : Nat) (a0 : Option Nat) (a3 : Int64) (a5 : Int32) (h : fSt), f_X7_mixedWithPoint_L5 n a0 a3 a5 h = some r → ∀ (H : Heap) (locs : List Loc) (cells slots : Nat) (ls : Array Slot), fCur D cA s h0 h H locs → lv_has ls 6 [(0, va_rf a0), (3, .long a3), (5, .int a5)] → W p l e { frames := 2, cells := fCB h0 - fZ h0, slots := fLB h0 - fL h0, locals := 55 } s m args below meth c H locs cells slots (MQ below (fQ D cA h0 r.2 (some (.long r.1))) args s (fCB h0 - fZ h0) (fLB h0 - fL h0) (fA h0)) (F0 m 5 ls []) := by
  obtain ⟨hx, hb, hml, hr, hlocks, hts, hown, K, hR⟩ := id M
  intro n
  induction n with
  | zero =>
    intro a0 a3 a5 h hf
    exact nomatch (show (none : Option (Int64 × fSt)) = some r from hf)
  | succ n hk5 =>
    intro a0 a3 a5 h hf H locs cells slots ls hC hl
    refine lv_iload hx hb dX7_mixedWithPoint_5 (lv_at hl 2 rfl) ?_
    refine lv_iconst (v := (3 : Int32)) hx hb dX7_mixedWithPoint_7 (by decide) ?_
    refine lv_icmp_gt (tgt := 31) hx hb dX7_mixedWithPoint_8 (by decide) (fun c1 => ?_) (fun c1 => ?_)
    · replace hf := opos c1 hf
      refine lv_lload_n hx hb dX7_mixedWithPoint_31 rfl (lv_at hl 1 rfl) ?_
      obtain rfl := Option.some.inj hf
      exact fr_lret hx hb hr hlocks hC dX7_mixedWithPoint_32
    · replace hf := oneg c1 hf
      refine lv_lload_n hx hb dX7_mixedWithPoint_11 rfl (lv_at hl 1 rfl) ?_
      refine fr_aload_n hx hb dX7_mixedWithPoint_12 rfl (lv_at hl 0 rfl) ?_
      obtain ⟨x2, g3, hf⟩ := obind hf
      refine fr_get hx hb hts hown K hC ct_7 (fgR_get g3) (by decide) kw293 rfl dX7_mixedWithPoint_13 ?_
      refine lv_iload hx hb dX7_mixedWithPoint_16 (lv_at hl 2 rfl) ?_
      obtain ⟨b6, q7, hf⟩ := obind hf
      obtain ⟨r4, g5, hf⟩ := obind hf
      refine fr_callV hx hb hml hts hown K hC hR ct_5 (c_X5_part hfl D cA g5) 1 q7 kw416 kw413 kw414 kw415 kw59 (by decide +kernel) ⟨by exact Nat.le_of_ble_eq_true rfl, by exact Nat.le_of_ble_eq_true rfl⟩ rfl hl.1 (cat8 _ (by exact Nat.le_of_ble_eq_true rfl)) dX7_mixedWithPoint_18 rfl (fun H locs _ _ hC => ?_)
      obtain ⟨r8, g9, hf⟩ := obind hf
      refine fr_callS hx hb hml hts hown K hC hR (c_X7_mixed hfl D cA g9) 2 kw348 kw346 kw347 kw55 (by decide +kernel) ⟨by exact Nat.le_of_ble_eq_true rfl, by exact Nat.le_of_ble_eq_true rfl⟩ rfl hl.1 (cat8 _ (by exact Nat.le_of_ble_eq_true rfl)) dX7_mixedWithPoint_21 rfl (fun H locs _ _ hC => ?_)
      refine lv_lstore_n (lv' := [(3, .long r8.1), (0, va_rf a0), (5, .int a5)]) hx hb dX7_mixedWithPoint_24 rfl hl (by decide) (congrArg (List.cons _) (flk rfl (fld rfl (flk rfl fln)))) (fun ls hl => ?_)
      refine lv_iinc (v := (a5 + (1 : Int32))) (lv' := [(5, .int (a5 + (1 : Int32))), (3, .long r8.1), (0, va_rf a0)]) hx hb dX7_mixedWithPoint_25 hl (k := 2) rfl rfl (by decide) (congrArg (List.cons _) (flk rfl (flk rfl (fld rfl fln)))) (fun ls hl => ?_)
      refine lv_goto (tgt := 5) hx hb dX7_mixedWithPoint_28 (by decide) ?_
      exact hk5 _ _ _ _ hf _ _ _ _ _ hC (lv_sub hl [2, 1, 0] rfl)
set_option maxHeartbeats 4000000 in
set_option maxRecDepth 100000 in
theorem w_X7_mixedWithPoint_L0 {p : Program} {l : Launch} {e : Env} {s : State} {m : MethodId} {args : Array Value} {below : List Frame} {meth : Method} {c : Code} {D : va_G} {cA : Nat → ClassId} {h0 : fSt} {r : (Int64 × fSt)} (M : fM p s m args meth c D cA h0 { frames := 2, cells := fCB h0 - fZ h0, slots := fLB h0 - fL h0, locals := 55 } cX7_mixedWithPoint 6 (some (.long)) RX7) (hfl : l.stackTraces = false) (a0 : Option Nat) (a1 : Int64) (h : fSt) (hf : f_X7_mixedWithPoint_L0 a0 a1 h = some r) : ∀ (H : Heap) (locs : List Loc) (cells slots : Nat) (ls : Array Slot), fCur D cA s h0 h H locs → lv_has ls 6 [(0, va_rf a0), (1, .long a1)] → W p l e { frames := 2, cells := fCB h0 - fZ h0, slots := fLB h0 - fL h0, locals := 55 } s m args below meth c H locs cells slots (MQ below (fQ D cA h0 r.2 (some (.long r.1))) args s (fCB h0 - fZ h0) (fLB h0 - fL h0) (fA h0)) (F0 m 0 ls []) := by
  obtain ⟨hx, hb, hml, hr, hlocks, hts, hown, K, hR⟩ := id M
  intro H locs cells slots ls hC hl
  refine lv_lload_n hx hb dX7_mixedWithPoint_0 rfl (lv_at hl 1 rfl) ?_
  refine lv_lstore_n (lv' := [(3, .long a1), (0, va_rf a0), (1, .long a1)]) hx hb dX7_mixedWithPoint_1 rfl hl (by decide) (congrArg (List.cons _) (flk rfl (flk rfl fln))) (fun ls hl => ?_)
  refine lv_iconst (v := (0 : Int32)) hx hb dX7_mixedWithPoint_2 (by decide) ?_
  refine lv_istore (lv' := [(5, .int (0 : Int32)), (3, .long a1), (0, va_rf a0), (1, .long a1)]) hx hb dX7_mixedWithPoint_3 hl (by decide) (congrArg (List.cons _) (flk rfl (flk rfl (flk rfl fln)))) (fun ls hl => ?_)
  exact w_X7_mixedWithPoint_L5 M hfl 4096 _ _ _ _ hf _ _ _ _ _ hC (lv_sub hl [2, 1, 0] rfl)
set_option maxRecDepth 100000 in
theorem c_X7_mixedWithPoint {l : Launch} (hfl : l.stackTraces = false) (D : va_G) (cA : Nat → ClassId) {o : Nat} {p0 : Int64} {h : fSt} {r : (Int64 × fSt)} (hf : f_X7_mixedWithPoint o p0 h = some r) : fMet l yX7_mixedWithPoint (wsC yX7_mixedWithPoint cX7_mixedWithPoint 6 (some (.long))) (2) (55) D cA [.ref o, .long p0] h r.2 (some (.long r.1)) := by
  exact fMet.of (own := RX7) (by decide +kernel) rfl (lva1 rfl (lva2 rfl lva0)) (lgl1 rfl (lgl2 rfl lgl0)) (Nat.le_of_ble_eq_true rfl) (fun p e s m args below meth c ls hnm _ M hC hl => by
    have hl : lv_has ls 6 [(0, va_rf (some o)), (1, .long p0)] := hl
    exact w_X7_mixedWithPoint_L0 M hfl _ _ _ hf _ _ _ _ _ hC (lv_sub hl [0, 1] rfl))
set_option maxHeartbeats 4000000 in
set_option maxRecDepth 100000 in
theorem w_X7_mixedWithNode_L219 {p : Program} {l : Launch} {e : Env} {s : State} {m : MethodId} {args : Array Value} {below : List Frame} {meth : Method} {c : Code} {D : va_G} {cA : Nat → ClassId} {h0 : fSt} {r : (Int64 × fSt)} (M : fM p s m args meth c D cA h0 { frames := 25, cells := fCB h0 - fZ h0, slots := fLB h0 - fL h0, locals := 615 } cX7_mixedWithNode 8 (some (.long)) RX7) (hfl : l.stackTraces = false) : ∀ (n : Nat) (a0 : Option Nat) (a4 : Int64) (a6 : Int32) (h : fSt), f_X7_mixedWithNode_L219 n a0 a4 a6 h = some r → ∀ (H : Heap) (locs : List Loc) (cells slots : Nat) (ls : Array Slot), fCur D cA s h0 h H locs → lv_has ls 8 [(0, va_rf a0), (4, .long a4), (6, .int a6)] → W p l e { frames := 25, cells := fCB h0 - fZ h0, slots := fLB h0 - fL h0, locals := 615 } s m args below meth c H locs cells slots (MQ below (fQ D cA h0 r.2 (some (.long r.1))) args s (fCB h0 - fZ h0) (fLB h0 - fL h0) (fA h0)) (F0 m 219 ls []) := by
  obtain ⟨hx, hb, hml, hr, hlocks, hts, hown, K, hR⟩ := id M
  intro n
  induction n with
  | zero =>
    intro a0 a4 a6 h hf
    exact nomatch (show (none : Option (Int64 × fSt)) = some r from hf)
  | succ n hk219 =>
    intro a0 a4 a6 h hf H locs cells slots ls hC hl
    refine lv_iload hx hb dX7_mixedWithNode_219 (lv_at hl 2 rfl) ?_
    refine lv_iconst (v := (3 : Int32)) hx hb dX7_mixedWithNode_221 (by decide) ?_
    refine lv_icmp_gt (tgt := 262) hx hb dX7_mixedWithNode_222 (by decide) (fun c1 => ?_) (fun c1 => ?_)
    · replace hf := opos c1 hf
      refine lv_lload hx hb dX7_mixedWithNode_262 (lv_at hl 1 rfl) ?_
      obtain rfl := Option.some.inj hf
      exact fr_lret hx hb hr hlocks hC dX7_mixedWithNode_264
    · replace hf := oneg c1 hf
      refine fr_aload_n hx hb dX7_mixedWithNode_225 rfl (lv_at hl 0 rfl) ?_
      obtain ⟨x2, g3, hf⟩ := obind hf
      refine fr_get hx hb hts hown K hC ct_7 (fgR_get g3) (by decide) kw294 rfl dX7_mixedWithNode_226 ?_
      refine lv_iload hx hb dX7_mixedWithNode_229 (lv_at hl 2 rfl) ?_
      obtain ⟨b6, q7, hf⟩ := obind hf
      obtain ⟨r4, g5, hf⟩ := obind hf
      refine fr_callV hx hb hml hts hown K hC hR ct_0 (c_X0_side hfl D cA g5) 1 q7 kw465 kw462 kw463 kw464 kw60 (by decide +kernel) ⟨by exact Nat.le_of_ble_eq_true rfl, by exact Nat.le_of_ble_eq_true rfl⟩ rfl hl.1 (cat8 _ (by exact Nat.le_of_ble_eq_true rfl)) dX7_mixedWithNode_231 rfl (fun H locs _ _ hC => ?_)
      refine fr_astore (lv' := [(7, va_rf r4.1), (0, va_rf a0), (4, .long a4), (6, .int a6)]) hx hb dX7_mixedWithNode_234 hl (by decide) (congrArg (List.cons _) (flk rfl (flk rfl (flk rfl fln)))) (fun ls hl => ?_)
      refine lv_lload hx hb dX7_mixedWithNode_236 (lv_at hl 2 rfl) ?_
      refine fr_aload hx hb dX7_mixedWithNode_238 (lv_at hl 0 rfl) ?_
      obtain ⟨x8, g9, hf⟩ := obind hf
      refine fr_get hx hb hts hown K hC ct_1 (fgJ_get g9) (by decide) kw269 rfl dX7_mixedWithNode_240 ?_
      obtain ⟨r10, g11, hf⟩ := obind hf
      refine fr_callS hx hb hml hts hown K hC hR (c_X7_mixed hfl D cA g11) 2 kw348 kw346 kw347 kw55 (by decide +kernel) ⟨by exact Nat.le_of_ble_eq_true rfl, by exact Nat.le_of_ble_eq_true rfl⟩ rfl hl.1 (cat8 _ (by exact Nat.le_of_ble_eq_true rfl)) dX7_mixedWithNode_243 rfl (fun H locs _ _ hC => ?_)
      refine fr_aload hx hb dX7_mixedWithNode_246 (lv_at hl 0 rfl) ?_
      obtain ⟨x12, g13, hf⟩ := obind hf
      refine fr_get hx hb hts hown K hC ct_1 (fgJ_get g13) (by decide) kw271 rfl dX7_mixedWithNode_248 ?_
      obtain ⟨r14, g15, hf⟩ := obind hf
      refine fr_callS hx hb hml hts hown K hC hR (c_X7_mixed hfl D cA g15) 2 kw348 kw346 kw347 kw55 (by decide +kernel) ⟨by exact Nat.le_of_ble_eq_true rfl, by exact Nat.le_of_ble_eq_true rfl⟩ rfl hl.1 (cat8 _ (by exact Nat.le_of_ble_eq_true rfl)) dX7_mixedWithNode_251 rfl (fun H locs _ _ hC => ?_)
      refine lv_lstore (lv' := [(4, .long r14.1), (7, va_rf r4.1), (0, va_rf a0), (6, .int a6)]) hx hb dX7_mixedWithNode_254 hl (by decide) (congrArg (List.cons _) (flk rfl (flk rfl (fld rfl (flk rfl fln))))) (fun ls hl => ?_)
      refine lv_iinc (v := (a6 + (1 : Int32))) (lv' := [(6, .int (a6 + (1 : Int32))), (4, .long r14.1), (7, va_rf r4.1), (0, va_rf a0)]) hx hb dX7_mixedWithNode_256 hl (k := 3) rfl rfl (by decide) (congrArg (List.cons _) (flk rfl (flk rfl (flk rfl (fld rfl fln))))) (fun ls hl => ?_)
      refine lv_goto (tgt := 219) hx hb dX7_mixedWithNode_259 (by decide) ?_
      exact hk219 _ _ _ _ hf _ _ _ _ _ hC (lv_sub hl [3, 1, 0] rfl)
set_option maxHeartbeats 4000000 in
set_option maxRecDepth 100000 in
theorem w_X7_mixedWithNode_L129 {p : Program} {l : Launch} {e : Env} {s : State} {m : MethodId} {args : Array Value} {below : List Frame} {meth : Method} {c : Code} {D : va_G} {cA : Nat → ClassId} {h0 : fSt} {r : (Int64 × fSt)} (M : fM p s m args meth c D cA h0 { frames := 25, cells := fCB h0 - fZ h0, slots := fLB h0 - fL h0, locals := 615 } cX7_mixedWithNode 8 (some (.long)) RX7) (hfl : l.stackTraces = false) (a0 : Option Nat) (a3 : Option Nat) (s1 : Int64) (s0 : Int64) (h : fSt) (hf : f_X7_mixedWithNode_L129 a0 a3 s1 s0 h = some r) : ∀ (H : Heap) (locs : List Loc) (cells slots : Nat) (ls : Array Slot), fCur D cA s h0 h H locs → lv_has ls 8 [(0, va_rf a0), (3, va_rf a3)] → W p l e { frames := 25, cells := fCB h0 - fZ h0, slots := fLB h0 - fL h0, locals := 615 } s m args below meth c H locs cells slots (MQ below (fQ D cA h0 r.2 (some (.long r.1))) args s (fCB h0 - fZ h0) (fLB h0 - fL h0) (fA h0)) (F0 m 129 ls [.long s1, .long s0]) := by
  obtain ⟨hx, hb, hml, hr, hlocks, hts, hown, K, hR⟩ := id M
  intro H locs cells slots ls hC hl
  obtain ⟨r16, g17, hf⟩ := obind hf
  refine fr_callS hx hb hml hts hown K hC hR (c_X7_mixed hfl D cA g17) 2 kw348 kw346 kw347 kw55 (by decide +kernel) ⟨by exact Nat.le_of_ble_eq_true rfl, by exact Nat.le_of_ble_eq_true rfl⟩ rfl hl.1 (cat8 _ (by exact Nat.le_of_ble_eq_true rfl)) dX7_mixedWithNode_129 rfl (fun H locs _ _ hC => ?_)
  refine lv_lstore (lv' := [(4, .long r16.1), (0, va_rf a0), (3, va_rf a3)]) hx hb dX7_mixedWithNode_132 hl (by decide) (congrArg (List.cons _) (flk rfl (flk (adj2 _ _) fln))) (fun ls hl => ?_)
  refine lv_lload hx hb dX7_mixedWithNode_134 (lv_at hl 0 rfl) ?_
  refine fr_aload_n hx hb dX7_mixedWithNode_136 rfl (lv_at hl 2 rfl) ?_
  refine fr_aload_n hx hb dX7_mixedWithNode_137 rfl (lv_at hl 1 rfl) ?_
  obtain ⟨x18, g19, hf⟩ := obind hf
  refine fr_get hx hb hts hown K hC ct_7 (fgI_get g19) (by decide) kw297 rfl dX7_mixedWithNode_138 ?_
  refine lv_iconst (v := (0 : Int32)) hx hb dX7_mixedWithNode_141 (by decide) ?_
  obtain ⟨r20, g21, hf⟩ := obind hf
  refine fr_callS hx hb hml hts hown K hC hR (c_X7_strengthOf hfl D cA 8 g21) 3 kw391 kw389 kw390 kw55 (by decide +kernel) ⟨by exact Nat.le_of_ble_eq_true rfl, by exact Nat.le_of_ble_eq_true rfl⟩ rfl hl.1 (cat8 _ (by exact Nat.le_of_ble_eq_true rfl)) dX7_mixedWithNode_142 rfl (fun H locs _ _ hC => ?_)
  refine lv_i2l (v := (Int32.toInt64 r20.1)) hx hb dX7_mixedWithNode_145 rfl ?_
  obtain ⟨r22, g23, hf⟩ := obind hf
  refine fr_callS hx hb hml hts hown K hC hR (c_X7_mixed hfl D cA g23) 2 kw348 kw346 kw347 kw55 (by decide +kernel) ⟨by exact Nat.le_of_ble_eq_true rfl, by exact Nat.le_of_ble_eq_true rfl⟩ rfl hl.1 (cat8 _ (by exact Nat.le_of_ble_eq_true rfl)) dX7_mixedWithNode_146 rfl (fun H locs _ _ hC => ?_)
  refine lv_lstore (lv' := [(4, .long r22.1), (0, va_rf a0), (3, va_rf a3)]) hx hb dX7_mixedWithNode_149 hl (by decide) (congrArg (List.cons _) (fld rfl (flk rfl (flk (adj2 _ _) fln)))) (fun ls hl => ?_)
  refine lv_lload hx hb dX7_mixedWithNode_151 (lv_at hl 0 rfl) ?_
  refine fr_aload_n hx hb dX7_mixedWithNode_153 rfl (lv_at hl 2 rfl) ?_
  obtain ⟨x24, g25, hf⟩ := obind hf
  refine fr_get hx hb hts hown K hC ct_4 (fgI_get g25) (by decide) kw190 rfl dX7_mixedWithNode_154 ?_
  refine lv_i2l (v := (Int32.toInt64 x24)) hx hb dX7_mixedWithNode_157 rfl ?_
  obtain ⟨r26, g27, hf⟩ := obind hf
  refine fr_callS hx hb hml hts hown K hC hR (c_X7_mixed hfl D cA g27) 2 kw348 kw346 kw347 kw55 (by decide +kernel) ⟨by exact Nat.le_of_ble_eq_true rfl, by exact Nat.le_of_ble_eq_true rfl⟩ rfl hl.1 (cat8 _ (by exact Nat.le_of_ble_eq_true rfl)) dX7_mixedWithNode_158 rfl (fun H locs _ _ hC => ?_)
  refine lv_lstore (lv' := [(4, .long r26.1), (0, va_rf a0), (3, va_rf a3)]) hx hb dX7_mixedWithNode_161 hl (by decide) (congrArg (List.cons _) (fld rfl (flk rfl (flk (adj2 _ _) fln)))) (fun ls hl => ?_)
  refine fr_aload_n hx hb dX7_mixedWithNode_163 rfl (lv_at hl 1 rfl) ?_
  refine fr_aload_n hx hb dX7_mixedWithNode_164 rfl (lv_at hl 2 rfl) ?_
  refine lv_iconst (v := (1 : Int32)) hx hb dX7_mixedWithNode_165 (by decide) ?_
  refine lv_iconst (v := (2 : Int32)) hx hb dX7_mixedWithNode_166 (by decide) ?_
  obtain ⟨b30, q31, hf⟩ := obind hf
  obtain ⟨r28, g29, hf⟩ := obind hf
  refine fr_callV hx hb hml hts hown K hC hR ct_7 (c_X7_raise hfl D cA g29) 3 q31 kw395 kw392 kw394 kw5 kw55 (by decide +kernel) ⟨by exact Nat.le_of_ble_eq_true rfl, by exact Nat.le_of_ble_eq_true rfl⟩ rfl hl.1 (cat8 _ (by exact Nat.le_of_ble_eq_true rfl)) dX7_mixedWithNode_167 rfl (fun H locs _ _ hC => ?_)
  refine fr_aload_n hx hb dX7_mixedWithNode_170 rfl (lv_at hl 1 rfl) ?_
  refine lv_lload hx hb dX7_mixedWithNode_171 (lv_at hl 0 rfl) ?_
  obtain ⟨b34, q35, hf⟩ := obind hf
  obtain ⟨r32, g33, hf⟩ := obind hf
  refine fr_callV hx hb hml hts hown K hC hR ct_7 (c_X7_mixedWithPoint hfl D cA g33) 1 q35 kw412 kw409 kw411 kw7 kw55 (by decide +kernel) ⟨by exact Nat.le_of_ble_eq_true rfl, by exact Nat.le_of_ble_eq_true rfl⟩ rfl hl.1 (cat8 _ (by exact Nat.le_of_ble_eq_true rfl)) dX7_mixedWithNode_173 rfl (fun H locs _ _ hC => ?_)
  refine lv_lstore (lv' := [(4, .long r32.1), (0, va_rf a0), (3, va_rf a3)]) hx hb dX7_mixedWithNode_176 hl (by decide) (congrArg (List.cons _) (fld rfl (flk rfl (flk (adj2 _ _) fln)))) (fun ls hl => ?_)
  refine fr_aload_n hx hb dX7_mixedWithNode_178 rfl (lv_at hl 1 rfl) ?_
  obtain ⟨x36, g37, hf⟩ := obind hf
  refine fr_get hx hb hts hown K hC ct_7 (fgR_get g37) (by decide) kw293 rfl dX7_mixedWithNode_179 ?_
  refine lv_lconst (v := (1 : Int64)) hx hb dX7_mixedWithNode_182 (by decide) ?_
  refine fr_ldc2 (v := (2 : Int64)) hx hb hts hown kw420 dX7_mixedWithNode_183 ?_
  refine lv_lconst (v := (1 : Int64)) hx hb dX7_mixedWithNode_186 (by decide) ?_
  obtain ⟨b40, q41, hf⟩ := obind hf
  obtain ⟨r38, g39, hf⟩ := obind hf
  refine fr_callV hx hb hml hts hown K hC hR ct_5 (c_X5_set hfl D cA g39) 3 q41 kw399 kw396 kw397 kw398 kw59 (by decide +kernel) ⟨by exact Nat.le_of_ble_eq_true rfl, by exact Nat.le_of_ble_eq_true rfl⟩ rfl hl.1 (cat8 _ (by exact Nat.le_of_ble_eq_true rfl)) dX7_mixedWithNode_187 rfl (fun H locs _ _ hC => ?_)
  refine fr_aload_n hx hb dX7_mixedWithNode_190 rfl (lv_at hl 1 rfl) ?_
  obtain ⟨x42, g43, hf⟩ := obind hf
  refine fr_get hx hb hts hown K hC ct_7 (fgR_get g43) (by decide) kw293 rfl dX7_mixedWithNode_191 ?_
  refine fr_aload_n hx hb dX7_mixedWithNode_194 rfl (lv_at hl 2 rfl) ?_
  refine fr_aload_n hx hb dX7_mixedWithNode_195 rfl (lv_at hl 1 rfl) ?_
  obtain ⟨x44, g45, hf⟩ := obind hf
  refine fr_get hx hb hts hown K hC ct_7 (fgI_get g45) (by decide) kw297 rfl dX7_mixedWithNode_196 ?_
  refine lv_iconst (v := (0 : Int32)) hx hb dX7_mixedWithNode_199 (by decide) ?_
  obtain ⟨r46, g47, hf⟩ := obind hf
  refine fr_callS hx hb hml hts hown K hC hR (c_X7_sink hfl D cA 8 g47) 4 kw423 kw421 kw422 kw55 (by decide +kernel) ⟨by exact Nat.le_of_ble_eq_true rfl, by exact Nat.le_of_ble_eq_true rfl⟩ rfl hl.1 (cat8 _ (by exact Nat.le_of_ble_eq_true rfl)) dX7_mixedWithNode_200 rfl (fun H locs _ _ hC => ?_)
  refine fr_aload_n hx hb dX7_mixedWithNode_203 rfl (lv_at hl 1 rfl) ?_
  refine lv_lload hx hb dX7_mixedWithNode_204 (lv_at hl 0 rfl) ?_
  obtain ⟨b50, q51, hf⟩ := obind hf
  obtain ⟨r48, g49, hf⟩ := obind hf
  refine fr_callV hx hb hml hts hown K hC hR ct_7 (c_X7_mixedWithPoint hfl D cA g49) 1 q51 kw412 kw409 kw411 kw7 kw55 (by decide +kernel) ⟨by exact Nat.le_of_ble_eq_true rfl, by exact Nat.le_of_ble_eq_true rfl⟩ rfl hl.1 (cat8 _ (by exact Nat.le_of_ble_eq_true rfl)) dX7_mixedWithNode_206 rfl (fun H locs _ _ hC => ?_)
  refine lv_lstore (lv' := [(4, .long r48.1), (0, va_rf a0), (3, va_rf a3)]) hx hb dX7_mixedWithNode_209 hl (by decide) (congrArg (List.cons _) (fld rfl (flk rfl (flk (adj2 _ _) fln)))) (fun ls hl => ?_)
  refine fr_aload_n hx hb dX7_mixedWithNode_211 rfl (lv_at hl 1 rfl) ?_
  refine fr_aload_n hx hb dX7_mixedWithNode_212 rfl (lv_at hl 2 rfl) ?_
  obtain ⟨b54, q55, hf⟩ := obind hf
  obtain ⟨r52, g53, hf⟩ := obind hf
  refine fr_callV hx hb hml hts hown K hC hR ct_7 (c_X7_gatherBounds hfl D cA g53) 1 q55 kw435 kw432 kw434 kw8 kw55 (by decide +kernel) ⟨by exact Nat.le_of_ble_eq_true rfl, by exact Nat.le_of_ble_eq_true rfl⟩ rfl hl.1 (cat8 _ (by exact Nat.le_of_ble_eq_true rfl)) dX7_mixedWithNode_213 rfl (fun H locs _ _ hC => ?_)
  refine lv_iconst (v := (0 : Int32)) hx hb dX7_mixedWithNode_216 (by decide) ?_
  refine lv_istore (lv' := [(6, .int (0 : Int32)), (4, .long r48.1), (0, va_rf a0), (3, va_rf a3)]) hx hb dX7_mixedWithNode_217 hl (by decide) (congrArg (List.cons _) (flk rfl (flk rfl (flk rfl fln)))) (fun ls hl => ?_)
  exact w_X7_mixedWithNode_L219 M hfl 4096 _ _ _ _ hf _ _ _ _ _ hC (lv_sub hl [2, 1, 0] rfl)
set_option maxHeartbeats 4000000 in
set_option maxRecDepth 100000 in
theorem w_X7_mixedWithNode_L0 {p : Program} {l : Launch} {e : Env} {s : State} {m : MethodId} {args : Array Value} {below : List Frame} {meth : Method} {c : Code} {D : va_G} {cA : Nat → ClassId} {h0 : fSt} {r : (Int64 × fSt)} (M : fM p s m args meth c D cA h0 { frames := 25, cells := fCB h0 - fZ h0, slots := fLB h0 - fL h0, locals := 615 } cX7_mixedWithNode 8 (some (.long)) RX7) (hfl : l.stackTraces = false) (a0 : Option Nat) (a1 : Int64) (a3 : Option Nat) (h : fSt) (hf : f_X7_mixedWithNode_L0 a0 a1 a3 h = some r) : ∀ (H : Heap) (locs : List Loc) (cells slots : Nat) (ls : Array Slot), fCur D cA s h0 h H locs → lv_has ls 8 [(0, va_rf a0), (1, .long a1), (3, va_rf a3)] → W p l e { frames := 25, cells := fCB h0 - fZ h0, slots := fLB h0 - fL h0, locals := 615 } s m args below meth c H locs cells slots (MQ below (fQ D cA h0 r.2 (some (.long r.1))) args s (fCB h0 - fZ h0) (fLB h0 - fL h0) (fA h0)) (F0 m 0 ls []) := by
  obtain ⟨hx, hb, hml, hr, hlocks, hts, hown, K, hR⟩ := id M
  intro H locs cells slots ls hC hl
  refine lv_lload_n hx hb dX7_mixedWithNode_0 rfl (lv_at hl 1 rfl) ?_
  refine fr_aload_n hx hb dX7_mixedWithNode_1 rfl (lv_at hl 2 rfl) ?_
  obtain ⟨x56, g57, hf⟩ := obind hf
  refine fr_get hx hb hts hown K hC ct_4 (fgI_get g57) (by decide) kw152 rfl dX7_mixedWithNode_2 ?_
  refine lv_i2l (v := (Int32.toInt64 x56)) hx hb dX7_mixedWithNode_5 rfl ?_
  obtain ⟨r58, g59, hf⟩ := obind hf
  refine fr_callS hx hb hml hts hown K hC hR (c_X7_mixed hfl D cA g59) 2 kw348 kw346 kw347 kw55 (by decide +kernel) ⟨by exact Nat.le_of_ble_eq_true rfl, by exact Nat.le_of_ble_eq_true rfl⟩ rfl hl.1 (cat8 _ (by exact Nat.le_of_ble_eq_true rfl)) dX7_mixedWithNode_6 rfl (fun H locs _ _ hC => ?_)
  refine lv_lstore (lv' := [(4, .long r58.1), (0, va_rf a0), (1, .long a1), (3, va_rf a3)]) hx hb dX7_mixedWithNode_9 hl (by decide) (congrArg (List.cons _) (flk rfl (flk rfl (flk (adj2 _ _) fln)))) (fun ls hl => ?_)
  refine lv_lload hx hb dX7_mixedWithNode_11 (lv_at hl 0 rfl) ?_
  refine fr_aload_n hx hb dX7_mixedWithNode_13 rfl (lv_at hl 3 rfl) ?_
  obtain ⟨r60, g61, hf⟩ := obind hf
  refine fr_callS hx hb hml hts hown K hC hR (c_X7_parentNumber hfl D cA g61) 1 kw361 kw359 kw360 kw55 (by decide +kernel) ⟨by exact Nat.le_of_ble_eq_true rfl, by exact Nat.le_of_ble_eq_true rfl⟩ rfl hl.1 (cat8 _ (by exact Nat.le_of_ble_eq_true rfl)) dX7_mixedWithNode_14 rfl (fun H locs _ _ hC => ?_)
  refine lv_i2l (v := (Int32.toInt64 r60.1)) hx hb dX7_mixedWithNode_17 rfl ?_
  obtain ⟨r62, g63, hf⟩ := obind hf
  refine fr_callS hx hb hml hts hown K hC hR (c_X7_mixed hfl D cA g63) 2 kw348 kw346 kw347 kw55 (by decide +kernel) ⟨by exact Nat.le_of_ble_eq_true rfl, by exact Nat.le_of_ble_eq_true rfl⟩ rfl hl.1 (cat8 _ (by exact Nat.le_of_ble_eq_true rfl)) dX7_mixedWithNode_18 rfl (fun H locs _ _ hC => ?_)
  refine lv_lstore (lv' := [(4, .long r62.1), (0, va_rf a0), (1, .long a1), (3, va_rf a3)]) hx hb dX7_mixedWithNode_21 hl (by decide) (congrArg (List.cons _) (fld rfl (flk rfl (flk rfl (flk (adj2 _ _) fln))))) (fun ls hl => ?_)
  refine lv_lload hx hb dX7_mixedWithNode_23 (lv_at hl 0 rfl) ?_
  refine fr_aload_n hx hb dX7_mixedWithNode_25 rfl (lv_at hl 3 rfl) ?_
  obtain ⟨b66, q67, hf⟩ := obind hf
  obtain ⟨r64, g65, hf⟩ := obind hf
  refine fr_callV hx hb hml hts hown K hC hR ct_4 (c_X4_depth hfl D cA g65) 0 q67 kw365 kw362 kw363 kw364 kw56 (by decide +kernel) ⟨by exact Nat.le_of_ble_eq_true rfl, by exact Nat.le_of_ble_eq_true rfl⟩ rfl hl.1 (cat8 _ (by exact Nat.le_of_ble_eq_true rfl)) dX7_mixedWithNode_26 rfl (fun H locs _ _ hC => ?_)
  refine lv_i2l (v := (Int32.toInt64 r64.1)) hx hb dX7_mixedWithNode_29 rfl ?_
  obtain ⟨r68, g69, hf⟩ := obind hf
  refine fr_callS hx hb hml hts hown K hC hR (c_X7_mixed hfl D cA g69) 2 kw348 kw346 kw347 kw55 (by decide +kernel) ⟨by exact Nat.le_of_ble_eq_true rfl, by exact Nat.le_of_ble_eq_true rfl⟩ rfl hl.1 (cat8 _ (by exact Nat.le_of_ble_eq_true rfl)) dX7_mixedWithNode_30 rfl (fun H locs _ _ hC => ?_)
  refine lv_lstore (lv' := [(4, .long r68.1), (0, va_rf a0), (1, .long a1), (3, va_rf a3)]) hx hb dX7_mixedWithNode_33 hl (by decide) (congrArg (List.cons _) (fld rfl (flk rfl (flk rfl (flk (adj2 _ _) fln))))) (fun ls hl => ?_)
  refine lv_lload hx hb dX7_mixedWithNode_35 (lv_at hl 0 rfl) ?_
  refine fr_aload_n hx hb dX7_mixedWithNode_37 rfl (lv_at hl 3 rfl) ?_
  obtain ⟨x70, g71, hf⟩ := obind hf
  refine fr_get hx hb hts hown K hC ct_4 (fgR_get g71) (by decide) kw159 rfl dX7_mixedWithNode_38 ?_
  refine fr_aload_n hx hb dX7_mixedWithNode_41 rfl (lv_at hl 1 rfl) ?_
  obtain ⟨x72, g73, hf⟩ := obind hf
  refine fr_get hx hb hts hown K hC ct_7 (fgI_get g73) (by decide) kw297 rfl dX7_mixedWithNode_42 ?_
  obtain ⟨b76, q77, hf⟩ := obind hf
  obtain ⟨r74, g75, hf⟩ := obind hf
  refine fr_callV hx hb hml hts hown K hC hR ct_6 (c_X6_at hfl D cA g75) 1 q77 kw369 kw366 kw367 kw368 kw57 (by decide +kernel) ⟨by exact Nat.le_of_ble_eq_true rfl, by exact Nat.le_of_ble_eq_true rfl⟩ rfl hl.1 (cat8 _ (by exact Nat.le_of_ble_eq_true rfl)) dX7_mixedWithNode_45 rfl (fun H locs _ _ hC => ?_)
  refine lv_i2l (v := (Int32.toInt64 r74.1)) hx hb dX7_mixedWithNode_48 rfl ?_
  obtain ⟨r78, g79, hf⟩ := obind hf
  refine fr_callS hx hb hml hts hown K hC hR (c_X7_mixed hfl D cA g79) 2 kw348 kw346 kw347 kw55 (by decide +kernel) ⟨by exact Nat.le_of_ble_eq_true rfl, by exact Nat.le_of_ble_eq_true rfl⟩ rfl hl.1 (cat8 _ (by exact Nat.le_of_ble_eq_true rfl)) dX7_mixedWithNode_49 rfl (fun H locs _ _ hC => ?_)
  refine lv_lstore (lv' := [(4, .long r78.1), (0, va_rf a0), (1, .long a1), (3, va_rf a3)]) hx hb dX7_mixedWithNode_52 hl (by decide) (congrArg (List.cons _) (fld rfl (flk rfl (flk rfl (flk (adj2 _ _) fln))))) (fun ls hl => ?_)
  refine lv_lload hx hb dX7_mixedWithNode_54 (lv_at hl 0 rfl) ?_
  refine fr_aload_n hx hb dX7_mixedWithNode_56 rfl (lv_at hl 3 rfl) ?_
  obtain ⟨x80, g81, hf⟩ := obind hf
  refine fr_get hx hb hts hown K hC ct_4 (fgR_get g81) (by decide) kw162 rfl dX7_mixedWithNode_57 ?_
  refine fr_aload_n hx hb dX7_mixedWithNode_60 rfl (lv_at hl 1 rfl) ?_
  obtain ⟨x82, g83, hf⟩ := obind hf
  refine fr_get hx hb hts hown K hC ct_7 (fgI_get g83) (by decide) kw297 rfl dX7_mixedWithNode_61 ?_
  obtain ⟨b86, q87, hf⟩ := obind hf
  obtain ⟨r84, g85, hf⟩ := obind hf
  refine fr_callV hx hb hml hts hown K hC hR ct_6 (c_X6_at hfl D cA g85) 1 q87 kw369 kw366 kw367 kw368 kw57 (by decide +kernel) ⟨by exact Nat.le_of_ble_eq_true rfl, by exact Nat.le_of_ble_eq_true rfl⟩ rfl hl.1 (cat8 _ (by exact Nat.le_of_ble_eq_true rfl)) dX7_mixedWithNode_64 rfl (fun H locs _ _ hC => ?_)
  refine lv_i2l (v := (Int32.toInt64 r84.1)) hx hb dX7_mixedWithNode_67 rfl ?_
  obtain ⟨r88, g89, hf⟩ := obind hf
  refine fr_callS hx hb hml hts hown K hC hR (c_X7_mixed hfl D cA g89) 2 kw348 kw346 kw347 kw55 (by decide +kernel) ⟨by exact Nat.le_of_ble_eq_true rfl, by exact Nat.le_of_ble_eq_true rfl⟩ rfl hl.1 (cat8 _ (by exact Nat.le_of_ble_eq_true rfl)) dX7_mixedWithNode_68 rfl (fun H locs _ _ hC => ?_)
  refine lv_lstore (lv' := [(4, .long r88.1), (0, va_rf a0), (1, .long a1), (3, va_rf a3)]) hx hb dX7_mixedWithNode_71 hl (by decide) (congrArg (List.cons _) (fld rfl (flk rfl (flk rfl (flk (adj2 _ _) fln))))) (fun ls hl => ?_)
  refine lv_lload hx hb dX7_mixedWithNode_73 (lv_at hl 0 rfl) ?_
  refine fr_aload_n hx hb dX7_mixedWithNode_75 rfl (lv_at hl 3 rfl) ?_
  obtain ⟨x90, g91, hf⟩ := obind hf
  refine fr_get hx hb hts hown K hC ct_4 (fgR_get g91) (by decide) kw165 rfl dX7_mixedWithNode_76 ?_
  refine fr_aload_n hx hb dX7_mixedWithNode_79 rfl (lv_at hl 1 rfl) ?_
  obtain ⟨x92, g93, hf⟩ := obind hf
  refine fr_get hx hb hts hown K hC ct_7 (fgI_get g93) (by decide) kw297 rfl dX7_mixedWithNode_80 ?_
  obtain ⟨b96, q97, hf⟩ := obind hf
  obtain ⟨r94, g95, hf⟩ := obind hf
  refine fr_callV hx hb hml hts hown K hC hR ct_6 (c_X6_at hfl D cA g95) 1 q97 kw369 kw366 kw367 kw368 kw57 (by decide +kernel) ⟨by exact Nat.le_of_ble_eq_true rfl, by exact Nat.le_of_ble_eq_true rfl⟩ rfl hl.1 (cat8 _ (by exact Nat.le_of_ble_eq_true rfl)) dX7_mixedWithNode_83 rfl (fun H locs _ _ hC => ?_)
  refine lv_i2l (v := (Int32.toInt64 r94.1)) hx hb dX7_mixedWithNode_86 rfl ?_
  obtain ⟨r98, g99, hf⟩ := obind hf
  refine fr_callS hx hb hml hts hown K hC hR (c_X7_mixed hfl D cA g99) 2 kw348 kw346 kw347 kw55 (by decide +kernel) ⟨by exact Nat.le_of_ble_eq_true rfl, by exact Nat.le_of_ble_eq_true rfl⟩ rfl hl.1 (cat8 _ (by exact Nat.le_of_ble_eq_true rfl)) dX7_mixedWithNode_87 rfl (fun H locs _ _ hC => ?_)
  refine lv_lstore (lv' := [(4, .long r98.1), (0, va_rf a0), (1, .long a1), (3, va_rf a3)]) hx hb dX7_mixedWithNode_90 hl (by decide) (congrArg (List.cons _) (fld rfl (flk rfl (flk rfl (flk (adj2 _ _) fln))))) (fun ls hl => ?_)
  refine lv_lload hx hb dX7_mixedWithNode_92 (lv_at hl 0 rfl) ?_
  refine fr_aload_n hx hb dX7_mixedWithNode_94 rfl (lv_at hl 3 rfl) ?_
  obtain ⟨x100, g101, hf⟩ := obind hf
  refine fr_get hx hb hts hown K hC ct_4 (fgR_get g101) (by decide) kw167 rfl dX7_mixedWithNode_95 ?_
  refine fr_aload_n hx hb dX7_mixedWithNode_98 rfl (lv_at hl 1 rfl) ?_
  obtain ⟨x102, g103, hf⟩ := obind hf
  refine fr_get hx hb hts hown K hC ct_7 (fgI_get g103) (by decide) kw297 rfl dX7_mixedWithNode_99 ?_
  obtain ⟨b106, q107, hf⟩ := obind hf
  obtain ⟨r104, g105, hf⟩ := obind hf
  refine fr_callV hx hb hml hts hown K hC hR ct_6 (c_X6_at hfl D cA g105) 1 q107 kw369 kw366 kw367 kw368 kw57 (by decide +kernel) ⟨by exact Nat.le_of_ble_eq_true rfl, by exact Nat.le_of_ble_eq_true rfl⟩ rfl hl.1 (cat8 _ (by exact Nat.le_of_ble_eq_true rfl)) dX7_mixedWithNode_102 rfl (fun H locs _ _ hC => ?_)
  refine lv_i2l (v := (Int32.toInt64 r104.1)) hx hb dX7_mixedWithNode_105 rfl ?_
  obtain ⟨r108, g109, hf⟩ := obind hf
  refine fr_callS hx hb hml hts hown K hC hR (c_X7_mixed hfl D cA g109) 2 kw348 kw346 kw347 kw55 (by decide +kernel) ⟨by exact Nat.le_of_ble_eq_true rfl, by exact Nat.le_of_ble_eq_true rfl⟩ rfl hl.1 (cat8 _ (by exact Nat.le_of_ble_eq_true rfl)) dX7_mixedWithNode_106 rfl (fun H locs _ _ hC => ?_)
  refine lv_lstore (lv' := [(4, .long r108.1), (0, va_rf a0), (1, .long a1), (3, va_rf a3)]) hx hb dX7_mixedWithNode_109 hl (by decide) (congrArg (List.cons _) (fld rfl (flk rfl (flk rfl (flk (adj2 _ _) fln))))) (fun ls hl => ?_)
  refine lv_lload hx hb dX7_mixedWithNode_111 (lv_at hl 0 rfl) ?_
  refine fr_aload_n hx hb dX7_mixedWithNode_113 rfl (lv_at hl 3 rfl) ?_
  refine fr_aload_n hx hb dX7_mixedWithNode_114 rfl (lv_at hl 1 rfl) ?_
  obtain ⟨x110, g111, hf⟩ := obind hf
  refine fr_get hx hb hts hown K hC ct_7 (fgI_get g111) (by decide) kw297 rfl dX7_mixedWithNode_115 ?_
  obtain ⟨b114, q115, hf⟩ := obind hf
  obtain ⟨r112, g113, hf⟩ := obind hf
  refine fr_callV hx hb hml hts hown K hC hR ct_4 (c_X4_isShownAt hfl D cA g113) 1 q115 kw387 kw384 kw385 kw386 kw56 (by decide +kernel) ⟨by exact Nat.le_of_ble_eq_true rfl, by exact Nat.le_of_ble_eq_true rfl⟩ rfl hl.1 (cat8 _ (by exact Nat.le_of_ble_eq_true rfl)) dX7_mixedWithNode_118 rfl (fun H locs _ _ hC => ?_)
  refine lv_if_eq (tgt := 128) hx hb dX7_mixedWithNode_121 (by decide) (fun c116 => ?_) (fun c116 => ?_)
  · replace hf := opos c116 hf
    refine lv_lconst (v := (0 : Int64)) hx hb dX7_mixedWithNode_128 (by decide) ?_
    exact w_X7_mixedWithNode_L129 M hfl _ _ _ _ _ hf _ _ _ _ _ hC (lv_sub hl [1, 3] rfl)
  · replace hf := oneg c116 hf
    refine lv_lconst (v := (1 : Int64)) hx hb dX7_mixedWithNode_124 (by decide) ?_
    refine lv_goto (tgt := 129) hx hb dX7_mixedWithNode_125 (by decide) ?_
    exact w_X7_mixedWithNode_L129 M hfl _ _ _ _ _ hf _ _ _ _ _ hC (lv_sub hl [1, 3] rfl)
set_option maxRecDepth 100000 in
theorem c_X7_mixedWithNode {l : Launch} (hfl : l.stackTraces = false) (D : va_G) (cA : Nat → ClassId) {o : Nat} {p0 : Int64} {p1 : Option Nat} {h : fSt} {r : (Int64 × fSt)} (hf : f_X7_mixedWithNode o p0 p1 h = some r) : fMet l yX7_mixedWithNode (wsC yX7_mixedWithNode cX7_mixedWithNode 8 (some (.long))) (25) (615) D cA [.ref o, .long p0, va_rf p1] h r.2 (some (.long r.1)) := by
  exact fMet.of (own := RX7) (by decide +kernel) rfl (lva1 rfl (lva2 rfl (lva1 (va_rf_cat _) lva0))) (lgl1 rfl (lgl2 rfl (lgl1 (va_rf_cat _) lgl0))) (Nat.le_of_ble_eq_true rfl) (fun p e s m args below meth c ls hnm _ M hC hl => by
    have hl : lv_has ls 8 [(0, va_rf (some o)), (1, .long p0), (3, va_rf p1)] := hl
    exact w_X7_mixedWithNode_L0 M hfl _ _ _ _ hf _ _ _ _ _ hC (lv_sub hl [0, 1, 2] rfl))
set_option maxHeartbeats 4000000 in
set_option maxRecDepth 100000 in
theorem w_X6_nextKeyTime_L5 {p : Program} {l : Launch} {e : Env} {s : State} {m : MethodId} {args : Array Value} {below : List Frame} {meth : Method} {c : Code} {D : va_G} {cA : Nat → ClassId} {h0 : fSt} {r : (Int32 × fSt)} (M : fM p s m args meth c D cA h0 { frames := 0, cells := fCB h0 - fZ h0, slots := fLB h0 - fL h0, locals := 0 } cX6_nextKeyTime 3 (some (.int)) RX6) (hfl : l.stackTraces = false) : ∀ (n : Nat) (a1 : Int32) (a2 : Option Nat) (h : fSt), f_X6_nextKeyTime_L5 n a1 a2 h = some r → ∀ (H : Heap) (locs : List Loc) (cells slots : Nat) (ls : Array Slot), fCur D cA s h0 h H locs → lv_has ls 3 [(1, .int a1), (2, va_rf a2)] → W p l e { frames := 0, cells := fCB h0 - fZ h0, slots := fLB h0 - fL h0, locals := 0 } s m args below meth c H locs cells slots (MQ below (fQ D cA h0 r.2 (some (.int r.1))) args s (fCB h0 - fZ h0) (fLB h0 - fL h0) (fA h0)) (F0 m 5 ls []) := by
  obtain ⟨hx, hb, hml, hr, hlocks, hts, hown, K, hR⟩ := id M
  intro n
  induction n with
  | zero =>
    intro a1 a2 h hf
    exact nomatch (show (none : Option (Int32 × fSt)) = some r from hf)
  | succ n hk5 =>
    intro a1 a2 h hf H locs cells slots ls hC hl
    refine fr_aload_n hx hb dX6_nextKeyTime_5 rfl (lv_at hl 1 rfl) ?_
    refine fr_ifnull (tgt := 30) hx hb dX6_nextKeyTime_6 (by decide) (fun c1 => ?_) (fun c1 => ?_)
    · replace hf := opos c1 hf
      refine lv_iconst (v := (-1 : Int32)) hx hb dX6_nextKeyTime_30 (by decide) ?_
      obtain rfl := Option.some.inj hf
      exact fr_iret hx hb hr hlocks hC dX6_nextKeyTime_31
    · replace hf := oneg c1 hf
      refine fr_aload_n hx hb dX6_nextKeyTime_9 rfl (lv_at hl 1 rfl) ?_
      obtain ⟨x2, g3, hf⟩ := obind hf
      refine fr_get hx hb hts hown K hC ct_3 (fgI_get g3) (by decide) kw796 rfl dX6_nextKeyTime_10 ?_
      refine lv_iload_n hx hb dX6_nextKeyTime_13 rfl (lv_at hl 0 rfl) ?_
      refine lv_icmp_le (tgt := 22) hx hb dX6_nextKeyTime_14 (by decide) (fun c4 => ?_) (fun c4 => ?_)
      · replace hf := opos c4 hf
        refine fr_aload_n hx hb dX6_nextKeyTime_22 rfl (lv_at hl 1 rfl) ?_
        obtain ⟨x5, g6, hf⟩ := obind hf
        refine fr_get hx hb hts hown K hC ct_3 (fgR_get g6) (by decide) kw800 rfl dX6_nextKeyTime_23 ?_
        refine fr_astore_n (lv' := [(2, va_rf x5), (1, .int a1)]) hx hb dX6_nextKeyTime_26 rfl hl (by decide) (congrArg (List.cons _) (flk rfl (fld rfl fln))) (fun ls hl => ?_)
        refine lv_goto (tgt := 5) hx hb dX6_nextKeyTime_27 (by decide) ?_
        exact hk5 _ _ _ hf _ _ _ _ _ hC (lv_sub hl [1, 0] rfl)
      · replace hf := oneg c4 hf
        refine fr_aload_n hx hb dX6_nextKeyTime_17 rfl (lv_at hl 1 rfl) ?_
        obtain ⟨x7, g8, hf⟩ := obind hf
        refine fr_get hx hb hts hown K hC ct_3 (fgI_get g8) (by decide) kw796 rfl dX6_nextKeyTime_18 ?_
        obtain rfl := Option.some.inj hf
        exact fr_iret hx hb hr hlocks hC dX6_nextKeyTime_21
set_option maxHeartbeats 4000000 in
set_option maxRecDepth 100000 in
theorem w_X6_nextKeyTime_L0 {p : Program} {l : Launch} {e : Env} {s : State} {m : MethodId} {args : Array Value} {below : List Frame} {meth : Method} {c : Code} {D : va_G} {cA : Nat → ClassId} {h0 : fSt} {r : (Int32 × fSt)} (M : fM p s m args meth c D cA h0 { frames := 0, cells := fCB h0 - fZ h0, slots := fLB h0 - fL h0, locals := 0 } cX6_nextKeyTime 3 (some (.int)) RX6) (hfl : l.stackTraces = false) (a0 : Option Nat) (a1 : Int32) (h : fSt) (hf : f_X6_nextKeyTime_L0 a0 a1 h = some r) : ∀ (H : Heap) (locs : List Loc) (cells slots : Nat) (ls : Array Slot), fCur D cA s h0 h H locs → lv_has ls 3 [(0, va_rf a0), (1, .int a1)] → W p l e { frames := 0, cells := fCB h0 - fZ h0, slots := fLB h0 - fL h0, locals := 0 } s m args below meth c H locs cells slots (MQ below (fQ D cA h0 r.2 (some (.int r.1))) args s (fCB h0 - fZ h0) (fLB h0 - fL h0) (fA h0)) (F0 m 0 ls []) := by
  obtain ⟨hx, hb, hml, hr, hlocks, hts, hown, K, hR⟩ := id M
  intro H locs cells slots ls hC hl
  refine fr_aload_n hx hb dX6_nextKeyTime_0 rfl (lv_at hl 0 rfl) ?_
  obtain ⟨x9, g10, hf⟩ := obind hf
  refine fr_get hx hb hts hown K hC ct_6 (fgR_get g10) (by decide) kw106 rfl dX6_nextKeyTime_1 ?_
  refine fr_astore_n (lv' := [(2, va_rf x9), (0, va_rf a0), (1, .int a1)]) hx hb dX6_nextKeyTime_4 rfl hl (by decide) (congrArg (List.cons _) (flk rfl (flk rfl fln))) (fun ls hl => ?_)
  exact w_X6_nextKeyTime_L5 M hfl 4096 _ _ _ hf _ _ _ _ _ hC (lv_sub hl [2, 0] rfl)
set_option maxRecDepth 100000 in
theorem c_X6_nextKeyTime {l : Launch} (hfl : l.stackTraces = false) (D : va_G) (cA : Nat → ClassId) {o : Nat} {p0 : Int32} {h : fSt} {r : (Int32 × fSt)} (hf : f_X6_nextKeyTime o p0 h = some r) : fMet l yX6_nextKeyTime (wsC yX6_nextKeyTime cX6_nextKeyTime 3 (some (.int))) (0) (0) D cA [.ref o, .int p0] h r.2 (some (.int r.1)) := by
  exact fMet.of (own := RX6) (by decide +kernel) rfl (lva1 rfl (lva1 rfl lva0)) (lgl1 rfl (lgl1 rfl lgl0)) (Nat.le_of_ble_eq_true rfl) (fun p e s m args below meth c ls hnm _ M hC hl => by
    have hl : lv_has ls 3 [(0, va_rf (some o)), (1, .int p0)] := hl
    exact w_X6_nextKeyTime_L0 M hfl _ _ _ hf _ _ _ _ _ hC (lv_sub hl [0, 1] rfl))
set_option maxHeartbeats 4000000 in
set_option maxRecDepth 100000 in
theorem w_X7_nextKey_L65 {p : Program} {l : Launch} {e : Env} {s : State} {m : MethodId} {args : Array Value} {below : List Frame} {meth : Method} {c : Code} {D : va_G} {cA : Nat → ClassId} {h0 : fSt} {r : (Int32 × fSt)} (M : fM p s m args meth c D cA h0 { frames := 1, cells := fCB h0 - fZ h0, slots := fLB h0 - fL h0, locals := 22 } cX7_nextKey 4 (some (.int)) RX7) (hfl : l.stackTraces = false) {k4 : Option Nat → Int32 → Int32 → fSt → Option (Int32 × fSt)} (hk4 : ∀ (a0 : Option Nat) (a1 : Int32) (a2 : Int32) (h : fSt), k4 a0 a1 a2 h = some r → ∀ (H : Heap) (locs : List Loc) (cells slots : Nat) (ls : Array Slot), fCur D cA s h0 h H locs → lv_has ls 4 [(0, va_rf a0), (1, .int a1), (2, .int a2)] → W p l e { frames := 1, cells := fCB h0 - fZ h0, slots := fLB h0 - fL h0, locals := 22 } s m args below meth c H locs cells slots (MQ below (fQ D cA h0 r.2 (some (.int r.1))) args s (fCB h0 - fZ h0) (fLB h0 - fL h0) (fA h0)) (F0 m 4 ls [])) (a0 : Option Nat) (a1 : Int32) (a2 : Int32) (h : fSt) (hf : f_X7_nextKey_L65 k4 a0 a1 a2 h = some r) : ∀ (H : Heap) (locs : List Loc) (cells slots : Nat) (ls : Array Slot), fCur D cA s h0 h H locs → lv_has ls 4 [(0, va_rf a0), (1, .int a1), (2, .int a2)] → W p l e { frames := 1, cells := fCB h0 - fZ h0, slots := fLB h0 - fL h0, locals := 22 } s m args below meth c H locs cells slots (MQ below (fQ D cA h0 r.2 (some (.int r.1))) args s (fCB h0 - fZ h0) (fLB h0 - fL h0) (fA h0)) (F0 m 65 ls []) := by
  obtain ⟨hx, hb, hml, hr, hlocks, hts, hown, K, hR⟩ := id M
  intro H locs cells slots ls hC hl
  refine lv_iinc (v := (a2 + (1 : Int32))) (lv' := [(2, .int (a2 + (1 : Int32))), (0, va_rf a0), (1, .int a1)]) hx hb dX7_nextKey_65 hl (k := 2) rfl rfl (by decide) (congrArg (List.cons _) (flk rfl (flk rfl (fld rfl fln)))) (fun ls hl => ?_)
  refine lv_goto (tgt := 4) hx hb dX7_nextKey_68 (by decide) ?_
  exact hk4 _ _ _ _ hf _ _ _ _ _ hC (lv_sub hl [1, 2, 0] rfl)
set_option maxHeartbeats 4000000 in
set_option maxRecDepth 100000 in
theorem w_X7_nextKey_L63 {p : Program} {l : Launch} {e : Env} {s : State} {m : MethodId} {args : Array Value} {below : List Frame} {meth : Method} {c : Code} {D : va_G} {cA : Nat → ClassId} {h0 : fSt} {r : (Int32 × fSt)} (M : fM p s m args meth c D cA h0 { frames := 1, cells := fCB h0 - fZ h0, slots := fLB h0 - fL h0, locals := 22 } cX7_nextKey 4 (some (.int)) RX7) (hfl : l.stackTraces = false) {k4 : Option Nat → Int32 → Int32 → fSt → Option (Int32 × fSt)} (hk4 : ∀ (a0 : Option Nat) (a1 : Int32) (a2 : Int32) (h : fSt), k4 a0 a1 a2 h = some r → ∀ (H : Heap) (locs : List Loc) (cells slots : Nat) (ls : Array Slot), fCur D cA s h0 h H locs → lv_has ls 4 [(0, va_rf a0), (1, .int a1), (2, .int a2)] → W p l e { frames := 1, cells := fCB h0 - fZ h0, slots := fLB h0 - fL h0, locals := 22 } s m args below meth c H locs cells slots (MQ below (fQ D cA h0 r.2 (some (.int r.1))) args s (fCB h0 - fZ h0) (fLB h0 - fL h0) (fA h0)) (F0 m 4 ls [])) (a0 : Option Nat) (a2 : Int32) (a3 : Int32) (h : fSt) (hf : f_X7_nextKey_L63 k4 a0 a2 a3 h = some r) : ∀ (H : Heap) (locs : List Loc) (cells slots : Nat) (ls : Array Slot), fCur D cA s h0 h H locs → lv_has ls 4 [(0, va_rf a0), (2, .int a2), (3, .int a3)] → W p l e { frames := 1, cells := fCB h0 - fZ h0, slots := fLB h0 - fL h0, locals := 22 } s m args below meth c H locs cells slots (MQ below (fQ D cA h0 r.2 (some (.int r.1))) args s (fCB h0 - fZ h0) (fLB h0 - fL h0) (fA h0)) (F0 m 63 ls []) := by
  obtain ⟨hx, hb, hml, hr, hlocks, hts, hown, K, hR⟩ := id M
  intro H locs cells slots ls hC hl
  refine lv_iload_n hx hb dX7_nextKey_63 rfl (lv_at hl 2 rfl) ?_
  refine lv_istore_n (lv' := [(1, .int a3), (0, va_rf a0), (2, .int a2), (3, .int a3)]) hx hb dX7_nextKey_64 rfl hl (by decide) (congrArg (List.cons _) (flk (adj1 _ _) (flk rfl (flk rfl fln)))) (fun ls hl => ?_)
  exact w_X7_nextKey_L65 M hfl hk4 _ _ _ _ hf _ _ _ _ _ hC (lv_sub hl [1, 0, 2] rfl)
set_option maxHeartbeats 4000000 in
set_option maxRecDepth 100000 in
theorem w_X7_nextKey_L47 {p : Program} {l : Launch} {e : Env} {s : State} {m : MethodId} {args : Array Value} {below : List Frame} {meth : Method} {c : Code} {D : va_G} {cA : Nat → ClassId} {h0 : fSt} {r : (Int32 × fSt)} (M : fM p s m args meth c D cA h0 { frames := 1, cells := fCB h0 - fZ h0, slots := fLB h0 - fL h0, locals := 22 } cX7_nextKey 4 (some (.int)) RX7) (hfl : l.stackTraces = false) {k4 : Option Nat → Int32 → Int32 → fSt → Option (Int32 × fSt)} (hk4 : ∀ (a0 : Option Nat) (a1 : Int32) (a2 : Int32) (h : fSt), k4 a0 a1 a2 h = some r → ∀ (H : Heap) (locs : List Loc) (cells slots : Nat) (ls : Array Slot), fCur D cA s h0 h H locs → lv_has ls 4 [(0, va_rf a0), (1, .int a1), (2, .int a2)] → W p l e { frames := 1, cells := fCB h0 - fZ h0, slots := fLB h0 - fL h0, locals := 22 } s m args below meth c H locs cells slots (MQ below (fQ D cA h0 r.2 (some (.int r.1))) args s (fCB h0 - fZ h0) (fLB h0 - fL h0) (fA h0)) (F0 m 4 ls [])) (a0 : Option Nat) (a1 : Int32) (a2 : Int32) (s0 : Int32) (h : fSt) (hf : f_X7_nextKey_L47 k4 a0 a1 a2 s0 h = some r) : ∀ (H : Heap) (locs : List Loc) (cells slots : Nat) (ls : Array Slot), fCur D cA s h0 h H locs → lv_has ls 4 [(0, va_rf a0), (1, .int a1), (2, .int a2)] → W p l e { frames := 1, cells := fCB h0 - fZ h0, slots := fLB h0 - fL h0, locals := 22 } s m args below meth c H locs cells slots (MQ below (fQ D cA h0 r.2 (some (.int r.1))) args s (fCB h0 - fZ h0) (fLB h0 - fL h0) (fA h0)) (F0 m 47 ls [.int s0]) := by
  obtain ⟨hx, hb, hml, hr, hlocks, hts, hown, K, hR⟩ := id M
  intro H locs cells slots ls hC hl
  refine lv_istore_n (lv' := [(3, .int s0), (0, va_rf a0), (1, .int a1), (2, .int a2)]) hx hb dX7_nextKey_47 rfl hl (by decide) (congrArg (List.cons _) (flk rfl (flk rfl (flk rfl fln)))) (fun ls hl => ?_)
  refine lv_iload_n hx hb dX7_nextKey_48 rfl (lv_at hl 0 rfl) ?_
  refine lv_iconst (v := (-1 : Int32)) hx hb dX7_nextKey_49 (by decide) ?_
  refine lv_icmp_eq (tgt := 65) hx hb dX7_nextKey_50 (by decide) (fun c1 => ?_) (fun c1 => ?_)
  · replace hf := opos c1 hf
    exact w_X7_nextKey_L65 M hfl hk4 _ _ _ _ hf _ _ _ _ _ hC (lv_sub hl [1, 2, 3] rfl)
  · replace hf := oneg c1 hf
    refine lv_iload_n hx hb dX7_nextKey_53 rfl (lv_at hl 2 rfl) ?_
    refine lv_iconst (v := (-1 : Int32)) hx hb dX7_nextKey_54 (by decide) ?_
    refine lv_icmp_eq (tgt := 63) hx hb dX7_nextKey_55 (by decide) (fun c2 => ?_) (fun c2 => ?_)
    · replace hf := opos c2 hf
      exact w_X7_nextKey_L63 M hfl hk4 _ _ _ _ hf _ _ _ _ _ hC (lv_sub hl [1, 3, 0] rfl)
    · replace hf := oneg c2 hf
      refine lv_iload_n hx hb dX7_nextKey_58 rfl (lv_at hl 0 rfl) ?_
      refine lv_iload_n hx hb dX7_nextKey_59 rfl (lv_at hl 2 rfl) ?_
      refine lv_icmp_ge (tgt := 65) hx hb dX7_nextKey_60 (by decide) (fun c3 => ?_) (fun c3 => ?_)
      · replace hf := opos c3 hf
        exact w_X7_nextKey_L65 M hfl hk4 _ _ _ _ hf _ _ _ _ _ hC (lv_sub hl [1, 2, 3] rfl)
      · replace hf := oneg c3 hf
        exact w_X7_nextKey_L63 M hfl hk4 _ _ _ _ hf _ _ _ _ _ hC (lv_sub hl [1, 3, 0] rfl)
set_option maxHeartbeats 4000000 in
set_option maxRecDepth 100000 in
theorem w_X7_nextKey_L71 {p : Program} {l : Launch} {e : Env} {s : State} {m : MethodId} {args : Array Value} {below : List Frame} {meth : Method} {c : Code} {D : va_G} {cA : Nat → ClassId} {h0 : fSt} {r : (Int32 × fSt)} (M : fM p s m args meth c D cA h0 { frames := 1, cells := fCB h0 - fZ h0, slots := fLB h0 - fL h0, locals := 22 } cX7_nextKey 4 (some (.int)) RX7) (hfl : l.stackTraces = false) (a1 : Int32) (h : fSt) (hf : f_X7_nextKey_L71 a1 h = some r) : ∀ (H : Heap) (locs : List Loc) (cells slots : Nat) (ls : Array Slot), fCur D cA s h0 h H locs → lv_has ls 4 [(1, .int a1)] → W p l e { frames := 1, cells := fCB h0 - fZ h0, slots := fLB h0 - fL h0, locals := 22 } s m args below meth c H locs cells slots (MQ below (fQ D cA h0 r.2 (some (.int r.1))) args s (fCB h0 - fZ h0) (fLB h0 - fL h0) (fA h0)) (F0 m 71 ls []) := by
  obtain ⟨hx, hb, hml, hr, hlocks, hts, hown, K, hR⟩ := id M
  intro H locs cells slots ls hC hl
  refine lv_iload_n hx hb dX7_nextKey_71 rfl (lv_at hl 0 rfl) ?_
  obtain rfl := Option.some.inj hf
  exact fr_iret hx hb hr hlocks hC dX7_nextKey_72
set_option maxHeartbeats 4000000 in
set_option maxRecDepth 100000 in
theorem w_X7_nextKey_L4 {p : Program} {l : Launch} {e : Env} {s : State} {m : MethodId} {args : Array Value} {below : List Frame} {meth : Method} {c : Code} {D : va_G} {cA : Nat → ClassId} {h0 : fSt} {r : (Int32 × fSt)} (M : fM p s m args meth c D cA h0 { frames := 1, cells := fCB h0 - fZ h0, slots := fLB h0 - fL h0, locals := 22 } cX7_nextKey 4 (some (.int)) RX7) (hfl : l.stackTraces = false) : ∀ (n : Nat) (a0 : Option Nat) (a1 : Int32) (a2 : Int32) (h : fSt), f_X7_nextKey_L4 n a0 a1 a2 h = some r → ∀ (H : Heap) (locs : List Loc) (cells slots : Nat) (ls : Array Slot), fCur D cA s h0 h H locs → lv_has ls 4 [(0, va_rf a0), (1, .int a1), (2, .int a2)] → W p l e { frames := 1, cells := fCB h0 - fZ h0, slots := fLB h0 - fL h0, locals := 22 } s m args below meth c H locs cells slots (MQ below (fQ D cA h0 r.2 (some (.int r.1))) args s (fCB h0 - fZ h0) (fLB h0 - fL h0) (fA h0)) (F0 m 4 ls []) := by
  obtain ⟨hx, hb, hml, hr, hlocks, hts, hown, K, hR⟩ := id M
  intro n
  induction n with
  | zero =>
    intro a0 a1 a2 h hf
    exact nomatch (show (none : Option (Int32 × fSt)) = some r from hf)
  | succ n hk4 =>
    intro a0 a1 a2 h hf H locs cells slots ls hC hl
    refine lv_iload_n hx hb dX7_nextKey_4 rfl (lv_at hl 2 rfl) ?_
    refine fr_aload_n hx hb dX7_nextKey_5 rfl (lv_at hl 0 rfl) ?_
    obtain ⟨x4, g5, hf⟩ := obind hf
    refine fr_get hx hb hts hown K hC ct_7 (fgI_get g5) (by decide) kw296 rfl dX7_nextKey_6 ?_
    refine lv_icmp_ge (tgt := 71) hx hb dX7_nextKey_9 (by decide) (fun c6 => ?_) (fun c6 => ?_)
    · replace hf := opos c6 hf
      exact w_X7_nextKey_L71 M hfl _ _ hf _ _ _ _ _ hC (lv_sub hl [1] rfl)
    · replace hf := oneg c6 hf
      refine lv_iload_n hx hb dX7_nextKey_12 rfl (lv_at hl 2 rfl) ?_
      refine fr_aload_n hx hb dX7_nextKey_13 rfl (lv_at hl 0 rfl) ?_
      obtain ⟨x7, g8, hf⟩ := obind hf
      refine fr_get hx hb hts hown K hC ct_7 (fgR_get g8) (by decide) kw291 rfl dX7_nextKey_14 ?_
      obtain ⟨x9, g10, hf⟩ := obind hf
      refine fr_alen hx hb K hC (t := 5) rfl g10 dX7_nextKey_17 ?_
      refine lv_icmp_ge (tgt := 71) hx hb dX7_nextKey_18 (by decide) (fun c11 => ?_) (fun c11 => ?_)
      · replace hf := opos c11 hf
        exact w_X7_nextKey_L71 M hfl _ _ hf _ _ _ _ _ hC (lv_sub hl [1] rfl)
      · replace hf := oneg c11 hf
        refine fr_aload_n hx hb dX7_nextKey_21 rfl (lv_at hl 0 rfl) ?_
        obtain ⟨x12, g13, hf⟩ := obind hf
        refine fr_get hx hb hts hown K hC ct_7 (fgR_get g13) (by decide) kw291 rfl dX7_nextKey_22 ?_
        refine lv_iload_n hx hb dX7_nextKey_25 rfl (lv_at hl 2 rfl) ?_
        obtain ⟨x14, g15, hf⟩ := obind hf
        refine fr_aald hx hb K hC (t := 5) rfl g15 dX7_nextKey_26 ?_
        refine fr_ifnonnull (tgt := 34) hx hb dX7_nextKey_27 (by decide) (fun c16 => ?_) (fun c16 => ?_)
        · replace hf := oneg c16 hf
          refine fr_aload_n hx hb dX7_nextKey_34 rfl (lv_at hl 0 rfl) ?_
          obtain ⟨x17, g18, hf⟩ := obind hf
          refine fr_get hx hb hts hown K hC ct_7 (fgR_get g18) (by decide) kw291 rfl dX7_nextKey_35 ?_
          refine lv_iload_n hx hb dX7_nextKey_38 rfl (lv_at hl 2 rfl) ?_
          obtain ⟨x19, g20, hf⟩ := obind hf
          refine fr_aald hx hb K hC (t := 5) rfl g20 dX7_nextKey_39 ?_
          refine fr_aload_n hx hb dX7_nextKey_40 rfl (lv_at hl 0 rfl) ?_
          obtain ⟨x21, g22, hf⟩ := obind hf
          refine fr_get hx hb hts hown K hC ct_7 (fgI_get g22) (by decide) kw297 rfl dX7_nextKey_41 ?_
          obtain ⟨b25, q26, hf⟩ := obind hf
          obtain ⟨r23, g24, hf⟩ := obind hf
          refine fr_callV hx hb hml hts hown K hC hR ct_6 (c_X6_nextKeyTime hfl D cA g24) 1 q26 kw340 kw337 kw338 kw339 kw57 (by decide +kernel) ⟨by exact Nat.le_of_ble_eq_true rfl, by exact Nat.le_of_ble_eq_true rfl⟩ rfl hl.1 (cat8 _ (by exact Nat.le_of_ble_eq_true rfl)) dX7_nextKey_44 rfl (fun H locs _ _ hC => ?_)
          exact w_X7_nextKey_L47 M hfl hk4 _ _ _ _ _ hf _ _ _ _ _ hC (lv_sub hl [0, 1, 2] rfl)
        · replace hf := opos c16 hf
          refine lv_iconst (v := (-1 : Int32)) hx hb dX7_nextKey_30 (by decide) ?_
          refine lv_goto (tgt := 47) hx hb dX7_nextKey_31 (by decide) ?_
          exact w_X7_nextKey_L47 M hfl hk4 _ _ _ _ _ hf _ _ _ _ _ hC (lv_sub hl [0, 1, 2] rfl)
set_option maxHeartbeats 4000000 in
set_option maxRecDepth 100000 in
theorem w_X7_nextKey_L0 {p : Program} {l : Launch} {e : Env} {s : State} {m : MethodId} {args : Array Value} {below : List Frame} {meth : Method} {c : Code} {D : va_G} {cA : Nat → ClassId} {h0 : fSt} {r : (Int32 × fSt)} (M : fM p s m args meth c D cA h0 { frames := 1, cells := fCB h0 - fZ h0, slots := fLB h0 - fL h0, locals := 22 } cX7_nextKey 4 (some (.int)) RX7) (hfl : l.stackTraces = false) (a0 : Option Nat) (h : fSt) (hf : f_X7_nextKey_L0 a0 h = some r) : ∀ (H : Heap) (locs : List Loc) (cells slots : Nat) (ls : Array Slot), fCur D cA s h0 h H locs → lv_has ls 4 [(0, va_rf a0)] → W p l e { frames := 1, cells := fCB h0 - fZ h0, slots := fLB h0 - fL h0, locals := 22 } s m args below meth c H locs cells slots (MQ below (fQ D cA h0 r.2 (some (.int r.1))) args s (fCB h0 - fZ h0) (fLB h0 - fL h0) (fA h0)) (F0 m 0 ls []) := by
  obtain ⟨hx, hb, hml, hr, hlocks, hts, hown, K, hR⟩ := id M
  intro H locs cells slots ls hC hl
  refine lv_iconst (v := (-1 : Int32)) hx hb dX7_nextKey_0 (by decide) ?_
  refine lv_istore_n (lv' := [(1, .int (-1 : Int32)), (0, va_rf a0)]) hx hb dX7_nextKey_1 rfl hl (by decide) (congrArg (List.cons _) (flk (adj1 _ _) fln)) (fun ls hl => ?_)
  refine lv_iconst (v := (0 : Int32)) hx hb dX7_nextKey_2 (by decide) ?_
  refine lv_istore_n (lv' := [(2, .int (0 : Int32)), (1, .int (-1 : Int32)), (0, va_rf a0)]) hx hb dX7_nextKey_3 rfl hl (by decide) (congrArg (List.cons _) (flk rfl (flk rfl fln))) (fun ls hl => ?_)
  exact w_X7_nextKey_L4 M hfl 4096 _ _ _ _ hf _ _ _ _ _ hC (lv_sub hl [2, 1, 0] rfl)
set_option maxRecDepth 100000 in
theorem c_X7_nextKey {l : Launch} (hfl : l.stackTraces = false) (D : va_G) (cA : Nat → ClassId) {o : Nat} {h : fSt} {r : (Int32 × fSt)} (hf : f_X7_nextKey o h = some r) : fMet l yX7_nextKey (wsC yX7_nextKey cX7_nextKey 4 (some (.int))) (1) (22) D cA [.ref o] h r.2 (some (.int r.1)) := by
  exact fMet.of (own := RX7) (by decide +kernel) rfl (lva1 rfl lva0) (lgl1 rfl lgl0) (Nat.le_of_ble_eq_true rfl) (fun p e s m args below meth c ls hnm _ M hC hl => by
    have hl : lv_has ls 4 [(0, va_rf (some o))] := hl
    exact w_X7_nextKey_L0 M hfl _ _ hf _ _ _ _ _ hC (lv_sub hl [0] rfl))
set_option maxHeartbeats 4000000 in
set_option maxRecDepth 100000 in
theorem w_X7_digest_L72 {p : Program} {l : Launch} {e : Env} {s : State} {m : MethodId} {args : Array Value} {below : List Frame} {meth : Method} {c : Code} {D : va_G} {cA : Nat → ClassId} {h0 : fSt} {r : (Int64 × fSt)} (M : fM p s m args meth c D cA h0 { frames := 27, cells := fCB h0 - fZ h0, slots := fLB h0 - fL h0, locals := 666 } cX7_digest 5 (some (.long)) RX7) (hfl : l.stackTraces = false) {k44 : Option Nat → Int64 → Int32 → fSt → Option (Int64 × fSt)} (hk44 : ∀ (a0 : Option Nat) (a1 : Int64) (a3 : Int32) (h : fSt), k44 a0 a1 a3 h = some r → ∀ (H : Heap) (locs : List Loc) (cells slots : Nat) (ls : Array Slot), fCur D cA s h0 h H locs → lv_has ls 5 [(0, va_rf a0), (1, .long a1), (3, .int a3)] → W p l e { frames := 27, cells := fCB h0 - fZ h0, slots := fLB h0 - fL h0, locals := 666 } s m args below meth c H locs cells slots (MQ below (fQ D cA h0 r.2 (some (.long r.1))) args s (fCB h0 - fZ h0) (fLB h0 - fL h0) (fA h0)) (F0 m 44 ls [])) (a0 : Option Nat) (a1 : Int64) (a3 : Int32) (h : fSt) (hf : f_X7_digest_L72 k44 a0 a1 a3 h = some r) : ∀ (H : Heap) (locs : List Loc) (cells slots : Nat) (ls : Array Slot), fCur D cA s h0 h H locs → lv_has ls 5 [(0, va_rf a0), (1, .long a1), (3, .int a3)] → W p l e { frames := 27, cells := fCB h0 - fZ h0, slots := fLB h0 - fL h0, locals := 666 } s m args below meth c H locs cells slots (MQ below (fQ D cA h0 r.2 (some (.long r.1))) args s (fCB h0 - fZ h0) (fLB h0 - fL h0) (fA h0)) (F0 m 72 ls []) := by
  obtain ⟨hx, hb, hml, hr, hlocks, hts, hown, K, hR⟩ := id M
  intro H locs cells slots ls hC hl
  refine lv_iinc (v := (a3 + (1 : Int32))) (lv' := [(3, .int (a3 + (1 : Int32))), (0, va_rf a0), (1, .long a1)]) hx hb dX7_digest_72 hl (k := 2) rfl rfl (by decide) (congrArg (List.cons _) (flk rfl (flk rfl (fld rfl fln)))) (fun ls hl => ?_)
  refine lv_goto (tgt := 44) hx hb dX7_digest_75 (by decide) ?_
  exact hk44 _ _ _ _ hf _ _ _ _ _ hC (lv_sub hl [1, 2, 0] rfl)
set_option maxHeartbeats 4000000 in
set_option maxRecDepth 100000 in
theorem w_X7_digest_L80 {p : Program} {l : Launch} {e : Env} {s : State} {m : MethodId} {args : Array Value} {below : List Frame} {meth : Method} {c : Code} {D : va_G} {cA : Nat → ClassId} {h0 : fSt} {r : (Int64 × fSt)} (M : fM p s m args meth c D cA h0 { frames := 27, cells := fCB h0 - fZ h0, slots := fLB h0 - fL h0, locals := 666 } cX7_digest 5 (some (.long)) RX7) (hfl : l.stackTraces = false) : ∀ (n : Nat) (a0 : Option Nat) (a1 : Int64) (a3 : Int32) (h : fSt), f_X7_digest_L80 n a0 a1 a3 h = some r → ∀ (H : Heap) (locs : List Loc) (cells slots : Nat) (ls : Array Slot), fCur D cA s h0 h H locs → lv_has ls 5 [(0, va_rf a0), (1, .long a1), (3, .int a3)] → W p l e { frames := 27, cells := fCB h0 - fZ h0, slots := fLB h0 - fL h0, locals := 666 } s m args below meth c H locs cells slots (MQ below (fQ D cA h0 r.2 (some (.long r.1))) args s (fCB h0 - fZ h0) (fLB h0 - fL h0) (fA h0)) (F0 m 80 ls []) := by
  obtain ⟨hx, hb, hml, hr, hlocks, hts, hown, K, hR⟩ := id M
  intro n
  induction n with
  | zero =>
    intro a0 a1 a3 h hf
    exact nomatch (show (none : Option (Int64 × fSt)) = some r from hf)
  | succ n hk80 =>
    intro a0 a1 a3 h hf H locs cells slots ls hC hl
    refine lv_iload_n hx hb dX7_digest_80 rfl (lv_at hl 2 rfl) ?_
    refine lv_bipush (v := (90 : Int32)) hx hb dX7_digest_81 (by decide) ?_
    refine lv_icmp_gt (tgt := 110) hx hb dX7_digest_83 (by decide) (fun c1 => ?_) (fun c1 => ?_)
    · replace hf := opos c1 hf
      refine lv_lload_n hx hb dX7_digest_110 rfl (lv_at hl 1 rfl) ?_
      refine fr_aload_n hx hb dX7_digest_111 rfl (lv_at hl 0 rfl) ?_
      refine lv_iconst (v := (0 : Int32)) hx hb dX7_digest_112 (by decide) ?_
      refine lv_bipush (v := (7 : Int32)) hx hb dX7_digest_113 (by decide) ?_
      obtain ⟨b4, q5, hf⟩ := obind hf
      obtain ⟨⟨v6 | k7, h8⟩, g3, hf⟩ := obind hf
      rotate_left
      · exact nomatch (show (none : Option (Int64 × fSt)) = some _ from hf)
      replace hf := fci hf
      refine fr_callVX hx hb hml hts hown K hC hR ct_7 (c_X7_changes hfl D cA g3) 2 q5 kw486 kw483 kw484 kw485 kw55 (by decide +kernel) ⟨by exact Nat.le_of_ble_eq_true rfl, by exact Nat.le_of_ble_eq_true rfl⟩ rfl hl.1 (cat8 _ (by exact Nat.le_of_ble_eq_true rfl)) dX7_digest_115 rfl (fun H locs _ _ hC => ?_)
      refine lv_i2l (v := (Int32.toInt64 v6)) hx hb dX7_digest_118 rfl ?_
      obtain ⟨r9, g10, hf⟩ := obind hf
      refine fr_callS hx hb hml hts hown K hC hR (c_X7_mixed hfl D cA g10) 2 kw348 kw346 kw347 kw55 (by decide +kernel) ⟨by exact Nat.le_of_ble_eq_true rfl, by exact Nat.le_of_ble_eq_true rfl⟩ rfl hl.1 (cat8 _ (by exact Nat.le_of_ble_eq_true rfl)) dX7_digest_119 rfl (fun H locs _ _ hC => ?_)
      obtain rfl := Option.some.inj hf
      exact fr_lret hx hb hr hlocks hC dX7_digest_122
    · replace hf := oneg c1 hf
      refine lv_lload_n hx hb dX7_digest_86 rfl (lv_at hl 1 rfl) ?_
      refine fr_aload_n hx hb dX7_digest_87 rfl (lv_at hl 0 rfl) ?_
      refine lv_iload_n hx hb dX7_digest_88 rfl (lv_at hl 2 rfl) ?_
      refine lv_iload_n hx hb dX7_digest_89 rfl (lv_at hl 2 rfl) ?_
      refine lv_iconst (v := (1 : Int32)) hx hb dX7_digest_90 (by decide) ?_
      refine fr_aload_n hx hb dX7_digest_91 rfl (lv_at hl 0 rfl) ?_
      obtain ⟨x11, g12, hf⟩ := obind hf
      refine fr_get hx hb hts hown K hC ct_7 (fgI_get g12) (by decide) kw297 rfl dX7_digest_92 ?_
      refine fr_null hx hb dX7_digest_95 ?_
      obtain ⟨b15, q16, hf⟩ := obind hf
      obtain ⟨r13, g14, hf⟩ := obind hf
      refine fr_callV hx hb hml hts hown K hC hR ct_7 (c_X7_topAt hfl D cA g14) 5 q16 kw469 kw466 kw468 kw9 kw55 (by decide +kernel) ⟨by exact Nat.le_of_ble_eq_true rfl, by exact Nat.le_of_ble_eq_true rfl⟩ rfl hl.1 (cat8 _ (by exact Nat.le_of_ble_eq_true rfl)) dX7_digest_96 rfl (fun H locs _ _ hC => ?_)
      refine lv_i2l (v := (Int32.toInt64 r13.1)) hx hb dX7_digest_99 rfl ?_
      obtain ⟨r17, g18, hf⟩ := obind hf
      refine fr_callS hx hb hml hts hown K hC hR (c_X7_mixed hfl D cA g18) 2 kw348 kw346 kw347 kw55 (by decide +kernel) ⟨by exact Nat.le_of_ble_eq_true rfl, by exact Nat.le_of_ble_eq_true rfl⟩ rfl hl.1 (cat8 _ (by exact Nat.le_of_ble_eq_true rfl)) dX7_digest_100 rfl (fun H locs _ _ hC => ?_)
      refine lv_lstore_n (lv' := [(1, .long r17.1), (0, va_rf a0), (3, .int a3)]) hx hb dX7_digest_103 rfl hl (by decide) (congrArg (List.cons _) (flk (adj2 _ _) (fld rfl (flk rfl fln)))) (fun ls hl => ?_)
      refine lv_iinc (v := (a3 + (10 : Int32))) (lv' := [(3, .int (a3 + (10 : Int32))), (1, .long r17.1), (0, va_rf a0)]) hx hb dX7_digest_104 hl (k := 2) rfl rfl (by decide) (congrArg (List.cons _) (flk rfl (flk rfl (fld rfl fln)))) (fun ls hl => ?_)
      refine lv_goto (tgt := 80) hx hb dX7_digest_107 (by decide) ?_
      exact hk80 _ _ _ _ hf _ _ _ _ _ hC (lv_sub hl [2, 1, 0] rfl)
set_option maxHeartbeats 4000000 in
set_option maxRecDepth 100000 in
theorem w_X7_digest_L44 {p : Program} {l : Launch} {e : Env} {s : State} {m : MethodId} {args : Array Value} {below : List Frame} {meth : Method} {c : Code} {D : va_G} {cA : Nat → ClassId} {h0 : fSt} {r : (Int64 × fSt)} (M : fM p s m args meth c D cA h0 { frames := 27, cells := fCB h0 - fZ h0, slots := fLB h0 - fL h0, locals := 666 } cX7_digest 5 (some (.long)) RX7) (hfl : l.stackTraces = false) : ∀ (n : Nat) (a0 : Option Nat) (a1 : Int64) (a3 : Int32) (h : fSt), f_X7_digest_L44 n a0 a1 a3 h = some r → ∀ (H : Heap) (locs : List Loc) (cells slots : Nat) (ls : Array Slot), fCur D cA s h0 h H locs → lv_has ls 5 [(0, va_rf a0), (1, .long a1), (3, .int a3)] → W p l e { frames := 27, cells := fCB h0 - fZ h0, slots := fLB h0 - fL h0, locals := 666 } s m args below meth c H locs cells slots (MQ below (fQ D cA h0 r.2 (some (.long r.1))) args s (fCB h0 - fZ h0) (fLB h0 - fL h0) (fA h0)) (F0 m 44 ls []) := by
  obtain ⟨hx, hb, hml, hr, hlocks, hts, hown, K, hR⟩ := id M
  intro n
  induction n with
  | zero =>
    intro a0 a1 a3 h hf
    exact nomatch (show (none : Option (Int64 × fSt)) = some r from hf)
  | succ n hk44 =>
    intro a0 a1 a3 h hf H locs cells slots ls hC hl
    refine lv_iload_n hx hb dX7_digest_44 rfl (lv_at hl 2 rfl) ?_
    refine fr_aload_n hx hb dX7_digest_45 rfl (lv_at hl 0 rfl) ?_
    obtain ⟨x19, g20, hf⟩ := obind hf
    refine fr_get hx hb hts hown K hC ct_7 (fgI_get g20) (by decide) kw295 rfl dX7_digest_46 ?_
    refine lv_icmp_ge (tgt := 78) hx hb dX7_digest_49 (by decide) (fun c21 => ?_) (fun c21 => ?_)
    · replace hf := opos c21 hf
      refine lv_iconst (v := (0 : Int32)) hx hb dX7_digest_78 (by decide) ?_
      refine lv_istore_n (lv' := [(3, .int (0 : Int32)), (0, va_rf a0), (1, .long a1)]) hx hb dX7_digest_79 rfl hl (by decide) (congrArg (List.cons _) (flk rfl (flk rfl (fld rfl fln)))) (fun ls hl => ?_)
      exact w_X7_digest_L80 M hfl 4096 _ _ _ _ hf _ _ _ _ _ hC (lv_sub hl [1, 2, 0] rfl)
    · replace hf := oneg c21 hf
      refine fr_aload_n hx hb dX7_digest_52 rfl (lv_at hl 0 rfl) ?_
      refine lv_iload_n hx hb dX7_digest_53 rfl (lv_at hl 2 rfl) ?_
      obtain ⟨b24, q25, hf⟩ := obind hf
      obtain ⟨r22, g23, hf⟩ := obind hf
      refine fr_callV hx hb hml hts hown K hC hR ct_7 (c_X7_nodeOrNull hfl D cA g23) 1 q25 kw354 kw351 kw353 kw0 kw55 (by decide +kernel) ⟨by exact Nat.le_of_ble_eq_true rfl, by exact Nat.le_of_ble_eq_true rfl⟩ rfl hl.1 (cat8 _ (by exact Nat.le_of_ble_eq_true rfl)) dX7_digest_54 rfl (fun H locs _ _ hC => ?_)
      refine fr_astore (lv' := [(4, va_rf r22.1), (0, va_rf a0), (1, .long a1), (3, .int a3)]) hx hb dX7_digest_57 hl (by decide) (congrArg (List.cons _) (flk rfl (flk rfl (flk rfl fln)))) (fun ls hl => ?_)
      refine fr_aload hx hb dX7_digest_59 (lv_at hl 0 rfl) ?_
      refine fr_ifnull (tgt := 72) hx hb dX7_digest_61 (by decide) (fun c26 => ?_) (fun c26 => ?_)
      · replace hf := opos c26 hf
        exact w_X7_digest_L72 M hfl hk44 _ _ _ _ hf _ _ _ _ _ hC (lv_sub hl [1, 2, 3] rfl)
      · replace hf := oneg c26 hf
        refine fr_aload_n hx hb dX7_digest_64 rfl (lv_at hl 1 rfl) ?_
        refine lv_lload_n hx hb dX7_digest_65 rfl (lv_at hl 2 rfl) ?_
        refine fr_aload hx hb dX7_digest_66 (lv_at hl 0 rfl) ?_
        obtain ⟨b29, q30, hf⟩ := obind hf
        obtain ⟨r27, g28, hf⟩ := obind hf
        refine fr_callV hx hb hml hts hown K hC hR ct_7 (c_X7_mixedWithNode hfl D cA g28) 2 q30 kw358 kw355 kw357 kw1 kw55 (by decide +kernel) ⟨by exact Nat.le_of_ble_eq_true rfl, by exact Nat.le_of_ble_eq_true rfl⟩ rfl hl.1 (cat8 _ (by exact Nat.le_of_ble_eq_true rfl)) dX7_digest_68 rfl (fun H locs _ _ hC => ?_)
        refine lv_lstore_n (lv' := [(1, .long r27.1), (4, va_rf r22.1), (0, va_rf a0), (3, .int a3)]) hx hb dX7_digest_71 rfl hl (by decide) (congrArg (List.cons _) (flk rfl (flk (adj2 _ _) (fld rfl (flk rfl fln))))) (fun ls hl => ?_)
        exact w_X7_digest_L72 M hfl hk44 _ _ _ _ hf _ _ _ _ _ hC (lv_sub hl [2, 0, 3] rfl)
set_option maxHeartbeats 4000000 in
set_option maxRecDepth 100000 in
theorem w_X7_digest_L0 {p : Program} {l : Launch} {e : Env} {s : State} {m : MethodId} {args : Array Value} {below : List Frame} {meth : Method} {c : Code} {D : va_G} {cA : Nat → ClassId} {h0 : fSt} {r : (Int64 × fSt)} (M : fM p s m args meth c D cA h0 { frames := 27, cells := fCB h0 - fZ h0, slots := fLB h0 - fL h0, locals := 666 } cX7_digest 5 (some (.long)) RX7) (hfl : l.stackTraces = false) (a0 : Option Nat) (h : fSt) (hf : f_X7_digest_L0 a0 h = some r) : ∀ (H : Heap) (locs : List Loc) (cells slots : Nat) (ls : Array Slot), fCur D cA s h0 h H locs → lv_has ls 5 [(0, va_rf a0)] → W p l e { frames := 27, cells := fCB h0 - fZ h0, slots := fLB h0 - fL h0, locals := 666 } s m args below meth c H locs cells slots (MQ below (fQ D cA h0 r.2 (some (.long r.1))) args s (fCB h0 - fZ h0) (fLB h0 - fL h0) (fA h0)) (F0 m 0 ls []) := by
  obtain ⟨hx, hb, hml, hr, hlocks, hts, hown, K, hR⟩ := id M
  intro H locs cells slots ls hC hl
  refine fr_ldc2 (v := (2647 : Int64)) hx hb hts hown kw345 dX7_digest_0 ?_
  refine fr_aload_n hx hb dX7_digest_3 rfl (lv_at hl 0 rfl) ?_
  obtain ⟨x31, g32, hf⟩ := obind hf
  refine fr_get hx hb hts hown K hC ct_7 (fgI_get g32) (by decide) kw295 rfl dX7_digest_4 ?_
  refine lv_i2l (v := (Int32.toInt64 x31)) hx hb dX7_digest_7 rfl ?_
  obtain ⟨r33, g34, hf⟩ := obind hf
  refine fr_callS hx hb hml hts hown K hC hR (c_X7_mixed hfl D cA g34) 2 kw348 kw346 kw347 kw55 (by decide +kernel) ⟨by exact Nat.le_of_ble_eq_true rfl, by exact Nat.le_of_ble_eq_true rfl⟩ rfl hl.1 (cat8 _ (by exact Nat.le_of_ble_eq_true rfl)) dX7_digest_8 rfl (fun H locs _ _ hC => ?_)
  refine lv_lstore_n (lv' := [(1, .long r33.1), (0, va_rf a0)]) hx hb dX7_digest_11 rfl hl (by decide) (congrArg (List.cons _) (flk (adj2 _ _) fln)) (fun ls hl => ?_)
  refine lv_lload_n hx hb dX7_digest_12 rfl (lv_at hl 0 rfl) ?_
  refine fr_aload_n hx hb dX7_digest_13 rfl (lv_at hl 1 rfl) ?_
  obtain ⟨x35, g36, hf⟩ := obind hf
  refine fr_get hx hb hts hown K hC ct_7 (fgI_get g36) (by decide) kw299 rfl dX7_digest_14 ?_
  refine lv_i2l (v := (Int32.toInt64 x35)) hx hb dX7_digest_17 rfl ?_
  obtain ⟨r37, g38, hf⟩ := obind hf
  refine fr_callS hx hb hml hts hown K hC hR (c_X7_mixed hfl D cA g38) 2 kw348 kw346 kw347 kw55 (by decide +kernel) ⟨by exact Nat.le_of_ble_eq_true rfl, by exact Nat.le_of_ble_eq_true rfl⟩ rfl hl.1 (cat8 _ (by exact Nat.le_of_ble_eq_true rfl)) dX7_digest_18 rfl (fun H locs _ _ hC => ?_)
  refine lv_lstore_n (lv' := [(1, .long r37.1), (0, va_rf a0)]) hx hb dX7_digest_21 rfl hl (by decide) (congrArg (List.cons _) (fld rfl (flk (adj2 _ _) fln))) (fun ls hl => ?_)
  refine lv_lload_n hx hb dX7_digest_22 rfl (lv_at hl 0 rfl) ?_
  refine fr_aload_n hx hb dX7_digest_23 rfl (lv_at hl 1 rfl) ?_
  obtain ⟨x39, g40, hf⟩ := obind hf
  refine fr_get hx hb hts hown K hC ct_7 (fgI_get g40) (by decide) kw296 rfl dX7_digest_24 ?_
  refine lv_i2l (v := (Int32.toInt64 x39)) hx hb dX7_digest_27 rfl ?_
  obtain ⟨r41, g42, hf⟩ := obind hf
  refine fr_callS hx hb hml hts hown K hC hR (c_X7_mixed hfl D cA g42) 2 kw348 kw346 kw347 kw55 (by decide +kernel) ⟨by exact Nat.le_of_ble_eq_true rfl, by exact Nat.le_of_ble_eq_true rfl⟩ rfl hl.1 (cat8 _ (by exact Nat.le_of_ble_eq_true rfl)) dX7_digest_28 rfl (fun H locs _ _ hC => ?_)
  refine lv_lstore_n (lv' := [(1, .long r41.1), (0, va_rf a0)]) hx hb dX7_digest_31 rfl hl (by decide) (congrArg (List.cons _) (fld rfl (flk (adj2 _ _) fln))) (fun ls hl => ?_)
  refine lv_lload_n hx hb dX7_digest_32 rfl (lv_at hl 0 rfl) ?_
  refine fr_aload_n hx hb dX7_digest_33 rfl (lv_at hl 1 rfl) ?_
  obtain ⟨b45, q46, hf⟩ := obind hf
  obtain ⟨r43, g44, hf⟩ := obind hf
  refine fr_callV hx hb hml hts hown K hC hR ct_7 (c_X7_nextKey hfl D cA g44) 0 q46 kw336 kw350 kw334 kw335 kw55 (by decide +kernel) ⟨by exact Nat.le_of_ble_eq_true rfl, by exact Nat.le_of_ble_eq_true rfl⟩ rfl hl.1 (cat8 _ (by exact Nat.le_of_ble_eq_true rfl)) dX7_digest_34 rfl (fun H locs _ _ hC => ?_)
  refine lv_i2l (v := (Int32.toInt64 r43.1)) hx hb dX7_digest_37 rfl ?_
  obtain ⟨r47, g48, hf⟩ := obind hf
  refine fr_callS hx hb hml hts hown K hC hR (c_X7_mixed hfl D cA g48) 2 kw348 kw346 kw347 kw55 (by decide +kernel) ⟨by exact Nat.le_of_ble_eq_true rfl, by exact Nat.le_of_ble_eq_true rfl⟩ rfl hl.1 (cat8 _ (by exact Nat.le_of_ble_eq_true rfl)) dX7_digest_38 rfl (fun H locs _ _ hC => ?_)
  refine lv_lstore_n (lv' := [(1, .long r47.1), (0, va_rf a0)]) hx hb dX7_digest_41 rfl hl (by decide) (congrArg (List.cons _) (fld rfl (flk (adj2 _ _) fln))) (fun ls hl => ?_)
  refine lv_iconst (v := (0 : Int32)) hx hb dX7_digest_42 (by decide) ?_
  refine lv_istore_n (lv' := [(3, .int (0 : Int32)), (1, .long r47.1), (0, va_rf a0)]) hx hb dX7_digest_43 rfl hl (by decide) (congrArg (List.cons _) (flk rfl (flk rfl fln))) (fun ls hl => ?_)
  exact w_X7_digest_L44 M hfl 4096 _ _ _ _ hf _ _ _ _ _ hC (lv_sub hl [2, 1, 0] rfl)
set_option maxRecDepth 100000 in
theorem c_X7_digest {l : Launch} (hfl : l.stackTraces = false) (D : va_G) (cA : Nat → ClassId) {o : Nat} {h : fSt} {r : (Int64 × fSt)} (hf : f_X7_digest o h = some r) : fMet l yX7_digest (wsC yX7_digest cX7_digest 5 (some (.long))) (27) (666) D cA [.ref o] h r.2 (some (.long r.1)) := by
  exact fMet.of (own := RX7) (by decide +kernel) rfl (lva1 rfl lva0) (lgl1 rfl lgl0) (Nat.le_of_ble_eq_true rfl) (fun p e s m args below meth c ls hnm _ M hC hl => by
    have hl : lv_has ls 5 [(0, va_rf (some o))] := hl
    exact w_X7_digest_L0 M hfl _ _ hf _ _ _ _ _ hC (lv_sub hl [0] rfl))
set_option maxHeartbeats 4000000 in
set_option maxRecDepth 100000 in
theorem w_X1_init_L0 {p : Program} {l : Launch} {e : Env} {s : State} {m : MethodId} {args : Array Value} {below : List Frame} {meth : Method} {c : Code} {D : va_G} {cA : Nat → ClassId} {h0 : fSt} {r : (Unit × fSt)} (M : fM p s m args meth c D cA h0 { frames := 1, cells := fCB h0 - fZ h0, slots := fLB h0 - fL h0, locals := 20 } cX1_init 1 none RX1) (hfl : l.stackTraces = false) (hnm : meth.name = "<init>") (a0 : Option Nat) (h : fSt) (hf : f_X1_init_L0 a0 h = some r) : ∀ (H : Heap) (locs : List Loc) (cells slots : Nat) (ls : Array Slot), fCur D cA s h0 h H locs → lv_has ls 1 [(0, va_rf a0)] → W p l e { frames := 1, cells := fCB h0 - fZ h0, slots := fLB h0 - fL h0, locals := 20 } s m args below meth c H locs cells slots (MQ below (fQ D cA h0 r.2 none) args s (fCB h0 - fZ h0) (fLB h0 - fL h0) (fA h0)) (F0 m 0 ls []) := by
  obtain ⟨hx, hb, hml, hr, hlocks, hts, hown, K, hR⟩ := id M
  intro H locs cells slots ls hC hl
  refine fr_aload_n hx hb dX1_init_0 rfl (lv_at hl 0 rfl) ?_
  obtain ⟨b1, q2, hf⟩ := obind hf
  refine fr_objInit hx hb hml hts hown kw267 kw78 kw79 hl.1 (fobj_inv q2).1 dX1_init_1 (by exact Nat.le_of_ble_eq_true rfl) (catL _ _ (by exact Nat.le_of_ble_eq_true rfl) (by exact Nat.le_of_ble_eq_true rfl)) ?_
  obtain rfl := Option.some.inj hf
  exact fr_vret hx hb hr hlocks hC dX1_init_4
set_option maxRecDepth 100000 in
theorem c_X1_init {l : Launch} (hfl : l.stackTraces = false) (D : va_G) (cA : Nat → ClassId) {o : Nat} {h : fSt} {r : (Unit × fSt)} (hf : f_X1_init o h = some r) : fMet l yX1_init (wsC yX1_init cX1_init 1 none) (1) (20) D cA [.ref o] h r.2 none := by
  exact fMet.of (own := RX1) (by decide +kernel) rfl (lva1 rfl lva0) (lgl1 rfl lgl0) (Nat.le_of_ble_eq_true rfl) (fun p e s m args below meth c ls hnm _ M hC hl => by
    have hl : lv_has ls 1 [(0, va_rf (some o))] := hl
    exact w_X1_init_L0 M hfl (show meth.name = "<init>" from hnm) _ _ hf _ _ _ _ _ hC (lv_sub hl [0] rfl))
set_option maxHeartbeats 4000000 in
set_option maxRecDepth 100000 in
theorem w_X0_init_L0 {p : Program} {l : Launch} {e : Env} {s : State} {m : MethodId} {args : Array Value} {below : List Frame} {meth : Method} {c : Code} {D : va_G} {cA : Nat → ClassId} {h0 : fSt} {r : (Unit × fSt)} (M : fM p s m args meth c D cA h0 { frames := 2, cells := fCB h0 - fZ h0, slots := fLB h0 - fL h0, locals := 40 } cX0_init 1 none RX0) (hfl : l.stackTraces = false) (hnm : meth.name = "<init>") (a0 : Option Nat) (h : fSt) (hf : f_X0_init_L0 a0 h = some r) : ∀ (H : Heap) (locs : List Loc) (cells slots : Nat) (ls : Array Slot), fCur D cA s h0 h H locs → lv_has ls 1 [(0, va_rf a0)] → W p l e { frames := 2, cells := fCB h0 - fZ h0, slots := fLB h0 - fL h0, locals := 40 } s m args below meth c H locs cells slots (MQ below (fQ D cA h0 r.2 none) args s (fCB h0 - fZ h0) (fLB h0 - fL h0) (fA h0)) (F0 m 0 ls []) := by
  obtain ⟨hx, hb, hml, hr, hlocks, hts, hown, K, hR⟩ := id M
  intro H locs cells slots ls hC hl
  refine fr_aload_n hx hb dX0_init_0 rfl (lv_at hl 0 rfl) ?_
  obtain ⟨b1, q2, hf⟩ := obind hf
  refine fr_objInit hx hb hml hts hown kw261 kw78 kw79 hl.1 (fobj_inv q2).1 dX0_init_1 (by exact Nat.le_of_ble_eq_true rfl) (catL _ _ (by exact Nat.le_of_ble_eq_true rfl) (by exact Nat.le_of_ble_eq_true rfl)) ?_
  refine fr_aload_n hx hb dX0_init_4 rfl (lv_at hl 0 rfl) ?_
  obtain ⟨r3, g4, hf⟩ := obind hf
  refine fr_new hx hb hts hown K hC ct_1 hR g4 dv_1 kw262 kw263 kw61 dX0_init_5 (fun H _ _ hC => ?_)
  refine lv_dup hx hb dX0_init_8 (va_rf_cat _) ?_
  obtain ⟨r5, g6, hf⟩ := obind hf
  refine fr_callIN hx hb hml hts hown K hC hR (c_X1_init hfl D cA g6) 0 kw266 kn264 kw265 kw61 rfl (by decide +kernel) ⟨by exact Nat.le_of_ble_eq_true rfl, by exact Nat.le_of_ble_eq_true rfl⟩ rfl hl.1 (cat8 _ (by exact Nat.le_of_ble_eq_true rfl)) dX0_init_9 rfl (fun H locs _ _ hC => ?_)
  obtain ⟨h7, g8, hf⟩ := obind hf
  refine fr_putF hx hb hts hown K hC ct_0 g8 (by decide) kw277 rfl rfl hnm rfl (nR _ _) (fR _ _) dX0_init_12 (fun H locs hC => ?_)
  refine fr_aload_n hx hb dX0_init_15 rfl (lv_at hl 0 rfl) ?_
  obtain ⟨r9, g10, hf⟩ := obind hf
  refine fr_new hx hb hts hown K hC ct_1 hR g10 dv_1 kw262 kw263 kw61 dX0_init_16 (fun H _ _ hC => ?_)
  refine lv_dup hx hb dX0_init_19 (va_rf_cat _) ?_
  obtain ⟨r11, g12, hf⟩ := obind hf
  refine fr_callIN hx hb hml hts hown K hC hR (c_X1_init hfl D cA g12) 0 kw266 kn264 kw265 kw61 rfl (by decide +kernel) ⟨by exact Nat.le_of_ble_eq_true rfl, by exact Nat.le_of_ble_eq_true rfl⟩ rfl hl.1 (cat8 _ (by exact Nat.le_of_ble_eq_true rfl)) dX0_init_20 rfl (fun H locs _ _ hC => ?_)
  obtain ⟨h13, g14, hf⟩ := obind hf
  refine fr_putF hx hb hts hown K hC ct_0 g14 (by decide) kw278 rfl rfl hnm rfl (nR _ _) (fR _ _) dX0_init_23 (fun H locs hC => ?_)
  refine fr_aload_n hx hb dX0_init_26 rfl (lv_at hl 0 rfl) ?_
  obtain ⟨r15, g16, hf⟩ := obind hf
  refine fr_new hx hb hts hown K hC ct_1 hR g16 dv_1 kw262 kw263 kw61 dX0_init_27 (fun H _ _ hC => ?_)
  refine lv_dup hx hb dX0_init_30 (va_rf_cat _) ?_
  obtain ⟨r17, g18, hf⟩ := obind hf
  refine fr_callIN hx hb hml hts hown K hC hR (c_X1_init hfl D cA g18) 0 kw266 kn264 kw265 kw61 rfl (by decide +kernel) ⟨by exact Nat.le_of_ble_eq_true rfl, by exact Nat.le_of_ble_eq_true rfl⟩ rfl hl.1 (cat8 _ (by exact Nat.le_of_ble_eq_true rfl)) dX0_init_31 rfl (fun H locs _ _ hC => ?_)
  obtain ⟨h19, g20, hf⟩ := obind hf
  refine fr_putF hx hb hts hown K hC ct_0 g20 (by decide) kw279 rfl rfl hnm rfl (nR _ _) (fR _ _) dX0_init_34 (fun H locs hC => ?_)
  refine fr_aload_n hx hb dX0_init_37 rfl (lv_at hl 0 rfl) ?_
  obtain ⟨r21, g22, hf⟩ := obind hf
  refine fr_new hx hb hts hown K hC ct_1 hR g22 dv_1 kw262 kw263 kw61 dX0_init_38 (fun H _ _ hC => ?_)
  refine lv_dup hx hb dX0_init_41 (va_rf_cat _) ?_
  obtain ⟨r23, g24, hf⟩ := obind hf
  refine fr_callIN hx hb hml hts hown K hC hR (c_X1_init hfl D cA g24) 0 kw266 kn264 kw265 kw61 rfl (by decide +kernel) ⟨by exact Nat.le_of_ble_eq_true rfl, by exact Nat.le_of_ble_eq_true rfl⟩ rfl hl.1 (cat8 _ (by exact Nat.le_of_ble_eq_true rfl)) dX0_init_42 rfl (fun H locs _ _ hC => ?_)
  obtain ⟨h25, g26, hf⟩ := obind hf
  refine fr_putF hx hb hts hown K hC ct_0 g26 (by decide) kw280 rfl rfl hnm rfl (nR _ _) (fR _ _) dX0_init_45 (fun H locs hC => ?_)
  obtain rfl := Option.some.inj hf
  exact fr_vret hx hb hr hlocks hC dX0_init_48
set_option maxRecDepth 100000 in
theorem c_X0_init {l : Launch} (hfl : l.stackTraces = false) (D : va_G) (cA : Nat → ClassId) {o : Nat} {h : fSt} {r : (Unit × fSt)} (hf : f_X0_init o h = some r) : fMet l yX0_init (wsC yX0_init cX0_init 1 none) (2) (40) D cA [.ref o] h r.2 none := by
  exact fMet.of (own := RX0) (by decide +kernel) rfl (lva1 rfl lva0) (lgl1 rfl lgl0) (Nat.le_of_ble_eq_true rfl) (fun p e s m args below meth c ls hnm _ M hC hl => by
    have hl : lv_has ls 1 [(0, va_rf (some o))] := hl
    exact w_X0_init_L0 M hfl (show meth.name = "<init>" from hnm) _ _ hf _ _ _ _ _ hC (lv_sub hl [0] rfl))
set_option maxHeartbeats 4000000 in
set_option maxRecDepth 100000 in
theorem w_X5_init_L0 {p : Program} {l : Launch} {e : Env} {s : State} {m : MethodId} {args : Array Value} {below : List Frame} {meth : Method} {c : Code} {D : va_G} {cA : Nat → ClassId} {h0 : fSt} {r : (Unit × fSt)} (M : fM p s m args meth c D cA h0 { frames := 1, cells := fCB h0 - fZ h0, slots := fLB h0 - fL h0, locals := 20 } cX5_init 1 none RX5) (hfl : l.stackTraces = false) (hnm : meth.name = "<init>") (a0 : Option Nat) (h : fSt) (hf : f_X5_init_L0 a0 h = some r) : ∀ (H : Heap) (locs : List Loc) (cells slots : Nat) (ls : Array Slot), fCur D cA s h0 h H locs → lv_has ls 1 [(0, va_rf a0)] → W p l e { frames := 1, cells := fCB h0 - fZ h0, slots := fLB h0 - fL h0, locals := 20 } s m args below meth c H locs cells slots (MQ below (fQ D cA h0 r.2 none) args s (fCB h0 - fZ h0) (fLB h0 - fL h0) (fA h0)) (F0 m 0 ls []) := by
  obtain ⟨hx, hb, hml, hr, hlocks, hts, hown, K, hR⟩ := id M
  intro H locs cells slots ls hC hl
  refine fr_aload_n hx hb dX5_init_0 rfl (lv_at hl 0 rfl) ?_
  obtain ⟨b1, q2, hf⟩ := obind hf
  refine fr_objInit hx hb hml hts hown kw235 kw78 kw79 hl.1 (fobj_inv q2).1 dX5_init_1 (by exact Nat.le_of_ble_eq_true rfl) (catL _ _ (by exact Nat.le_of_ble_eq_true rfl) (by exact Nat.le_of_ble_eq_true rfl)) ?_
  refine fr_aload_n hx hb dX5_init_4 rfl (lv_at hl 0 rfl) ?_
  refine lv_lconst (v := (1 : Int64)) hx hb dX5_init_5 (by decide) ?_
  obtain ⟨h3, g4, hf⟩ := obind hf
  refine fr_put hx hb hts hown K hC ct_5 g4 (by decide) kw242 rfl rfl rfl rfl dX5_init_6 (fun H locs hC => ?_)
  obtain rfl := Option.some.inj hf
  exact fr_vret hx hb hr hlocks hC dX5_init_9
set_option maxRecDepth 100000 in
theorem c_X5_init {l : Launch} (hfl : l.stackTraces = false) (D : va_G) (cA : Nat → ClassId) {o : Nat} {h : fSt} {r : (Unit × fSt)} (hf : f_X5_init o h = some r) : fMet l yX5_init (wsC yX5_init cX5_init 1 none) (1) (20) D cA [.ref o] h r.2 none := by
  exact fMet.of (own := RX5) (by decide +kernel) rfl (lva1 rfl lva0) (lgl1 rfl lgl0) (Nat.le_of_ble_eq_true rfl) (fun p e s m args below meth c ls hnm _ M hC hl => by
    have hl : lv_has ls 1 [(0, va_rf (some o))] := hl
    exact w_X5_init_L0 M hfl (show meth.name = "<init>" from hnm) _ _ hf _ _ _ _ _ hC (lv_sub hl [0] rfl))
