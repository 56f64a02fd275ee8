theorem dX7_topAt_0 : decode cX7_topAt 0 = .ok (.aload_n 0, 1) := by decide +kernel
theorem dX7_topAt_1 : decode cX7_topAt 1 = .ok (.getfield 46, 3) := by decide +kernel
theorem dX7_topAt_4 : decode cX7_topAt 4 = .ok (.astore 6, 2) := by decide +kernel
theorem dX7_topAt_6 : decode cX7_topAt 6 = .ok (.aload 6, 2) := by decide +kernel
theorem dX7_topAt_8 : decode cX7_topAt 8 = .ok (.ifnull 43, 3) := by decide +kernel
theorem dX7_topAt_11 : decode cX7_topAt 11 = .ok (.aload 6, 2) := by decide +kernel
theorem dX7_topAt_13 : decode cX7_topAt 13 = .ok (.aload 5, 2) := by decide +kernel
theorem dX7_topAt_15 : decode cX7_topAt 15 = .ok (.invokevirtual 91, 3) := by decide +kernel
theorem dX7_topAt_18 : decode cX7_topAt 18 = .ok (.ifCond .ne 23, 3) := by decide +kernel
theorem dX7_topAt_21 : decode cX7_topAt 21 = .ok (.aload_n 0, 1) := by decide +kernel
theorem dX7_topAt_22 : decode cX7_topAt 22 = .ok (.aload 6, 2) := by decide +kernel
theorem dX7_topAt_24 : decode cX7_topAt 24 = .ok (.iload_n 1, 1) := by decide +kernel
theorem dX7_topAt_25 : decode cX7_topAt 25 = .ok (.iload_n 2, 1) := by decide +kernel
theorem dX7_topAt_26 : decode cX7_topAt 26 = .ok (.iload_n 3, 1) := by decide +kernel
theorem dX7_topAt_27 : decode cX7_topAt 27 = .ok (.iload 4, 2) := by decide +kernel
theorem dX7_topAt_29 : decode cX7_topAt 29 = .ok (.invokevirtual 298, 3) := by decide +kernel
theorem dX7_topAt_32 : decode cX7_topAt 32 = .ok (.ifCond .eq 9, 3) := by decide +kernel
theorem dX7_topAt_35 : decode cX7_topAt 35 = .ok (.aload 6, 2) := by decide +kernel
theorem dX7_topAt_37 : decode cX7_topAt 37 = .ok (.getfield 85, 3) := by decide +kernel
theorem dX7_topAt_40 : decode cX7_topAt 40 = .ok (.ireturn, 1) := by decide +kernel
theorem dX7_topAt_41 : decode cX7_topAt 41 = .ok (.aload 6, 2) := by decide +kernel
theorem dX7_topAt_43 : decode cX7_topAt 43 = .ok (.getfield 98, 3) := by decide +kernel
theorem dX7_topAt_46 : decode cX7_topAt 46 = .ok (.astore 6, 2) := by decide +kernel
theorem dX7_topAt_48 : decode cX7_topAt 48 = .ok (.goto (-42), 3) := by decide +kernel
theorem dX7_topAt_51 : decode cX7_topAt 51 = .ok (.iconst (-1), 1) := by decide +kernel
theorem dX7_topAt_52 : decode cX7_topAt 52 = .ok (.ireturn, 1) := by decide +kernel
theorem dX7_digest_0 : decode cX7_digest 0 = .ok (.ldc2_w 321, 3) := by decide +kernel
theorem dX7_digest_3 : decode cX7_digest 3 = .ok (.aload_n 0, 1) := by decide +kernel
theorem dX7_digest_4 : decode cX7_digest 4 = .ok (.getfield 42, 3) := by decide +kernel
theorem dX7_digest_7 : decode cX7_digest 7 = .ok (.i2l, 1) := by decide +kernel
theorem dX7_digest_8 : decode cX7_digest 8 = .ok (.invokestatic 323, 3) := by decide +kernel
theorem dX7_digest_11 : decode cX7_digest 11 = .ok (.lstore_n 1, 1) := by decide +kernel
theorem dX7_digest_12 : decode cX7_digest 12 = .ok (.lload_n 1, 1) := by decide +kernel
theorem dX7_digest_13 : decode cX7_digest 13 = .ok (.aload_n 0, 1) := by decide +kernel
theorem dX7_digest_14 : decode cX7_digest 14 = .ok (.getfield 49, 3) := by decide +kernel
theorem dX7_digest_17 : decode cX7_digest 17 = .ok (.i2l, 1) := by decide +kernel
theorem dX7_digest_18 : decode cX7_digest 18 = .ok (.invokestatic 323, 3) := by decide +kernel
theorem dX7_digest_21 : decode cX7_digest 21 = .ok (.lstore_n 1, 1) := by decide +kernel
theorem dX7_digest_22 : decode cX7_digest 22 = .ok (.lload_n 1, 1) := by decide +kernel
theorem dX7_digest_23 : decode cX7_digest 23 = .ok (.aload_n 0, 1) := by decide +kernel
theorem dX7_digest_24 : decode cX7_digest 24 = .ok (.getfield 185, 3) := by decide +kernel
theorem dX7_digest_27 : decode cX7_digest 27 = .ok (.i2l, 1) := by decide +kernel
theorem dX7_digest_28 : decode cX7_digest 28 = .ok (.invokestatic 323, 3) := by decide +kernel
theorem dX7_digest_31 : decode cX7_digest 31 = .ok (.lstore_n 1, 1) := by decide +kernel
theorem dX7_digest_32 : decode cX7_digest 32 = .ok (.lload_n 1, 1) := by decide +kernel
theorem dX7_digest_33 : decode cX7_digest 33 = .ok (.aload_n 0, 1) := by decide +kernel
theorem dX7_digest_34 : decode cX7_digest 34 = .ok (.invokevirtual 327, 3) := by decide +kernel
theorem dX7_digest_37 : decode cX7_digest 37 = .ok (.i2l, 1) := by decide +kernel
theorem dX7_digest_38 : decode cX7_digest 38 = .ok (.invokestatic 323, 3) := by decide +kernel
theorem dX7_digest_41 : decode cX7_digest 41 = .ok (.lstore_n 1, 1) := by decide +kernel
theorem dX7_digest_42 : decode cX7_digest 42 = .ok (.iconst 0, 1) := by decide +kernel
theorem dX7_digest_43 : decode cX7_digest 43 = .ok (.istore_n 3, 1) := by decide +kernel
theorem dX7_digest_44 : decode cX7_digest 44 = .ok (.iload_n 3, 1) := by decide +kernel
theorem dX7_digest_45 : decode cX7_digest 45 = .ok (.aload_n 0, 1) := by decide +kernel
theorem dX7_digest_46 : decode cX7_digest 46 = .ok (.getfield 42, 3) := by decide +kernel
theorem dX7_digest_49 : decode cX7_digest 49 = .ok (.if_icmp .ge 29, 3) := by decide +kernel
theorem dX7_digest_52 : decode cX7_digest 52 = .ok (.aload_n 0, 1) := by decide +kernel
theorem dX7_digest_53 : decode cX7_digest 53 = .ok (.iload_n 3, 1) := by decide +kernel
theorem dX7_digest_54 : decode cX7_digest 54 = .ok (.invokevirtual 330, 3) := by decide +kernel
theorem dX7_digest_57 : decode cX7_digest 57 = .ok (.astore 4, 2) := by decide +kernel
theorem dX7_digest_59 : decode cX7_digest 59 = .ok (.aload 4, 2) := by decide +kernel
theorem dX7_digest_61 : decode cX7_digest 61 = .ok (.ifnull 11, 3) := by decide +kernel
theorem dX7_digest_64 : decode cX7_digest 64 = .ok (.aload_n 0, 1) := by decide +kernel
theorem dX7_digest_65 : decode cX7_digest 65 = .ok (.lload_n 1, 1) := by decide +kernel
theorem dX7_digest_66 : decode cX7_digest 66 = .ok (.aload 4, 2) := by decide +kernel
theorem dX7_digest_68 : decode cX7_digest 68 = .ok (.invokevirtual 333, 3) := by decide +kernel
theorem dX7_digest_71 : decode cX7_digest 71 = .ok (.lstore_n 1, 1) := by decide +kernel
theorem dX7_digest_72 : decode cX7_digest 72 = .ok (.iinc 3 1, 3) := by decide +kernel
theorem dX7_digest_75 : decode cX7_digest 75 = .ok (.goto (-31), 3) := by decide +kernel
theorem dX7_digest_78 : decode cX7_digest 78 = .ok (.iconst 0, 1) := by decide +kernel
theorem dX7_digest_79 : decode cX7_digest 79 = .ok (.istore_n 3, 1) := by decide +kernel
theorem dX7_digest_80 : decode cX7_digest 80 = .ok (.iload_n 3, 1) := by decide +kernel
theorem dX7_digest_81 : decode cX7_digest 81 = .ok (.bipush 90, 2) := by decide +kernel
theorem dX7_digest_83 : decode cX7_digest 83 = .ok (.if_icmp .gt 27, 3) := by decide +kernel
theorem dX7_digest_86 : decode cX7_digest 86 = .ok (.lload_n 1, 1) := by decide +kernel
theorem dX7_digest_87 : decode cX7_digest 87 = .ok (.aload_n 0, 1) := by decide +kernel
theorem dX7_digest_88 : decode cX7_digest 88 = .ok (.iload_n 3, 1) := by decide +kernel
theorem dX7_digest_89 : decode cX7_digest 89 = .ok (.iload_n 3, 1) := by decide +kernel
theorem dX7_digest_90 : decode cX7_digest 90 = .ok (.iconst 1, 1) := by decide +kernel
theorem dX7_digest_91 : decode cX7_digest 91 = .ok (.aload_n 0, 1) := by decide +kernel
theorem dX7_digest_92 : decode cX7_digest 92 = .ok (.getfield 232, 3) := by decide +kernel
theorem dX7_digest_95 : decode cX7_digest 95 = .ok (.aconst_null, 1) := by decide +kernel
theorem dX7_digest_96 : decode cX7_digest 96 = .ok (.invokevirtual 302, 3) := by decide +kernel
theorem dX7_digest_99 : decode cX7_digest 99 = .ok (.i2l, 1) := by decide +kernel
theorem dX7_digest_100 : decode cX7_digest 100 = .ok (.invokestatic 323, 3) := by decide +kernel
theorem dX7_digest_103 : decode cX7_digest 103 = .ok (.lstore_n 1, 1) := by decide +kernel
theorem dX7_digest_104 : decode cX7_digest 104 = .ok (.iinc 3 10, 3) := by decide +kernel
theorem dX7_digest_107 : decode cX7_digest 107 = .ok (.goto (-27), 3) := by decide +kernel
theorem dX7_digest_110 : decode cX7_digest 110 = .ok (.lload_n 1, 1) := by decide +kernel
theorem dX7_digest_111 : decode cX7_digest 111 = .ok (.aload_n 0, 1) := by decide +kernel
theorem dX7_digest_112 : decode cX7_digest 112 = .ok (.iconst 0, 1) := by decide +kernel
theorem dX7_digest_113 : decode cX7_digest 113 = .ok (.bipush 7, 2) := by decide +kernel
theorem dX7_digest_115 : decode cX7_digest 115 = .ok (.invokevirtual 337, 3) := by decide +kernel
theorem dX7_digest_118 : decode cX7_digest 118 = .ok (.i2l, 1) := by decide +kernel
theorem dX7_digest_119 : decode cX7_digest 119 = .ok (.invokestatic 323, 3) := by decide +kernel
theorem dX7_digest_122 : decode cX7_digest 122 = .ok (.lreturn, 1) := by decide +kernel
theorem dX7_fromWhole_0 : decode cX7_fromWhole 0 = .ok (.aload_n 0, 1) := by decide +kernel
theorem dX7_fromWhole_1 : decode cX7_fromWhole 1 = .ok (.iload_n 1, 1) := by decide +kernel
theorem dX7_fromWhole_2 : decode cX7_fromWhole 2 = .ok (.invokevirtual 52, 3) := by decide +kernel
theorem dX7_fromWhole_5 : decode cX7_fromWhole 5 = .ok (.astore 5, 2) := by decide +kernel
theorem dX7_fromWhole_7 : decode cX7_fromWhole 7 = .ok (.iload_n 2, 1) := by decide +kernel
theorem dX7_fromWhole_8 : decode cX7_fromWhole 8 = .ok (.iload_n 3, 1) := by decide +kernel
theorem dX7_fromWhole_9 : decode cX7_fromWhole 9 = .ok (.iload 4, 2) := by decide +kernel
theorem dX7_fromWhole_11 : decode cX7_fromWhole 11 = .ok (.invokestatic 244, 3) := by decide +kernel
theorem dX7_fromWhole_14 : decode cX7_fromWhole 14 = .ok (.aload_n 0, 1) := by decide +kernel
theorem dX7_fromWhole_15 : decode cX7_fromWhole 15 = .ok (.getfield 31, 3) := by decide +kernel
theorem dX7_fromWhole_18 : decode cX7_fromWhole 18 = .ok (.iload_n 2, 1) := by decide +kernel
theorem dX7_fromWhole_19 : decode cX7_fromWhole 19 = .ok (.i2l, 1) := by decide +kernel
theorem dX7_fromWhole_20 : decode cX7_fromWhole 20 = .ok (.iload_n 3, 1) := by decide +kernel
theorem dX7_fromWhole_21 : decode cX7_fromWhole 21 = .ok (.i2l, 1) := by decide +kernel
theorem dX7_fromWhole_22 : decode cX7_fromWhole 22 = .ok (.lconst 1, 1) := by decide +kernel
theorem dX7_fromWhole_23 : decode cX7_fromWhole 23 = .ok (.invokevirtual 256, 3) := by decide +kernel
theorem dX7_fromWhole_26 : decode cX7_fromWhole 26 = .ok (.aload_n 0, 1) := by decide +kernel
theorem dX7_fromWhole_27 : decode cX7_fromWhole 27 = .ok (.getfield 31, 3) := by decide +kernel
theorem dX7_fromWhole_30 : decode cX7_fromWhole 30 = .ok (.aload 5, 2) := by decide +kernel
theorem dX7_fromWhole_32 : decode cX7_fromWhole 32 = .ok (.aload_n 0, 1) := by decide +kernel
theorem dX7_fromWhole_33 : decode cX7_fromWhole 33 = .ok (.getfield 232, 3) := by decide +kernel
theorem dX7_fromWhole_36 : decode cX7_fromWhole 36 = .ok (.iconst 0, 1) := by decide +kernel
theorem dX7_fromWhole_37 : decode cX7_fromWhole 37 = .ok (.invokestatic 260, 3) := by decide +kernel
theorem dX7_fromWhole_40 : decode cX7_fromWhole 40 = .ok (.aload_n 0, 1) := by decide +kernel
theorem dX7_fromWhole_41 : decode cX7_fromWhole 41 = .ok (.getfield 31, 3) := by decide +kernel
theorem dX7_fromWhole_44 : decode cX7_fromWhole 44 = .ok (.iload 4, 2) := by decide +kernel
theorem dX7_fromWhole_46 : decode cX7_fromWhole 46 = .ok (.invokevirtual 252, 3) := by decide +kernel
theorem dX7_fromWhole_49 : decode cX7_fromWhole 49 = .ok (.l2i, 1) := by decide +kernel
theorem dX7_fromWhole_50 : decode cX7_fromWhole 50 = .ok (.ireturn, 1) := by decide +kernel
theorem dX7_isShown_0 : decode cX7_isShown 0 = .ok (.aload_n 0, 1) := by decide +kernel
theorem dX7_isShown_1 : decode cX7_isShown 1 = .ok (.iload_n 1, 1) := by decide +kernel
theorem dX7_isShown_2 : decode cX7_isShown 2 = .ok (.invokevirtual 52, 3) := by decide +kernel
theorem dX7_isShown_5 : decode cX7_isShown 5 = .ok (.aload_n 0, 1) := by decide +kernel
theorem dX7_isShown_6 : decode cX7_isShown 6 = .ok (.getfield 232, 3) := by decide +kernel
theorem dX7_isShown_9 : decode cX7_isShown 9 = .ok (.invokevirtual 280, 3) := by decide +kernel
theorem dX7_isShown_12 : decode cX7_isShown 12 = .ok (.ireturn, 1) := by decide +kernel
theorem dX7_level_0 : decode cX7_level 0 = .ok (.aload_n 0, 1) := by decide +kernel
theorem dX7_level_1 : decode cX7_level 1 = .ok (.iload_n 1, 1) := by decide +kernel
theorem dX7_level_2 : decode cX7_level 2 = .ok (.invokevirtual 52, 3) := by decide +kernel
theorem dX7_level_5 : decode cX7_level 5 = .ok (.invokevirtual 69, 3) := by decide +kernel
theorem dX7_level_8 : decode cX7_level 8 = .ok (.ireturn, 1) := by decide +kernel
theorem dX7_many_0 : decode cX7_many 0 = .ok (.iload_n 1, 1) := by decide +kernel
theorem dX7_many_1 : decode cX7_many 1 = .ok (.iload_n 2, 1) := by decide +kernel
theorem dX7_many_2 : decode cX7_many 2 = .ok (.iload_n 3, 1) := by decide +kernel
theorem dX7_many_3 : decode cX7_many 3 = .ok (.invokestatic 295, 3) := by decide +kernel
theorem dX7_many_6 : decode cX7_many 6 = .ok (.iconst 0, 1) := by decide +kernel
theorem dX7_many_7 : decode cX7_many 7 = .ok (.istore 4, 2) := by decide +kernel
theorem dX7_many_9 : decode cX7_many 9 = .ok (.aload_n 0, 1) := by decide +kernel
theorem dX7_many_10 : decode cX7_many 10 = .ok (.getfield 46, 3) := by decide +kernel
theorem dX7_many_13 : decode cX7_many 13 = .ok (.astore 5, 2) := by decide +kernel
theorem dX7_many_15 : decode cX7_many 15 = .ok (.aload 5, 2) := by decide +kernel
theorem dX7_many_17 : decode cX7_many 17 = .ok (.ifnull 32, 3) := by decide +kernel
theorem dX7_many_20 : decode cX7_many 20 = .ok (.aload_n 0, 1) := by decide +kernel
theorem dX7_many_21 : decode cX7_many 21 = .ok (.aload 5, 2) := by decide +kernel
theorem dX7_many_23 : decode cX7_many 23 = .ok (.iload_n 1, 1) := by decide +kernel
theorem dX7_many_24 : decode cX7_many 24 = .ok (.iload_n 2, 1) := by decide +kernel
theorem dX7_many_25 : decode cX7_many 25 = .ok (.iload_n 3, 1) := by decide +kernel
theorem dX7_many_26 : decode cX7_many 26 = .ok (.aload_n 0, 1) := by decide +kernel
theorem dX7_many_27 : decode cX7_many 27 = .ok (.getfield 232, 3) := by decide +kernel
theorem dX7_many_30 : decode cX7_many 30 = .ok (.invokevirtual 298, 3) := by decide +kernel
theorem dX7_many_33 : decode cX7_many 33 = .ok (.ifCond .eq 6, 3) := by decide +kernel
theorem dX7_many_36 : decode cX7_many 36 = .ok (.iinc 4 1, 3) := by decide +kernel
theorem dX7_many_39 : decode cX7_many 39 = .ok (.aload 5, 2) := by decide +kernel
theorem dX7_many_41 : decode cX7_many 41 = .ok (.getfield 98, 3) := by decide +kernel
theorem dX7_many_44 : decode cX7_many 44 = .ok (.astore 5, 2) := by decide +kernel
theorem dX7_many_46 : decode cX7_many 46 = .ok (.goto (-31), 3) := by decide +kernel
theorem dX7_many_49 : decode cX7_many 49 = .ok (.iload 4, 2) := by decide +kernel
theorem dX7_many_51 : decode cX7_many 51 = .ok (.ireturn, 1) := by decide +kernel
theorem dX7_isToldAnew_0 : decode cX7_isToldAnew 0 = .ok (.iconst 0, 1) := by decide +kernel
theorem dX7_isToldAnew_1 : decode cX7_isToldAnew 1 = .ok (.istore_n 2, 1) := by decide +kernel
theorem dX7_isToldAnew_2 : decode cX7_isToldAnew 2 = .ok (.iload_n 2, 1) := by decide +kernel
theorem dX7_isToldAnew_3 : decode cX7_isToldAnew 3 = .ok (.aload_n 0, 1) := by decide +kernel
theorem dX7_isToldAnew_4 : decode cX7_isToldAnew 4 = .ok (.getfield 185, 3) := by decide +kernel
theorem dX7_isToldAnew_7 : decode cX7_isToldAnew 7 = .ok (.if_icmp .ge 46, 3) := by decide +kernel
theorem dX7_isToldAnew_10 : decode cX7_isToldAnew 10 = .ok (.iload_n 2, 1) := by decide +kernel
theorem dX7_isToldAnew_11 : decode cX7_isToldAnew 11 = .ok (.aload_n 0, 1) := by decide +kernel
theorem dX7_isToldAnew_12 : decode cX7_isToldAnew 12 = .ok (.getfield 17, 3) := by decide +kernel
theorem dX7_isToldAnew_15 : decode cX7_isToldAnew 15 = .ok (.arraylength, 1) := by decide +kernel
theorem dX7_isToldAnew_16 : decode cX7_isToldAnew 16 = .ok (.if_icmp .ge 37, 3) := by decide +kernel
theorem dX7_isToldAnew_19 : decode cX7_isToldAnew 19 = .ok (.aload_n 0, 1) := by decide +kernel
theorem dX7_isToldAnew_20 : decode cX7_isToldAnew 20 = .ok (.getfield 17, 3) := by decide +kernel
theorem dX7_isToldAnew_23 : decode cX7_isToldAnew 23 = .ok (.iload_n 2, 1) := by decide +kernel
theorem dX7_isToldAnew_24 : decode cX7_isToldAnew 24 = .ok (.aaload, 1) := by decide +kernel
theorem dX7_isToldAnew_25 : decode cX7_isToldAnew 25 = .ok (.ifnull 22, 3) := by decide +kernel
theorem dX7_isToldAnew_28 : decode cX7_isToldAnew 28 = .ok (.aload_n 0, 1) := by decide +kernel
theorem dX7_isToldAnew_29 : decode cX7_isToldAnew 29 = .ok (.getfield 17, 3) := by decide +kernel
theorem dX7_isToldAnew_32 : decode cX7_isToldAnew 32 = .ok (.iload_n 2, 1) := by decide +kernel
theorem dX7_isToldAnew_33 : decode cX7_isToldAnew 33 = .ok (.aaload, 1) := by decide +kernel
theorem dX7_isToldAnew_34 : decode cX7_isToldAnew 34 = .ok (.aload_n 0, 1) := by decide +kernel
theorem dX7_isToldAnew_35 : decode cX7_isToldAnew 35 = .ok (.getfield 232, 3) := by decide +kernel
theorem dX7_isToldAnew_38 : decode cX7_isToldAnew 38 = .ok (.iload_n 1, 1) := by decide +kernel
theorem dX7_isToldAnew_39 : decode cX7_isToldAnew 39 = .ok (.invokevirtual 414, 3) := by decide +kernel
theorem dX7_isToldAnew_42 : decode cX7_isToldAnew 42 = .ok (.ifCond .eq 5, 3) := by decide +kernel
theorem dX7_isToldAnew_45 : decode cX7_isToldAnew 45 = .ok (.iconst 1, 1) := by decide +kernel
theorem dX7_isToldAnew_46 : decode cX7_isToldAnew 46 = .ok (.ireturn, 1) := by decide +kernel
theorem dX7_isToldAnew_47 : decode cX7_isToldAnew 47 = .ok (.iinc 2 1, 3) := by decide +kernel
theorem dX7_isToldAnew_50 : decode cX7_isToldAnew 50 = .ok (.goto (-48), 3) := by decide +kernel
theorem dX7_isToldAnew_53 : decode cX7_isToldAnew 53 = .ok (.iconst 0, 1) := by decide +kernel
theorem dX7_isToldAnew_54 : decode cX7_isToldAnew 54 = .ok (.ireturn, 1) := by decide +kernel
theorem dX7_nextPick_0 : decode cX7_nextPick 0 = .ok (.iload_n 1, 1) := by decide +kernel
theorem dX7_nextPick_1 : decode cX7_nextPick 1 = .ok (.iload_n 2, 1) := by decide +kernel
theorem dX7_nextPick_2 : decode cX7_nextPick 2 = .ok (.iload_n 3, 1) := by decide +kernel
theorem dX7_nextPick_3 : decode cX7_nextPick 3 = .ok (.invokestatic 295, 3) := by decide +kernel
theorem dX7_nextPick_6 : decode cX7_nextPick 6 = .ok (.iload 4, 2) := by decide +kernel
theorem dX7_nextPick_8 : decode cX7_nextPick 8 = .ok (.iconst 1, 1) := by decide +kernel
theorem dX7_nextPick_9 : decode cX7_nextPick 9 = .ok (.bipush 100, 2) := by decide +kernel
theorem dX7_nextPick_11 : decode cX7_nextPick 11 = .ok (.invokestatic 56, 3) := by decide +kernel
theorem dX7_nextPick_14 : decode cX7_nextPick 14 = .ok (.ifCond .ne 14, 3) := by decide +kernel
theorem dX7_nextPick_17 : decode cX7_nextPick 17 = .ok (.new 60, 3) := by decide +kernel
theorem dX7_nextPick_20 : decode cX7_nextPick 20 = .ok (.dup, 1) := by decide +kernel
theorem dX7_nextPick_21 : decode cX7_nextPick 21 = .ok (.ldc_w 310, 3) := by decide +kernel
theorem dX7_nextPick_24 : decode cX7_nextPick 24 = .ok (.invokespecial 64, 3) := by decide +kernel
theorem dX7_nextPick_27 : decode cX7_nextPick 27 = .ok (.athrow, 1) := by decide +kernel
theorem dX7_nextPick_28 : decode cX7_nextPick 28 = .ok (.aload_n 0, 1) := by decide +kernel
theorem dX7_nextPick_29 : decode cX7_nextPick 29 = .ok (.iload_n 1, 1) := by decide +kernel
theorem dX7_nextPick_30 : decode cX7_nextPick 30 = .ok (.iload_n 2, 1) := by decide +kernel
theorem dX7_nextPick_31 : decode cX7_nextPick 31 = .ok (.iload_n 3, 1) := by decide +kernel
theorem dX7_nextPick_32 : decode cX7_nextPick 32 = .ok (.aload_n 0, 1) := by decide +kernel
theorem dX7_nextPick_33 : decode cX7_nextPick 33 = .ok (.getfield 232, 3) := by decide +kernel
theorem dX7_nextPick_36 : decode cX7_nextPick 36 = .ok (.aconst_null, 1) := by decide +kernel
theorem dX7_nextPick_37 : decode cX7_nextPick 37 = .ok (.invokevirtual 302, 3) := by decide +kernel
theorem dX7_nextPick_40 : decode cX7_nextPick 40 = .ok (.istore 5, 2) := by decide +kernel
theorem dX7_nextPick_42 : decode cX7_nextPick 42 = .ok (.aload_n 0, 1) := by decide +kernel
theorem dX7_nextPick_43 : decode cX7_nextPick 43 = .ok (.getfield 232, 3) := by decide +kernel
theorem dX7_nextPick_46 : decode cX7_nextPick 46 = .ok (.iload 4, 2) := by decide +kernel
theorem dX7_nextPick_48 : decode cX7_nextPick 48 = .ok (.iadd, 1) := by decide +kernel
theorem dX7_nextPick_49 : decode cX7_nextPick 49 = .ok (.sipush 9999, 3) := by decide +kernel
theorem dX7_nextPick_52 : decode cX7_nextPick 52 = .ok (.invokestatic 312, 3) := by decide +kernel
theorem dX7_nextPick_55 : decode cX7_nextPick 55 = .ok (.istore 6, 2) := by decide +kernel
theorem dX7_nextPick_57 : decode cX7_nextPick 57 = .ok (.aload_n 0, 1) := by decide +kernel
theorem dX7_nextPick_58 : decode cX7_nextPick 58 = .ok (.getfield 232, 3) := by decide +kernel
theorem dX7_nextPick_61 : decode cX7_nextPick 61 = .ok (.iconst 1, 1) := by decide +kernel
theorem dX7_nextPick_62 : decode cX7_nextPick 62 = .ok (.iadd, 1) := by decide +kernel
theorem dX7_nextPick_63 : decode cX7_nextPick 63 = .ok (.istore 7, 2) := by decide +kernel
theorem dX7_nextPick_65 : decode cX7_nextPick 65 = .ok (.iload 7, 2) := by decide +kernel
theorem dX7_nextPick_67 : decode cX7_nextPick 67 = .ok (.iload 6, 2) := by decide +kernel
theorem dX7_nextPick_69 : decode cX7_nextPick 69 = .ok (.if_icmp .gt 36, 3) := by decide +kernel
theorem dX7_nextPick_72 : decode cX7_nextPick 72 = .ok (.aload_n 0, 1) := by decide +kernel
theorem dX7_nextPick_73 : decode cX7_nextPick 73 = .ok (.iload 7, 2) := by decide +kernel
theorem dX7_nextPick_75 : decode cX7_nextPick 75 = .ok (.invokevirtual 318, 3) := by decide +kernel
theorem dX7_nextPick_78 : decode cX7_nextPick 78 = .ok (.ifCond .eq 21, 3) := by decide +kernel
theorem dX7_nextPick_81 : decode cX7_nextPick 81 = .ok (.aload_n 0, 1) := by decide +kernel
theorem dX7_nextPick_82 : decode cX7_nextPick 82 = .ok (.iload_n 1, 1) := by decide +kernel
theorem dX7_nextPick_83 : decode cX7_nextPick 83 = .ok (.iload_n 2, 1) := by decide +kernel
theorem dX7_nextPick_84 : decode cX7_nextPick 84 = .ok (.iload_n 3, 1) := by decide +kernel
theorem dX7_nextPick_85 : decode cX7_nextPick 85 = .ok (.iload 7, 2) := by decide +kernel
theorem dX7_nextPick_87 : decode cX7_nextPick 87 = .ok (.aconst_null, 1) := by decide +kernel
theorem dX7_nextPick_88 : decode cX7_nextPick 88 = .ok (.invokevirtual 302, 3) := by decide +kernel
theorem dX7_nextPick_91 : decode cX7_nextPick 91 = .ok (.iload 5, 2) := by decide +kernel
theorem dX7_nextPick_93 : decode cX7_nextPick 93 = .ok (.if_icmp .eq 6, 3) := by decide +kernel
theorem dX7_nextPick_96 : decode cX7_nextPick 96 = .ok (.iload 7, 2) := by decide +kernel
theorem dX7_nextPick_98 : decode cX7_nextPick 98 = .ok (.ireturn, 1) := by decide +kernel
theorem dX7_nextPick_99 : decode cX7_nextPick 99 = .ok (.iinc 7 1, 3) := by decide +kernel
theorem dX7_nextPick_102 : decode cX7_nextPick 102 = .ok (.goto (-37), 3) := by decide +kernel
theorem dX7_nextPick_105 : decode cX7_nextPick 105 = .ok (.iconst (-1), 1) := by decide +kernel
theorem dX7_nextPick_106 : decode cX7_nextPick 106 = .ok (.ireturn, 1) := by decide +kernel
theorem dX7_nodes_0 : decode cX7_nodes 0 = .ok (.aload_n 0, 1) := by decide +kernel
theorem dX7_nodes_1 : decode cX7_nodes 1 = .ok (.getfield 49, 3) := by decide +kernel
theorem dX7_nodes_4 : decode cX7_nodes 4 = .ok (.ireturn, 1) := by decide +kernel
theorem dX7_orderAt_0 : decode cX7_orderAt 0 = .ok (.aload_n 0, 1) := by decide +kernel
theorem dX7_orderAt_1 : decode cX7_orderAt 1 = .ok (.getfield 46, 3) := by decide +kernel
theorem dX7_orderAt_4 : decode cX7_orderAt 4 = .ok (.astore_n 2, 1) := by decide +kernel
theorem dX7_orderAt_5 : decode cX7_orderAt 5 = .ok (.aload_n 2, 1) := by decide +kernel
theorem dX7_orderAt_6 : decode cX7_orderAt 6 = .ok (.ifnull 24, 3) := by decide +kernel
theorem dX7_orderAt_9 : decode cX7_orderAt 9 = .ok (.aload_n 2, 1) := by decide +kernel
theorem dX7_orderAt_10 : decode cX7_orderAt 10 = .ok (.getfield 287, 3) := by decide +kernel
theorem dX7_orderAt_13 : decode cX7_orderAt 13 = .ok (.iload_n 1, 1) := by decide +kernel
theorem dX7_orderAt_14 : decode cX7_orderAt 14 = .ok (.if_icmp .ne 8, 3) := by decide +kernel
theorem dX7_orderAt_17 : decode cX7_orderAt 17 = .ok (.aload_n 2, 1) := by decide +kernel
theorem dX7_orderAt_18 : decode cX7_orderAt 18 = .ok (.getfield 85, 3) := by decide +kernel
theorem dX7_orderAt_21 : decode cX7_orderAt 21 = .ok (.ireturn, 1) := by decide +kernel
theorem dX7_orderAt_22 : decode cX7_orderAt 22 = .ok (.aload_n 2, 1) := by decide +kernel
theorem dX7_orderAt_23 : decode cX7_orderAt 23 = .ok (.getfield 98, 3) := by decide +kernel
theorem dX7_orderAt_26 : decode cX7_orderAt 26 = .ok (.astore_n 2, 1) := by decide +kernel
theorem dX7_orderAt_27 : decode cX7_orderAt 27 = .ok (.goto (-22), 3) := by decide +kernel
theorem dX7_orderAt_30 : decode cX7_orderAt 30 = .ok (.new 290, 3) := by decide +kernel
theorem dX7_orderAt_33 : decode cX7_orderAt 33 = .ok (.dup, 1) := by decide +kernel
theorem dX7_orderAt_34 : decode cX7_orderAt 34 = .ok (.ldc_w 292, 3) := by decide +kernel
theorem dX7_orderAt_37 : decode cX7_orderAt 37 = .ok (.invokespecial 294, 3) := by decide +kernel
theorem dX7_orderAt_40 : decode cX7_orderAt 40 = .ok (.athrow, 1) := by decide +kernel
theorem dX7_parent_0 : decode cX7_parent 0 = .ok (.aload_n 0, 1) := by decide +kernel
theorem dX7_parent_1 : decode cX7_parent 1 = .ok (.iload_n 1, 1) := by decide +kernel
theorem dX7_parent_2 : decode cX7_parent 2 = .ok (.invokevirtual 52, 3) := by decide +kernel
theorem dX7_parent_5 : decode cX7_parent 5 = .ok (.invokestatic 170, 3) := by decide +kernel
theorem dX7_parent_8 : decode cX7_parent 8 = .ok (.ireturn, 1) := by decide +kernel
theorem dX7_pick_0 : decode cX7_pick 0 = .ok (.iload_n 1, 1) := by decide +kernel
theorem dX7_pick_1 : decode cX7_pick 1 = .ok (.iload_n 2, 1) := by decide +kernel
theorem dX7_pick_2 : decode cX7_pick 2 = .ok (.iload_n 3, 1) := by decide +kernel
theorem dX7_pick_3 : decode cX7_pick 3 = .ok (.invokestatic 295, 3) := by decide +kernel
theorem dX7_pick_6 : decode cX7_pick 6 = .ok (.aload_n 0, 1) := by decide +kernel
theorem dX7_pick_7 : decode cX7_pick 7 = .ok (.iload_n 1, 1) := by decide +kernel
theorem dX7_pick_8 : decode cX7_pick 8 = .ok (.iload_n 2, 1) := by decide +kernel
theorem dX7_pick_9 : decode cX7_pick 9 = .ok (.iload_n 3, 1) := by decide +kernel
theorem dX7_pick_10 : decode cX7_pick 10 = .ok (.aload_n 0, 1) := by decide +kernel
theorem dX7_pick_11 : decode cX7_pick 11 = .ok (.getfield 232, 3) := by decide +kernel
theorem dX7_pick_14 : decode cX7_pick 14 = .ok (.aconst_null, 1) := by decide +kernel
theorem dX7_pick_15 : decode cX7_pick 15 = .ok (.invokevirtual 302, 3) := by decide +kernel
theorem dX7_pick_18 : decode cX7_pick 18 = .ok (.ireturn, 1) := by decide +kernel
theorem dX7_pickWithout_0 : decode cX7_pickWithout 0 = .ok (.aload_n 0, 1) := by decide +kernel
theorem dX7_pickWithout_1 : decode cX7_pickWithout 1 = .ok (.iload_n 1, 1) := by decide +kernel
theorem dX7_pickWithout_2 : decode cX7_pickWithout 2 = .ok (.invokevirtual 52, 3) := by decide +kernel
theorem dX7_pickWithout_5 : decode cX7_pickWithout 5 = .ok (.astore 5, 2) := by decide +kernel
theorem dX7_pickWithout_7 : decode cX7_pickWithout 7 = .ok (.iload_n 2, 1) := by decide +kernel
theorem dX7_pickWithout_8 : decode cX7_pickWithout 8 = .ok (.iload_n 3, 1) := by decide +kernel
theorem dX7_pickWithout_9 : decode cX7_pickWithout 9 = .ok (.iload 4, 2) := by decide +kernel
theorem dX7_pickWithout_11 : decode cX7_pickWithout 11 = .ok (.invokestatic 295, 3) := by decide +kernel
theorem dX7_pickWithout_14 : decode cX7_pickWithout 14 = .ok (.aload_n 0, 1) := by decide +kernel
theorem dX7_pickWithout_15 : decode cX7_pickWithout 15 = .ok (.iload_n 2, 1) := by decide +kernel
theorem dX7_pickWithout_16 : decode cX7_pickWithout 16 = .ok (.iload_n 3, 1) := by decide +kernel
theorem dX7_pickWithout_17 : decode cX7_pickWithout 17 = .ok (.iload 4, 2) := by decide +kernel
theorem dX7_pickWithout_19 : decode cX7_pickWithout 19 = .ok (.aload_n 0, 1) := by decide +kernel
theorem dX7_pickWithout_20 : decode cX7_pickWithout 20 = .ok (.getfield 232, 3) := by decide +kernel
theorem dX7_pickWithout_23 : decode cX7_pickWithout 23 = .ok (.aload 5, 2) := by decide +kernel
theorem dX7_pickWithout_25 : decode cX7_pickWithout 25 = .ok (.invokevirtual 302, 3) := by decide +kernel
theorem dX7_pickWithout_28 : decode cX7_pickWithout 28 = .ok (.ireturn, 1) := by decide +kernel
theorem dX7_placeOf_0 : decode cX7_placeOf 0 = .ok (.aload_n 0, 1) := by decide +kernel
theorem dX7_placeOf_1 : decode cX7_placeOf 1 = .ok (.iload_n 1, 1) := by decide +kernel
theorem dX7_placeOf_2 : decode cX7_placeOf 2 = .ok (.invokevirtual 52, 3) := by decide +kernel
theorem dX7_placeOf_5 : decode cX7_placeOf 5 = .ok (.getfield 287, 3) := by decide +kernel
theorem dX7_placeOf_8 : decode cX7_placeOf 8 = .ok (.ireturn, 1) := by decide +kernel
theorem dX7_setTime_0 : decode cX7_setTime 0 = .ok (.iload_n 1, 1) := by decide +kernel
theorem dX7_setTime_1 : decode cX7_setTime 1 = .ok (.invokestatic 228, 3) := by decide +kernel
theorem dX7_setTime_4 : decode cX7_setTime 4 = .ok (.aload_n 0, 1) := by decide +kernel
theorem dX7_setTime_5 : decode cX7_setTime 5 = .ok (.getfield 232, 3) := by decide +kernel
theorem dX7_setTime_8 : decode cX7_setTime 8 = .ok (.istore_n 2, 1) := by decide +kernel
theorem dX7_setTime_9 : decode cX7_setTime 9 = .ok (.aload_n 0, 1) := by decide +kernel
theorem dX7_setTime_10 : decode cX7_setTime 10 = .ok (.iload_n 1, 1) := by decide +kernel
theorem dX7_setTime_11 : decode cX7_setTime 11 = .ok (.putfield 232, 3) := by decide +kernel
theorem dX7_setTime_14 : decode cX7_setTime 14 = .ok (.iload_n 2, 1) := by decide +kernel
theorem dX7_setTime_15 : decode cX7_setTime 15 = .ok (.ireturn, 1) := by decide +kernel
theorem dX7_strength_0 : decode cX7_strength 0 = .ok (.aload_n 0, 1) := by decide +kernel
theorem dX7_strength_1 : decode cX7_strength 1 = .ok (.iload_n 1, 1) := by decide +kernel
theorem dX7_strength_2 : decode cX7_strength 2 = .ok (.invokevirtual 52, 3) := by decide +kernel
theorem dX7_strength_5 : decode cX7_strength 5 = .ok (.aload_n 0, 1) := by decide +kernel
theorem dX7_strength_6 : decode cX7_strength 6 = .ok (.getfield 232, 3) := by decide +kernel
theorem dX7_strength_9 : decode cX7_strength 9 = .ok (.iconst 0, 1) := by decide +kernel
theorem dX7_strength_10 : decode cX7_strength 10 = .ok (.invokestatic 283, 3) := by decide +kernel
theorem dX7_strength_13 : decode cX7_strength 13 = .ok (.ireturn, 1) := by decide +kernel
theorem dX7_through_0 : decode cX7_through 0 = .ok (.iload_n 1, 1) := by decide +kernel
theorem dX7_through_1 : decode cX7_through 1 = .ok (.iload_n 2, 1) := by decide +kernel
theorem dX7_through_2 : decode cX7_through 2 = .ok (.iload_n 3, 1) := by decide +kernel
theorem dX7_through_3 : decode cX7_through 3 = .ok (.invokestatic 295, 3) := by decide +kernel
theorem dX7_through_6 : decode cX7_through 6 = .ok (.sipush 10000, 3) := by decide +kernel
theorem dX7_through_9 : decode cX7_through 9 = .ok (.istore 4, 2) := by decide +kernel
theorem dX7_through_11 : decode cX7_through 11 = .ok (.aload_n 0, 1) := by decide +kernel
theorem dX7_through_12 : decode cX7_through 12 = .ok (.getfield 46, 3) := by decide +kernel
theorem dX7_through_15 : decode cX7_through 15 = .ok (.astore 5, 2) := by decide +kernel
theorem dX7_through_17 : decode cX7_through 17 = .ok (.aload 5, 2) := by decide +kernel
theorem dX7_through_19 : decode cX7_through 19 = .ok (.ifnull 50, 3) := by decide +kernel
theorem dX7_through_22 : decode cX7_through 22 = .ok (.aload_n 0, 1) := by decide +kernel
theorem dX7_through_23 : decode cX7_through 23 = .ok (.aload 5, 2) := by decide +kernel
theorem dX7_through_25 : decode cX7_through 25 = .ok (.iload_n 1, 1) := by decide +kernel
theorem dX7_through_26 : decode cX7_through 26 = .ok (.iload_n 2, 1) := by decide +kernel
theorem dX7_through_27 : decode cX7_through 27 = .ok (.iload_n 3, 1) := by decide +kernel
theorem dX7_through_28 : decode cX7_through 28 = .ok (.aload_n 0, 1) := by decide +kernel
theorem dX7_through_29 : decode cX7_through 29 = .ok (.getfield 232, 3) := by decide +kernel
theorem dX7_through_32 : decode cX7_through 32 = .ok (.invokevirtual 298, 3) := by decide +kernel
theorem dX7_through_35 : decode cX7_through 35 = .ok (.ifCond .eq 24, 3) := by decide +kernel
theorem dX7_through_38 : decode cX7_through 38 = .ok (.iload 4, 2) := by decide +kernel
theorem dX7_through_40 : decode cX7_through 40 = .ok (.bipush 100, 2) := by decide +kernel
theorem dX7_through_42 : decode cX7_through 42 = .ok (.aload 5, 2) := by decide +kernel
theorem dX7_through_44 : decode cX7_through 44 = .ok (.aload_n 0, 1) := by decide +kernel
theorem dX7_through_45 : decode cX7_through 45 = .ok (.getfield 232, 3) := by decide +kernel
theorem dX7_through_48 : decode cX7_through 48 = .ok (.iconst 0, 1) := by decide +kernel
theorem dX7_through_49 : decode cX7_through 49 = .ok (.invokestatic 283, 3) := by decide +kernel
theorem dX7_through_52 : decode cX7_through 52 = .ok (.isub, 1) := by decide +kernel
theorem dX7_through_53 : decode cX7_through 53 = .ok (.imul, 1) := by decide +kernel
theorem dX7_through_54 : decode cX7_through 54 = .ok (.bipush 100, 2) := by decide +kernel
theorem dX7_through_56 : decode cX7_through 56 = .ok (.idiv, 1) := by decide +kernel
theorem dX7_through_57 : decode cX7_through 57 = .ok (.istore 4, 2) := by decide +kernel
theorem dX7_through_59 : decode cX7_through 59 = .ok (.aload 5, 2) := by decide +kernel
theorem dX7_through_61 : decode cX7_through 61 = .ok (.getfield 98, 3) := by decide +kernel
theorem dX7_through_64 : decode cX7_through 64 = .ok (.astore 5, 2) := by decide +kernel
theorem dX7_through_66 : decode cX7_through 66 = .ok (.goto (-49), 3) := by decide +kernel
theorem dX7_through_69 : decode cX7_through 69 = .ok (.iload 4, 2) := by decide +kernel
theorem dX7_through_71 : decode cX7_through 71 = .ok (.ireturn, 1) := by decide +kernel
theorem dX7_toWhole_0 : decode cX7_toWhole 0 = .ok (.aload_n 0, 1) := by decide +kernel
theorem dX7_toWhole_1 : decode cX7_toWhole 1 = .ok (.iload_n 1, 1) := by decide +kernel
theorem dX7_toWhole_2 : decode cX7_toWhole 2 = .ok (.invokevirtual 52, 3) := by decide +kernel
theorem dX7_toWhole_5 : decode cX7_toWhole 5 = .ok (.astore 5, 2) := by decide +kernel
theorem dX7_toWhole_7 : decode cX7_toWhole 7 = .ok (.iload_n 2, 1) := by decide +kernel
theorem dX7_toWhole_8 : decode cX7_toWhole 8 = .ok (.iload_n 3, 1) := by decide +kernel
theorem dX7_toWhole_9 : decode cX7_toWhole 9 = .ok (.iload 4, 2) := by decide +kernel
theorem dX7_toWhole_11 : decode cX7_toWhole 11 = .ok (.invokestatic 244, 3) := by decide +kernel
theorem dX7_toWhole_14 : decode cX7_toWhole 14 = .ok (.aload_n 0, 1) := by decide +kernel
theorem dX7_toWhole_15 : decode cX7_toWhole 15 = .ok (.aload 5, 2) := by decide +kernel
theorem dX7_toWhole_17 : decode cX7_toWhole 17 = .ok (.iload_n 2, 1) := by decide +kernel
theorem dX7_toWhole_18 : decode cX7_toWhole 18 = .ok (.iload_n 3, 1) := by decide +kernel
theorem dX7_toWhole_19 : decode cX7_toWhole 19 = .ok (.invokevirtual 248, 3) := by decide +kernel
theorem dX7_toWhole_22 : decode cX7_toWhole 22 = .ok (.aload_n 0, 1) := by decide +kernel
theorem dX7_toWhole_23 : decode cX7_toWhole 23 = .ok (.getfield 31, 3) := by decide +kernel
theorem dX7_toWhole_26 : decode cX7_toWhole 26 = .ok (.iload 4, 2) := by decide +kernel
theorem dX7_toWhole_28 : decode cX7_toWhole 28 = .ok (.invokevirtual 252, 3) := by decide +kernel
theorem dX7_toWhole_31 : decode cX7_toWhole 31 = .ok (.l2i, 1) := by decide +kernel
theorem dX7_toWhole_32 : decode cX7_toWhole 32 = .ok (.ireturn, 1) := by decide +kernel
theorem dX2_init_0 : decode cX2_init 0 = .ok (.aload_n 0, 1) := by decide +kernel
theorem dX2_init_1 : decode cX2_init 1 = .ok (.invokespecial 1, 3) := by decide +kernel
theorem dX2_init_4 : decode cX2_init 4 = .ok (.aload_n 0, 1) := by decide +kernel
theorem dX2_init_5 : decode cX2_init 5 = .ok (.iload_n 1, 1) := by decide +kernel
theorem dX2_init_6 : decode cX2_init 6 = .ok (.putfield 7, 3) := by decide +kernel
theorem dX2_init_9 : decode cX2_init 9 = .ok (.aload_n 0, 1) := by decide +kernel
theorem dX2_init_10 : decode cX2_init 10 = .ok (.iload_n 2, 1) := by decide +kernel
theorem dX2_init_11 : decode cX2_init 11 = .ok (.putfield 13, 3) := by decide +kernel
theorem dX2_init_14 : decode cX2_init 14 = .ok (.aload_n 0, 1) := by decide +kernel
theorem dX2_init_15 : decode cX2_init 15 = .ok (.iload_n 3, 1) := by decide +kernel
theorem dX2_init_16 : decode cX2_init 16 = .ok (.putfield 16, 3) := by decide +kernel
theorem dX2_init_19 : decode cX2_init 19 = .ok (.aload_n 0, 1) := by decide +kernel
theorem dX2_init_20 : decode cX2_init 20 = .ok (.iload 4, 2) := by decide +kernel
theorem dX2_init_22 : decode cX2_init 22 = .ok (.putfield 19, 3) := by decide +kernel
theorem dX2_init_25 : decode cX2_init 25 = .ok (.return_, 1) := by decide +kernel
theorem dX6_init_0 : decode cX6_init 0 = .ok (.aload_n 0, 1) := by decide +kernel
theorem dX6_init_1 : decode cX6_init 1 = .ok (.invokespecial 3, 3) := by decide +kernel
theorem dX6_init_4 : decode cX6_init 4 = .ok (.aload_n 0, 1) := by decide +kernel
theorem dX6_init_5 : decode cX6_init 5 = .ok (.iload_n 1, 1) := by decide +kernel
theorem dX6_init_6 : decode cX6_init 6 = .ok (.putfield 9, 3) := by decide +kernel
theorem dX6_init_9 : decode cX6_init 9 = .ok (.aload_n 0, 1) := by decide +kernel
theorem dX6_init_10 : decode cX6_init 10 = .ok (.iload_n 2, 1) := by decide +kernel
theorem dX6_init_11 : decode cX6_init 11 = .ok (.putfield 15, 3) := by decide +kernel
theorem dX6_init_14 : decode cX6_init 14 = .ok (.aload_n 0, 1) := by decide +kernel
theorem dX6_init_15 : decode cX6_init 15 = .ok (.iload_n 3, 1) := by decide +kernel
theorem dX6_init_16 : decode cX6_init 16 = .ok (.putfield 18, 3) := by decide +kernel
theorem dX6_init_19 : decode cX6_init 19 = .ok (.return_, 1) := by decide +kernel
theorem dX4_init_0 : decode cX4_init 0 = .ok (.aload_n 0, 1) := by decide +kernel
theorem dX4_init_1 : decode cX4_init 1 = .ok (.invokespecial 3, 3) := by decide +kernel
theorem dX4_init_4 : decode cX4_init 4 = .ok (.aload_n 0, 1) := by decide +kernel
theorem dX4_init_5 : decode cX4_init 5 = .ok (.new 9, 3) := by decide +kernel
theorem dX4_init_8 : decode cX4_init 8 = .ok (.dup, 1) := by decide +kernel
theorem dX4_init_9 : decode cX4_init 9 = .ok (.iconst 0, 1) := by decide +kernel
theorem dX4_init_10 : decode cX4_init 10 = .ok (.sipush (-200), 3) := by decide +kernel
theorem dX4_init_13 : decode cX4_init 13 = .ok (.sipush 200, 3) := by decide +kernel
theorem dX4_init_16 : decode cX4_init 16 = .ok (.invokespecial 11, 3) := by decide +kernel
theorem dX4_init_19 : decode cX4_init 19 = .ok (.putfield 14, 3) := by decide +kernel
theorem dX4_init_22 : decode cX4_init 22 = .ok (.aload_n 0, 1) := by decide +kernel
theorem dX4_init_23 : decode cX4_init 23 = .ok (.new 9, 3) := by decide +kernel
theorem dX4_init_26 : decode cX4_init 26 = .ok (.dup, 1) := by decide +kernel
theorem dX4_init_27 : decode cX4_init 27 = .ok (.iconst 0, 1) := by decide +kernel
theorem dX4_init_28 : decode cX4_init 28 = .ok (.sipush (-200), 3) := by decide +kernel
theorem dX4_init_31 : decode cX4_init 31 = .ok (.sipush 200, 3) := by decide +kernel
theorem dX4_init_34 : decode cX4_init 34 = .ok (.invokespecial 11, 3) := by decide +kernel
theorem dX4_init_37 : decode cX4_init 37 = .ok (.putfield 20, 3) := by decide +kernel
theorem dX4_init_40 : decode cX4_init 40 = .ok (.aload_n 0, 1) := by decide +kernel
theorem dX4_init_41 : decode cX4_init 41 = .ok (.new 9, 3) := by decide +kernel
theorem dX4_init_44 : decode cX4_init 44 = .ok (.dup, 1) := by decide +kernel
theorem dX4_init_45 : decode cX4_init 45 = .ok (.iconst 0, 1) := by decide +kernel
theorem dX4_init_46 : decode cX4_init 46 = .ok (.iconst 0, 1) := by decide +kernel
theorem dX4_init_47 : decode cX4_init 47 = .ok (.iconst 3, 1) := by decide +kernel
theorem dX4_init_48 : decode cX4_init 48 = .ok (.invokespecial 11, 3) := by decide +kernel
theorem dX4_init_51 : decode cX4_init 51 = .ok (.putfield 23, 3) := by decide +kernel
theorem dX4_init_54 : decode cX4_init 54 = .ok (.aload_n 0, 1) := by decide +kernel
theorem dX4_init_55 : decode cX4_init 55 = .ok (.new 9, 3) := by decide +kernel
theorem dX4_init_58 : decode cX4_init 58 = .ok (.dup, 1) := by decide +kernel
theorem dX4_init_59 : decode cX4_init 59 = .ok (.bipush 100, 2) := by decide +kernel
theorem dX4_init_61 : decode cX4_init 61 = .ok (.iconst 0, 1) := by decide +kernel
theorem dX4_init_62 : decode cX4_init 62 = .ok (.bipush 100, 2) := by decide +kernel
theorem dX4_init_64 : decode cX4_init 64 = .ok (.invokespecial 11, 3) := by decide +kernel
theorem dX4_init_67 : decode cX4_init 67 = .ok (.putfield 26, 3) := by decide +kernel
theorem dX4_init_70 : decode cX4_init 70 = .ok (.aload_n 0, 1) := by decide +kernel
theorem dX4_init_71 : decode cX4_init 71 = .ok (.iconst 1, 1) := by decide +kernel
theorem dX4_init_72 : decode cX4_init 72 = .ok (.putfield 29, 3) := by decide +kernel
theorem dX4_init_75 : decode cX4_init 75 = .ok (.aload_n 0, 1) := by decide +kernel
theorem dX4_init_76 : decode cX4_init 76 = .ok (.iconst 1, 1) := by decide +kernel
theorem dX4_init_77 : decode cX4_init 77 = .ok (.putfield 33, 3) := by decide +kernel
theorem dX4_init_80 : decode cX4_init 80 = .ok (.aload_n 0, 1) := by decide +kernel
theorem dX4_init_81 : decode cX4_init 81 = .ok (.iload_n 1, 1) := by decide +kernel
theorem dX4_init_82 : decode cX4_init 82 = .ok (.putfield 36, 3) := by decide +kernel
theorem dX4_init_85 : decode cX4_init 85 = .ok (.aload_n 0, 1) := by decide +kernel
theorem dX4_init_86 : decode cX4_init 86 = .ok (.iload_n 2, 1) := by decide +kernel
theorem dX4_init_87 : decode cX4_init 87 = .ok (.putfield 39, 3) := by decide +kernel
theorem dX4_init_90 : decode cX4_init 90 = .ok (.aload_n 0, 1) := by decide +kernel
theorem dX4_init_91 : decode cX4_init 91 = .ok (.new 42, 3) := by decide +kernel
theorem dX4_init_94 : decode cX4_init 94 = .ok (.dup, 1) := by decide +kernel
theorem dX4_init_95 : decode cX4_init 95 = .ok (.iconst 0, 1) := by decide +kernel
theorem dX4_init_96 : decode cX4_init 96 = .ok (.iconst 0, 1) := by decide +kernel
theorem dX4_init_97 : decode cX4_init 97 = .ok (.iload_n 3, 1) := by decide +kernel
theorem dX4_init_98 : decode cX4_init 98 = .ok (.iload 4, 2) := by decide +kernel
theorem dX4_init_100 : decode cX4_init 100 = .ok (.invokespecial 44, 3) := by decide +kernel
theorem dX4_init_103 : decode cX4_init 103 = .ok (.putfield 47, 3) := by decide +kernel
theorem dX4_init_106 : decode cX4_init 106 = .ok (.return_, 1) := by decide +kernel
theorem dX4_takeIn_0 : decode cX4_takeIn 0 = .ok (.aconst_null, 1) := by decide +kernel
theorem dX4_takeIn_1 : decode cX4_takeIn 1 = .ok (.astore_n 2, 1) := by decide +kernel
theorem dX4_takeIn_2 : decode cX4_takeIn 2 = .ok (.aload_n 0, 1) := by decide +kernel
theorem dX4_takeIn_3 : decode cX4_takeIn 3 = .ok (.getfield 55, 3) := by decide +kernel
theorem dX4_takeIn_6 : decode cX4_takeIn 6 = .ok (.astore_n 3, 1) := by decide +kernel
theorem dX4_takeIn_7 : decode cX4_takeIn 7 = .ok (.aload_n 3, 1) := by decide +kernel
theorem dX4_takeIn_8 : decode cX4_takeIn 8 = .ok (.ifnull 13, 3) := by decide +kernel
theorem dX4_takeIn_11 : decode cX4_takeIn 11 = .ok (.aload_n 3, 1) := by decide +kernel
theorem dX4_takeIn_12 : decode cX4_takeIn 12 = .ok (.astore_n 2, 1) := by decide +kernel
theorem dX4_takeIn_13 : decode cX4_takeIn 13 = .ok (.aload_n 3, 1) := by decide +kernel
theorem dX4_takeIn_14 : decode cX4_takeIn 14 = .ok (.getfield 58, 3) := by decide +kernel
theorem dX4_takeIn_17 : decode cX4_takeIn 17 = .ok (.astore_n 3, 1) := by decide +kernel
theorem dX4_takeIn_18 : decode cX4_takeIn 18 = .ok (.goto (-11), 3) := by decide +kernel
theorem dX4_takeIn_21 : decode cX4_takeIn 21 = .ok (.aload_n 2, 1) := by decide +kernel
theorem dX4_takeIn_22 : decode cX4_takeIn 22 = .ok (.ifnonnull 11, 3) := by decide +kernel
theorem dX4_takeIn_25 : decode cX4_takeIn 25 = .ok (.aload_n 0, 1) := by decide +kernel
theorem dX4_takeIn_26 : decode cX4_takeIn 26 = .ok (.aload_n 1, 1) := by decide +kernel
theorem dX4_takeIn_27 : decode cX4_takeIn 27 = .ok (.putfield 55, 3) := by decide +kernel
theorem dX4_takeIn_30 : decode cX4_takeIn 30 = .ok (.goto 8, 3) := by decide +kernel
theorem dX4_takeIn_33 : decode cX4_takeIn 33 = .ok (.aload_n 2, 1) := by decide +kernel
theorem dX4_takeIn_34 : decode cX4_takeIn 34 = .ok (.aload_n 1, 1) := by decide +kernel
theorem dX4_takeIn_35 : decode cX4_takeIn 35 = .ok (.putfield 58, 3) := by decide +kernel
theorem dX4_takeIn_38 : decode cX4_takeIn 38 = .ok (.aload_n 1, 1) := by decide +kernel
theorem dX4_takeIn_39 : decode cX4_takeIn 39 = .ok (.aconst_null, 1) := by decide +kernel
theorem dX4_takeIn_40 : decode cX4_takeIn 40 = .ok (.putfield 58, 3) := by decide +kernel
theorem dX4_takeIn_43 : decode cX4_takeIn 43 = .ok (.aload_n 1, 1) := by decide +kernel
theorem dX4_takeIn_44 : decode cX4_takeIn 44 = .ok (.aload_n 0, 1) := by decide +kernel
theorem dX4_takeIn_45 : decode cX4_takeIn 45 = .ok (.putfield 51, 3) := by decide +kernel
theorem dX4_takeIn_48 : decode cX4_takeIn 48 = .ok (.return_, 1) := by decide +kernel
theorem dX7_layHanging_0 : decode cX7_layHanging 0 = .ok (.iload_n 2, 1) := by decide +kernel
theorem dX7_layHanging_1 : decode cX7_layHanging 1 = .ok (.istore 5, 2) := by decide +kernel
theorem dX7_layHanging_3 : decode cX7_layHanging 3 = .ok (.iload 5, 2) := by decide +kernel
theorem dX7_layHanging_5 : decode cX7_layHanging 5 = .ok (.iload_n 3, 1) := by decide +kernel
theorem dX7_layHanging_6 : decode cX7_layHanging 6 = .ok (.if_icmp .gt 48, 3) := by decide +kernel
theorem dX7_layHanging_9 : decode cX7_layHanging 9 = .ok (.aload_n 1, 1) := by decide +kernel
theorem dX7_layHanging_10 : decode cX7_layHanging 10 = .ok (.getfield 370, 3) := by decide +kernel
theorem dX7_layHanging_13 : decode cX7_layHanging 13 = .ok (.astore 6, 2) := by decide +kernel
theorem dX7_layHanging_15 : decode cX7_layHanging 15 = .ok (.aload 6, 2) := by decide +kernel
theorem dX7_layHanging_17 : decode cX7_layHanging 17 = .ok (.ifnull 31, 3) := by decide +kernel
theorem dX7_layHanging_20 : decode cX7_layHanging 20 = .ok (.aload 6, 2) := by decide +kernel
theorem dX7_layHanging_22 : decode cX7_layHanging 22 = .ok (.getfield 153, 3) := by decide +kernel
theorem dX7_layHanging_25 : decode cX7_layHanging 25 = .ok (.iload 5, 2) := by decide +kernel
theorem dX7_layHanging_27 : decode cX7_layHanging 27 = .ok (.if_icmp .ne 11, 3) := by decide +kernel
theorem dX7_layHanging_30 : decode cX7_layHanging 30 = .ok (.aload_n 0, 1) := by decide +kernel
theorem dX7_layHanging_31 : decode cX7_layHanging 31 = .ok (.aload 6, 2) := by decide +kernel
theorem dX7_layHanging_33 : decode cX7_layHanging 33 = .ok (.iload 4, 2) := by decide +kernel
theorem dX7_layHanging_35 : decode cX7_layHanging 35 = .ok (.invokevirtual 362, 3) := by decide +kernel
theorem dX7_layHanging_38 : decode cX7_layHanging 38 = .ok (.aload 6, 2) := by decide +kernel
theorem dX7_layHanging_40 : decode cX7_layHanging 40 = .ok (.getfield 373, 3) := by decide +kernel
theorem dX7_layHanging_43 : decode cX7_layHanging 43 = .ok (.astore 6, 2) := by decide +kernel
theorem dX7_layHanging_45 : decode cX7_layHanging 45 = .ok (.goto (-30), 3) := by decide +kernel
theorem dX7_layHanging_48 : decode cX7_layHanging 48 = .ok (.iinc 5 1, 3) := by decide +kernel
theorem dX7_layHanging_51 : decode cX7_layHanging 51 = .ok (.goto (-48), 3) := by decide +kernel
theorem dX7_layHanging_54 : decode cX7_layHanging 54 = .ok (.return_, 1) := by decide +kernel
theorem dX7_lay_0 : decode cX7_lay 0 = .ok (.iload_n 2, 1) := by decide +kernel
theorem dX7_lay_1 : decode cX7_lay 1 = .ok (.iconst 4, 1) := by decide +kernel
theorem dX7_lay_2 : decode cX7_lay 2 = .ok (.if_icmp .le 4, 3) := by decide +kernel
theorem dX7_lay_5 : decode cX7_lay 5 = .ok (.return_, 1) := by decide +kernel
theorem dX7_lay_6 : decode cX7_lay 6 = .ok (.aload_n 0, 1) := by decide +kernel
theorem dX7_lay_7 : decode cX7_lay 7 = .ok (.aload_n 1, 1) := by decide +kernel
theorem dX7_lay_8 : decode cX7_lay 8 = .ok (.bipush (-9), 2) := by decide +kernel
theorem dX7_lay_10 : decode cX7_lay 10 = .ok (.iconst (-1), 1) := by decide +kernel
theorem dX7_lay_11 : decode cX7_lay 11 = .ok (.iload_n 2, 1) := by decide +kernel
theorem dX7_lay_12 : decode cX7_lay 12 = .ok (.iconst 1, 1) := by decide +kernel
theorem dX7_lay_13 : decode cX7_lay 13 = .ok (.iadd, 1) := by decide +kernel
theorem dX7_lay_14 : decode cX7_lay 14 = .ok (.invokevirtual 366, 3) := by decide +kernel
theorem dX7_lay_17 : decode cX7_lay 17 = .ok (.aload_n 1, 1) := by decide +kernel
theorem dX7_lay_18 : decode cX7_lay 18 = .ok (.aload_n 0, 1) := by decide +kernel
theorem dX7_lay_19 : decode cX7_lay 19 = .ok (.getfield 46, 3) := by decide +kernel
theorem dX7_lay_22 : decode cX7_lay 22 = .ok (.putfield 98, 3) := by decide +kernel
theorem dX7_lay_25 : decode cX7_lay 25 = .ok (.aload_n 1, 1) := by decide +kernel
theorem dX7_lay_26 : decode cX7_lay 26 = .ok (.aload_n 0, 1) := by decide +kernel
theorem dX7_lay_27 : decode cX7_lay 27 = .ok (.getfield 49, 3) := by decide +kernel
theorem dX7_lay_30 : decode cX7_lay 30 = .ok (.putfield 287, 3) := by decide +kernel
theorem dX7_lay_33 : decode cX7_lay 33 = .ok (.aload_n 0, 1) := by decide +kernel
theorem dX7_lay_34 : decode cX7_lay 34 = .ok (.aload_n 1, 1) := by decide +kernel
theorem dX7_lay_35 : decode cX7_lay 35 = .ok (.putfield 46, 3) := by decide +kernel
theorem dX7_lay_38 : decode cX7_lay 38 = .ok (.aload_n 0, 1) := by decide +kernel
theorem dX7_lay_39 : decode cX7_lay 39 = .ok (.dup, 1) := by decide +kernel
theorem dX7_lay_40 : decode cX7_lay 40 = .ok (.getfield 49, 3) := by decide +kernel
theorem dX7_lay_43 : decode cX7_lay 43 = .ok (.iconst 1, 1) := by decide +kernel
theorem dX7_lay_44 : decode cX7_lay 44 = .ok (.iadd, 1) := by decide +kernel
theorem dX7_lay_45 : decode cX7_lay 45 = .ok (.putfield 49, 3) := by decide +kernel
theorem dX7_lay_48 : decode cX7_lay 48 = .ok (.aload_n 0, 1) := by decide +kernel
theorem dX7_lay_49 : decode cX7_lay 49 = .ok (.aload_n 1, 1) := by decide +kernel
theorem dX7_lay_50 : decode cX7_lay 50 = .ok (.iconst 0, 1) := by decide +kernel
theorem dX7_lay_51 : decode cX7_lay 51 = .ok (.bipush 9, 2) := by decide +kernel
theorem dX7_lay_53 : decode cX7_lay 53 = .ok (.iload_n 2, 1) := by decide +kernel
theorem dX7_lay_54 : decode cX7_lay 54 = .ok (.iconst 1, 1) := by decide +kernel
theorem dX7_lay_55 : decode cX7_lay 55 = .ok (.iadd, 1) := by decide +kernel
theorem dX7_lay_56 : decode cX7_lay 56 = .ok (.invokevirtual 366, 3) := by decide +kernel
theorem dX7_lay_59 : decode cX7_lay 59 = .ok (.return_, 1) := by decide +kernel
theorem dX7_layOrder_0 : decode cX7_layOrder 0 = .ok (.aload_n 0, 1) := by decide +kernel
theorem dX7_layOrder_1 : decode cX7_layOrder 1 = .ok (.aconst_null, 1) := by decide +kernel
theorem dX7_layOrder_2 : decode cX7_layOrder 2 = .ok (.putfield 46, 3) := by decide +kernel
theorem dX7_layOrder_5 : decode cX7_layOrder 5 = .ok (.aload_n 0, 1) := by decide +kernel
theorem dX7_layOrder_6 : decode cX7_layOrder 6 = .ok (.iconst 0, 1) := by decide +kernel
theorem dX7_layOrder_7 : decode cX7_layOrder 7 = .ok (.putfield 49, 3) := by decide +kernel
theorem dX7_layOrder_10 : decode cX7_layOrder 10 = .ok (.aload_n 0, 1) := by decide +kernel
theorem dX7_layOrder_11 : decode cX7_layOrder 11 = .ok (.aload_n 0, 1) := by decide +kernel
theorem dX7_layOrder_12 : decode cX7_layOrder 12 = .ok (.getfield 24, 3) := by decide +kernel
theorem dX7_layOrder_15 : decode cX7_layOrder 15 = .ok (.iconst 0, 1) := by decide +kernel
theorem dX7_layOrder_16 : decode cX7_layOrder 16 = .ok (.invokevirtual 362, 3) := by decide +kernel
theorem dX7_layOrder_19 : decode cX7_layOrder 19 = .ok (.return_, 1) := by decide +kernel
theorem dX7_add_0 : decode cX7_add 0 = .ok (.aload_n 0, 1) := by decide +kernel
theorem dX7_add_1 : decode cX7_add 1 = .ok (.iload_n 1, 1) := by decide +kernel
theorem dX7_add_2 : decode cX7_add 2 = .ok (.invokevirtual 52, 3) := by decide +kernel
theorem dX7_add_5 : decode cX7_add 5 = .ok (.astore 5, 2) := by decide +kernel
theorem dX7_add_7 : decode cX7_add 7 = .ok (.iload_n 2, 1) := by decide +kernel
theorem dX7_add_8 : decode cX7_add 8 = .ok (.iconst 0, 1) := by decide +kernel
theorem dX7_add_9 : decode cX7_add 9 = .ok (.iconst 2, 1) := by decide +kernel
theorem dX7_add_10 : decode cX7_add 10 = .ok (.invokestatic 56, 3) := by decide +kernel
theorem dX7_add_13 : decode cX7_add 13 = .ok (.ifCond .ne 13, 3) := by decide +kernel
theorem dX7_add_16 : decode cX7_add 16 = .ok (.new 60, 3) := by decide +kernel
theorem dX7_add_19 : decode cX7_add 19 = .ok (.dup, 1) := by decide +kernel
theorem dX7_add_20 : decode cX7_add 20 = .ok (.ldc 62, 2) := by decide +kernel
theorem dX7_add_22 : decode cX7_add 22 = .ok (.invokespecial 64, 3) := by decide +kernel
theorem dX7_add_25 : decode cX7_add 25 = .ok (.athrow, 1) := by decide +kernel
theorem dX7_add_26 : decode cX7_add 26 = .ok (.iload_n 2, 1) := by decide +kernel
theorem dX7_add_27 : decode cX7_add 27 = .ok (.ifCond .eq 36, 3) := by decide +kernel
theorem dX7_add_30 : decode cX7_add 30 = .ok (.iload_n 3, 1) := by decide +kernel
theorem dX7_add_31 : decode cX7_add 31 = .ok (.iconst 1, 1) := by decide +kernel
theorem dX7_add_32 : decode cX7_add 32 = .ok (.sipush 200, 3) := by decide +kernel
theorem dX7_add_35 : decode cX7_add 35 = .ok (.invokestatic 56, 3) := by decide +kernel
theorem dX7_add_38 : decode cX7_add 38 = .ok (.ifCond .eq 15, 3) := by decide +kernel
theorem dX7_add_41 : decode cX7_add 41 = .ok (.iload 4, 2) := by decide +kernel
theorem dX7_add_43 : decode cX7_add 43 = .ok (.iconst 1, 1) := by decide +kernel
theorem dX7_add_44 : decode cX7_add 44 = .ok (.sipush 200, 3) := by decide +kernel
theorem dX7_add_47 : decode cX7_add 47 = .ok (.invokestatic 56, 3) := by decide +kernel
theorem dX7_add_50 : decode cX7_add 50 = .ok (.ifCond .ne 13, 3) := by decide +kernel
theorem dX7_add_53 : decode cX7_add 53 = .ok (.new 60, 3) := by decide +kernel
theorem dX7_add_56 : decode cX7_add 56 = .ok (.dup, 1) := by decide +kernel
theorem dX7_add_57 : decode cX7_add 57 = .ok (.ldc 67, 2) := by decide +kernel
theorem dX7_add_59 : decode cX7_add 59 = .ok (.invokespecial 64, 3) := by decide +kernel
theorem dX7_add_62 : decode cX7_add 62 = .ok (.athrow, 1) := by decide +kernel
theorem dX7_add_63 : decode cX7_add 63 = .ok (.aload_n 0, 1) := by decide +kernel
theorem dX7_add_64 : decode cX7_add 64 = .ok (.getfield 42, 3) := by decide +kernel
theorem dX7_add_67 : decode cX7_add 67 = .ok (.ifCond .lt 24, 3) := by decide +kernel
theorem dX7_add_70 : decode cX7_add 70 = .ok (.aload_n 0, 1) := by decide +kernel
theorem dX7_add_71 : decode cX7_add 71 = .ok (.getfield 42, 3) := by decide +kernel
theorem dX7_add_74 : decode cX7_add 74 = .ok (.aload_n 0, 1) := by decide +kernel
theorem dX7_add_75 : decode cX7_add 75 = .ok (.getfield 11, 3) := by decide +kernel
theorem dX7_add_78 : decode cX7_add 78 = .ok (.arraylength, 1) := by decide +kernel
theorem dX7_add_79 : decode cX7_add 79 = .ok (.if_icmp .ge 12, 3) := by decide +kernel
theorem dX7_add_82 : decode cX7_add 82 = .ok (.aload 5, 2) := by decide +kernel
theorem dX7_add_84 : decode cX7_add 84 = .ok (.invokevirtual 69, 3) := by decide +kernel
theorem dX7_add_87 : decode cX7_add 87 = .ok (.iconst 4, 1) := by decide +kernel
theorem dX7_add_88 : decode cX7_add 88 = .ok (.if_icmp .lt 13, 3) := by decide +kernel
theorem dX7_add_91 : decode cX7_add 91 = .ok (.new 73, 3) := by decide +kernel
theorem dX7_add_94 : decode cX7_add 94 = .ok (.dup, 1) := by decide +kernel
theorem dX7_add_95 : decode cX7_add 95 = .ok (.ldc 75, 2) := by decide +kernel
theorem dX7_add_97 : decode cX7_add 97 = .ok (.invokespecial 77, 3) := by decide +kernel
theorem dX7_add_100 : decode cX7_add 100 = .ok (.athrow, 1) := by decide +kernel
theorem dX7_add_101 : decode cX7_add 101 = .ok (.new 9, 3) := by decide +kernel
theorem dX7_add_104 : decode cX7_add 104 = .ok (.dup, 1) := by decide +kernel
theorem dX7_add_105 : decode cX7_add 105 = .ok (.aload_n 0, 1) := by decide +kernel
theorem dX7_add_106 : decode cX7_add 106 = .ok (.getfield 42, 3) := by decide +kernel
theorem dX7_add_109 : decode cX7_add 109 = .ok (.iload_n 2, 1) := by decide +kernel
theorem dX7_add_110 : decode cX7_add 110 = .ok (.iload_n 3, 1) := by decide +kernel
theorem dX7_add_111 : decode cX7_add 111 = .ok (.iload 4, 2) := by decide +kernel
theorem dX7_add_113 : decode cX7_add 113 = .ok (.invokespecial 21, 3) := by decide +kernel
theorem dX7_add_116 : decode cX7_add 116 = .ok (.astore 6, 2) := by decide +kernel
theorem dX7_add_118 : decode cX7_add 118 = .ok (.aload_n 0, 1) := by decide +kernel
theorem dX7_add_119 : decode cX7_add 119 = .ok (.getfield 11, 3) := by decide +kernel
theorem dX7_add_122 : decode cX7_add 122 = .ok (.aload_n 0, 1) := by decide +kernel
theorem dX7_add_123 : decode cX7_add 123 = .ok (.getfield 42, 3) := by decide +kernel
theorem dX7_add_126 : decode cX7_add 126 = .ok (.aload 6, 2) := by decide +kernel
theorem dX7_add_128 : decode cX7_add 128 = .ok (.aastore, 1) := by decide +kernel
theorem dX7_add_129 : decode cX7_add 129 = .ok (.aload_n 0, 1) := by decide +kernel
theorem dX7_add_130 : decode cX7_add 130 = .ok (.dup, 1) := by decide +kernel
theorem dX7_add_131 : decode cX7_add 131 = .ok (.getfield 42, 3) := by decide +kernel
theorem dX7_add_134 : decode cX7_add 134 = .ok (.iconst 1, 1) := by decide +kernel
theorem dX7_add_135 : decode cX7_add 135 = .ok (.iadd, 1) := by decide +kernel
theorem dX7_add_136 : decode cX7_add 136 = .ok (.putfield 42, 3) := by decide +kernel
theorem dX7_add_139 : decode cX7_add 139 = .ok (.aload 5, 2) := by decide +kernel
theorem dX7_add_141 : decode cX7_add 141 = .ok (.aload 6, 2) := by decide +kernel
theorem dX7_add_143 : decode cX7_add 143 = .ok (.invokevirtual 78, 3) := by decide +kernel
theorem dX7_add_146 : decode cX7_add 146 = .ok (.aload_n 0, 1) := by decide +kernel
theorem dX7_add_147 : decode cX7_add 147 = .ok (.invokevirtual 82, 3) := by decide +kernel
theorem dX7_add_150 : decode cX7_add 150 = .ok (.aload 6, 2) := by decide +kernel
theorem dX7_add_152 : decode cX7_add 152 = .ok (.getfield 85, 3) := by decide +kernel
theorem dX7_add_155 : decode cX7_add 155 = .ok (.ireturn, 1) := by decide +kernel
theorem dX8_draw_0 : decode cX8_draw 0 = .ok (.aload_n 0, 1) := by decide +kernel
theorem dX8_draw_1 : decode cX8_draw 1 = .ok (.getfield 46, 3) := by decide +kernel
theorem dX8_draw_4 : decode cX8_draw 4 = .ok (.aload_n 0, 1) := by decide +kernel
theorem dX8_draw_5 : decode cX8_draw 5 = .ok (.getfield 49, 3) := by decide +kernel
theorem dX8_draw_8 : decode cX8_draw 8 = .ok (.bipush 24, 2) := by decide +kernel
theorem dX8_draw_10 : decode cX8_draw 10 = .ok (.irem, 1) := by decide +kernel
theorem dX8_draw_11 : decode cX8_draw 11 = .ok (.invokestatic 56, 3) := by decide +kernel
theorem dX8_draw_14 : decode cX8_draw 14 = .ok (.aload_n 0, 1) := by decide +kernel
theorem dX8_draw_15 : decode cX8_draw 15 = .ok (.getfield 49, 3) := by decide +kernel
theorem dX8_draw_18 : decode cX8_draw 18 = .ok (.bipush 24, 2) := by decide +kernel
theorem dX8_draw_20 : decode cX8_draw 20 = .ok (.idiv, 1) := by decide +kernel
theorem dX8_draw_21 : decode cX8_draw 21 = .ok (.bipush 8, 2) := by decide +kernel
theorem dX8_draw_23 : decode cX8_draw 23 = .ok (.irem, 1) := by decide +kernel
theorem dX8_draw_24 : decode cX8_draw 24 = .ok (.ishr, 1) := by decide +kernel
theorem dX8_draw_25 : decode cX8_draw 25 = .ok (.bipush 89, 2) := by decide +kernel
theorem dX8_draw_27 : decode cX8_draw 27 = .ok (.aload_n 0, 1) := by decide +kernel
theorem dX8_draw_28 : decode cX8_draw 28 = .ok (.getfield 49, 3) := by decide +kernel
theorem dX8_draw_31 : decode cX8_draw 31 = .ok (.imul, 1) := by decide +kernel
theorem dX8_draw_32 : decode cX8_draw 32 = .ok (.iadd, 1) := by decide +kernel
theorem dX8_draw_33 : decode cX8_draw 33 = .ok (.iload_n 1, 1) := by decide +kernel
theorem dX8_draw_34 : decode cX8_draw 34 = .ok (.invokestatic 62, 3) := by decide +kernel
theorem dX8_draw_37 : decode cX8_draw 37 = .ok (.istore_n 2, 1) := by decide +kernel
theorem dX8_draw_38 : decode cX8_draw 38 = .ok (.aload_n 0, 1) := by decide +kernel
theorem dX8_draw_39 : decode cX8_draw 39 = .ok (.dup, 1) := by decide +kernel
theorem dX8_draw_40 : decode cX8_draw 40 = .ok (.getfield 49, 3) := by decide +kernel
theorem dX8_draw_43 : decode cX8_draw 43 = .ok (.iconst 1, 1) := by decide +kernel
theorem dX8_draw_44 : decode cX8_draw 44 = .ok (.iadd, 1) := by decide +kernel
theorem dX8_draw_45 : decode cX8_draw 45 = .ok (.putfield 49, 3) := by decide +kernel
theorem dX8_draw_48 : decode cX8_draw 48 = .ok (.iload_n 2, 1) := by decide +kernel
theorem dX8_draw_49 : decode cX8_draw 49 = .ok (.ireturn, 1) := by decide +kernel
noncomputable def f_X7_topAt_L41 (k6 : Option Nat → Int32 → Int32 → Int32 → Int32 → Option Nat → Option Nat → fSt → Option (Int32 × fSt)) (a0 : Option Nat) (a1 : Int32) (a2 : Int32) (a3 : Int32) (a4 : Int32) (a5 : Option Nat) (a6 : Option Nat) (h : fSt) : Option (Int32 × fSt) := (fgR h a6 4 17).bind fun x1 => k6 a0 a1 a2 a3 a4 a5 x1 h
noncomputable def f_X7_topAt_L6 (n : Nat) : Option Nat → Int32 → Int32 → Int32 → Int32 → Option Nat → Option Nat → fSt → Option (Int32 × fSt) := Nat.rec (motive := fun _ => Option Nat → Int32 → Int32 → Int32 → Int32 → Option Nat → Option Nat → fSt → Option (Int32 × fSt)) (fun _ _ _ _ _ _ _ _ => none) (fun _ k6 (a0 : Option Nat) (a1 : Int32) (a2 : Int32) (a3 : Int32) (a4 : Int32) (a5 : Option Nat) (a6 : Option Nat) (h : fSt) => (if a6 = none then some ((-1 : Int32), h) else (fobj h a6 4).bind fun b6 => (f_X4_isWithin b6 a5 h).bind fun r4 => (if r4.1 = 0 then (fobj r4.2 a0 7).bind fun b11 => (f_X7_coversAt b11 a6 a1 a2 a3 a4 r4.2).bind fun r9 => (if r9.1 = 0 then f_X7_topAt_L41 k6 a0 a1 a2 a3 a4 a5 a6 r9.2 else (fgI r9.2 a6 4 0).bind fun x14 => some (x14, r9.2)) else f_X7_topAt_L41 k6 a0 a1 a2 a3 a4 a5 a6 r4.2))) n
noncomputable def f_X7_topAt_L0 (a0 : Option Nat) (a1 : Int32) (a2 : Int32) (a3 : Int32) (a4 : Int32) (a5 : Option Nat) (h : fSt) : Option (Int32 × fSt) := (fgR h a0 7 8).bind fun x16 => f_X7_topAt_L6 4096 a0 a1 a2 a3 a4 a5 x16 h
noncomputable def f_X7_topAt (o : Nat) (p0 : Int32) (p1 : Int32) (p2 : Int32) (p3 : Int32) (p4 : Option Nat) (h : fSt) : Option (Int32 × fSt) := f_X7_topAt_L0 (some o) p0 p1 p2 p3 p4 h
noncomputable def f_X7_digest_L72 (k44 : Option Nat → Int64 → Int32 → fSt → Option (Int64 × fSt)) (a0 : Option Nat) (a1 : Int64) (a3 : Int32) (h : fSt) : Option (Int64 × fSt) := k44 a0 a1 (a3 + (1 : Int32)) h
noncomputable def f_X7_digest_L80 (n : Nat) : Option Nat → Int64 → Int32 → fSt → Option (Int64 × fSt) := Nat.rec (motive := fun _ => Option Nat → Int64 → Int32 → fSt → Option (Int64 × fSt)) (fun _ _ _ _ => none) (fun _ k80 (a0 : Option Nat) (a1 : Int64) (a3 : Int32) (h : fSt) => (if (90 : Int32) < a3 then (fobj h a0 7).bind fun b4 => (f_X7_changes b4 (0 : Int32) (7 : Int32) h).bind fun r2 => Sum.elim (fun v6 => (f_X7_mixed a1 (Int32.toInt64 v6) r2.2).bind fun r9 => some (r9.1, r9.2)) (fun _ => none) r2.1 else (fgI h a0 7 7).bind fun x11 => (fobj h a0 7).bind fun b15 => (f_X7_topAt b15 a3 a3 (1 : Int32) x11 none h).bind fun r13 => (f_X7_mixed a1 (Int32.toInt64 r13.1) r13.2).bind fun r17 => k80 a0 r17.1 (a3 + (10 : Int32)) r17.2)) n
noncomputable def f_X7_digest_L44 (n : Nat) : Option Nat → Int64 → Int32 → fSt → Option (Int64 × fSt) := Nat.rec (motive := fun _ => Option Nat → Int64 → Int32 → fSt → Option (Int64 × fSt)) (fun _ _ _ _ => none) (fun _ k44 (a0 : Option Nat) (a1 : Int64) (a3 : Int32) (h : fSt) => (fgI h a0 7 5).bind fun x19 => (if x19 ≤ a3 then f_X7_digest_L80 4096 a0 a1 (0 : Int32) h else (fobj h a0 7).bind fun b24 => (f_X7_nodeOrNull b24 a3 h).bind fun r22 => (if r22.1 = none then f_X7_digest_L72 k44 a0 a1 a3 r22.2 else (fobj r22.2 a0 7).bind fun b29 => (f_X7_mixedWithNode b29 a1 r22.1 r22.2).bind fun r27 => f_X7_digest_L72 k44 a0 r27.1 a3 r27.2))) n
noncomputable def f_X7_digest_L0 (a0 : Option Nat) (h : fSt) : Option (Int64 × fSt) := (fgI h a0 7 5).bind fun x31 => (f_X7_mixed (2647 : Int64) (Int32.toInt64 x31) h).bind fun r33 => (fgI r33.2 a0 7 9).bind fun x35 => (f_X7_mixed r33.1 (Int32.toInt64 x35) r33.2).bind fun r37 => (fgI r37.2 a0 7 6).bind fun x39 => (f_X7_mixed r37.1 (Int32.toInt64 x39) r37.2).bind fun r41 => (fobj r41.2 a0 7).bind fun b45 => (f_X7_nextKey b45 r41.2).bind fun r43 => (f_X7_mixed r41.1 (Int32.toInt64 r43.1) r43.2).bind fun r47 => f_X7_digest_L44 4096 a0 r47.1 (0 : Int32) r47.2
noncomputable def f_X7_digest (o : Nat) (h : fSt) : Option (Int64 × fSt) := f_X7_digest_L0 (some o) h
noncomputable def f_X7_fromWhole_L0 (a0 : Option Nat) (a1 : Int32) (a2 : Int32) (a3 : Int32) (a4 : Int32) (h : fSt) : Option ((Int32 ⊕ Nat) × fSt) := (fobj h a0 7).bind fun b3 => (f_X7_found b3 a1 h).bind fun r1 => Sum.elim (fun v5 => (f_X7_checkPoint a2 a3 a4 r1.2).bind fun r8 => Sum.elim (fun v10 => (fgR r8.2 a0 7 3).bind fun x13 => (fobj r8.2 x13 5).bind fun b17 => (f_X5_set b17 (Int32.toInt64 a2) (Int32.toInt64 a3) (1 : Int64) r8.2).bind fun r15 => (fgR r15.2 a0 7 3).bind fun x19 => (fgI r15.2 a0 7 7).bind fun x21 => (f_X7_sink 8 x19 v5 x21 (0 : Int32) r15.2).bind fun r23 => (fgR r23.2 a0 7 3).bind fun x25 => (fobj r23.2 x25 5).bind fun b29 => (f_X5_part b29 a4 r23.2).bind fun r27 => some (.inl (Int64.toInt32 r27.1), r27.2)) (fun k11 => some (.inr k11, r8.2)) r8.1) (fun k6 => some (.inr k6, r1.2)) r1.1
noncomputable def f_X7_fromWhole (o : Nat) (p0 : Int32) (p1 : Int32) (p2 : Int32) (p3 : Int32) (h : fSt) : Option ((Int32 ⊕ Nat) × fSt) := f_X7_fromWhole_L0 (some o) p0 p1 p2 p3 h
noncomputable def f_X7_isShown_L0 (a0 : Option Nat) (a1 : Int32) (h : fSt) : Option ((Int32 ⊕ Nat) × fSt) := (fobj h a0 7).bind fun b3 => (f_X7_found b3 a1 h).bind fun r1 => Sum.elim (fun v5 => (fgI r1.2 a0 7 7).bind fun x8 => (fobj r1.2 v5 4).bind fun b12 => (f_X4_isShownAt b12 x8 r1.2).bind fun r10 => if r10.1 = 0 ∨ r10.1 = 1 then some (.inl r10.1, r10.2) else none) (fun k6 => some (.inr k6, r1.2)) r1.1
noncomputable def f_X7_isShown (o : Nat) (p0 : Int32) (h : fSt) : Option ((Int32 ⊕ Nat) × fSt) := f_X7_isShown_L0 (some o) p0 h
noncomputable def f_X7_level_L0 (a0 : Option Nat) (a1 : Int32) (h : fSt) : Option ((Int32 ⊕ Nat) × fSt) := (fobj h a0 7).bind fun b3 => (f_X7_found b3 a1 h).bind fun r1 => Sum.elim (fun v5 => (fobj r1.2 v5 4).bind fun b10 => (f_X4_depth b10 r1.2).bind fun r8 => some (.inl r8.1, r8.2)) (fun k6 => some (.inr k6, r1.2)) r1.1
noncomputable def f_X7_level (o : Nat) (p0 : Int32) (h : fSt) : Option ((Int32 ⊕ Nat) × fSt) := f_X7_level_L0 (some o) p0 h
noncomputable def f_X7_many_L39 (k15 : Option Nat → Int32 → Int32 → Int32 → Int32 → Option Nat → fSt → Option ((Int32 ⊕ Nat) × fSt)) (a0 : Option Nat) (a1 : Int32) (a2 : Int32) (a3 : Int32) (a4 : Int32) (a5 : Option Nat) (h : fSt) : Option ((Int32 ⊕ Nat) × fSt) := (fgR h a5 4 17).bind fun x1 => k15 a0 a1 a2 a3 a4 x1 h
noncomputable def f_X7_many_L15 (n : Nat) : Option Nat → Int32 → Int32 → Int32 → Int32 → Option Nat → fSt → Option ((Int32 ⊕ Nat) × fSt) := Nat.rec (motive := fun _ => Option Nat → Int32 → Int32 → Int32 → Int32 → Option Nat → fSt → Option ((Int32 ⊕ Nat) × fSt)) (fun _ _ _ _ _ _ _ => none) (fun _ k15 (a0 : Option Nat) (a1 : Int32) (a2 : Int32) (a3 : Int32) (a4 : Int32) (a5 : Option Nat) (h : fSt) => (if a5 = none then some (.inl a4, h) else (fgI h a0 7 7).bind fun x4 => (fobj h a0 7).bind fun b8 => (f_X7_coversAt b8 a5 a1 a2 a3 x4 h).bind fun r6 => (if r6.1 = 0 then f_X7_many_L39 k15 a0 a1 a2 a3 a4 a5 r6.2 else f_X7_many_L39 k15 a0 a1 a2 a3 (a4 + (1 : Int32)) a5 r6.2))) n
noncomputable def f_X7_many_L0 (a0 : Option Nat) (a1 : Int32) (a2 : Int32) (a3 : Int32) (h : fSt) : Option ((Int32 ⊕ Nat) × fSt) := (f_X7_checkSpot a1 a2 a3 h).bind fun r11 => Sum.elim (fun v13 => (fgR r11.2 a0 7 8).bind fun x16 => f_X7_many_L15 4096 a0 a1 a2 a3 (0 : Int32) x16 r11.2) (fun k14 => some (.inr k14, r11.2)) r11.1
noncomputable def f_X7_many (o : Nat) (p0 : Int32) (p1 : Int32) (p2 : Int32) (h : fSt) : Option ((Int32 ⊕ Nat) × fSt) := f_X7_many_L0 (some o) p0 p1 p2 h
noncomputable def f_X7_isToldAnew_L47 (k2 : Option Nat → Int32 → Int32 → fSt → Option (Int32 × fSt)) (a0 : Option Nat) (a1 : Int32) (a2 : Int32) (h : fSt) : Option (Int32 × fSt) := k2 a0 a1 (a2 + (1 : Int32)) h
noncomputable def f_X7_isToldAnew_L53  (h : fSt) : Option (Int32 × fSt) := some ((0 : Int32), h)
noncomputable def f_X7_isToldAnew_L2 (n : Nat) : Option Nat → Int32 → Int32 → fSt → Option (Int32 × fSt) := Nat.rec (motive := fun _ => Option Nat → Int32 → Int32 → fSt → Option (Int32 × fSt)) (fun _ _ _ _ => none) (fun _ k2 (a0 : Option Nat) (a1 : Int32) (a2 : Int32) (h : fSt) => (fgI h a0 7 6).bind fun x1 => (if x1 ≤ a2 then f_X7_isToldAnew_L53 h else (fgR h a0 7 1).bind fun x4 => (flen h x4 3).bind fun x6 => (if x6 ≤ a2 then f_X7_isToldAnew_L53 h else (fgR h a0 7 1).bind fun x9 => (faR h x9 3 a2).bind fun x11 => (if x11 = none then f_X7_isToldAnew_L47 k2 a0 a1 a2 h else (fgR h a0 7 1).bind fun x14 => (faR h x14 3 a2).bind fun x16 => (fgI h a0 7 7).bind fun x18 => (fobj h x16 6).bind fun b22 => (f_X6_differs b22 x18 a1 h).bind fun r20 => (if r20.1 = 0 then f_X7_isToldAnew_L47 k2 a0 a1 a2 r20.2 else some ((1 : Int32), r20.2)))))) n
noncomputable def f_X7_isToldAnew_L0 (a0 : Option Nat) (a1 : Int32) (h : fSt) : Option (Int32 × fSt) := f_X7_isToldAnew_L2 4096 a0 a1 (0 : Int32) h
noncomputable def f_X7_isToldAnew (o : Nat) (p0 : Int32) (h : fSt) : Option (Int32 × fSt) := f_X7_isToldAnew_L0 (some o) p0 h
noncomputable def f_X7_nextPick_L99 (k65 : Option Nat → Int32 → Int32 → Int32 → Int32 → Int32 → Int32 → fSt → Option ((Int32 ⊕ Nat) × fSt)) (a0 : Option Nat) (a1 : Int32) (a2 : Int32) (a3 : Int32) (a5 : Int32) (a6 : Int32) (a7 : Int32) (h : fSt) : Option ((Int32 ⊕ Nat) × fSt) := k65 a0 a1 a2 a3 a5 a6 (a7 + (1 : Int32)) h
noncomputable def f_X7_nextPick_L65 (n : Nat) : Option Nat → Int32 → Int32 → Int32 → Int32 → Int32 → Int32 → fSt → Option ((Int32 ⊕ Nat) × fSt) := Nat.rec (motive := fun _ => Option Nat → Int32 → Int32 → Int32 → Int32 → Int32 → Int32 → fSt → Option ((Int32 ⊕ Nat) × fSt)) (fun _ _ _ _ _ _ _ _ => none) (fun _ k65 (a0 : Option Nat) (a1 : Int32) (a2 : Int32) (a3 : Int32) (a5 : Int32) (a6 : Int32) (a7 : Int32) (h : fSt) => (if a6 < a7 then some (.inl (-1 : Int32), h) else (fobj h a0 7).bind fun b4 => (f_X7_isToldAnew b4 a7 h).bind fun r2 => (if r2.1 = 0 then f_X7_nextPick_L99 k65 a0 a1 a2 a3 a5 a6 a7 r2.2 else (fobj r2.2 a0 7).bind fun b9 => (f_X7_topAt b9 a1 a2 a3 a7 none r2.2).bind fun r7 => (if r7.1 = a5 then f_X7_nextPick_L99 k65 a0 a1 a2 a3 a5 a6 a7 r7.2 else some (.inl a7, r7.2))))) n
noncomputable def f_X7_nextPick_L0 (a0 : Option Nat) (a1 : Int32) (a2 : Int32) (a3 : Int32) (a4 : Int32) (h : fSt) : Option ((Int32 ⊕ Nat) × fSt) := (f_X7_checkSpot a1 a2 a3 h).bind fun r12 => Sum.elim (fun v14 => (f_X7_isFrom a4 (1 : Int32) (100 : Int32) r12.2).bind fun r17 => (if r17.1 = 0 then (fthr r17.2).bind fun h30 => some (.inr 1, h30) else (fgI r17.2 a0 7 7).bind fun x20 => (fobj r17.2 a0 7).bind fun b24 => (f_X7_topAt b24 a1 a2 a3 x20 none r17.2).bind fun r22 => (fgI r22.2 a0 7 7).bind fun x26 => (fgI r22.2 a0 7 7).bind fun x28 => f_X7_nextPick_L65 4096 a0 a1 a2 a3 r22.1 (if (9999 : Int32) < (x26 + a4) then (9999 : Int32) else (x26 + a4)) (x28 + (1 : Int32)) r22.2)) (fun k15 => some (.inr k15, r12.2)) r12.1
noncomputable def f_X7_nextPick (o : Nat) (p0 : Int32) (p1 : Int32) (p2 : Int32) (p3 : Int32) (h : fSt) : Option ((Int32 ⊕ Nat) × fSt) := f_X7_nextPick_L0 (some o) p0 p1 p2 p3 h
noncomputable def f_X7_nodes_L0 (a0 : Option Nat) (h : fSt) : Option (Int32 × fSt) := (fgI h a0 7 9).bind fun x1 => some (x1, h)
noncomputable def f_X7_nodes (o : Nat) (h : fSt) : Option (Int32 × fSt) := f_X7_nodes_L0 (some o) h
noncomputable def f_X7_orderAt_L5 (n : Nat) : Int32 → Option Nat → fSt → Option ((Int32 ⊕ Nat) × fSt) := Nat.rec (motive := fun _ => Int32 → Option Nat → fSt → Option ((Int32 ⊕ Nat) × fSt)) (fun _ _ _ => none) (fun _ k5 (a1 : Int32) (a2 : Option Nat) (h : fSt) => (if a2 = none then (fthr h).bind fun h2 => some (.inr 0, h2) else (fgI h a2 4 18).bind fun x4 => (if x4 = a1 then (fgI h a2 4 0).bind fun x9 => some (.inl x9, h) else (fgR h a2 4 17).bind fun x7 => k5 a1 x7 h))) n
noncomputable def f_X7_orderAt_L0 (a0 : Option Nat) (a1 : Int32) (h : fSt) : Option ((Int32 ⊕ Nat) × fSt) := (fgR h a0 7 8).bind fun x11 => f_X7_orderAt_L5 4096 a1 x11 h
noncomputable def f_X7_orderAt (o : Nat) (p0 : Int32) (h : fSt) : Option ((Int32 ⊕ Nat) × fSt) := f_X7_orderAt_L0 (some o) p0 h
noncomputable def f_X7_parent_L0 (a0 : Option Nat) (a1 : Int32) (h : fSt) : Option ((Int32 ⊕ Nat) × fSt) := (fobj h a0 7).bind fun b3 => (f_X7_found b3 a1 h).bind fun r1 => Sum.elim (fun v5 => (f_X7_parentNumber v5 r1.2).bind fun r8 => some (.inl r8.1, r8.2)) (fun k6 => some (.inr k6, r1.2)) r1.1
noncomputable def f_X7_parent (o : Nat) (p0 : Int32) (h : fSt) : Option ((Int32 ⊕ Nat) × fSt) := f_X7_parent_L0 (some o) p0 h
noncomputable def f_X7_pick_L0 (a0 : Option Nat) (a1 : Int32) (a2 : Int32) (a3 : Int32) (h : fSt) : Option ((Int32 ⊕ Nat) × fSt) := (f_X7_checkSpot a1 a2 a3 h).bind fun r1 => Sum.elim (fun v3 => (fgI r1.2 a0 7 7).bind fun x6 => (fobj r1.2 a0 7).bind fun b10 => (f_X7_topAt b10 a1 a2 a3 x6 none r1.2).bind fun r8 => some (.inl r8.1, r8.2)) (fun k4 => some (.inr k4, r1.2)) r1.1
noncomputable def f_X7_pick (o : Nat) (p0 : Int32) (p1 : Int32) (p2 : Int32) (h : fSt) : Option ((Int32 ⊕ Nat) × fSt) := f_X7_pick_L0 (some o) p0 p1 p2 h
noncomputable def f_X7_pickWithout_L0 (a0 : Option Nat) (a1 : Int32) (a2 : Int32) (a3 : Int32) (a4 : Int32) (h : fSt) : Option ((Int32 ⊕ Nat) × fSt) := (fobj h a0 7).bind fun b3 => (f_X7_found b3 a1 h).bind fun r1 => Sum.elim (fun v5 => (f_X7_checkSpot a2 a3 a4 r1.2).bind fun r8 => Sum.elim (fun v10 => (fgI r8.2 a0 7 7).bind fun x13 => (fobj r8.2 a0 7).bind fun b17 => (f_X7_topAt b17 a2 a3 a4 x13 v5 r8.2).bind fun r15 => some (.inl r15.1, r15.2)) (fun k11 => some (.inr k11, r8.2)) r8.1) (fun k6 => some (.inr k6, r1.2)) r1.1
noncomputable def f_X7_pickWithout (o : Nat) (p0 : Int32) (p1 : Int32) (p2 : Int32) (p3 : Int32) (h : fSt) : Option ((Int32 ⊕ Nat) × fSt) := f_X7_pickWithout_L0 (some o) p0 p1 p2 p3 h
noncomputable def f_X7_placeOf_L0 (a0 : Option Nat) (a1 : Int32) (h : fSt) : Option ((Int32 ⊕ Nat) × fSt) := (fobj h a0 7).bind fun b3 => (f_X7_found b3 a1 h).bind fun r1 => Sum.elim (fun v5 => (fgI r1.2 v5 4 18).bind fun x8 => some (.inl x8, r1.2)) (fun k6 => some (.inr k6, r1.2)) r1.1
noncomputable def f_X7_placeOf (o : Nat) (p0 : Int32) (h : fSt) : Option ((Int32 ⊕ Nat) × fSt) := f_X7_placeOf_L0 (some o) p0 h
noncomputable def f_X7_setTime_L0 (a0 : Option Nat) (a1 : Int32) (h : fSt) : Option ((Int32 ⊕ Nat) × fSt) := (f_X7_checkTime a1 h).bind fun r1 => Sum.elim (fun v3 => (fgI r1.2 a0 7 7).bind fun x6 => (fput r1.2 a0 7 7 (.int a1)).bind fun h8 => some (.inl x6, h8)) (fun k4 => some (.inr k4, r1.2)) r1.1
noncomputable def f_X7_setTime (o : Nat) (p0 : Int32) (h : fSt) : Option ((Int32 ⊕ Nat) × fSt) := f_X7_setTime_L0 (some o) p0 h
noncomputable def f_X7_strength_L0 (a0 : Option Nat) (a1 : Int32) (h : fSt) : Option ((Int32 ⊕ Nat) × fSt) := (fobj h a0 7).bind fun b3 => (f_X7_found b3 a1 h).bind fun r1 => Sum.elim (fun v5 => (fgI r1.2 a0 7 7).bind fun x8 => (f_X7_strengthOf 8 v5 x8 (0 : Int32) r1.2).bind fun r10 => some (.inl r10.1, r10.2)) (fun k6 => some (.inr k6, r1.2)) r1.1
noncomputable def f_X7_strength (o : Nat) (p0 : Int32) (h : fSt) : Option ((Int32 ⊕ Nat) × fSt) := f_X7_strength_L0 (some o) p0 h
noncomputable def f_X7_through_L59 (k17 : Option Nat → Int32 → Int32 → Int32 → Int32 → Option Nat → fSt → Option ((Int32 ⊕ Nat) × fSt)) (a0 : Option Nat) (a1 : Int32) (a2 : Int32) (a3 : Int32) (a4 : Int32) (a5 : Option Nat) (h : fSt) : Option ((Int32 ⊕ Nat) × fSt) := (fgR h a5 4 17).bind fun x1 => k17 a0 a1 a2 a3 a4 x1 h
noncomputable def f_X7_through_L17 (n : Nat) : Option Nat → Int32 → Int32 → Int32 → Int32 → Option Nat → fSt → Option ((Int32 ⊕ Nat) × fSt) := Nat.rec (motive := fun _ => Option Nat → Int32 → Int32 → Int32 → Int32 → Option Nat → fSt → Option ((Int32 ⊕ Nat) × fSt)) (fun _ _ _ _ _ _ _ => none) (fun _ k17 (a0 : Option Nat) (a1 : Int32) (a2 : Int32) (a3 : Int32) (a4 : Int32) (a5 : Option Nat) (h : fSt) => (if a5 = none then some (.inl a4, h) else (fgI h a0 7 7).bind fun x4 => (fobj h a0 7).bind fun b8 => (f_X7_coversAt b8 a5 a1 a2 a3 x4 h).bind fun r6 => (if r6.1 = 0 then f_X7_through_L59 k17 a0 a1 a2 a3 a4 a5 r6.2 else (fgI r6.2 a0 7 7).bind fun x11 => (f_X7_strengthOf 8 a5 x11 (0 : Int32) r6.2).bind fun r13 => f_X7_through_L59 k17 a0 a1 a2 a3 ((a4 * ((100 : Int32) - r13.1)) / (100 : Int32)) a5 r13.2))) n
noncomputable def f_X7_through_L0 (a0 : Option Nat) (a1 : Int32) (a2 : Int32) (a3 : Int32) (h : fSt) : Option ((Int32 ⊕ Nat) × fSt) := (f_X7_checkSpot a1 a2 a3 h).bind fun r15 => Sum.elim (fun v17 => (fgR r15.2 a0 7 8).bind fun x20 => f_X7_through_L17 4096 a0 a1 a2 a3 (10000 : Int32) x20 r15.2) (fun k18 => some (.inr k18, r15.2)) r15.1
noncomputable def f_X7_through (o : Nat) (p0 : Int32) (p1 : Int32) (p2 : Int32) (h : fSt) : Option ((Int32 ⊕ Nat) × fSt) := f_X7_through_L0 (some o) p0 p1 p2 h
noncomputable def f_X7_toWhole_L0 (a0 : Option Nat) (a1 : Int32) (a2 : Int32) (a3 : Int32) (a4 : Int32) (h : fSt) : Option ((Int32 ⊕ Nat) × fSt) := (fobj h a0 7).bind fun b3 => (f_X7_found b3 a1 h).bind fun r1 => Sum.elim (fun v5 => (f_X7_checkPoint a2 a3 a4 r1.2).bind fun r8 => Sum.elim (fun v10 => (fobj r8.2 a0 7).bind fun b15 => (f_X7_raise b15 v5 a2 a3 r8.2).bind fun r13 => (fgR r13.2 a0 7 3).bind fun x17 => (fobj r13.2 x17 5).bind fun b21 => (f_X5_part b21 a4 r13.2).bind fun r19 => some (.inl (Int64.toInt32 r19.1), r19.2)) (fun k11 => some (.inr k11, r8.2)) r8.1) (fun k6 => some (.inr k6, r1.2)) r1.1
noncomputable def f_X7_toWhole (o : Nat) (p0 : Int32) (p1 : Int32) (p2 : Int32) (p3 : Int32) (h : fSt) : Option ((Int32 ⊕ Nat) × fSt) := f_X7_toWhole_L0 (some o) p0 p1 p2 p3 h
noncomputable def f_X2_init_L0 (a0 : Option Nat) (a1 : Int32) (a2 : Int32) (a3 : Int32) (a4 : Int32) (h : fSt) : Option (Unit × fSt) := (fobj h a0 2).bind fun b1 => (fput h a0 2 0 (.int a1)).bind fun h3 => (fput h3 a0 2 1 (.int a2)).bind fun h5 => (fput h5 a0 2 2 (.int a3)).bind fun h7 => (fput h7 a0 2 3 (.int a4)).bind fun h9 => some ((), h9)
noncomputable def f_X2_init (o : Nat) (p0 : Int32) (p1 : Int32) (p2 : Int32) (p3 : Int32) (h : fSt) : Option (Unit × fSt) := f_X2_init_L0 (some o) p0 p1 p2 p3 h
noncomputable def f_X6_init_L0 (a0 : Option Nat) (a1 : Int32) (a2 : Int32) (a3 : Int32) (h : fSt) : Option (Unit × fSt) := (fobj h a0 6).bind fun b1 => (fput h a0 6 2 (.int a1)).bind fun h3 => (fput h3 a0 6 0 (.int a2)).bind fun h5 => (fput h5 a0 6 1 (.int a3)).bind fun h7 => some ((), h7)
noncomputable def f_X6_init (o : Nat) (p0 : Int32) (p1 : Int32) (p2 : Int32) (h : fSt) : Option (Unit × fSt) := f_X6_init_L0 (some o) p0 p1 p2 h
noncomputable def f_X4_init_L0 (a0 : Option Nat) (a1 : Int32) (a2 : Int32) (a3 : Int32) (a4 : Int32) (h : fSt) : Option (Unit × fSt) := (fobj h a0 4).bind fun b1 => (fnew h (.inl (6, [.int 0, .int 0, .int 0, .int 0, .int 0, .int 0, .int 0, .null, .int 0])) 9).bind fun r3 => (f_X6_init r3.1 (0 : Int32) (-200 : Int32) (200 : Int32) r3.2).bind fun r5 => (fput r5.2 a0 4 3 (va_rf (some r3.1))).bind fun h7 => (fnew h7 (.inl (6, [.int 0, .int 0, .int 0, .int 0, .int 0, .int 0, .int 0, .null, .int 0])) 9).bind fun r9 => (f_X6_init r9.1 (0 : Int32) (-200 : Int32) (200 : Int32) r9.2).bind fun r11 => (fput r11.2 a0 4 4 (va_rf (some r9.1))).bind fun h13 => (fnew h13 (.inl (6, [.int 0, .int 0, .int 0, .int 0, .int 0, .int 0, .int 0, .null, .int 0])) 9).bind fun r15 => (f_X6_init r15.1 (0 : Int32) (0 : Int32) (3 : Int32) r15.2).bind fun r17 => (fput r17.2 a0 4 5 (va_rf (some r15.1))).bind fun h19 => (fnew h19 (.inl (6, [.int 0, .int 0, .int 0, .int 0, .int 0, .int 0, .int 0, .null, .int 0])) 9).bind fun r21 => (f_X6_init r21.1 (100 : Int32) (0 : Int32) (100 : Int32) r21.2).bind fun r23 => (fput r23.2 a0 4 6 (va_rf (some r21.1))).bind fun h25 => (fput h25 a0 4 7 (.int (1 : Int32))).bind fun h27 => (fput h27 a0 4 8 (.int (1 : Int32))).bind fun h29 => (fput h29 a0 4 0 (.int a1)).bind fun h31 => (fput h31 a0 4 1 (.int a2)).bind fun h33 => (fnew h33 (.inl (2, [.int 0, .int 0, .int 0, .int 0])) 4).bind fun r35 => (f_X2_init r35.1 (0 : Int32) (0 : Int32) a3 a4 r35.2).bind fun r37 => (fput r37.2 a0 4 2 (va_rf (some r35.1))).bind fun h39 => some ((), h39)
noncomputable def f_X4_init (o : Nat) (p0 : Int32) (p1 : Int32) (p2 : Int32) (p3 : Int32) (h : fSt) : Option (Unit × fSt) := f_X4_init_L0 (some o) p0 p1 p2 p3 h
noncomputable def f_X4_takeIn_L38 (a0 : Option Nat) (a1 : Option Nat) (h : fSt) : Option (Unit × fSt) := (fput h a1 4 16 (va_rf none)).bind fun h1 => (fput h1 a1 4 14 (va_rf a0)).bind fun h3 => some ((), h3)
noncomputable def f_X4_takeIn_L7 (n : Nat) : Option Nat → Option Nat → Option Nat → Option Nat → fSt → Option (Unit × fSt) := Nat.rec (motive := fun _ => Option Nat → Option Nat → Option Nat → Option Nat → fSt → Option (Unit × fSt)) (fun _ _ _ _ _ => none) (fun _ k7 (a0 : Option Nat) (a1 : Option Nat) (a2 : Option Nat) (a3 : Option Nat) (h : fSt) => (if a3 = none then (if a2 = none then (fput h a0 4 15 (va_rf a1)).bind fun h9 => f_X4_takeIn_L38 a0 a1 h9 else (fput h a2 4 16 (va_rf a1)).bind fun h7 => f_X4_takeIn_L38 a0 a1 h7) else (fgR h a3 4 16).bind fun x11 => k7 a0 a1 a3 x11 h)) n
noncomputable def f_X4_takeIn_L0 (a0 : Option Nat) (a1 : Option Nat) (h : fSt) : Option (Unit × fSt) := (fgR h a0 4 15).bind fun x13 => f_X4_takeIn_L7 4096 a0 a1 none x13 h
noncomputable def f_X4_takeIn (o : Nat) (p0 : Option Nat) (h : fSt) : Option (Unit × fSt) := f_X4_takeIn_L0 (some o) p0 h
noncomputable def f_X7_layHanging_L38 (self : Nat → Option Nat → Int32 → fSt → Option (Unit × fSt)) (k3 : Option Nat → Option Nat → Int32 → Int32 → Int32 → fSt → Option (Unit × fSt)) (k15 : Option Nat → Option Nat → Int32 → Int32 → Int32 → Option Nat → fSt → Option (Unit × fSt)) (a0 : Option Nat) (a1 : Option Nat) (a3 : Int32) (a4 : Int32) (a5 : Int32) (a6 : Option Nat) (h : fSt) : Option (Unit × fSt) := (fgR h a6 4 16).bind fun x1 => k15 a0 a1 a3 a4 a5 x1 h
noncomputable def f_X7_layHanging_L15 (self : Nat → Option Nat → Int32 → fSt → Option (Unit × fSt)) (k3 : Option Nat → Option Nat → Int32 → Int32 → Int32 → fSt → Option (Unit × fSt)) (n : Nat) : Option Nat → Option Nat → Int32 → Int32 → Int32 → Option Nat → fSt → Option (Unit × fSt) := Nat.rec (motive := fun _ => Option Nat → Option Nat → Int32 → Int32 → Int32 → Option Nat → fSt → Option (Unit × fSt)) (fun _ _ _ _ _ _ _ => none) (fun _ k15 (a0 : Option Nat) (a1 : Option Nat) (a3 : Int32) (a4 : Int32) (a5 : Int32) (a6 : Option Nat) (h : fSt) => (if a6 = none then k3 a0 a1 a3 a4 (a5 + (1 : Int32)) h else (fgI h a6 4 10).bind fun x4 => (if x4 = a5 then (fobj h a0 7).bind fun b9 => (self b9 a6 a4 h).bind fun r7 => f_X7_layHanging_L38 self k3 k15 a0 a1 a3 a4 a5 a6 r7.2 else f_X7_layHanging_L38 self k3 k15 a0 a1 a3 a4 a5 a6 h))) n
noncomputable def f_X7_layHanging_L3 (self : Nat → Option Nat → Int32 → fSt → Option (Unit × fSt)) (n : Nat) : Option Nat → Option Nat → Int32 → Int32 → Int32 → fSt → Option (Unit × fSt) := Nat.rec (motive := fun _ => Option Nat → Option Nat → Int32 → Int32 → Int32 → fSt → Option (Unit × fSt)) (fun _ _ _ _ _ _ => none) (fun _ k3 (a0 : Option Nat) (a1 : Option Nat) (a3 : Int32) (a4 : Int32) (a5 : Int32) (h : fSt) => (if a3 < a5 then some ((), h) else (fgR h a1 4 15).bind fun x12 => f_X7_layHanging_L15 self k3 4096 a0 a1 a3 a4 a5 x12 h)) n
noncomputable def f_X7_layHanging_L0 (self : Nat → Option Nat → Int32 → fSt → Option (Unit × fSt)) (a0 : Option Nat) (a1 : Option Nat) (a2 : Int32) (a3 : Int32) (a4 : Int32) (h : fSt) : Option (Unit × fSt) := f_X7_layHanging_L3 self 4096 a0 a1 a3 a4 a2 h
noncomputable def f_X7_layHanging (self : Nat → Option Nat → Int32 → fSt → Option (Unit × fSt)) (o : Nat) (p0 : Option Nat) (p1 : Int32) (p2 : Int32) (p3 : Int32) (h : fSt) : Option (Unit × fSt) := f_X7_layHanging_L0 self (some o) p0 p1 p2 p3 h
noncomputable def f_X7_lay_L0 (self : Nat → Option Nat → Int32 → fSt → Option (Unit × fSt)) (a0 : Option Nat) (a1 : Option Nat) (a2 : Int32) (h : fSt) : Option (Unit × fSt) := (if a2 ≤ (4 : Int32) then (fobj h a0 7).bind fun b4 => (f_X7_layHanging self b4 a1 (-9 : Int32) (-1 : Int32) (a2 + (1 : Int32)) h).bind fun r2 => (fgR r2.2 a0 7 8).bind fun x6 => (fput r2.2 a1 4 17 (va_rf x6)).bind fun h8 => (fgI h8 a0 7 9).bind fun x10 => (fput h8 a1 4 18 (.int x10)).bind fun h12 => (fput h12 a0 7 8 (va_rf a1)).bind fun h14 => (fgI h14 a0 7 9).bind fun x16 => (fput h14 a0 7 9 (.int (x16 + (1 : Int32)))).bind fun h18 => (fobj h18 a0 7).bind fun b22 => (f_X7_layHanging self b22 a1 (0 : Int32) (9 : Int32) (a2 + (1 : Int32)) h18).bind fun r20 => some ((), r20.2) else some ((), h))
noncomputable def f_X7_lay (d : Nat) : Nat → Option Nat → Int32 → fSt → Option (Unit × fSt) := Nat.rec (motive := fun _ => Nat → Option Nat → Int32 → fSt → Option (Unit × fSt)) (fun _ _ _ _ => none) (fun _ self (o : Nat) (p0 : Option Nat) (p1 : Int32) (h : fSt) => f_X7_lay_L0 self (some o) p0 p1 h) d
noncomputable def f_X7_layOrder_L0 (a0 : Option Nat) (h : fSt) : Option (Unit × fSt) := (fput h a0 7 8 (va_rf none)).bind fun h1 => (fput h1 a0 7 9 (.int (0 : Int32))).bind fun h3 => (fgR h3 a0 7 2).bind fun x5 => (fobj h3 a0 7).bind fun b9 => (f_X7_lay 8 b9 x5 (0 : Int32) h3).bind fun r7 => some ((), r7.2)
noncomputable def f_X7_layOrder (o : Nat) (h : fSt) : Option (Unit × fSt) := f_X7_layOrder_L0 (some o) h
noncomputable def f_X7_add_L53  (h : fSt) : Option ((Int32 ⊕ Nat) × fSt) := (fthr h).bind fun h1 => some (.inr 1, h1)
noncomputable def f_X7_add_L91  (h : fSt) : Option ((Int32 ⊕ Nat) × fSt) := (fthr h).bind fun h3 => some (.inr 2, h3)
noncomputable def f_X7_add_L63 (a0 : Option Nat) (a2 : Int32) (a3 : Int32) (a4 : Int32) (a5 : Option Nat) (h : fSt) : Option ((Int32 ⊕ Nat) × fSt) := (fgI h a0 7 5).bind fun x5 => (if x5 < 0 then f_X7_add_L91 h else (fgI h a0 7 5).bind fun x8 => (fgR h a0 7 0).bind fun x10 => (flen h x10 2).bind fun x12 => (if x12 ≤ x8 then f_X7_add_L91 h else (fobj h a5 4).bind fun b17 => (f_X4_depth b17 h).bind fun r15 => (if r15.1 < (4 : Int32) then (fnew r15.2 (.inl (4, [.int 0, .int 0, .null, .null, .null, .null, .null, .int 0, .int 0, .int 0, .int 0, .int 0, .null, .int 0, .null, .null, .null, .null, .int 0])) 19).bind fun r20 => (fgI r20.2 a0 7 5).bind fun x22 => (f_X4_init r20.1 x22 a2 a3 a4 r20.2).bind fun r24 => (fgR r24.2 a0 7 0).bind fun x26 => (fgI r24.2 a0 7 5).bind fun x28 => (fsR r24.2 x26 2 4 x28 (some r20.1)).bind fun h30 => (fgI h30 a0 7 5).bind fun x32 => (fput h30 a0 7 5 (.int (x32 + (1 : Int32)))).bind fun h34 => (fobj h34 a5 4).bind fun b38 => (f_X4_takeIn b38 (some r20.1) h34).bind fun r36 => (fobj r36.2 a0 7).bind fun b42 => (f_X7_layOrder b42 r36.2).bind fun r40 => (fgI r40.2 (some r20.1) 4 0).bind fun x44 => some (.inl x44, r40.2) else f_X7_add_L91 r15.2)))
noncomputable def f_X7_add_L0 (a0 : Option Nat) (a1 : Int32) (a2 : Int32) (a3 : Int32) (a4 : Int32) (h : fSt) : Option ((Int32 ⊕ Nat) × fSt) := (fobj h a0 7).bind fun b48 => (f_X7_found b48 a1 h).bind fun r46 => Sum.elim (fun v50 => (f_X7_isFrom a2 (0 : Int32) (2 : Int32) r46.2).bind fun r53 => (if r53.1 = 0 then (fthr r53.2).bind fun h63 => some (.inr 1, h63) else (if a2 = 0 then f_X7_add_L63 a0 a2 a3 a4 v50 r53.2 else (f_X7_isFrom a3 (1 : Int32) (200 : Int32) r53.2).bind fun r57 => (if r57.1 = 0 then f_X7_add_L53 r57.2 else (f_X7_isFrom a4 (1 : Int32) (200 : Int32) r57.2).bind fun r60 => (if r60.1 = 0 then f_X7_add_L53 r60.2 else f_X7_add_L63 a0 a2 a3 a4 v50 r60.2))))) (fun k51 => some (.inr k51, r46.2)) r46.1
noncomputable def f_X7_add (o : Nat) (p0 : Int32) (p1 : Int32) (p2 : Int32) (p3 : Int32) (h : fSt) : Option ((Int32 ⊕ Nat) × fSt) := f_X7_add_L0 (some o) p0 p1 p2 p3 h
noncomputable def f_X8_draw_L0 (a0 : Option Nat) (a1 : Int32) (h : fSt) : Option (Int32 × fSt) := (fgR h a0 8 1).bind fun x1 => (fgI h a0 8 2).bind fun x3 => (f_L_cell x1 (x3 - x3 / (24 : Int32) * (24 : Int32)) h).bind fun r5 => (fgI r5.2 a0 8 2).bind fun x7 => (fgI r5.2 a0 8 2).bind fun x9 => (f_L_below ((r5.1 >>> (((x7 / (24 : Int32)) - (x7 / (24 : Int32)) / (8 : Int32) * (8 : Int32)) &&& 31)) + ((89 : Int32) * x9)) a1 r5.2).bind fun r11 => (fgI r11.2 a0 8 2).bind fun x13 => (fput r11.2 a0 8 2 (.int (x13 + (1 : Int32)))).bind fun h15 => some (r11.1, h15)
noncomputable def f_X8_draw (o : Nat) (p0 : Int32) (h : fSt) : Option (Int32 × fSt) := f_X8_draw_L0 (some o) p0 h
set_option maxHeartbeats 4000000 in
set_option maxRecDepth 100000 in
theorem w_X7_topAt_L41 {p : Program} {l : Launch} {e : Env} {s : State} {m : MethodId} {args : Array Value} {below : List Frame} {meth : Method} {c : Code} {D : va_G} {cA : Nat → ClassId} {h0 : fSt} {r : (Int32 × fSt)} (M : fM p s m args meth c D cA h0 { frames := 26, cells := fCB h0 - fZ h0, slots := fLB h0 - fL h0, locals := 640 } cX7_topAt 7 (some (.int)) RX7) (hfl : l.stackTraces = false) {k6 : Option Nat → Int32 → Int32 → Int32 → Int32 → Option Nat → Option Nat → fSt → Option (Int32 × fSt)} (hk6 : ∀ (a0 : Option Nat) (a1 : Int32) (a2 : Int32) (a3 : Int32) (a4 : Int32) (a5 : Option Nat) (a6 : Option Nat) (h : fSt), k6 a0 a1 a2 a3 a4 a5 a6 h = some r → ∀ (H : Heap) (locs : List Loc) (cells slots : Nat) (ls : Array Slot), fCur D cA s h0 h H locs → lv_has ls 7 [(0, va_rf a0), (1, .int a1), (2, .int a2), (3, .int a3), (4, .int a4), (5, va_rf a5), (6, va_rf a6)] → W p l e { frames := 26, cells := fCB h0 - fZ h0, slots := fLB h0 - fL h0, locals := 640 } s m args below meth c H locs cells slots (MQ below (fQ D cA h0 r.2 (some (.int r.1))) args s (fCB h0 - fZ h0) (fLB h0 - fL h0) (fA h0)) (F0 m 6 ls [])) (a0 : Option Nat) (a1 : Int32) (a2 : Int32) (a3 : Int32) (a4 : Int32) (a5 : Option Nat) (a6 : Option Nat) (h : fSt) (hf : f_X7_topAt_L41 k6 a0 a1 a2 a3 a4 a5 a6 h = some r) : ∀ (H : Heap) (locs : List Loc) (cells slots : Nat) (ls : Array Slot), fCur D cA s h0 h H locs → lv_has ls 7 [(0, va_rf a0), (1, .int a1), (2, .int a2), (3, .int a3), (4, .int a4), (5, va_rf a5), (6, va_rf a6)] → W p l e { frames := 26, cells := fCB h0 - fZ h0, slots := fLB h0 - fL h0, locals := 640 } s m args below meth c H locs cells slots (MQ below (fQ D cA h0 r.2 (some (.int r.1))) args s (fCB h0 - fZ h0) (fLB h0 - fL h0) (fA h0)) (F0 m 41 ls []) := by
  obtain ⟨hx, hb, hml, hr, hlocks, hts, hown, K, hR⟩ := id M
  intro H locs cells slots ls hC hl
  refine fr_aload hx hb dX7_topAt_41 (lv_at hl 6 rfl) ?_
  obtain ⟨x1, g2, hf⟩ := obind hf
  refine fr_get hx hb hts hown K hC ct_4 (fgR_get g2) (by decide) kw517 rfl dX7_topAt_43 ?_
  refine fr_astore (lv' := [(6, va_rf x1), (0, va_rf a0), (1, .int a1), (2, .int a2), (3, .int a3), (4, .int a4), (5, va_rf a5)]) hx hb dX7_topAt_46 hl (by decide) (congrArg (List.cons _) (flk rfl (flk rfl (flk rfl (flk rfl (flk rfl (flk (adj1 _ _) (fld rfl fln)))))))) (fun ls hl => ?_)
  refine lv_goto (tgt := 6) hx hb dX7_topAt_48 (by decide) ?_
  exact hk6 _ _ _ _ _ _ _ _ hf _ _ _ _ _ hC (lv_sub hl [1, 2, 3, 4, 5, 6, 0] rfl)
set_option maxHeartbeats 4000000 in
set_option maxRecDepth 100000 in
theorem w_X7_topAt_L6 {p : Program} {l : Launch} {e : Env} {s : State} {m : MethodId} {args : Array Value} {below : List Frame} {meth : Method} {c : Code} {D : va_G} {cA : Nat → ClassId} {h0 : fSt} {r : (Int32 × fSt)} (M : fM p s m args meth c D cA h0 { frames := 26, cells := fCB h0 - fZ h0, slots := fLB h0 - fL h0, locals := 640 } cX7_topAt 7 (some (.int)) RX7) (hfl : l.stackTraces = false) : ∀ (n : Nat) (a0 : Option Nat) (a1 : Int32) (a2 : Int32) (a3 : Int32) (a4 : Int32) (a5 : Option Nat) (a6 : Option Nat) (h : fSt), f_X7_topAt_L6 n a0 a1 a2 a3 a4 a5 a6 h = some r → ∀ (H : Heap) (locs : List Loc) (cells slots : Nat) (ls : Array Slot), fCur D cA s h0 h H locs → lv_has ls 7 [(0, va_rf a0), (1, .int a1), (2, .int a2), (3, .int a3), (4, .int a4), (5, va_rf a5), (6, va_rf a6)] → W p l e { frames := 26, cells := fCB h0 - fZ h0, slots := fLB h0 - fL h0, locals := 640 } s m args below meth c H locs cells slots (MQ below (fQ D cA h0 r.2 (some (.int r.1))) args s (fCB h0 - fZ h0) (fLB h0 - fL h0) (fA h0)) (F0 m 6 ls []) := by
  obtain ⟨hx, hb, hml, hr, hlocks, hts, hown, K, hR⟩ := id M
  intro n
  induction n with
  | zero =>
    intro a0 a1 a2 a3 a4 a5 a6 h hf
    exact nomatch (show (none : Option (Int32 × fSt)) = some r from hf)
  | succ n hk6 =>
    intro a0 a1 a2 a3 a4 a5 a6 h hf H locs cells slots ls hC hl
    refine fr_aload hx hb dX7_topAt_6 (lv_at hl 6 rfl) ?_
    refine fr_ifnull (tgt := 51) hx hb dX7_topAt_8 (by decide) (fun c3 => ?_) (fun c3 => ?_)
    · replace hf := opos c3 hf
      refine lv_iconst (v := (-1 : Int32)) hx hb dX7_topAt_51 (by decide) ?_
      obtain rfl := Option.some.inj hf
      exact fr_iret hx hb hr hlocks hC dX7_topAt_52
    · replace hf := oneg c3 hf
      refine fr_aload hx hb dX7_topAt_11 (lv_at hl 6 rfl) ?_
      refine fr_aload hx hb dX7_topAt_13 (lv_at hl 5 rfl) ?_
      obtain ⟨b6, q7, hf⟩ := obind hf
      obtain ⟨r4, g5, hf⟩ := obind hf
      refine fr_callV hx hb hml hts hown K hC hR ct_4 (c_X4_isWithin hfl D cA g5) 1 q7 kw144 kw141 kw142 kw143 kw24 (by decide +kernel) ⟨by exact Nat.le_of_ble_eq_true rfl, by exact Nat.le_of_ble_eq_true rfl⟩ rfl hl.1 (cat8 _ (by exact Nat.le_of_ble_eq_true rfl)) dX7_topAt_15 rfl (fun H locs _ _ hC => ?_)
      refine lv_if_ne (tgt := 41) hx hb dX7_topAt_18 (by decide) (fun c8 => ?_) (fun c8 => ?_)
      · replace hf := oneg c8 hf
        exact w_X7_topAt_L41 M hfl hk6 _ _ _ _ _ _ _ _ hf _ _ _ _ _ hC (lv_sub hl [0, 1, 2, 3, 4, 5, 6] rfl)
      · replace hf := opos c8 hf
        refine fr_aload_n hx hb dX7_topAt_21 rfl (lv_at hl 0 rfl) ?_
        refine fr_aload hx hb dX7_topAt_22 (lv_at hl 6 rfl) ?_
        refine lv_iload_n hx hb dX7_topAt_24 rfl (lv_at hl 1 rfl) ?_
        refine lv_iload_n hx hb dX7_topAt_25 rfl (lv_at hl 2 rfl) ?_
        refine lv_iload_n hx hb dX7_topAt_26 rfl (lv_at hl 3 rfl) ?_
        refine lv_iload hx hb dX7_topAt_27 (lv_at hl 4 rfl) ?_
        obtain ⟨b11, q12, hf⟩ := obind hf
        obtain ⟨r9, g10, hf⟩ := obind hf
        refine fr_callV hx hb hml hts hown K hC hR ct_7 (c_X7_coversAt hfl D cA g10) 5 q12 kw315 kw312 kw314 kw9 kw23 (by decide +kernel) ⟨by exact Nat.le_of_ble_eq_true rfl, by exact Nat.le_of_ble_eq_true rfl⟩ rfl hl.1 (cat8 _ (by exact Nat.le_of_ble_eq_true rfl)) dX7_topAt_29 rfl (fun H locs _ _ hC => ?_)
        refine lv_if_eq (tgt := 41) hx hb dX7_topAt_32 (by decide) (fun c13 => ?_) (fun c13 => ?_)
        · replace hf := opos c13 hf
          exact w_X7_topAt_L41 M hfl hk6 _ _ _ _ _ _ _ _ hf _ _ _ _ _ hC (lv_sub hl [0, 1, 2, 3, 4, 5, 6] rfl)
        · replace hf := oneg c13 hf
          refine fr_aload hx hb dX7_topAt_35 (lv_at hl 6 rfl) ?_
          obtain ⟨x14, g15, hf⟩ := obind hf
          refine fr_get hx hb hts hown K hC ct_4 (fgI_get g15) (by decide) kw480 rfl dX7_topAt_37 ?_
          obtain rfl := Option.some.inj hf
          exact fr_iret hx hb hr hlocks hC dX7_topAt_40
set_option maxHeartbeats 4000000 in
set_option maxRecDepth 100000 in
theorem w_X7_topAt_L0 {p : Program} {l : Launch} {e : Env} {s : State} {m : MethodId} {args : Array Value} {below : List Frame} {meth : Method} {c : Code} {D : va_G} {cA : Nat → ClassId} {h0 : fSt} {r : (Int32 × fSt)} (M : fM p s m args meth c D cA h0 { frames := 26, cells := fCB h0 - fZ h0, slots := fLB h0 - fL h0, locals := 640 } cX7_topAt 7 (some (.int)) RX7) (hfl : l.stackTraces = false) (a0 : Option Nat) (a1 : Int32) (a2 : Int32) (a3 : Int32) (a4 : Int32) (a5 : Option Nat) (h : fSt) (hf : f_X7_topAt_L0 a0 a1 a2 a3 a4 a5 h = some r) : ∀ (H : Heap) (locs : List Loc) (cells slots : Nat) (ls : Array Slot), fCur D cA s h0 h H locs → lv_has ls 7 [(0, va_rf a0), (1, .int a1), (2, .int a2), (3, .int a3), (4, .int a4), (5, va_rf a5)] → W p l e { frames := 26, cells := fCB h0 - fZ h0, slots := fLB h0 - fL h0, locals := 640 } s m args below meth c H locs cells slots (MQ below (fQ D cA h0 r.2 (some (.int r.1))) args s (fCB h0 - fZ h0) (fLB h0 - fL h0) (fA h0)) (F0 m 0 ls []) := by
  obtain ⟨hx, hb, hml, hr, hlocks, hts, hown, K, hR⟩ := id M
  intro H locs cells slots ls hC hl
  refine fr_aload_n hx hb dX7_topAt_0 rfl (lv_at hl 0 rfl) ?_
  obtain ⟨x16, g17, hf⟩ := obind hf
  refine fr_get hx hb hts hown K hC ct_7 (fgR_get g17) (by decide) kw625 rfl dX7_topAt_1 ?_
  refine fr_astore (lv' := [(6, va_rf x16), (0, va_rf a0), (1, .int a1), (2, .int a2), (3, .int a3), (4, .int a4), (5, va_rf a5)]) hx hb dX7_topAt_4 hl (by decide) (congrArg (List.cons _) (flk rfl (flk rfl (flk rfl (flk rfl (flk rfl (flk (adj1 _ _) fln))))))) (fun ls hl => ?_)
  exact w_X7_topAt_L6 M hfl 4096 _ _ _ _ _ _ _ _ hf _ _ _ _ _ hC (lv_sub hl [1, 2, 3, 4, 5, 6, 0] rfl)
set_option maxRecDepth 100000 in
theorem c_X7_topAt {l : Launch} (hfl : l.stackTraces = false) (D : va_G) (cA : Nat → ClassId) {o : Nat} {p0 : Int32} {p1 : Int32} {p2 : Int32} {p3 : Int32} {p4 : Option Nat} {h : fSt} {r : (Int32 × fSt)} (hf : f_X7_topAt o p0 p1 p2 p3 p4 h = some r) : fMet l yX7_topAt (wsC yX7_topAt cX7_topAt 7 (some (.int))) (26) (640) D cA [.ref o, .int p0, .int p1, .int p2, .int p3, va_rf p4] h r.2 (some (.int r.1)) := by
  exact fMet.of (own := RX7) (by decide +kernel) rfl (lva1 rfl (lva1 rfl (lva1 rfl (lva1 rfl (lva1 rfl (lva1 (va_rf_cat _) lva0)))))) (lgl1 rfl (lgl1 rfl (lgl1 rfl (lgl1 rfl (lgl1 rfl (lgl1 (va_rf_cat _) lgl0)))))) (Nat.le_of_ble_eq_true rfl) (fun p e s m args below meth c ls hnm _ M hC hl => by
    have hl : lv_has ls 7 [(0, va_rf (some o)), (1, .int p0), (2, .int p1), (3, .int p2), (4, .int p3), (5, va_rf p4)] := hl
    exact w_X7_topAt_L0 M hfl _ _ _ _ _ _ _ hf _ _ _ _ _ hC (lv_sub hl [0, 1, 2, 3, 4, 5] rfl))
set_option maxHeartbeats 4000000 in
set_option maxRecDepth 100000 in
theorem w_X7_digest_L72 {p : Program} {l : Launch} {e : Env} {s : State} {m : MethodId} {args : Array Value} {below : List Frame} {meth : Method} {c : Code} {D : va_G} {cA : Nat → ClassId} {h0 : fSt} {r : (Int64 × fSt)} (M : fM p s m args meth c D cA h0 { frames := 27, cells := fCB h0 - fZ h0, slots := fLB h0 - fL h0, locals := 666 } cX7_digest 5 (some (.long)) RX7) (hfl : l.stackTraces = false) {k44 : Option Nat → Int64 → Int32 → fSt → Option (Int64 × fSt)} (hk44 : ∀ (a0 : Option Nat) (a1 : Int64) (a3 : Int32) (h : fSt), k44 a0 a1 a3 h = some r → ∀ (H : Heap) (locs : List Loc) (cells slots : Nat) (ls : Array Slot), fCur D cA s h0 h H locs → lv_has ls 5 [(0, va_rf a0), (1, .long a1), (3, .int a3)] → W p l e { frames := 27, cells := fCB h0 - fZ h0, slots := fLB h0 - fL h0, locals := 666 } s m args below meth c H locs cells slots (MQ below (fQ D cA h0 r.2 (some (.long r.1))) args s (fCB h0 - fZ h0) (fLB h0 - fL h0) (fA h0)) (F0 m 44 ls [])) (a0 : Option Nat) (a1 : Int64) (a3 : Int32) (h : fSt) (hf : f_X7_digest_L72 k44 a0 a1 a3 h = some r) : ∀ (H : Heap) (locs : List Loc) (cells slots : Nat) (ls : Array Slot), fCur D cA s h0 h H locs → lv_has ls 5 [(0, va_rf a0), (1, .long a1), (3, .int a3)] → W p l e { frames := 27, cells := fCB h0 - fZ h0, slots := fLB h0 - fL h0, locals := 666 } s m args below meth c H locs cells slots (MQ below (fQ D cA h0 r.2 (some (.long r.1))) args s (fCB h0 - fZ h0) (fLB h0 - fL h0) (fA h0)) (F0 m 72 ls []) := by
  obtain ⟨hx, hb, hml, hr, hlocks, hts, hown, K, hR⟩ := id M
  intro H locs cells slots ls hC hl
  refine lv_iinc (v := (a3 + (1 : Int32))) (lv' := [(3, .int (a3 + (1 : Int32))), (0, va_rf a0), (1, .long a1)]) hx hb dX7_digest_72 hl (k := 2) rfl rfl (by decide) (congrArg (List.cons _) (flk rfl (flk rfl (fld rfl fln)))) (fun ls hl => ?_)
  refine lv_goto (tgt := 44) hx hb dX7_digest_75 (by decide) ?_
  exact hk44 _ _ _ _ hf _ _ _ _ _ hC (lv_sub hl [1, 2, 0] rfl)
set_option maxHeartbeats 4000000 in
set_option maxRecDepth 100000 in
theorem w_X7_digest_L80 {p : Program} {l : Launch} {e : Env} {s : State} {m : MethodId} {args : Array Value} {below : List Frame} {meth : Method} {c : Code} {D : va_G} {cA : Nat → ClassId} {h0 : fSt} {r : (Int64 × fSt)} (M : fM p s m args meth c D cA h0 { frames := 27, cells := fCB h0 - fZ h0, slots := fLB h0 - fL h0, locals := 666 } cX7_digest 5 (some (.long)) RX7) (hfl : l.stackTraces = false) : ∀ (n : Nat) (a0 : Option Nat) (a1 : Int64) (a3 : Int32) (h : fSt), f_X7_digest_L80 n a0 a1 a3 h = some r → ∀ (H : Heap) (locs : List Loc) (cells slots : Nat) (ls : Array Slot), fCur D cA s h0 h H locs → lv_has ls 5 [(0, va_rf a0), (1, .long a1), (3, .int a3)] → W p l e { frames := 27, cells := fCB h0 - fZ h0, slots := fLB h0 - fL h0, locals := 666 } s m args below meth c H locs cells slots (MQ below (fQ D cA h0 r.2 (some (.long r.1))) args s (fCB h0 - fZ h0) (fLB h0 - fL h0) (fA h0)) (F0 m 80 ls []) := by
  obtain ⟨hx, hb, hml, hr, hlocks, hts, hown, K, hR⟩ := id M
  intro n
  induction n with
  | zero =>
    intro a0 a1 a3 h hf
    exact nomatch (show (none : Option (Int64 × fSt)) = some r from hf)
  | succ n hk80 =>
    intro a0 a1 a3 h hf H locs cells slots ls hC hl
    refine lv_iload_n hx hb dX7_digest_80 rfl (lv_at hl 2 rfl) ?_
    refine lv_bipush (v := (90 : Int32)) hx hb dX7_digest_81 (by decide) ?_
    refine lv_icmp_gt (tgt := 110) hx hb dX7_digest_83 (by decide) (fun c1 => ?_) (fun c1 => ?_)
    · replace hf := opos c1 hf
      refine lv_lload_n hx hb dX7_digest_110 rfl (lv_at hl 1 rfl) ?_
      refine fr_aload_n hx hb dX7_digest_111 rfl (lv_at hl 0 rfl) ?_
      refine lv_iconst (v := (0 : Int32)) hx hb dX7_digest_112 (by decide) ?_
      refine lv_bipush (v := (7 : Int32)) hx hb dX7_digest_113 (by decide) ?_
      obtain ⟨b4, q5, hf⟩ := obind hf
      obtain ⟨⟨v6 | k7, h8⟩, g3, hf⟩ := obind hf
      rotate_left
      · exact nomatch (show (none : Option (Int64 × fSt)) = some _ from hf)
      replace hf := fci hf
      refine fr_callVX hx hb hml hts hown K hC hR ct_7 (c_X7_changes hfl D cA g3) 2 q5 kw344 kw397 kw342 kw343 kw23 (by decide +kernel) ⟨by exact Nat.le_of_ble_eq_true rfl, by exact Nat.le_of_ble_eq_true rfl⟩ rfl hl.1 (cat8 _ (by exact Nat.le_of_ble_eq_true rfl)) dX7_digest_115 rfl (fun H locs _ _ hC => ?_)
      refine lv_i2l (v := (Int32.toInt64 v6)) hx hb dX7_digest_118 rfl ?_
      obtain ⟨r9, g10, hf⟩ := obind hf
      refine fr_callS hx hb hml hts hown K hC hR (c_X7_mixed hfl D cA g10) 2 kw378 kw376 kw377 kw23 (by decide +kernel) ⟨by exact Nat.le_of_ble_eq_true rfl, by exact Nat.le_of_ble_eq_true rfl⟩ rfl hl.1 (cat8 _ (by exact Nat.le_of_ble_eq_true rfl)) dX7_digest_119 rfl (fun H locs _ _ hC => ?_)
      obtain rfl := Option.some.inj hf
      exact fr_lret hx hb hr hlocks hC dX7_digest_122
    · replace hf := oneg c1 hf
      refine lv_lload_n hx hb dX7_digest_86 rfl (lv_at hl 1 rfl) ?_
      refine fr_aload_n hx hb dX7_digest_87 rfl (lv_at hl 0 rfl) ?_
      refine lv_iload_n hx hb dX7_digest_88 rfl (lv_at hl 2 rfl) ?_
      refine lv_iload_n hx hb dX7_digest_89 rfl (lv_at hl 2 rfl) ?_
      refine lv_iconst (v := (1 : Int32)) hx hb dX7_digest_90 (by decide) ?_
      refine fr_aload_n hx hb dX7_digest_91 rfl (lv_at hl 0 rfl) ?_
      obtain ⟨x11, g12, hf⟩ := obind hf
      refine fr_get hx hb hts hown K hC ct_7 (fgI_get g12) (by decide) kw624 rfl dX7_digest_92 ?_
      refine fr_null hx hb dX7_digest_95 ?_
      obtain ⟨b15, q16, hf⟩ := obind hf
      obtain ⟨r13, g14, hf⟩ := obind hf
      refine fr_callV hx hb hml hts hown K hC hR ct_7 (c_X7_topAt hfl D cA g14) 5 q16 kw332 kw329 kw331 kw10 kw23 (by decide +kernel) ⟨by exact Nat.le_of_ble_eq_true rfl, by exact Nat.le_of_ble_eq_true rfl⟩ rfl hl.1 (cat8 _ (by exact Nat.le_of_ble_eq_true rfl)) dX7_digest_96 rfl (fun H locs _ _ hC => ?_)
      refine lv_i2l (v := (Int32.toInt64 r13.1)) hx hb dX7_digest_99 rfl ?_
      obtain ⟨r17, g18, hf⟩ := obind hf
      refine fr_callS hx hb hml hts hown K hC hR (c_X7_mixed hfl D cA g18) 2 kw378 kw376 kw377 kw23 (by decide +kernel) ⟨by exact Nat.le_of_ble_eq_true rfl, by exact Nat.le_of_ble_eq_true rfl⟩ rfl hl.1 (cat8 _ (by exact Nat.le_of_ble_eq_true rfl)) dX7_digest_100 rfl (fun H locs _ _ hC => ?_)
      refine lv_lstore_n (lv' := [(1, .long r17.1), (0, va_rf a0), (3, .int a3)]) hx hb dX7_digest_103 rfl hl (by decide) (congrArg (List.cons _) (flk (adj2 _ _) (fld rfl (flk rfl fln)))) (fun ls hl => ?_)
      refine lv_iinc (v := (a3 + (10 : Int32))) (lv' := [(3, .int (a3 + (10 : Int32))), (1, .long r17.1), (0, va_rf a0)]) hx hb dX7_digest_104 hl (k := 2) rfl rfl (by decide) (congrArg (List.cons _) (flk rfl (flk rfl (fld rfl fln)))) (fun ls hl => ?_)
      refine lv_goto (tgt := 80) hx hb dX7_digest_107 (by decide) ?_
      exact hk80 _ _ _ _ hf _ _ _ _ _ hC (lv_sub hl [2, 1, 0] rfl)
set_option maxHeartbeats 4000000 in
set_option maxRecDepth 100000 in
theorem w_X7_digest_L44 {p : Program} {l : Launch} {e : Env} {s : State} {m : MethodId} {args : Array Value} {below : List Frame} {meth : Method} {c : Code} {D : va_G} {cA : Nat → ClassId} {h0 : fSt} {r : (Int64 × fSt)} (M : fM p s m args meth c D cA h0 { frames := 27, cells := fCB h0 - fZ h0, slots := fLB h0 - fL h0, locals := 666 } cX7_digest 5 (some (.long)) RX7) (hfl : l.stackTraces = false) : ∀ (n : Nat) (a0 : Option Nat) (a1 : Int64) (a3 : Int32) (h : fSt), f_X7_digest_L44 n a0 a1 a3 h = some r → ∀ (H : Heap) (locs : List Loc) (cells slots : Nat) (ls : Array Slot), fCur D cA s h0 h H locs → lv_has ls 5 [(0, va_rf a0), (1, .long a1), (3, .int a3)] → W p l e { frames := 27, cells := fCB h0 - fZ h0, slots := fLB h0 - fL h0, locals := 666 } s m args below meth c H locs cells slots (MQ below (fQ D cA h0 r.2 (some (.long r.1))) args s (fCB h0 - fZ h0) (fLB h0 - fL h0) (fA h0)) (F0 m 44 ls []) := by
  obtain ⟨hx, hb, hml, hr, hlocks, hts, hown, K, hR⟩ := id M
  intro n
  induction n with
  | zero =>
    intro a0 a1 a3 h hf
    exact nomatch (show (none : Option (Int64 × fSt)) = some r from hf)
  | succ n hk44 =>
    intro a0 a1 a3 h hf H locs cells slots ls hC hl
    refine lv_iload_n hx hb dX7_digest_44 rfl (lv_at hl 2 rfl) ?_
    refine fr_aload_n hx hb dX7_digest_45 rfl (lv_at hl 0 rfl) ?_
    obtain ⟨x19, g20, hf⟩ := obind hf
    refine fr_get hx hb hts hown K hC ct_7 (fgI_get g20) (by decide) kw622 rfl dX7_digest_46 ?_
    refine lv_icmp_ge (tgt := 78) hx hb dX7_digest_49 (by decide) (fun c21 => ?_) (fun c21 => ?_)
    · replace hf := opos c21 hf
      refine lv_iconst (v := (0 : Int32)) hx hb dX7_digest_78 (by decide) ?_
      refine lv_istore_n (lv' := [(3, .int (0 : Int32)), (0, va_rf a0), (1, .long a1)]) hx hb dX7_digest_79 rfl hl (by decide) (congrArg (List.cons _) (flk rfl (flk rfl (fld rfl fln)))) (fun ls hl => ?_)
      exact w_X7_digest_L80 M hfl 4096 _ _ _ _ hf _ _ _ _ _ hC (lv_sub hl [1, 2, 0] rfl)
    · replace hf := oneg c21 hf
      refine fr_aload_n hx hb dX7_digest_52 rfl (lv_at hl 0 rfl) ?_
      refine lv_iload_n hx hb dX7_digest_53 rfl (lv_at hl 2 rfl) ?_
      obtain ⟨b24, q25, hf⟩ := obind hf
      obtain ⟨r22, g23, hf⟩ := obind hf
      refine fr_callV hx hb hml hts hown K hC hR ct_7 (c_X7_nodeOrNull hfl D cA g23) 1 q25 kw55 kw52 kw54 kw1 kw23 (by decide +kernel) ⟨by exact Nat.le_of_ble_eq_true rfl, by exact Nat.le_of_ble_eq_true rfl⟩ rfl hl.1 (cat8 _ (by exact Nat.le_of_ble_eq_true rfl)) dX7_digest_54 rfl (fun H locs _ _ hC => ?_)
      refine fr_astore (lv' := [(4, va_rf r22.1), (0, va_rf a0), (1, .long a1), (3, .int a3)]) hx hb dX7_digest_57 hl (by decide) (congrArg (List.cons _) (flk rfl (flk rfl (flk rfl fln)))) (fun ls hl => ?_)
      refine fr_aload hx hb dX7_digest_59 (lv_at hl 0 rfl) ?_
      refine fr_ifnull (tgt := 72) hx hb dX7_digest_61 (by decide) (fun c26 => ?_) (fun c26 => ?_)
      · replace hf := opos c26 hf
        exact w_X7_digest_L72 M hfl hk44 _ _ _ _ hf _ _ _ _ _ hC (lv_sub hl [1, 2, 3] rfl)
      · replace hf := oneg c26 hf
        refine fr_aload_n hx hb dX7_digest_64 rfl (lv_at hl 1 rfl) ?_
        refine lv_lload_n hx hb dX7_digest_65 rfl (lv_at hl 2 rfl) ?_
        refine fr_aload hx hb dX7_digest_66 (lv_at hl 0 rfl) ?_
        obtain ⟨b29, q30, hf⟩ := obind hf
        obtain ⟨r27, g28, hf⟩ := obind hf
        refine fr_callV hx hb hml hts hown K hC hR ct_7 (c_X7_mixedWithNode hfl D cA g28) 2 q30 kw391 kw388 kw390 kw12 kw23 (by decide +kernel) ⟨by exact Nat.le_of_ble_eq_true rfl, by exact Nat.le_of_ble_eq_true rfl⟩ rfl hl.1 (cat8 _ (by exact Nat.le_of_ble_eq_true rfl)) dX7_digest_68 rfl (fun H locs _ _ hC => ?_)
        refine lv_lstore_n (lv' := [(1, .long r27.1), (4, va_rf r22.1), (0, va_rf a0), (3, .int a3)]) hx hb dX7_digest_71 rfl hl (by decide) (congrArg (List.cons _) (flk rfl (flk (adj2 _ _) (fld rfl (flk rfl fln))))) (fun ls hl => ?_)
        exact w_X7_digest_L72 M hfl hk44 _ _ _ _ hf _ _ _ _ _ hC (lv_sub hl [2, 0, 3] rfl)
set_option maxHeartbeats 4000000 in
set_option maxRecDepth 100000 in
theorem w_X7_digest_L0 {p : Program} {l : Launch} {e : Env} {s : State} {m : MethodId} {args : Array Value} {below : List Frame} {meth : Method} {c : Code} {D : va_G} {cA : Nat → ClassId} {h0 : fSt} {r : (Int64 × fSt)} (M : fM p s m args meth c D cA h0 { frames := 27, cells := fCB h0 - fZ h0, slots := fLB h0 - fL h0, locals := 666 } cX7_digest 5 (some (.long)) RX7) (hfl : l.stackTraces = false) (a0 : Option Nat) (h : fSt) (hf : f_X7_digest_L0 a0 h = some r) : ∀ (H : Heap) (locs : List Loc) (cells slots : Nat) (ls : Array Slot), fCur D cA s h0 h H locs → lv_has ls 5 [(0, va_rf a0)] → W p l e { frames := 27, cells := fCB h0 - fZ h0, slots := fLB h0 - fL h0, locals := 666 } s m args below meth c H locs cells slots (MQ below (fQ D cA h0 r.2 (some (.long r.1))) args s (fCB h0 - fZ h0) (fLB h0 - fL h0) (fA h0)) (F0 m 0 ls []) := by
  obtain ⟨hx, hb, hml, hr, hlocks, hts, hown, K, hR⟩ := id M
  intro H locs cells slots ls hC hl
  refine fr_ldc2 (v := (2647 : Int64)) hx hb hts hown kw375 dX7_digest_0 ?_
  refine fr_aload_n hx hb dX7_digest_3 rfl (lv_at hl 0 rfl) ?_
  obtain ⟨x31, g32, hf⟩ := obind hf
  refine fr_get hx hb hts hown K hC ct_7 (fgI_get g32) (by decide) kw622 rfl dX7_digest_4 ?_
  refine lv_i2l (v := (Int32.toInt64 x31)) hx hb dX7_digest_7 rfl ?_
  obtain ⟨r33, g34, hf⟩ := obind hf
  refine fr_callS hx hb hml hts hown K hC hR (c_X7_mixed hfl D cA g34) 2 kw378 kw376 kw377 kw23 (by decide +kernel) ⟨by exact Nat.le_of_ble_eq_true rfl, by exact Nat.le_of_ble_eq_true rfl⟩ rfl hl.1 (cat8 _ (by exact Nat.le_of_ble_eq_true rfl)) dX7_digest_8 rfl (fun H locs _ _ hC => ?_)
  refine lv_lstore_n (lv' := [(1, .long r33.1), (0, va_rf a0)]) hx hb dX7_digest_11 rfl hl (by decide) (congrArg (List.cons _) (flk (adj2 _ _) fln)) (fun ls hl => ?_)
  refine lv_lload_n hx hb dX7_digest_12 rfl (lv_at hl 0 rfl) ?_
  refine fr_aload_n hx hb dX7_digest_13 rfl (lv_at hl 1 rfl) ?_
  obtain ⟨x35, g36, hf⟩ := obind hf
  refine fr_get hx hb hts hown K hC ct_7 (fgI_get g36) (by decide) kw626 rfl dX7_digest_14 ?_
  refine lv_i2l (v := (Int32.toInt64 x35)) hx hb dX7_digest_17 rfl ?_
  obtain ⟨r37, g38, hf⟩ := obind hf
  refine fr_callS hx hb hml hts hown K hC hR (c_X7_mixed hfl D cA g38) 2 kw378 kw376 kw377 kw23 (by decide +kernel) ⟨by exact Nat.le_of_ble_eq_true rfl, by exact Nat.le_of_ble_eq_true rfl⟩ rfl hl.1 (cat8 _ (by exact Nat.le_of_ble_eq_true rfl)) dX7_digest_18 rfl (fun H locs _ _ hC => ?_)
  refine lv_lstore_n (lv' := [(1, .long r37.1), (0, va_rf a0)]) hx hb dX7_digest_21 rfl hl (by decide) (congrArg (List.cons _) (fld rfl (flk (adj2 _ _) fln))) (fun ls hl => ?_)
  refine lv_lload_n hx hb dX7_digest_22 rfl (lv_at hl 0 rfl) ?_
  refine fr_aload_n hx hb dX7_digest_23 rfl (lv_at hl 1 rfl) ?_
  obtain ⟨x39, g40, hf⟩ := obind hf
  refine fr_get hx hb hts hown K hC ct_7 (fgI_get g40) (by decide) kw623 rfl dX7_digest_24 ?_
  refine lv_i2l (v := (Int32.toInt64 x39)) hx hb dX7_digest_27 rfl ?_
  obtain ⟨r41, g42, hf⟩ := obind hf
  refine fr_callS hx hb hml hts hown K hC hR (c_X7_mixed hfl D cA g42) 2 kw378 kw376 kw377 kw23 (by decide +kernel) ⟨by exact Nat.le_of_ble_eq_true rfl, by exact Nat.le_of_ble_eq_true rfl⟩ rfl hl.1 (cat8 _ (by exact Nat.le_of_ble_eq_true rfl)) dX7_digest_28 rfl (fun H locs _ _ hC => ?_)
  refine lv_lstore_n (lv' := [(1, .long r41.1), (0, va_rf a0)]) hx hb dX7_digest_31 rfl hl (by decide) (congrArg (List.cons _) (fld rfl (flk (adj2 _ _) fln))) (fun ls hl => ?_)
  refine lv_lload_n hx hb dX7_digest_32 rfl (lv_at hl 0 rfl) ?_
  refine fr_aload_n hx hb dX7_digest_33 rfl (lv_at hl 1 rfl) ?_
  obtain ⟨b45, q46, hf⟩ := obind hf
  obtain ⟨r43, g44, hf⟩ := obind hf
  refine fr_callV hx hb hml hts hown K hC hR ct_7 (c_X7_nextKey hfl D cA g44) 0 q46 kw383 kw380 kw381 kw382 kw23 (by decide +kernel) ⟨by exact Nat.le_of_ble_eq_true rfl, by exact Nat.le_of_ble_eq_true rfl⟩ rfl hl.1 (cat8 _ (by exact Nat.le_of_ble_eq_true rfl)) dX7_digest_34 rfl (fun H locs _ _ hC => ?_)
  refine lv_i2l (v := (Int32.toInt64 r43.1)) hx hb dX7_digest_37 rfl ?_
  obtain ⟨r47, g48, hf⟩ := obind hf
  refine fr_callS hx hb hml hts hown K hC hR (c_X7_mixed hfl D cA g48) 2 kw378 kw376 kw377 kw23 (by decide +kernel) ⟨by exact Nat.le_of_ble_eq_true rfl, by exact Nat.le_of_ble_eq_true rfl⟩ rfl hl.1 (cat8 _ (by exact Nat.le_of_ble_eq_true rfl)) dX7_digest_38 rfl (fun H locs _ _ hC => ?_)
  refine lv_lstore_n (lv' := [(1, .long r47.1), (0, va_rf a0)]) hx hb dX7_digest_41 rfl hl (by decide) (congrArg (List.cons _) (fld rfl (flk (adj2 _ _) fln))) (fun ls hl => ?_)
  refine lv_iconst (v := (0 : Int32)) hx hb dX7_digest_42 (by decide) ?_
  refine lv_istore_n (lv' := [(3, .int (0 : Int32)), (1, .long r47.1), (0, va_rf a0)]) hx hb dX7_digest_43 rfl hl (by decide) (congrArg (List.cons _) (flk rfl (flk rfl fln))) (fun ls hl => ?_)
  exact w_X7_digest_L44 M hfl 4096 _ _ _ _ hf _ _ _ _ _ hC (lv_sub hl [2, 1, 0] rfl)
set_option maxRecDepth 100000 in
theorem c_X7_digest {l : Launch} (hfl : l.stackTraces = false) (D : va_G) (cA : Nat → ClassId) {o : Nat} {h : fSt} {r : (Int64 × fSt)} (hf : f_X7_digest o h = some r) : fMet l yX7_digest (wsC yX7_digest cX7_digest 5 (some (.long))) (27) (666) D cA [.ref o] h r.2 (some (.long r.1)) := by
  exact fMet.of (own := RX7) (by decide +kernel) rfl (lva1 rfl lva0) (lgl1 rfl lgl0) (Nat.le_of_ble_eq_true rfl) (fun p e s m args below meth c ls hnm _ M hC hl => by
    have hl : lv_has ls 5 [(0, va_rf (some o))] := hl
    exact w_X7_digest_L0 M hfl _ _ hf _ _ _ _ _ hC (lv_sub hl [0] rfl))
set_option maxHeartbeats 4000000 in
set_option maxRecDepth 100000 in
theorem w_X7_fromWhole_L0 {p : Program} {l : Launch} {e : Env} {s : State} {m : MethodId} {args : Array Value} {below : List Frame} {meth : Method} {c : Code} {D : va_G} {cA : Nat → ClassId} {h0 : fSt} {r : ((Int32 ⊕ Nat) × fSt)} (M : fM p s m args meth c D cA h0 { frames := 25, cells := fCB h0 - fZ h0, slots := fLB h0 - fL h0, locals := 615 } cX7_fromWhole 6 (some (.int)) RX7) (hfl : l.stackTraces = false) (hno : ∀ x ∈ c.exceptionTable.toList, False) (a0 : Option Nat) (a1 : Int32) (a2 : Int32) (a3 : Int32) (a4 : Int32) (h : fSt) (hf : f_X7_fromWhole_L0 a0 a1 a2 a3 a4 h = some r) : ∀ (H : Heap) (locs : List Loc) (cells slots : Nat) (ls : Array Slot), fCur D cA s h0 h H locs → lv_has ls 6 [(0, va_rf a0), (1, .int a1), (2, .int a2), (3, .int a3), (4, .int a4)] → W p l e { frames := 25, cells := fCB h0 - fZ h0, slots := fLB h0 - fL h0, locals := 615 } s m args below meth c H locs cells slots (vx_MQ below (fQX D cA h0 r.2 (rI r.1)) (fXC D cA h0 r.2 (rI r.1)) args s (fCB h0 - fZ h0) (fLB h0 - fL h0) (fA h0)) (F0 m 0 ls []) := by
  obtain ⟨hx, hb, hml, hr, hlocks, hts, hown, K, hR⟩ := id M
  intro H locs cells slots ls hC hl
  refine fr_aload_n hx hb dX7_fromWhole_0 rfl (lv_at hl 0 rfl) ?_
  refine lv_iload_n hx hb dX7_fromWhole_1 rfl (lv_at hl 1 rfl) ?_
  obtain ⟨b3, q4, hf⟩ := obind hf
  obtain ⟨⟨v5 | k6, h7⟩, g2, hf⟩ := obind hf
  · refine fr_callVX hx hb hml hts hown K hC hR ct_7 (c_X7_found hfl D cA g2) 1 q4 kw51 kw47 kw49 kw0 kw23 (by decide +kernel) ⟨by exact Nat.le_of_ble_eq_true rfl, by exact Nat.le_of_ble_eq_true rfl⟩ rfl hl.1 (cat8 _ (by exact Nat.le_of_ble_eq_true rfl)) dX7_fromWhole_2 rfl (fun H locs _ _ hC => ?_)
    refine fr_astore (lv' := [(5, va_rf v5), (0, va_rf a0), (1, .int a1), (2, .int a2), (3, .int a3), (4, .int a4)]) hx hb dX7_fromWhole_5 hl (by decide) (congrArg (List.cons _) (flk rfl (flk rfl (flk rfl (flk rfl (flk rfl fln)))))) (fun ls hl => ?_)
    refine lv_iload_n hx hb dX7_fromWhole_7 rfl (lv_at hl 3 rfl) ?_
    refine lv_iload_n hx hb dX7_fromWhole_8 rfl (lv_at hl 4 rfl) ?_
    refine lv_iload hx hb dX7_fromWhole_9 (lv_at hl 5 rfl) ?_
    obtain ⟨⟨v10 | k11, h12⟩, g9, hf⟩ := obind hf
    · refine fr_callSX hx hb hml hts hown K hC hR (c_X7_checkPoint hfl D cA g9) 3 kw177 kw175 kw176 kw23 (by decide +kernel) ⟨by exact Nat.le_of_ble_eq_true rfl, by exact Nat.le_of_ble_eq_true rfl⟩ rfl hl.1 (cat8 _ (by exact Nat.le_of_ble_eq_true rfl)) dX7_fromWhole_11 rfl (fun H locs _ _ hC => ?_)
      refine fr_aload_n hx hb dX7_fromWhole_14 rfl (lv_at hl 1 rfl) ?_
      obtain ⟨x13, g14, hf⟩ := obind hf
      refine fr_get hx hb hts hown K hC ct_7 (fgR_get g14) (by decide) kw620 rfl dX7_fromWhole_15 ?_
      refine lv_iload_n hx hb dX7_fromWhole_18 rfl (lv_at hl 3 rfl) ?_
      refine lv_i2l (v := (Int32.toInt64 a2)) hx hb dX7_fromWhole_19 rfl ?_
      refine lv_iload_n hx hb dX7_fromWhole_20 rfl (lv_at hl 4 rfl) ?_
      refine lv_i2l (v := (Int32.toInt64 a3)) hx hb dX7_fromWhole_21 rfl ?_
      refine lv_lconst (v := (1 : Int64)) hx hb dX7_fromWhole_22 (by decide) ?_
      obtain ⟨b17, q18, hf⟩ := obind hf
      obtain ⟨r15, g16, hf⟩ := obind hf
      refine fr_callV hx hb hml hts hown K hC hR ct_5 (c_X5_set hfl D cA g16) 3 q18 kw187 kw184 kw185 kw186 kw27 (by decide +kernel) ⟨by exact Nat.le_of_ble_eq_true rfl, by exact Nat.le_of_ble_eq_true rfl⟩ rfl hl.1 (cat8 _ (by exact Nat.le_of_ble_eq_true rfl)) dX7_fromWhole_23 rfl (fun H locs _ _ hC => ?_)
      refine fr_aload_n hx hb dX7_fromWhole_26 rfl (lv_at hl 1 rfl) ?_
      obtain ⟨x19, g20, hf⟩ := obind hf
      refine fr_get hx hb hts hown K hC ct_7 (fgR_get g20) (by decide) kw620 rfl dX7_fromWhole_27 ?_
      refine fr_aload hx hb dX7_fromWhole_30 (lv_at hl 0 rfl) ?_
      refine fr_aload_n hx hb dX7_fromWhole_32 rfl (lv_at hl 1 rfl) ?_
      obtain ⟨x21, g22, hf⟩ := obind hf
      refine fr_get hx hb hts hown K hC ct_7 (fgI_get g22) (by decide) kw624 rfl dX7_fromWhole_33 ?_
      refine lv_iconst (v := (0 : Int32)) hx hb dX7_fromWhole_36 (by decide) ?_
      obtain ⟨r23, g24, hf⟩ := obind hf
      refine fr_callS hx hb hml hts hown K hC hR (c_X7_sink hfl D cA 8 g24) 4 kw229 kw227 kw228 kw23 (by decide +kernel) ⟨by exact Nat.le_of_ble_eq_true rfl, by exact Nat.le_of_ble_eq_true rfl⟩ rfl hl.1 (cat8 _ (by exact Nat.le_of_ble_eq_true rfl)) dX7_fromWhole_37 rfl (fun H locs _ _ hC => ?_)
      refine fr_aload_n hx hb dX7_fromWhole_40 rfl (lv_at hl 1 rfl) ?_
      obtain ⟨x25, g26, hf⟩ := obind hf
      refine fr_get hx hb hts hown K hC ct_7 (fgR_get g26) (by decide) kw620 rfl dX7_fromWhole_41 ?_
      refine lv_iload hx hb dX7_fromWhole_44 (lv_at hl 5 rfl) ?_
      obtain ⟨b29, q30, hf⟩ := obind hf
      obtain ⟨r27, g28, hf⟩ := obind hf
      refine fr_callV hx hb hml hts hown K hC hR ct_5 (c_X5_part hfl D cA g28) 1 q30 kw219 kw216 kw217 kw218 kw27 (by decide +kernel) ⟨by exact Nat.le_of_ble_eq_true rfl, by exact Nat.le_of_ble_eq_true rfl⟩ rfl hl.1 (cat8 _ (by exact Nat.le_of_ble_eq_true rfl)) dX7_fromWhole_46 rfl (fun H locs _ _ hC => ?_)
      refine lv_l2i (v := (Int64.toInt32 r27.1)) hx hb dX7_fromWhole_49 rfl ?_
      obtain rfl := Option.some.inj hf
      exact fr_retQ (fr_iret hx hb hr hlocks hC dX7_fromWhole_50)
    · obtain rfl := Option.some.inj hf
      refine fr_callST hx hb hml hts hown K hC hR (c_X7_checkPoint hfl D cA g9) 3 kw177 kw175 kw176 kw23 (by decide +kernel) ⟨by exact Nat.le_of_ble_eq_true rfl, by exact Nat.le_of_ble_eq_true rfl⟩ rfl hl.1 (cat8 _ (by exact Nat.le_of_ble_eq_true rfl)) dX7_fromWhole_11 rfl (fun H locs _ _ q ce hC e1 e2 e3 => ?_)
      exact fr_out (fun x hx9 => (hno x hx9).elim) hlocks hC e1 e2 e3
  · obtain rfl := Option.some.inj hf
    refine fr_callVT hx hb hml hts hown K hC hR ct_7 (c_X7_found hfl D cA g2) 1 q4 kw51 kw47 kw49 kw0 kw23 (by decide +kernel) ⟨by exact Nat.le_of_ble_eq_true rfl, by exact Nat.le_of_ble_eq_true rfl⟩ rfl hl.1 (cat8 _ (by exact Nat.le_of_ble_eq_true rfl)) dX7_fromWhole_2 rfl (fun H locs _ _ q ce hC e1 e2 e3 => ?_)
    exact fr_out (fun x hx9 => (hno x hx9).elim) hlocks hC e1 e2 e3
set_option maxRecDepth 100000 in
theorem c_X7_fromWhole {l : Launch} (hfl : l.stackTraces = false) (D : va_G) (cA : Nat → ClassId) {o : Nat} {p0 : Int32} {p1 : Int32} {p2 : Int32} {p3 : Int32} {h : fSt} {r : ((Int32 ⊕ Nat) × fSt)} (hf : f_X7_fromWhole o p0 p1 p2 p3 h = some r) : fMetX l yX7_fromWhole (wsC yX7_fromWhole cX7_fromWhole 6 (some (.int))) (25) (615) D cA [.ref o, .int p0, .int p1, .int p2, .int p3] h r.2 (rI r.1) := by
  exact fMetX.of (own := RX7) (by decide +kernel) rfl (lva1 rfl (lva1 rfl (lva1 rfl (lva1 rfl (lva1 rfl lva0))))) (lgl1 rfl (lgl1 rfl (lgl1 rfl (lgl1 rfl (lgl1 rfl lgl0))))) (Nat.le_of_ble_eq_true rfl) (fun p e s m args below meth c ls hno M hC hl => by
    have hl : lv_has ls 6 [(0, va_rf (some o)), (1, .int p0), (2, .int p1), (3, .int p2), (4, .int p3)] := hl
    exact w_X7_fromWhole_L0 M hfl hno _ _ _ _ _ _ hf _ _ _ _ _ hC (lv_sub hl [0, 1, 2, 3, 4] rfl))
set_option maxHeartbeats 4000000 in
set_option maxRecDepth 100000 in
theorem w_X7_isShown_L0 {p : Program} {l : Launch} {e : Env} {s : State} {m : MethodId} {args : Array Value} {below : List Frame} {meth : Method} {c : Code} {D : va_G} {cA : Nat → ClassId} {h0 : fSt} {r : ((Int32 ⊕ Nat) × fSt)} (M : fM p s m args meth c D cA h0 { frames := 7, cells := fCB h0 - fZ h0, slots := fLB h0 - fL h0, locals := 112 } cX7_isShown 2 (some (.boolean)) RX7) (hfl : l.stackTraces = false) (hno : ∀ x ∈ c.exceptionTable.toList, False) (a0 : Option Nat) (a1 : Int32) (h : fSt) (hf : f_X7_isShown_L0 a0 a1 h = some r) : ∀ (H : Heap) (locs : List Loc) (cells slots : Nat) (ls : Array Slot), fCur D cA s h0 h H locs → lv_has ls 2 [(0, va_rf a0), (1, .int a1)] → W p l e { frames := 7, cells := fCB h0 - fZ h0, slots := fLB h0 - fL h0, locals := 112 } s m args below meth c H locs cells slots (vx_MQ below (fQX D cA h0 r.2 (rI r.1)) (fXC D cA h0 r.2 (rI r.1)) args s (fCB h0 - fZ h0) (fLB h0 - fL h0) (fA h0)) (F0 m 0 ls []) := by
  obtain ⟨hx, hb, hml, hr, hlocks, hts, hown, K, hR⟩ := id M
  intro H locs cells slots ls hC hl
  refine fr_aload_n hx hb dX7_isShown_0 rfl (lv_at hl 0 rfl) ?_
  refine lv_iload_n hx hb dX7_isShown_1 rfl (lv_at hl 1 rfl) ?_
  obtain ⟨b3, q4, hf⟩ := obind hf
  obtain ⟨⟨v5 | k6, h7⟩, g2, hf⟩ := obind hf
  · refine fr_callVX hx hb hml hts hown K hC hR ct_7 (c_X7_found hfl D cA g2) 1 q4 kw51 kw47 kw49 kw0 kw23 (by decide +kernel) ⟨by exact Nat.le_of_ble_eq_true rfl, by exact Nat.le_of_ble_eq_true rfl⟩ rfl hl.1 (cat8 _ (by exact Nat.le_of_ble_eq_true rfl)) dX7_isShown_2 rfl (fun H locs _ _ hC => ?_)
    refine fr_aload_n hx hb dX7_isShown_5 rfl (lv_at hl 0 rfl) ?_
    obtain ⟨x8, g9, hf⟩ := obind hf
    refine fr_get hx hb hts hown K hC ct_7 (fgI_get g9) (by decide) kw624 rfl dX7_isShown_6 ?_
    obtain ⟨b12, q13, hf⟩ := obind hf
    obtain ⟨r10, g11, hf⟩ := obind hf
    refine fr_callV hx hb hml hts hown K hC hR ct_4 (c_X4_isShownAt hfl D cA g11) 1 q13 kw263 kw260 kw261 kw262 kw24 (by decide +kernel) ⟨by exact Nat.le_of_ble_eq_true rfl, by exact Nat.le_of_ble_eq_true rfl⟩ rfl hl.1 (cat8 _ (by exact Nat.le_of_ble_eq_true rfl)) dX7_isShown_9 rfl (fun H locs _ _ hC => ?_)
    by_cases c14 : r10.1 = 0 ∨ r10.1 = 1
    rotate_left
    · exact nomatch (oneg c14 hf)
    obtain rfl := Option.some.inj (opos c14 hf)
    exact fr_retQ (fr_zret hx hb hr hlocks hC c14 dX7_isShown_12)
  · obtain rfl := Option.some.inj hf
    refine fr_callVT hx hb hml hts hown K hC hR ct_7 (c_X7_found hfl D cA g2) 1 q4 kw51 kw47 kw49 kw0 kw23 (by decide +kernel) ⟨by exact Nat.le_of_ble_eq_true rfl, by exact Nat.le_of_ble_eq_true rfl⟩ rfl hl.1 (cat8 _ (by exact Nat.le_of_ble_eq_true rfl)) dX7_isShown_2 rfl (fun H locs _ _ q ce hC e1 e2 e3 => ?_)
    exact fr_out (fun x hx9 => (hno x hx9).elim) hlocks hC e1 e2 e3
set_option maxRecDepth 100000 in
theorem c_X7_isShown {l : Launch} (hfl : l.stackTraces = false) (D : va_G) (cA : Nat → ClassId) {o : Nat} {p0 : Int32} {h : fSt} {r : ((Int32 ⊕ Nat) × fSt)} (hf : f_X7_isShown o p0 h = some r) : fMetX l yX7_isShown (wsC yX7_isShown cX7_isShown 2 (some (.boolean))) (7) (112) D cA [.ref o, .int p0] h r.2 (rI r.1) := by
  exact fMetX.of (own := RX7) (by decide +kernel) rfl (lva1 rfl (lva1 rfl lva0)) (lgl1 rfl (lgl1 rfl lgl0)) (Nat.le_of_ble_eq_true rfl) (fun p e s m args below meth c ls hno M hC hl => by
    have hl : lv_has ls 2 [(0, va_rf (some o)), (1, .int p0)] := hl
    exact w_X7_isShown_L0 M hfl hno _ _ _ hf _ _ _ _ _ hC (lv_sub hl [0, 1] rfl))
set_option maxHeartbeats 4000000 in
set_option maxRecDepth 100000 in
theorem w_X7_level_L0 {p : Program} {l : Launch} {e : Env} {s : State} {m : MethodId} {args : Array Value} {below : List Frame} {meth : Method} {c : Code} {D : va_G} {cA : Nat → ClassId} {h0 : fSt} {r : ((Int32 ⊕ Nat) × fSt)} (M : fM p s m args meth c D cA h0 { frames := 7, cells := fCB h0 - fZ h0, slots := fLB h0 - fL h0, locals := 112 } cX7_level 2 (some (.int)) RX7) (hfl : l.stackTraces = false) (hno : ∀ x ∈ c.exceptionTable.toList, False) (a0 : Option Nat) (a1 : Int32) (h : fSt) (hf : f_X7_level_L0 a0 a1 h = some r) : ∀ (H : Heap) (locs : List Loc) (cells slots : Nat) (ls : Array Slot), fCur D cA s h0 h H locs → lv_has ls 2 [(0, va_rf a0), (1, .int a1)] → W p l e { frames := 7, cells := fCB h0 - fZ h0, slots := fLB h0 - fL h0, locals := 112 } s m args below meth c H locs cells slots (vx_MQ below (fQX D cA h0 r.2 (rI r.1)) (fXC D cA h0 r.2 (rI r.1)) args s (fCB h0 - fZ h0) (fLB h0 - fL h0) (fA h0)) (F0 m 0 ls []) := by
  obtain ⟨hx, hb, hml, hr, hlocks, hts, hown, K, hR⟩ := id M
  intro H locs cells slots ls hC hl
  refine fr_aload_n hx hb dX7_level_0 rfl (lv_at hl 0 rfl) ?_
  refine lv_iload_n hx hb dX7_level_1 rfl (lv_at hl 1 rfl) ?_
  obtain ⟨b3, q4, hf⟩ := obind hf
  obtain ⟨⟨v5 | k6, h7⟩, g2, hf⟩ := obind hf
  · refine fr_callVX hx hb hml hts hown K hC hR ct_7 (c_X7_found hfl D cA g2) 1 q4 kw51 kw47 kw49 kw0 kw23 (by decide +kernel) ⟨by exact Nat.le_of_ble_eq_true rfl, by exact Nat.le_of_ble_eq_true rfl⟩ rfl hl.1 (cat8 _ (by exact Nat.le_of_ble_eq_true rfl)) dX7_level_2 rfl (fun H locs _ _ hC => ?_)
    obtain ⟨b10, q11, hf⟩ := obind hf
    obtain ⟨r8, g9, hf⟩ := obind hf
    refine fr_callV hx hb hml hts hown K hC hR ct_4 (c_X4_depth hfl D cA g9) 0 q11 kw136 kw133 kw134 kw135 kw24 (by decide +kernel) ⟨by exact Nat.le_of_ble_eq_true rfl, by exact Nat.le_of_ble_eq_true rfl⟩ rfl hl.1 (cat8 _ (by exact Nat.le_of_ble_eq_true rfl)) dX7_level_5 rfl (fun H locs _ _ hC => ?_)
    obtain rfl := Option.some.inj hf
    exact fr_retQ (fr_iret hx hb hr hlocks hC dX7_level_8)
  · obtain rfl := Option.some.inj hf
    refine fr_callVT hx hb hml hts hown K hC hR ct_7 (c_X7_found hfl D cA g2) 1 q4 kw51 kw47 kw49 kw0 kw23 (by decide +kernel) ⟨by exact Nat.le_of_ble_eq_true rfl, by exact Nat.le_of_ble_eq_true rfl⟩ rfl hl.1 (cat8 _ (by exact Nat.le_of_ble_eq_true rfl)) dX7_level_2 rfl (fun H locs _ _ q ce hC e1 e2 e3 => ?_)
    exact fr_out (fun x hx9 => (hno x hx9).elim) hlocks hC e1 e2 e3
set_option maxRecDepth 100000 in
theorem c_X7_level {l : Launch} (hfl : l.stackTraces = false) (D : va_G) (cA : Nat → ClassId) {o : Nat} {p0 : Int32} {h : fSt} {r : ((Int32 ⊕ Nat) × fSt)} (hf : f_X7_level o p0 h = some r) : fMetX l yX7_level (wsC yX7_level cX7_level 2 (some (.int))) (7) (112) D cA [.ref o, .int p0] h r.2 (rI r.1) := by
  exact fMetX.of (own := RX7) (by decide +kernel) rfl (lva1 rfl (lva1 rfl lva0)) (lgl1 rfl (lgl1 rfl lgl0)) (Nat.le_of_ble_eq_true rfl) (fun p e s m args below meth c ls hno M hC hl => by
    have hl : lv_has ls 2 [(0, va_rf (some o)), (1, .int p0)] := hl
    exact w_X7_level_L0 M hfl hno _ _ _ hf _ _ _ _ _ hC (lv_sub hl [0, 1] rfl))
set_option maxHeartbeats 4000000 in
set_option maxRecDepth 100000 in
theorem w_X7_many_L39 {p : Program} {l : Launch} {e : Env} {s : State} {m : MethodId} {args : Array Value} {below : List Frame} {meth : Method} {c : Code} {D : va_G} {cA : Nat → ClassId} {h0 : fSt} {r : ((Int32 ⊕ Nat) × fSt)} (M : fM p s m args meth c D cA h0 { frames := 26, cells := fCB h0 - fZ h0, slots := fLB h0 - fL h0, locals := 640 } cX7_many 6 (some (.int)) RX7) (hfl : l.stackTraces = false) (hno : ∀ x ∈ c.exceptionTable.toList, False) {k15 : Option Nat → Int32 → Int32 → Int32 → Int32 → Option Nat → fSt → Option ((Int32 ⊕ Nat) × fSt)} (hk15 : ∀ (a0 : Option Nat) (a1 : Int32) (a2 : Int32) (a3 : Int32) (a4 : Int32) (a5 : Option Nat) (h : fSt), k15 a0 a1 a2 a3 a4 a5 h = some r → ∀ (H : Heap) (locs : List Loc) (cells slots : Nat) (ls : Array Slot), fCur D cA s h0 h H locs → lv_has ls 6 [(0, va_rf a0), (1, .int a1), (2, .int a2), (3, .int a3), (4, .int a4), (5, va_rf a5)] → W p l e { frames := 26, cells := fCB h0 - fZ h0, slots := fLB h0 - fL h0, locals := 640 } s m args below meth c H locs cells slots (vx_MQ below (fQX D cA h0 r.2 (rI r.1)) (fXC D cA h0 r.2 (rI r.1)) args s (fCB h0 - fZ h0) (fLB h0 - fL h0) (fA h0)) (F0 m 15 ls [])) (a0 : Option Nat) (a1 : Int32) (a2 : Int32) (a3 : Int32) (a4 : Int32) (a5 : Option Nat) (h : fSt) (hf : f_X7_many_L39 k15 a0 a1 a2 a3 a4 a5 h = some r) : ∀ (H : Heap) (locs : List Loc) (cells slots : Nat) (ls : Array Slot), fCur D cA s h0 h H locs → lv_has ls 6 [(0, va_rf a0), (1, .int a1), (2, .int a2), (3, .int a3), (4, .int a4), (5, va_rf a5)] → W p l e { frames := 26, cells := fCB h0 - fZ h0, slots := fLB h0 - fL h0, locals := 640 } s m args below meth c H locs cells slots (vx_MQ below (fQX D cA h0 r.2 (rI r.1)) (fXC D cA h0 r.2 (rI r.1)) args s (fCB h0 - fZ h0) (fLB h0 - fL h0) (fA h0)) (F0 m 39 ls []) := by
  obtain ⟨hx, hb, hml, hr, hlocks, hts, hown, K, hR⟩ := id M
  intro H locs cells slots ls hC hl
  refine fr_aload hx hb dX7_many_39 (lv_at hl 5 rfl) ?_
  obtain ⟨x1, g2, hf⟩ := obind hf
  refine fr_get hx hb hts hown K hC ct_4 (fgR_get g2) (by decide) kw517 rfl dX7_many_41 ?_
  refine fr_astore (lv' := [(5, va_rf x1), (0, va_rf a0), (1, .int a1), (2, .int a2), (3, .int a3), (4, .int a4)]) hx hb dX7_many_44 hl (by decide) (congrArg (List.cons _) (flk rfl (flk rfl (flk rfl (flk rfl (flk rfl (fld rfl fln))))))) (fun ls hl => ?_)
  refine lv_goto (tgt := 15) hx hb dX7_many_46 (by decide) ?_
  exact hk15 _ _ _ _ _ _ _ hf _ _ _ _ _ hC (lv_sub hl [1, 2, 3, 4, 5, 0] rfl)
set_option maxHeartbeats 4000000 in
set_option maxRecDepth 100000 in
theorem w_X7_many_L15 {p : Program} {l : Launch} {e : Env} {s : State} {m : MethodId} {args : Array Value} {below : List Frame} {meth : Method} {c : Code} {D : va_G} {cA : Nat → ClassId} {h0 : fSt} {r : ((Int32 ⊕ Nat) × fSt)} (M : fM p s m args meth c D cA h0 { frames := 26, cells := fCB h0 - fZ h0, slots := fLB h0 - fL h0, locals := 640 } cX7_many 6 (some (.int)) RX7) (hfl : l.stackTraces = false) (hno : ∀ x ∈ c.exceptionTable.toList, False) : ∀ (n : Nat) (a0 : Option Nat) (a1 : Int32) (a2 : Int32) (a3 : Int32) (a4 : Int32) (a5 : Option Nat) (h : fSt), f_X7_many_L15 n a0 a1 a2 a3 a4 a5 h = some r → ∀ (H : Heap) (locs : List Loc) (cells slots : Nat) (ls : Array Slot), fCur D cA s h0 h H locs → lv_has ls 6 [(0, va_rf a0), (1, .int a1), (2, .int a2), (3, .int a3), (4, .int a4), (5, va_rf a5)] → W p l e { frames := 26, cells := fCB h0 - fZ h0, slots := fLB h0 - fL h0, locals := 640 } s m args below meth c H locs cells slots (vx_MQ below (fQX D cA h0 r.2 (rI r.1)) (fXC D cA h0 r.2 (rI r.1)) args s (fCB h0 - fZ h0) (fLB h0 - fL h0) (fA h0)) (F0 m 15 ls []) := by
  obtain ⟨hx, hb, hml, hr, hlocks, hts, hown, K, hR⟩ := id M
  intro n
  induction n with
  | zero =>
    intro a0 a1 a2 a3 a4 a5 h hf
    exact nomatch (show (none : Option ((Int32 ⊕ Nat) × fSt)) = some r from hf)
  | succ n hk15 =>
    intro a0 a1 a2 a3 a4 a5 h hf H locs cells slots ls hC hl
    refine fr_aload hx hb dX7_many_15 (lv_at hl 5 rfl) ?_
    refine fr_ifnull (tgt := 49) hx hb dX7_many_17 (by decide) (fun c3 => ?_) (fun c3 => ?_)
    · replace hf := opos c3 hf
      refine lv_iload hx hb dX7_many_49 (lv_at hl 4 rfl) ?_
      obtain rfl := Option.some.inj hf
      exact fr_retQ (fr_iret hx hb hr hlocks hC dX7_many_51)
    · replace hf := oneg c3 hf
      refine fr_aload_n hx hb dX7_many_20 rfl (lv_at hl 0 rfl) ?_
      refine fr_aload hx hb dX7_many_21 (lv_at hl 5 rfl) ?_
      refine lv_iload_n hx hb dX7_many_23 rfl (lv_at hl 1 rfl) ?_
      refine lv_iload_n hx hb dX7_many_24 rfl (lv_at hl 2 rfl) ?_
      refine lv_iload_n hx hb dX7_many_25 rfl (lv_at hl 3 rfl) ?_
      refine fr_aload_n hx hb dX7_many_26 rfl (lv_at hl 0 rfl) ?_
      obtain ⟨x4, g5, hf⟩ := obind hf
      refine fr_get hx hb hts hown K hC ct_7 (fgI_get g5) (by decide) kw624 rfl dX7_many_27 ?_
      obtain ⟨b8, q9, hf⟩ := obind hf
      obtain ⟨r6, g7, hf⟩ := obind hf
      refine fr_callV hx hb hml hts hown K hC hR ct_7 (c_X7_coversAt hfl D cA g7) 5 q9 kw315 kw312 kw314 kw9 kw23 (by decide +kernel) ⟨by exact Nat.le_of_ble_eq_true rfl, by exact Nat.le_of_ble_eq_true rfl⟩ rfl hl.1 (cat8 _ (by exact Nat.le_of_ble_eq_true rfl)) dX7_many_30 rfl (fun H locs _ _ hC => ?_)
      refine lv_if_eq (tgt := 39) hx hb dX7_many_33 (by decide) (fun c10 => ?_) (fun c10 => ?_)
      · replace hf := opos c10 hf
        exact w_X7_many_L39 M hfl hno hk15 _ _ _ _ _ _ _ hf _ _ _ _ _ hC (lv_sub hl [0, 1, 2, 3, 4, 5] rfl)
      · replace hf := oneg c10 hf
        refine lv_iinc (v := (a4 + (1 : Int32))) (lv' := [(4, .int (a4 + (1 : Int32))), (0, va_rf a0), (1, .int a1), (2, .int a2), (3, .int a3), (5, va_rf a5)]) hx hb dX7_many_36 hl (k := 4) rfl rfl (by decide) (congrArg (List.cons _) (flk rfl (flk rfl (flk rfl (flk rfl (fld rfl (flk rfl fln))))))) (fun ls hl => ?_)
        exact w_X7_many_L39 M hfl hno hk15 _ _ _ _ _ _ _ hf _ _ _ _ _ hC (lv_sub hl [1, 2, 3, 4, 0, 5] rfl)
set_option maxHeartbeats 4000000 in
set_option maxRecDepth 100000 in
theorem w_X7_many_L0 {p : Program} {l : Launch} {e : Env} {s : State} {m : MethodId} {args : Array Value} {below : List Frame} {meth : Method} {c : Code} {D : va_G} {cA : Nat → ClassId} {h0 : fSt} {r : ((Int32 ⊕ Nat) × fSt)} (M : fM p s m args meth c D cA h0 { frames := 26, cells := fCB h0 - fZ h0, slots := fLB h0 - fL h0, locals := 640 } cX7_many 6 (some (.int)) RX7) (hfl : l.stackTraces = false) (hno : ∀ x ∈ c.exceptionTable.toList, False) (a0 : Option Nat) (a1 : Int32) (a2 : Int32) (a3 : Int32) (h : fSt) (hf : f_X7_many_L0 a0 a1 a2 a3 h = some r) : ∀ (H : Heap) (locs : List Loc) (cells slots : Nat) (ls : Array Slot), fCur D cA s h0 h H locs → lv_has ls 6 [(0, va_rf a0), (1, .int a1), (2, .int a2), (3, .int a3)] → W p l e { frames := 26, cells := fCB h0 - fZ h0, slots := fLB h0 - fL h0, locals := 640 } s m args below meth c H locs cells slots (vx_MQ below (fQX D cA h0 r.2 (rI r.1)) (fXC D cA h0 r.2 (rI r.1)) args s (fCB h0 - fZ h0) (fLB h0 - fL h0) (fA h0)) (F0 m 0 ls []) := by
  obtain ⟨hx, hb, hml, hr, hlocks, hts, hown, K, hR⟩ := id M
  intro H locs cells slots ls hC hl
  refine lv_iload_n hx hb dX7_many_0 rfl (lv_at hl 1 rfl) ?_
  refine lv_iload_n hx hb dX7_many_1 rfl (lv_at hl 2 rfl) ?_
  refine lv_iload_n hx hb dX7_many_2 rfl (lv_at hl 3 rfl) ?_
  obtain ⟨⟨v13 | k14, h15⟩, g12, hf⟩ := obind hf
  · refine fr_callSX hx hb hml hts hown K hC hR (c_X7_checkSpot hfl D cA g12) 3 kw309 kw307 kw308 kw23 (by decide +kernel) ⟨by exact Nat.le_of_ble_eq_true rfl, by exact Nat.le_of_ble_eq_true rfl⟩ rfl hl.1 (cat8 _ (by exact Nat.le_of_ble_eq_true rfl)) dX7_many_3 rfl (fun H locs _ _ hC => ?_)
    refine lv_iconst (v := (0 : Int32)) hx hb dX7_many_6 (by decide) ?_
    refine lv_istore (lv' := [(4, .int (0 : Int32)), (0, va_rf a0), (1, .int a1), (2, .int a2), (3, .int a3)]) hx hb dX7_many_7 hl (by decide) (congrArg (List.cons _) (flk rfl (flk rfl (flk rfl (flk rfl fln))))) (fun ls hl => ?_)
    refine fr_aload_n hx hb dX7_many_9 rfl (lv_at hl 1 rfl) ?_
    obtain ⟨x16, g17, hf⟩ := obind hf
    refine fr_get hx hb hts hown K hC ct_7 (fgR_get g17) (by decide) kw625 rfl dX7_many_10 ?_
    refine fr_astore (lv' := [(5, va_rf x16), (4, .int (0 : Int32)), (0, va_rf a0), (1, .int a1), (2, .int a2), (3, .int a3)]) hx hb dX7_many_13 hl (by decide) (congrArg (List.cons _) (flk rfl (flk rfl (flk rfl (flk rfl (flk rfl fln)))))) (fun ls hl => ?_)
    exact w_X7_many_L15 M hfl hno 4096 _ _ _ _ _ _ _ hf _ _ _ _ _ hC (lv_sub hl [2, 3, 4, 5, 1, 0] rfl)
  · obtain rfl := Option.some.inj hf
    refine fr_callST hx hb hml hts hown K hC hR (c_X7_checkSpot hfl D cA g12) 3 kw309 kw307 kw308 kw23 (by decide +kernel) ⟨by exact Nat.le_of_ble_eq_true rfl, by exact Nat.le_of_ble_eq_true rfl⟩ rfl hl.1 (cat8 _ (by exact Nat.le_of_ble_eq_true rfl)) dX7_many_3 rfl (fun H locs _ _ q ce hC e1 e2 e3 => ?_)
    exact fr_out (fun x hx9 => (hno x hx9).elim) hlocks hC e1 e2 e3
set_option maxRecDepth 100000 in
theorem c_X7_many {l : Launch} (hfl : l.stackTraces = false) (D : va_G) (cA : Nat → ClassId) {o : Nat} {p0 : Int32} {p1 : Int32} {p2 : Int32} {h : fSt} {r : ((Int32 ⊕ Nat) × fSt)} (hf : f_X7_many o p0 p1 p2 h = some r) : fMetX l yX7_many (wsC yX7_many cX7_many 6 (some (.int))) (26) (640) D cA [.ref o, .int p0, .int p1, .int p2] h r.2 (rI r.1) := by
  exact fMetX.of (own := RX7) (by decide +kernel) rfl (lva1 rfl (lva1 rfl (lva1 rfl (lva1 rfl lva0)))) (lgl1 rfl (lgl1 rfl (lgl1 rfl (lgl1 rfl lgl0)))) (Nat.le_of_ble_eq_true rfl) (fun p e s m args below meth c ls hno M hC hl => by
    have hl : lv_has ls 6 [(0, va_rf (some o)), (1, .int p0), (2, .int p1), (3, .int p2)] := hl
    exact w_X7_many_L0 M hfl hno _ _ _ _ _ hf _ _ _ _ _ hC (lv_sub hl [0, 1, 2, 3] rfl))
set_option maxHeartbeats 4000000 in
set_option maxRecDepth 100000 in
theorem w_X7_isToldAnew_L47 {p : Program} {l : Launch} {e : Env} {s : State} {m : MethodId} {args : Array Value} {below : List Frame} {meth : Method} {c : Code} {D : va_G} {cA : Nat → ClassId} {h0 : fSt} {r : (Int32 × fSt)} (M : fM p s m args meth c D cA h0 { frames := 3, cells := fCB h0 - fZ h0, slots := fLB h0 - fL h0, locals := 74 } cX7_isToldAnew 3 (some (.boolean)) RX7) (hfl : l.stackTraces = false) {k2 : Option Nat → Int32 → Int32 → fSt → Option (Int32 × fSt)} (hk2 : ∀ (a0 : Option Nat) (a1 : Int32) (a2 : Int32) (h : fSt), k2 a0 a1 a2 h = some r → ∀ (H : Heap) (locs : List Loc) (cells slots : Nat) (ls : Array Slot), fCur D cA s h0 h H locs → lv_has ls 3 [(0, va_rf a0), (1, .int a1), (2, .int a2)] → W p l e { frames := 3, cells := fCB h0 - fZ h0, slots := fLB h0 - fL h0, locals := 74 } s m args below meth c H locs cells slots (MQ below (fQ D cA h0 r.2 (some (.int r.1))) args s (fCB h0 - fZ h0) (fLB h0 - fL h0) (fA h0)) (F0 m 2 ls [])) (a0 : Option Nat) (a1 : Int32) (a2 : Int32) (h : fSt) (hf : f_X7_isToldAnew_L47 k2 a0 a1 a2 h = some r) : ∀ (H : Heap) (locs : List Loc) (cells slots : Nat) (ls : Array Slot), fCur D cA s h0 h H locs → lv_has ls 3 [(0, va_rf a0), (1, .int a1), (2, .int a2)] → W p l e { frames := 3, cells := fCB h0 - fZ h0, slots := fLB h0 - fL h0, locals := 74 } s m args below meth c H locs cells slots (MQ below (fQ D cA h0 r.2 (some (.int r.1))) args s (fCB h0 - fZ h0) (fLB h0 - fL h0) (fA h0)) (F0 m 47 ls []) := by
  obtain ⟨hx, hb, hml, hr, hlocks, hts, hown, K, hR⟩ := id M
  intro H locs cells slots ls hC hl
  refine lv_iinc (v := (a2 + (1 : Int32))) (lv' := [(2, .int (a2 + (1 : Int32))), (0, va_rf a0), (1, .int a1)]) hx hb dX7_isToldAnew_47 hl (k := 2) rfl rfl (by decide) (congrArg (List.cons _) (flk rfl (flk rfl (fld rfl fln)))) (fun ls hl => ?_)
  refine lv_goto (tgt := 2) hx hb dX7_isToldAnew_50 (by decide) ?_
  exact hk2 _ _ _ _ hf _ _ _ _ _ hC (lv_sub hl [1, 2, 0] rfl)
set_option maxHeartbeats 4000000 in
set_option maxRecDepth 100000 in
theorem w_X7_isToldAnew_L53 {p : Program} {l : Launch} {e : Env} {s : State} {m : MethodId} {args : Array Value} {below : List Frame} {meth : Method} {c : Code} {D : va_G} {cA : Nat → ClassId} {h0 : fSt} {r : (Int32 × fSt)} (M : fM p s m args meth c D cA h0 { frames := 3, cells := fCB h0 - fZ h0, slots := fLB h0 - fL h0, locals := 74 } cX7_isToldAnew 3 (some (.boolean)) RX7) (hfl : l.stackTraces = false)  (h : fSt) (hf : f_X7_isToldAnew_L53  h = some r) : ∀ (H : Heap) (locs : List Loc) (cells slots : Nat) (ls : Array Slot), fCur D cA s h0 h H locs → lv_has ls 3 [] → W p l e { frames := 3, cells := fCB h0 - fZ h0, slots := fLB h0 - fL h0, locals := 74 } s m args below meth c H locs cells slots (MQ below (fQ D cA h0 r.2 (some (.int r.1))) args s (fCB h0 - fZ h0) (fLB h0 - fL h0) (fA h0)) (F0 m 53 ls []) := by
  obtain ⟨hx, hb, hml, hr, hlocks, hts, hown, K, hR⟩ := id M
  intro H locs cells slots ls hC hl
  refine lv_iconst (v := (0 : Int32)) hx hb dX7_isToldAnew_53 (by decide) ?_
  obtain rfl := Option.some.inj hf
  exact fr_zret hx hb hr hlocks hC (Or.inl rfl) dX7_isToldAnew_54
set_option maxHeartbeats 4000000 in
set_option maxRecDepth 100000 in
theorem w_X7_isToldAnew_L2 {p : Program} {l : Launch} {e : Env} {s : State} {m : MethodId} {args : Array Value} {below : List Frame} {meth : Method} {c : Code} {D : va_G} {cA : Nat → ClassId} {h0 : fSt} {r : (Int32 × fSt)} (M : fM p s m args meth c D cA h0 { frames := 3, cells := fCB h0 - fZ h0, slots := fLB h0 - fL h0, locals := 74 } cX7_isToldAnew 3 (some (.boolean)) RX7) (hfl : l.stackTraces = false) : ∀ (n : Nat) (a0 : Option Nat) (a1 : Int32) (a2 : Int32) (h : fSt), f_X7_isToldAnew_L2 n a0 a1 a2 h = some r → ∀ (H : Heap) (locs : List Loc) (cells slots : Nat) (ls : Array Slot), fCur D cA s h0 h H locs → lv_has ls 3 [(0, va_rf a0), (1, .int a1), (2, .int a2)] → W p l e { frames := 3, cells := fCB h0 - fZ h0, slots := fLB h0 - fL h0, locals := 74 } s m args below meth c H locs cells slots (MQ below (fQ D cA h0 r.2 (some (.int r.1))) args s (fCB h0 - fZ h0) (fLB h0 - fL h0) (fA h0)) (F0 m 2 ls []) := by
  obtain ⟨hx, hb, hml, hr, hlocks, hts, hown, K, hR⟩ := id M
  intro n
  induction n with
  | zero =>
    intro a0 a1 a2 h hf
    exact nomatch (show (none : Option (Int32 × fSt)) = some r from hf)
  | succ n hk2 =>
    intro a0 a1 a2 h hf H locs cells slots ls hC hl
    refine lv_iload_n hx hb dX7_isToldAnew_2 rfl (lv_at hl 2 rfl) ?_
    refine fr_aload_n hx hb dX7_isToldAnew_3 rfl (lv_at hl 0 rfl) ?_
    obtain ⟨x1, g2, hf⟩ := obind hf
    refine fr_get hx hb hts hown K hC ct_7 (fgI_get g2) (by decide) kw623 rfl dX7_isToldAnew_4 ?_
    refine lv_icmp_ge (tgt := 53) hx hb dX7_isToldAnew_7 (by decide) (fun c3 => ?_) (fun c3 => ?_)
    · replace hf := opos c3 hf
      exact w_X7_isToldAnew_L53 M hfl _ hf _ _ _ _ _ hC (lv_sub hl [] rfl)
    · replace hf := oneg c3 hf
      refine lv_iload_n hx hb dX7_isToldAnew_10 rfl (lv_at hl 2 rfl) ?_
      refine fr_aload_n hx hb dX7_isToldAnew_11 rfl (lv_at hl 0 rfl) ?_
      obtain ⟨x4, g5, hf⟩ := obind hf
      refine fr_get hx hb hts hown K hC ct_7 (fgR_get g5) (by decide) kw618 rfl dX7_isToldAnew_12 ?_
      obtain ⟨x6, g7, hf⟩ := obind hf
      refine fr_alen hx hb K hC (t := 3) rfl g7 dX7_isToldAnew_15 ?_
      refine lv_icmp_ge (tgt := 53) hx hb dX7_isToldAnew_16 (by decide) (fun c8 => ?_) (fun c8 => ?_)
      · replace hf := opos c8 hf
        exact w_X7_isToldAnew_L53 M hfl _ hf _ _ _ _ _ hC (lv_sub hl [] rfl)
      · replace hf := oneg c8 hf
        refine fr_aload_n hx hb dX7_isToldAnew_19 rfl (lv_at hl 0 rfl) ?_
        obtain ⟨x9, g10, hf⟩ := obind hf
        refine fr_get hx hb hts hown K hC ct_7 (fgR_get g10) (by decide) kw618 rfl dX7_isToldAnew_20 ?_
        refine lv_iload_n hx hb dX7_isToldAnew_23 rfl (lv_at hl 2 rfl) ?_
        obtain ⟨x11, g12, hf⟩ := obind hf
        refine fr_aald hx hb K hC (t := 3) rfl g12 dX7_isToldAnew_24 ?_
        refine fr_ifnull (tgt := 47) hx hb dX7_isToldAnew_25 (by decide) (fun c13 => ?_) (fun c13 => ?_)
        · replace hf := opos c13 hf
          exact w_X7_isToldAnew_L47 M hfl hk2 _ _ _ _ hf _ _ _ _ _ hC (lv_sub hl [0, 1, 2] rfl)
        · replace hf := oneg c13 hf
          refine fr_aload_n hx hb dX7_isToldAnew_28 rfl (lv_at hl 0 rfl) ?_
          obtain ⟨x14, g15, hf⟩ := obind hf
          refine fr_get hx hb hts hown K hC ct_7 (fgR_get g15) (by decide) kw618 rfl dX7_isToldAnew_29 ?_
          refine lv_iload_n hx hb dX7_isToldAnew_32 rfl (lv_at hl 2 rfl) ?_
          obtain ⟨x16, g17, hf⟩ := obind hf
          refine fr_aald hx hb K hC (t := 3) rfl g17 dX7_isToldAnew_33 ?_
          refine fr_aload_n hx hb dX7_isToldAnew_34 rfl (lv_at hl 0 rfl) ?_
          obtain ⟨x18, g19, hf⟩ := obind hf
          refine fr_get hx hb hts hown K hC ct_7 (fgI_get g19) (by decide) kw624 rfl dX7_isToldAnew_35 ?_
          refine lv_iload_n hx hb dX7_isToldAnew_38 rfl (lv_at hl 1 rfl) ?_
          obtain ⟨b22, q23, hf⟩ := obind hf
          obtain ⟨r20, g21, hf⟩ := obind hf
          refine fr_callV hx hb hml hts hown K hC hR ct_6 (c_X6_differs hfl D cA g21) 2 q23 kw352 kw370 kw350 kw351 kw25 (by decide +kernel) ⟨by exact Nat.le_of_ble_eq_true rfl, by exact Nat.le_of_ble_eq_true rfl⟩ rfl hl.1 (cat8 _ (by exact Nat.le_of_ble_eq_true rfl)) dX7_isToldAnew_39 rfl (fun H locs _ _ hC => ?_)
          refine lv_if_eq (tgt := 47) hx hb dX7_isToldAnew_42 (by decide) (fun c24 => ?_) (fun c24 => ?_)
          · replace hf := opos c24 hf
            exact w_X7_isToldAnew_L47 M hfl hk2 _ _ _ _ hf _ _ _ _ _ hC (lv_sub hl [0, 1, 2] rfl)
          · replace hf := oneg c24 hf
            refine lv_iconst (v := (1 : Int32)) hx hb dX7_isToldAnew_45 (by decide) ?_
            obtain rfl := Option.some.inj hf
            exact fr_zret hx hb hr hlocks hC (Or.inr rfl) dX7_isToldAnew_46
set_option maxHeartbeats 4000000 in
set_option maxRecDepth 100000 in
theorem w_X7_isToldAnew_L0 {p : Program} {l : Launch} {e : Env} {s : State} {m : MethodId} {args : Array Value} {below : List Frame} {meth : Method} {c : Code} {D : va_G} {cA : Nat → ClassId} {h0 : fSt} {r : (Int32 × fSt)} (M : fM p s m args meth c D cA h0 { frames := 3, cells := fCB h0 - fZ h0, slots := fLB h0 - fL h0, locals := 74 } cX7_isToldAnew 3 (some (.boolean)) RX7) (hfl : l.stackTraces = false) (a0 : Option Nat) (a1 : Int32) (h : fSt) (hf : f_X7_isToldAnew_L0 a0 a1 h = some r) : ∀ (H : Heap) (locs : List Loc) (cells slots : Nat) (ls : Array Slot), fCur D cA s h0 h H locs → lv_has ls 3 [(0, va_rf a0), (1, .int a1)] → W p l e { frames := 3, cells := fCB h0 - fZ h0, slots := fLB h0 - fL h0, locals := 74 } s m args below meth c H locs cells slots (MQ below (fQ D cA h0 r.2 (some (.int r.1))) args s (fCB h0 - fZ h0) (fLB h0 - fL h0) (fA h0)) (F0 m 0 ls []) := by
  obtain ⟨hx, hb, hml, hr, hlocks, hts, hown, K, hR⟩ := id M
  intro H locs cells slots ls hC hl
  refine lv_iconst (v := (0 : Int32)) hx hb dX7_isToldAnew_0 (by decide) ?_
  refine lv_istore_n (lv' := [(2, .int (0 : Int32)), (0, va_rf a0), (1, .int a1)]) hx hb dX7_isToldAnew_1 rfl hl (by decide) (congrArg (List.cons _) (flk rfl (flk rfl fln))) (fun ls hl => ?_)
  exact w_X7_isToldAnew_L2 M hfl 4096 _ _ _ _ hf _ _ _ _ _ hC (lv_sub hl [1, 2, 0] rfl)
set_option maxRecDepth 100000 in
theorem c_X7_isToldAnew {l : Launch} (hfl : l.stackTraces = false) (D : va_G) (cA : Nat → ClassId) {o : Nat} {p0 : Int32} {h : fSt} {r : (Int32 × fSt)} (hf : f_X7_isToldAnew o p0 h = some r) : fMet l yX7_isToldAnew (wsC yX7_isToldAnew cX7_isToldAnew 3 (some (.boolean))) (3) (74) D cA [.ref o, .int p0] h r.2 (some (.int r.1)) := by
  exact fMet.of (own := RX7) (by decide +kernel) rfl (lva1 rfl (lva1 rfl lva0)) (lgl1 rfl (lgl1 rfl lgl0)) (Nat.le_of_ble_eq_true rfl) (fun p e s m args below meth c ls hnm _ M hC hl => by
    have hl : lv_has ls 3 [(0, va_rf (some o)), (1, .int p0)] := hl
    exact w_X7_isToldAnew_L0 M hfl _ _ _ hf _ _ _ _ _ hC (lv_sub hl [0, 1] rfl))
set_option maxHeartbeats 4000000 in
set_option maxRecDepth 100000 in
theorem w_X7_nextPick_L99 {p : Program} {l : Launch} {e : Env} {s : State} {m : MethodId} {args : Array Value} {below : List Frame} {meth : Method} {c : Code} {D : va_G} {cA : Nat → ClassId} {h0 : fSt} {r : ((Int32 ⊕ Nat) × fSt)} (M : fM p s m args meth c D cA h0 { frames := 27, cells := fCB h0 - fZ h0, slots := fLB h0 - fL h0, locals := 666 } cX7_nextPick 8 (some (.int)) RX7) (hfl : l.stackTraces = false) (hno : ∀ x ∈ c.exceptionTable.toList, False) {k65 : Option Nat → Int32 → Int32 → Int32 → Int32 → Int32 → Int32 → fSt → Option ((Int32 ⊕ Nat) × fSt)} (hk65 : ∀ (a0 : Option Nat) (a1 : Int32) (a2 : Int32) (a3 : Int32) (a5 : Int32) (a6 : Int32) (a7 : Int32) (h : fSt), k65 a0 a1 a2 a3 a5 a6 a7 h = some r → ∀ (H : Heap) (locs : List Loc) (cells slots : Nat) (ls : Array Slot), fCur D cA s h0 h H locs → lv_has ls 8 [(0, va_rf a0), (1, .int a1), (2, .int a2), (3, .int a3), (5, .int a5), (6, .int a6), (7, .int a7)] → W p l e { frames := 27, cells := fCB h0 - fZ h0, slots := fLB h0 - fL h0, locals := 666 } s m args below meth c H locs cells slots (vx_MQ below (fQX D cA h0 r.2 (rI r.1)) (fXC D cA h0 r.2 (rI r.1)) args s (fCB h0 - fZ h0) (fLB h0 - fL h0) (fA h0)) (F0 m 65 ls [])) (a0 : Option Nat) (a1 : Int32) (a2 : Int32) (a3 : Int32) (a5 : Int32) (a6 : Int32) (a7 : Int32) (h : fSt) (hf : f_X7_nextPick_L99 k65 a0 a1 a2 a3 a5 a6 a7 h = some r) : ∀ (H : Heap) (locs : List Loc) (cells slots : Nat) (ls : Array Slot), fCur D cA s h0 h H locs → lv_has ls 8 [(0, va_rf a0), (1, .int a1), (2, .int a2), (3, .int a3), (5, .int a5), (6, .int a6), (7, .int a7)] → W p l e { frames := 27, cells := fCB h0 - fZ h0, slots := fLB h0 - fL h0, locals := 666 } s m args below meth c H locs cells slots (vx_MQ below (fQX D cA h0 r.2 (rI r.1)) (fXC D cA h0 r.2 (rI r.1)) args s (fCB h0 - fZ h0) (fLB h0 - fL h0) (fA h0)) (F0 m 99 ls []) := by
  obtain ⟨hx, hb, hml, hr, hlocks, hts, hown, K, hR⟩ := id M
  intro H locs cells slots ls hC hl
  refine lv_iinc (v := (a7 + (1 : Int32))) (lv' := [(7, .int (a7 + (1 : Int32))), (0, va_rf a0), (1, .int a1), (2, .int a2), (3, .int a3), (5, .int a5), (6, .int a6)]) hx hb dX7_nextPick_99 hl (k := 6) rfl rfl (by decide) (congrArg (List.cons _) (flk rfl (flk rfl (flk rfl (flk rfl (flk rfl (flk rfl (fld rfl fln)))))))) (fun ls hl => ?_)
  refine lv_goto (tgt := 65) hx hb dX7_nextPick_102 (by decide) ?_
  exact hk65 _ _ _ _ _ _ _ _ hf _ _ _ _ _ hC (lv_sub hl [1, 2, 3, 4, 5, 6, 0] rfl)
set_option maxHeartbeats 4000000 in
set_option maxRecDepth 100000 in
theorem w_X7_nextPick_L65 {p : Program} {l : Launch} {e : Env} {s : State} {m : MethodId} {args : Array Value} {below : List Frame} {meth : Method} {c : Code} {D : va_G} {cA : Nat → ClassId} {h0 : fSt} {r : ((Int32 ⊕ Nat) × fSt)} (M : fM p s m args meth c D cA h0 { frames := 27, cells := fCB h0 - fZ h0, slots := fLB h0 - fL h0, locals := 666 } cX7_nextPick 8 (some (.int)) RX7) (hfl : l.stackTraces = false) (hno : ∀ x ∈ c.exceptionTable.toList, False) : ∀ (n : Nat) (a0 : Option Nat) (a1 : Int32) (a2 : Int32) (a3 : Int32) (a5 : Int32) (a6 : Int32) (a7 : Int32) (h : fSt), f_X7_nextPick_L65 n a0 a1 a2 a3 a5 a6 a7 h = some r → ∀ (H : Heap) (locs : List Loc) (cells slots : Nat) (ls : Array Slot), fCur D cA s h0 h H locs → lv_has ls 8 [(0, va_rf a0), (1, .int a1), (2, .int a2), (3, .int a3), (5, .int a5), (6, .int a6), (7, .int a7)] → W p l e { frames := 27, cells := fCB h0 - fZ h0, slots := fLB h0 - fL h0, locals := 666 } s m args below meth c H locs cells slots (vx_MQ below (fQX D cA h0 r.2 (rI r.1)) (fXC D cA h0 r.2 (rI r.1)) args s (fCB h0 - fZ h0) (fLB h0 - fL h0) (fA h0)) (F0 m 65 ls []) := by
  obtain ⟨hx, hb, hml, hr, hlocks, hts, hown, K, hR⟩ := id M
  intro n
  induction n with
  | zero =>
    intro a0 a1 a2 a3 a5 a6 a7 h hf
    exact nomatch (show (none : Option ((Int32 ⊕ Nat) × fSt)) = some r from hf)
  | succ n hk65 =>
    intro a0 a1 a2 a3 a5 a6 a7 h hf H locs cells slots ls hC hl
    refine lv_iload hx hb dX7_nextPick_65 (lv_at hl 6 rfl) ?_
    refine lv_iload hx hb dX7_nextPick_67 (lv_at hl 5 rfl) ?_
    refine lv_icmp_gt (tgt := 105) hx hb dX7_nextPick_69 (by decide) (fun c1 => ?_) (fun c1 => ?_)
    · replace hf := opos c1 hf
      refine lv_iconst (v := (-1 : Int32)) hx hb dX7_nextPick_105 (by decide) ?_
      obtain rfl := Option.some.inj hf
      exact fr_retQ (fr_iret hx hb hr hlocks hC dX7_nextPick_106)
    · replace hf := oneg c1 hf
      refine fr_aload_n hx hb dX7_nextPick_72 rfl (lv_at hl 0 rfl) ?_
      refine lv_iload hx hb dX7_nextPick_73 (lv_at hl 6 rfl) ?_
      obtain ⟨b4, q5, hf⟩ := obind hf
      obtain ⟨r2, g3, hf⟩ := obind hf
      refine fr_callV hx hb hml hts hown K hC hR ct_7 (c_X7_isToldAnew hfl D cA g3) 1 q5 kw369 kw366 kw368 kw11 kw23 (by decide +kernel) ⟨by exact Nat.le_of_ble_eq_true rfl, by exact Nat.le_of_ble_eq_true rfl⟩ rfl hl.1 (cat8 _ (by exact Nat.le_of_ble_eq_true rfl)) dX7_nextPick_75 rfl (fun H locs _ _ hC => ?_)
      refine lv_if_eq (tgt := 99) hx hb dX7_nextPick_78 (by decide) (fun c6 => ?_) (fun c6 => ?_)
      · replace hf := opos c6 hf
        exact w_X7_nextPick_L99 M hfl hno hk65 _ _ _ _ _ _ _ _ hf _ _ _ _ _ hC (lv_sub hl [0, 1, 2, 3, 4, 5, 6] rfl)
      · replace hf := oneg c6 hf
        refine fr_aload_n hx hb dX7_nextPick_81 rfl (lv_at hl 0 rfl) ?_
        refine lv_iload_n hx hb dX7_nextPick_82 rfl (lv_at hl 1 rfl) ?_
        refine lv_iload_n hx hb dX7_nextPick_83 rfl (lv_at hl 2 rfl) ?_
        refine lv_iload_n hx hb dX7_nextPick_84 rfl (lv_at hl 3 rfl) ?_
        refine lv_iload hx hb dX7_nextPick_85 (lv_at hl 6 rfl) ?_
        refine fr_null hx hb dX7_nextPick_87 ?_
        obtain ⟨b9, q10, hf⟩ := obind hf
        obtain ⟨r7, g8, hf⟩ := obind hf
        refine fr_callV hx hb hml hts hown K hC hR ct_7 (c_X7_topAt hfl D cA g8) 5 q10 kw332 kw329 kw331 kw10 kw23 (by decide +kernel) ⟨by exact Nat.le_of_ble_eq_true rfl, by exact Nat.le_of_ble_eq_true rfl⟩ rfl hl.1 (cat8 _ (by exact Nat.le_of_ble_eq_true rfl)) dX7_nextPick_88 rfl (fun H locs _ _ hC => ?_)
        refine lv_iload hx hb dX7_nextPick_91 (lv_at hl 4 rfl) ?_
        refine lv_icmp_eq (tgt := 99) hx hb dX7_nextPick_93 (by decide) (fun c11 => ?_) (fun c11 => ?_)
        · replace hf := opos c11 hf
          exact w_X7_nextPick_L99 M hfl hno hk65 _ _ _ _ _ _ _ _ hf _ _ _ _ _ hC (lv_sub hl [0, 1, 2, 3, 4, 5, 6] rfl)
        · replace hf := oneg c11 hf
          refine lv_iload hx hb dX7_nextPick_96 (lv_at hl 6 rfl) ?_
          obtain rfl := Option.some.inj hf
          exact fr_retQ (fr_iret hx hb hr hlocks hC dX7_nextPick_98)
set_option maxHeartbeats 4000000 in
set_option maxRecDepth 100000 in
theorem w_X7_nextPick_L0 {p : Program} {l : Launch} {e : Env} {s : State} {m : MethodId} {args : Array Value} {below : List Frame} {meth : Method} {c : Code} {D : va_G} {cA : Nat → ClassId} {h0 : fSt} {r : ((Int32 ⊕ Nat) × fSt)} (M : fM p s m args meth c D cA h0 { frames := 27, cells := fCB h0 - fZ h0, slots := fLB h0 - fL h0, locals := 666 } cX7_nextPick 8 (some (.int)) RX7) (hfl : l.stackTraces = false) (hno : ∀ x ∈ c.exceptionTable.toList, False) (a0 : Option Nat) (a1 : Int32) (a2 : Int32) (a3 : Int32) (a4 : Int32) (h : fSt) (hf : f_X7_nextPick_L0 a0 a1 a2 a3 a4 h = some r) : ∀ (H : Heap) (locs : List Loc) (cells slots : Nat) (ls : Array Slot), fCur D cA s h0 h H locs → lv_has ls 8 [(0, va_rf a0), (1, .int a1), (2, .int a2), (3, .int a3), (4, .int a4)] → W p l e { frames := 27, cells := fCB h0 - fZ h0, slots := fLB h0 - fL h0, locals := 666 } s m args below meth c H locs cells slots (vx_MQ below (fQX D cA h0 r.2 (rI r.1)) (fXC D cA h0 r.2 (rI r.1)) args s (fCB h0 - fZ h0) (fLB h0 - fL h0) (fA h0)) (F0 m 0 ls []) := by
  obtain ⟨hx, hb, hml, hr, hlocks, hts, hown, K, hR⟩ := id M
  intro H locs cells slots ls hC hl
  refine lv_iload_n hx hb dX7_nextPick_0 rfl (lv_at hl 1 rfl) ?_
  refine lv_iload_n hx hb dX7_nextPick_1 rfl (lv_at hl 2 rfl) ?_
  refine lv_iload_n hx hb dX7_nextPick_2 rfl (lv_at hl 3 rfl) ?_
  obtain ⟨⟨v14 | k15, h16⟩, g13, hf⟩ := obind hf
  · refine fr_callSX hx hb hml hts hown K hC hR (c_X7_checkSpot hfl D cA g13) 3 kw309 kw307 kw308 kw23 (by decide +kernel) ⟨by exact Nat.le_of_ble_eq_true rfl, by exact Nat.le_of_ble_eq_true rfl⟩ rfl hl.1 (cat8 _ (by exact Nat.le_of_ble_eq_true rfl)) dX7_nextPick_3 rfl (fun H locs _ _ hC => ?_)
    refine lv_iload hx hb dX7_nextPick_6 (lv_at hl 4 rfl) ?_
    refine lv_iconst (v := (1 : Int32)) hx hb dX7_nextPick_8 (by decide) ?_
    refine lv_bipush (v := (100 : Int32)) hx hb dX7_nextPick_9 (by decide) ?_
    obtain ⟨r17, g18, hf⟩ := obind hf
    refine fr_callS hx hb hml hts hown K hC hR (c_X7_isFrom hfl D cA g18) 3 kw154 kw152 kw153 kw23 (by decide +kernel) ⟨by exact Nat.le_of_ble_eq_true rfl, by exact Nat.le_of_ble_eq_true rfl⟩ rfl hl.1 (cat8 _ (by exact Nat.le_of_ble_eq_true rfl)) dX7_nextPick_11 rfl (fun H locs _ _ hC => ?_)
    refine lv_if_ne (tgt := 28) hx hb dX7_nextPick_14 (by decide) (fun c19 => ?_) (fun c19 => ?_)
    · replace hf := oneg c19 hf
      refine fr_aload_n hx hb dX7_nextPick_28 rfl (lv_at hl 0 rfl) ?_
      refine lv_iload_n hx hb dX7_nextPick_29 rfl (lv_at hl 1 rfl) ?_
      refine lv_iload_n hx hb dX7_nextPick_30 rfl (lv_at hl 2 rfl) ?_
      refine lv_iload_n hx hb dX7_nextPick_31 rfl (lv_at hl 3 rfl) ?_
      refine fr_aload_n hx hb dX7_nextPick_32 rfl (lv_at hl 0 rfl) ?_
      obtain ⟨x20, g21, hf⟩ := obind hf
      refine fr_get hx hb hts hown K hC ct_7 (fgI_get g21) (by decide) kw624 rfl dX7_nextPick_33 ?_
      refine fr_null hx hb dX7_nextPick_36 ?_
      obtain ⟨b24, q25, hf⟩ := obind hf
      obtain ⟨r22, g23, hf⟩ := obind hf
      refine fr_callV hx hb hml hts hown K hC hR ct_7 (c_X7_topAt hfl D cA g23) 5 q25 kw332 kw329 kw331 kw10 kw23 (by decide +kernel) ⟨by exact Nat.le_of_ble_eq_true rfl, by exact Nat.le_of_ble_eq_true rfl⟩ rfl hl.1 (cat8 _ (by exact Nat.le_of_ble_eq_true rfl)) dX7_nextPick_37 rfl (fun H locs _ _ hC => ?_)
      refine lv_istore (lv' := [(5, .int r22.1), (0, va_rf a0), (1, .int a1), (2, .int a2), (3, .int a3), (4, .int a4)]) hx hb dX7_nextPick_40 hl (by decide) (congrArg (List.cons _) (flk rfl (flk rfl (flk rfl (flk rfl (flk rfl fln)))))) (fun ls hl => ?_)
      refine fr_aload_n hx hb dX7_nextPick_42 rfl (lv_at hl 1 rfl) ?_
      obtain ⟨x26, g27, hf⟩ := obind hf
      refine fr_get hx hb hts hown K hC ct_7 (fgI_get g27) (by decide) kw624 rfl dX7_nextPick_43 ?_
      refine lv_iload hx hb dX7_nextPick_46 (lv_at hl 5 rfl) ?_
      refine lv_iadd hx hb dX7_nextPick_48 ?_
      refine lv_sipush (v := (9999 : Int32)) hx hb dX7_nextPick_49 (by decide) ?_
      refine fr_mmin hx hb hml hts hown hC hR kw363 kw364 kw38 kw365 hl.1 (by exact Nat.le_of_ble_eq_true rfl) (catL _ _ (by exact Nat.le_of_ble_eq_true rfl) (by exact Nat.le_of_ble_eq_true rfl)) dX7_nextPick_52 (fun _ _ => ?_)
      refine lv_istore (lv' := [(6, .int (if (9999 : Int32) < (x26 + a4) then (9999 : Int32) else (x26 + a4))), (5, .int r22.1), (0, va_rf a0), (1, .int a1), (2, .int a2), (3, .int a3), (4, .int a4)]) hx hb dX7_nextPick_55 hl (by decide) (congrArg (List.cons _) (flk rfl (flk rfl (flk rfl (flk rfl (flk rfl (flk rfl fln))))))) (fun ls hl => ?_)
      refine fr_aload_n hx hb dX7_nextPick_57 rfl (lv_at hl 2 rfl) ?_
      obtain ⟨x28, g29, hf⟩ := obind hf
      refine fr_get hx hb hts hown K hC ct_7 (fgI_get g29) (by decide) kw624 rfl dX7_nextPick_58 ?_
      refine lv_iconst (v := (1 : Int32)) hx hb dX7_nextPick_61 (by decide) ?_
      refine lv_iadd hx hb dX7_nextPick_62 ?_
      refine lv_istore (lv' := [(7, .int (x28 + (1 : Int32))), (6, .int (if (9999 : Int32) < (x26 + a4) then (9999 : Int32) else (x26 + a4))), (5, .int r22.1), (0, va_rf a0), (1, .int a1), (2, .int a2), (3, .int a3), (4, .int a4)]) hx hb dX7_nextPick_63 hl (by decide) (congrArg (List.cons _) (flk rfl (flk rfl (flk rfl (flk rfl (flk rfl (flk rfl (flk rfl fln)))))))) (fun ls hl => ?_)
      exact w_X7_nextPick_L65 M hfl hno 4096 _ _ _ _ _ _ _ _ hf _ _ _ _ _ hC (lv_sub hl [3, 4, 5, 6, 2, 1, 0] rfl)
    · replace hf := opos c19 hf
      obtain ⟨h30, g31, hf⟩ := obind hf
      obtain rfl := Option.some.inj hf
      exact fr_throwSW hx hb hml hts hfl hown K hC hR th_RX7_60_64_1 st_RX7_310 hl.1 dX7_nextPick_17 dX7_nextPick_20 dX7_nextPick_21 dX7_nextPick_24 dX7_nextPick_27 hno (by exact Nat.le_of_ble_eq_true rfl) (catL _ _ (by exact Nat.le_of_ble_eq_true rfl) (by exact Nat.le_of_ble_eq_true rfl)) hlocks g31
  · obtain rfl := Option.some.inj hf
    refine fr_callST hx hb hml hts hown K hC hR (c_X7_checkSpot hfl D cA g13) 3 kw309 kw307 kw308 kw23 (by decide +kernel) ⟨by exact Nat.le_of_ble_eq_true rfl, by exact Nat.le_of_ble_eq_true rfl⟩ rfl hl.1 (cat8 _ (by exact Nat.le_of_ble_eq_true rfl)) dX7_nextPick_3 rfl (fun H locs _ _ q ce hC e1 e2 e3 => ?_)
    exact fr_out (fun x hx9 => (hno x hx9).elim) hlocks hC e1 e2 e3
set_option maxRecDepth 100000 in
theorem c_X7_nextPick {l : Launch} (hfl : l.stackTraces = false) (D : va_G) (cA : Nat → ClassId) {o : Nat} {p0 : Int32} {p1 : Int32} {p2 : Int32} {p3 : Int32} {h : fSt} {r : ((Int32 ⊕ Nat) × fSt)} (hf : f_X7_nextPick o p0 p1 p2 p3 h = some r) : fMetX l yX7_nextPick (wsC yX7_nextPick cX7_nextPick 8 (some (.int))) (27) (666) D cA [.ref o, .int p0, .int p1, .int p2, .int p3] h r.2 (rI r.1) := by
  exact fMetX.of (own := RX7) (by decide +kernel) rfl (lva1 rfl (lva1 rfl (lva1 rfl (lva1 rfl (lva1 rfl lva0))))) (lgl1 rfl (lgl1 rfl (lgl1 rfl (lgl1 rfl (lgl1 rfl lgl0))))) (Nat.le_of_ble_eq_true rfl) (fun p e s m args below meth c ls hno M hC hl => by
    have hl : lv_has ls 8 [(0, va_rf (some o)), (1, .int p0), (2, .int p1), (3, .int p2), (4, .int p3)] := hl
    exact w_X7_nextPick_L0 M hfl hno _ _ _ _ _ _ hf _ _ _ _ _ hC (lv_sub hl [0, 1, 2, 3, 4] rfl))
set_option maxHeartbeats 4000000 in
set_option maxRecDepth 100000 in
theorem w_X7_nodes_L0 {p : Program} {l : Launch} {e : Env} {s : State} {m : MethodId} {args : Array Value} {below : List Frame} {meth : Method} {c : Code} {D : va_G} {cA : Nat → ClassId} {h0 : fSt} {r : (Int32 × fSt)} (M : fM p s m args meth c D cA h0 { frames := 0, cells := fCB h0 - fZ h0, slots := fLB h0 - fL h0, locals := 0 } cX7_nodes 1 (some (.int)) RX7) (hfl : l.stackTraces = false) (a0 : Option Nat) (h : fSt) (hf : f_X7_nodes_L0 a0 h = some r) : ∀ (H : Heap) (locs : List Loc) (cells slots : Nat) (ls : Array Slot), fCur D cA s h0 h H locs → lv_has ls 1 [(0, va_rf a0)] → W p l e { frames := 0, cells := fCB h0 - fZ h0, slots := fLB h0 - fL h0, locals := 0 } s m args below meth c H locs cells slots (MQ below (fQ D cA h0 r.2 (some (.int r.1))) args s (fCB h0 - fZ h0) (fLB h0 - fL h0) (fA h0)) (F0 m 0 ls []) := by
  obtain ⟨hx, hb, hml, hr, hlocks, hts, hown, K, hR⟩ := id M
  intro H locs cells slots ls hC hl
  refine fr_aload_n hx hb dX7_nodes_0 rfl (lv_at hl 0 rfl) ?_
  obtain ⟨x1, g2, hf⟩ := obind hf
  refine fr_get hx hb hts hown K hC ct_7 (fgI_get g2) (by decide) kw626 rfl dX7_nodes_1 ?_
  obtain rfl := Option.some.inj hf
  exact fr_iret hx hb hr hlocks hC dX7_nodes_4
set_option maxRecDepth 100000 in
theorem c_X7_nodes {l : Launch} (hfl : l.stackTraces = false) (D : va_G) (cA : Nat → ClassId) {o : Nat} {h : fSt} {r : (Int32 × fSt)} (hf : f_X7_nodes o h = some r) : fMet l yX7_nodes (wsC yX7_nodes cX7_nodes 1 (some (.int))) (0) (0) D cA [.ref o] h r.2 (some (.int r.1)) := by
  exact fMet.of (own := RX7) (by decide +kernel) rfl (lva1 rfl lva0) (lgl1 rfl lgl0) (Nat.le_of_ble_eq_true rfl) (fun p e s m args below meth c ls hnm _ M hC hl => by
    have hl : lv_has ls 1 [(0, va_rf (some o))] := hl
    exact w_X7_nodes_L0 M hfl _ _ hf _ _ _ _ _ hC (lv_sub hl [0] rfl))
set_option maxHeartbeats 4000000 in
set_option maxRecDepth 100000 in
theorem w_X7_orderAt_L5 {p : Program} {l : Launch} {e : Env} {s : State} {m : MethodId} {args : Array Value} {below : List Frame} {meth : Method} {c : Code} {D : va_G} {cA : Nat → ClassId} {h0 : fSt} {r : ((Int32 ⊕ Nat) × fSt)} (M : fM p s m args meth c D cA h0 { frames := 6, cells := fCB h0 - fZ h0, slots := fLB h0 - fL h0, locals := 90 } cX7_orderAt 3 (some (.int)) RX7) (hfl : l.stackTraces = false) (hno : ∀ x ∈ c.exceptionTable.toList, False) : ∀ (n : Nat) (a1 : Int32) (a2 : Option Nat) (h : fSt), f_X7_orderAt_L5 n a1 a2 h = some r → ∀ (H : Heap) (locs : List Loc) (cells slots : Nat) (ls : Array Slot), fCur D cA s h0 h H locs → lv_has ls 3 [(1, .int a1), (2, va_rf a2)] → W p l e { frames := 6, cells := fCB h0 - fZ h0, slots := fLB h0 - fL h0, locals := 90 } s m args below meth c H locs cells slots (vx_MQ below (fQX D cA h0 r.2 (rI r.1)) (fXC D cA h0 r.2 (rI r.1)) args s (fCB h0 - fZ h0) (fLB h0 - fL h0) (fA h0)) (F0 m 5 ls []) := by
  obtain ⟨hx, hb, hml, hr, hlocks, hts, hown, K, hR⟩ := id M
  intro n
  induction n with
  | zero =>
    intro a1 a2 h hf
    exact nomatch (show (none : Option ((Int32 ⊕ Nat) × fSt)) = some r from hf)
  | succ n hk5 =>
    intro a1 a2 h hf H locs cells slots ls hC hl
    refine fr_aload_n hx hb dX7_orderAt_5 rfl (lv_at hl 1 rfl) ?_
    refine fr_ifnull (tgt := 30) hx hb dX7_orderAt_6 (by decide) (fun c1 => ?_) (fun c1 => ?_)
    · replace hf := opos c1 hf
      obtain ⟨h2, g3, hf⟩ := obind hf
      obtain rfl := Option.some.inj hf
      exact fr_throwSW hx hb hml hts hfl hown K hC hR th_RX7_290_294_0 st_RX7_292 hl.1 dX7_orderAt_30 dX7_orderAt_33 dX7_orderAt_34 dX7_orderAt_37 dX7_orderAt_40 hno (by exact Nat.le_of_ble_eq_true rfl) (catL _ _ (by exact Nat.le_of_ble_eq_true rfl) (by exact Nat.le_of_ble_eq_true rfl)) hlocks g3
    · replace hf := oneg c1 hf
      refine fr_aload_n hx hb dX7_orderAt_9 rfl (lv_at hl 1 rfl) ?_
      obtain ⟨x4, g5, hf⟩ := obind hf
      refine fr_get hx hb hts hown K hC ct_4 (fgI_get g5) (by decide) kw518 rfl dX7_orderAt_10 ?_
      refine lv_iload_n hx hb dX7_orderAt_13 rfl (lv_at hl 0 rfl) ?_
      refine lv_icmp_ne (tgt := 22) hx hb dX7_orderAt_14 (by decide) (fun c6 => ?_) (fun c6 => ?_)
      · replace hf := oneg c6 hf
        refine fr_aload_n hx hb dX7_orderAt_22 rfl (lv_at hl 1 rfl) ?_
        obtain ⟨x7, g8, hf⟩ := obind hf
        refine fr_get hx hb hts hown K hC ct_4 (fgR_get g8) (by decide) kw517 rfl dX7_orderAt_23 ?_
        refine fr_astore_n (lv' := [(2, va_rf x7), (1, .int a1)]) hx hb dX7_orderAt_26 rfl hl (by decide) (congrArg (List.cons _) (flk rfl (fld rfl fln))) (fun ls hl => ?_)
        refine lv_goto (tgt := 5) hx hb dX7_orderAt_27 (by decide) ?_
        exact hk5 _ _ _ hf _ _ _ _ _ hC (lv_sub hl [1, 0] rfl)
      · replace hf := opos c6 hf
        refine fr_aload_n hx hb dX7_orderAt_17 rfl (lv_at hl 1 rfl) ?_
        obtain ⟨x9, g10, hf⟩ := obind hf
        refine fr_get hx hb hts hown K hC ct_4 (fgI_get g10) (by decide) kw480 rfl dX7_orderAt_18 ?_
        obtain rfl := Option.some.inj hf
        exact fr_retQ (fr_iret hx hb hr hlocks hC dX7_orderAt_21)
set_option maxHeartbeats 4000000 in
set_option maxRecDepth 100000 in
theorem w_X7_orderAt_L0 {p : Program} {l : Launch} {e : Env} {s : State} {m : MethodId} {args : Array Value} {below : List Frame} {meth : Method} {c : Code} {D : va_G} {cA : Nat → ClassId} {h0 : fSt} {r : ((Int32 ⊕ Nat) × fSt)} (M : fM p s m args meth c D cA h0 { frames := 6, cells := fCB h0 - fZ h0, slots := fLB h0 - fL h0, locals := 90 } cX7_orderAt 3 (some (.int)) RX7) (hfl : l.stackTraces = false) (hno : ∀ x ∈ c.exceptionTable.toList, False) (a0 : Option Nat) (a1 : Int32) (h : fSt) (hf : f_X7_orderAt_L0 a0 a1 h = some r) : ∀ (H : Heap) (locs : List Loc) (cells slots : Nat) (ls : Array Slot), fCur D cA s h0 h H locs → lv_has ls 3 [(0, va_rf a0), (1, .int a1)] → W p l e { frames := 6, cells := fCB h0 - fZ h0, slots := fLB h0 - fL h0, locals := 90 } s m args below meth c H locs cells slots (vx_MQ below (fQX D cA h0 r.2 (rI r.1)) (fXC D cA h0 r.2 (rI r.1)) args s (fCB h0 - fZ h0) (fLB h0 - fL h0) (fA h0)) (F0 m 0 ls []) := by
  obtain ⟨hx, hb, hml, hr, hlocks, hts, hown, K, hR⟩ := id M
  intro H locs cells slots ls hC hl
  refine fr_aload_n hx hb dX7_orderAt_0 rfl (lv_at hl 0 rfl) ?_
  obtain ⟨x11, g12, hf⟩ := obind hf
  refine fr_get hx hb hts hown K hC ct_7 (fgR_get g12) (by decide) kw625 rfl dX7_orderAt_1 ?_
  refine fr_astore_n (lv' := [(2, va_rf x11), (0, va_rf a0), (1, .int a1)]) hx hb dX7_orderAt_4 rfl hl (by decide) (congrArg (List.cons _) (flk rfl (flk rfl fln))) (fun ls hl => ?_)
  exact w_X7_orderAt_L5 M hfl hno 4096 _ _ _ hf _ _ _ _ _ hC (lv_sub hl [2, 0] rfl)
set_option maxRecDepth 100000 in
theorem c_X7_orderAt {l : Launch} (hfl : l.stackTraces = false) (D : va_G) (cA : Nat → ClassId) {o : Nat} {p0 : Int32} {h : fSt} {r : ((Int32 ⊕ Nat) × fSt)} (hf : f_X7_orderAt o p0 h = some r) : fMetX l yX7_orderAt (wsC yX7_orderAt cX7_orderAt 3 (some (.int))) (6) (90) D cA [.ref o, .int p0] h r.2 (rI r.1) := by
  exact fMetX.of (own := RX7) (by decide +kernel) rfl (lva1 rfl (lva1 rfl lva0)) (lgl1 rfl (lgl1 rfl lgl0)) (Nat.le_of_ble_eq_true rfl) (fun p e s m args below meth c ls hno M hC hl => by
    have hl : lv_has ls 3 [(0, va_rf (some o)), (1, .int p0)] := hl
    exact w_X7_orderAt_L0 M hfl hno _ _ _ hf _ _ _ _ _ hC (lv_sub hl [0, 1] rfl))
set_option maxHeartbeats 4000000 in
set_option maxRecDepth 100000 in
theorem w_X7_parent_L0 {p : Program} {l : Launch} {e : Env} {s : State} {m : MethodId} {args : Array Value} {below : List Frame} {meth : Method} {c : Code} {D : va_G} {cA : Nat → ClassId} {h0 : fSt} {r : ((Int32 ⊕ Nat) × fSt)} (M : fM p s m args meth c D cA h0 { frames := 7, cells := fCB h0 - fZ h0, slots := fLB h0 - fL h0, locals := 112 } cX7_parent 2 (some (.int)) RX7) (hfl : l.stackTraces = false) (hno : ∀ x ∈ c.exceptionTable.toList, False) (a0 : Option Nat) (a1 : Int32) (h : fSt) (hf : f_X7_parent_L0 a0 a1 h = some r) : ∀ (H : Heap) (locs : List Loc) (cells slots : Nat) (ls : Array Slot), fCur D cA s h0 h H locs → lv_has ls 2 [(0, va_rf a0), (1, .int a1)] → W p l e { frames := 7, cells := fCB h0 - fZ h0, slots := fLB h0 - fL h0, locals := 112 } s m args below meth c H locs cells slots (vx_MQ below (fQX D cA h0 r.2 (rI r.1)) (fXC D cA h0 r.2 (rI r.1)) args s (fCB h0 - fZ h0) (fLB h0 - fL h0) (fA h0)) (F0 m 0 ls []) := by
  obtain ⟨hx, hb, hml, hr, hlocks, hts, hown, K, hR⟩ := id M
  intro H locs cells slots ls hC hl
  refine fr_aload_n hx hb dX7_parent_0 rfl (lv_at hl 0 rfl) ?_
  refine lv_iload_n hx hb dX7_parent_1 rfl (lv_at hl 1 rfl) ?_
  obtain ⟨b3, q4, hf⟩ := obind hf
  obtain ⟨⟨v5 | k6, h7⟩, g2, hf⟩ := obind hf
  · refine fr_callVX hx hb hml hts hown K hC hR ct_7 (c_X7_found hfl D cA g2) 1 q4 kw51 kw47 kw49 kw0 kw23 (by decide +kernel) ⟨by exact Nat.le_of_ble_eq_true rfl, by exact Nat.le_of_ble_eq_true rfl⟩ rfl hl.1 (cat8 _ (by exact Nat.le_of_ble_eq_true rfl)) dX7_parent_2 rfl (fun H locs _ _ hC => ?_)
    obtain ⟨r8, g9, hf⟩ := obind hf
    refine fr_callS hx hb hml hts hown K hC hR (c_X7_parentNumber hfl D cA g9) 1 kw128 kw126 kw127 kw23 (by decide +kernel) ⟨by exact Nat.le_of_ble_eq_true rfl, by exact Nat.le_of_ble_eq_true rfl⟩ rfl hl.1 (cat8 _ (by exact Nat.le_of_ble_eq_true rfl)) dX7_parent_5 rfl (fun H locs _ _ hC => ?_)
    obtain rfl := Option.some.inj hf
    exact fr_retQ (fr_iret hx hb hr hlocks hC dX7_parent_8)
  · obtain rfl := Option.some.inj hf
    refine fr_callVT hx hb hml hts hown K hC hR ct_7 (c_X7_found hfl D cA g2) 1 q4 kw51 kw47 kw49 kw0 kw23 (by decide +kernel) ⟨by exact Nat.le_of_ble_eq_true rfl, by exact Nat.le_of_ble_eq_true rfl⟩ rfl hl.1 (cat8 _ (by exact Nat.le_of_ble_eq_true rfl)) dX7_parent_2 rfl (fun H locs _ _ q ce hC e1 e2 e3 => ?_)
    exact fr_out (fun x hx9 => (hno x hx9).elim) hlocks hC e1 e2 e3
set_option maxRecDepth 100000 in
theorem c_X7_parent {l : Launch} (hfl : l.stackTraces = false) (D : va_G) (cA : Nat → ClassId) {o : Nat} {p0 : Int32} {h : fSt} {r : ((Int32 ⊕ Nat) × fSt)} (hf : f_X7_parent o p0 h = some r) : fMetX l yX7_parent (wsC yX7_parent cX7_parent 2 (some (.int))) (7) (112) D cA [.ref o, .int p0] h r.2 (rI r.1) := by
  exact fMetX.of (own := RX7) (by decide +kernel) rfl (lva1 rfl (lva1 rfl lva0)) (lgl1 rfl (lgl1 rfl lgl0)) (Nat.le_of_ble_eq_true rfl) (fun p e s m args below meth c ls hno M hC hl => by
    have hl : lv_has ls 2 [(0, va_rf (some o)), (1, .int p0)] := hl
    exact w_X7_parent_L0 M hfl hno _ _ _ hf _ _ _ _ _ hC (lv_sub hl [0, 1] rfl))
set_option maxHeartbeats 4000000 in
set_option maxRecDepth 100000 in
theorem w_X7_pick_L0 {p : Program} {l : Launch} {e : Env} {s : State} {m : MethodId} {args : Array Value} {below : List Frame} {meth : Method} {c : Code} {D : va_G} {cA : Nat → ClassId} {h0 : fSt} {r : ((Int32 ⊕ Nat) × fSt)} (M : fM p s m args meth c D cA h0 { frames := 27, cells := fCB h0 - fZ h0, slots := fLB h0 - fL h0, locals := 666 } cX7_pick 4 (some (.int)) RX7) (hfl : l.stackTraces = false) (hno : ∀ x ∈ c.exceptionTable.toList, False) (a0 : Option Nat) (a1 : Int32) (a2 : Int32) (a3 : Int32) (h : fSt) (hf : f_X7_pick_L0 a0 a1 a2 a3 h = some r) : ∀ (H : Heap) (locs : List Loc) (cells slots : Nat) (ls : Array Slot), fCur D cA s h0 h H locs → lv_has ls 4 [(0, va_rf a0), (1, .int a1), (2, .int a2), (3, .int a3)] → W p l e { frames := 27, cells := fCB h0 - fZ h0, slots := fLB h0 - fL h0, locals := 666 } s m args below meth c H locs cells slots (vx_MQ below (fQX D cA h0 r.2 (rI r.1)) (fXC D cA h0 r.2 (rI r.1)) args s (fCB h0 - fZ h0) (fLB h0 - fL h0) (fA h0)) (F0 m 0 ls []) := by
  obtain ⟨hx, hb, hml, hr, hlocks, hts, hown, K, hR⟩ := id M
  intro H locs cells slots ls hC hl
  refine lv_iload_n hx hb dX7_pick_0 rfl (lv_at hl 1 rfl) ?_
  refine lv_iload_n hx hb dX7_pick_1 rfl (lv_at hl 2 rfl) ?_
  refine lv_iload_n hx hb dX7_pick_2 rfl (lv_at hl 3 rfl) ?_
  obtain ⟨⟨v3 | k4, h5⟩, g2, hf⟩ := obind hf
  · refine fr_callSX hx hb hml hts hown K hC hR (c_X7_checkSpot hfl D cA g2) 3 kw309 kw307 kw308 kw23 (by decide +kernel) ⟨by exact Nat.le_of_ble_eq_true rfl, by exact Nat.le_of_ble_eq_true rfl⟩ rfl hl.1 (cat8 _ (by exact Nat.le_of_ble_eq_true rfl)) dX7_pick_3 rfl (fun H locs _ _ hC => ?_)
    refine fr_aload_n hx hb dX7_pick_6 rfl (lv_at hl 0 rfl) ?_
    refine lv_iload_n hx hb dX7_pick_7 rfl (lv_at hl 1 rfl) ?_
    refine lv_iload_n hx hb dX7_pick_8 rfl (lv_at hl 2 rfl) ?_
    refine lv_iload_n hx hb dX7_pick_9 rfl (lv_at hl 3 rfl) ?_
    refine fr_aload_n hx hb dX7_pick_10 rfl (lv_at hl 0 rfl) ?_
    obtain ⟨x6, g7, hf⟩ := obind hf
    refine fr_get hx hb hts hown K hC ct_7 (fgI_get g7) (by decide) kw624 rfl dX7_pick_11 ?_
    refine fr_null hx hb dX7_pick_14 ?_
    obtain ⟨b10, q11, hf⟩ := obind hf
    obtain ⟨r8, g9, hf⟩ := obind hf
    refine fr_callV hx hb hml hts hown K hC hR ct_7 (c_X7_topAt hfl D cA g9) 5 q11 kw332 kw329 kw331 kw10 kw23 (by decide +kernel) ⟨by exact Nat.le_of_ble_eq_true rfl, by exact Nat.le_of_ble_eq_true rfl⟩ rfl hl.1 (cat8 _ (by exact Nat.le_of_ble_eq_true rfl)) dX7_pick_15 rfl (fun H locs _ _ hC => ?_)
    obtain rfl := Option.some.inj hf
    exact fr_retQ (fr_iret hx hb hr hlocks hC dX7_pick_18)
  · obtain rfl := Option.some.inj hf
    refine fr_callST hx hb hml hts hown K hC hR (c_X7_checkSpot hfl D cA g2) 3 kw309 kw307 kw308 kw23 (by decide +kernel) ⟨by exact Nat.le_of_ble_eq_true rfl, by exact Nat.le_of_ble_eq_true rfl⟩ rfl hl.1 (cat8 _ (by exact Nat.le_of_ble_eq_true rfl)) dX7_pick_3 rfl (fun H locs _ _ q ce hC e1 e2 e3 => ?_)
    exact fr_out (fun x hx9 => (hno x hx9).elim) hlocks hC e1 e2 e3
set_option maxRecDepth 100000 in
theorem c_X7_pick {l : Launch} (hfl : l.stackTraces = false) (D : va_G) (cA : Nat → ClassId) {o : Nat} {p0 : Int32} {p1 : Int32} {p2 : Int32} {h : fSt} {r : ((Int32 ⊕ Nat) × fSt)} (hf : f_X7_pick o p0 p1 p2 h = some r) : fMetX l yX7_pick (wsC yX7_pick cX7_pick 4 (some (.int))) (27) (666) D cA [.ref o, .int p0, .int p1, .int p2] h r.2 (rI r.1) := by
  exact fMetX.of (own := RX7) (by decide +kernel) rfl (lva1 rfl (lva1 rfl (lva1 rfl (lva1 rfl lva0)))) (lgl1 rfl (lgl1 rfl (lgl1 rfl (lgl1 rfl lgl0)))) (Nat.le_of_ble_eq_true rfl) (fun p e s m args below meth c ls hno M hC hl => by
    have hl : lv_has ls 4 [(0, va_rf (some o)), (1, .int p0), (2, .int p1), (3, .int p2)] := hl
    exact w_X7_pick_L0 M hfl hno _ _ _ _ _ hf _ _ _ _ _ hC (lv_sub hl [0, 1, 2, 3] rfl))
set_option maxHeartbeats 4000000 in
set_option maxRecDepth 100000 in
theorem w_X7_pickWithout_L0 {p : Program} {l : Launch} {e : Env} {s : State} {m : MethodId} {args : Array Value} {below : List Frame} {meth : Method} {c : Code} {D : va_G} {cA : Nat → ClassId} {h0 : fSt} {r : ((Int32 ⊕ Nat) × fSt)} (M : fM p s m args meth c D cA h0 { frames := 27, cells := fCB h0 - fZ h0, slots := fLB h0 - fL h0, locals := 666 } cX7_pickWithout 6 (some (.int)) RX7) (hfl : l.stackTraces = false) (hno : ∀ x ∈ c.exceptionTable.toList, False) (a0 : Option Nat) (a1 : Int32) (a2 : Int32) (a3 : Int32) (a4 : Int32) (h : fSt) (hf : f_X7_pickWithout_L0 a0 a1 a2 a3 a4 h = some r) : ∀ (H : Heap) (locs : List Loc) (cells slots : Nat) (ls : Array Slot), fCur D cA s h0 h H locs → lv_has ls 6 [(0, va_rf a0), (1, .int a1), (2, .int a2), (3, .int a3), (4, .int a4)] → W p l e { frames := 27, cells := fCB h0 - fZ h0, slots := fLB h0 - fL h0, locals := 666 } s m args below meth c H locs cells slots (vx_MQ below (fQX D cA h0 r.2 (rI r.1)) (fXC D cA h0 r.2 (rI r.1)) args s (fCB h0 - fZ h0) (fLB h0 - fL h0) (fA h0)) (F0 m 0 ls []) := by
  obtain ⟨hx, hb, hml, hr, hlocks, hts, hown, K, hR⟩ := id M
  intro H locs cells slots ls hC hl
  refine fr_aload_n hx hb dX7_pickWithout_0 rfl (lv_at hl 0 rfl) ?_
  refine lv_iload_n hx hb dX7_pickWithout_1 rfl (lv_at hl 1 rfl) ?_
  obtain ⟨b3, q4, hf⟩ := obind hf
  obtain ⟨⟨v5 | k6, h7⟩, g2, hf⟩ := obind hf
  · refine fr_callVX hx hb hml hts hown K hC hR ct_7 (c_X7_found hfl D cA g2) 1 q4 kw51 kw47 kw49 kw0 kw23 (by decide +kernel) ⟨by exact Nat.le_of_ble_eq_true rfl, by exact Nat.le_of_ble_eq_true rfl⟩ rfl hl.1 (cat8 _ (by exact Nat.le_of_ble_eq_true rfl)) dX7_pickWithout_2 rfl (fun H locs _ _ hC => ?_)
    refine fr_astore (lv' := [(5, va_rf v5), (0, va_rf a0), (1, .int a1), (2, .int a2), (3, .int a3), (4, .int a4)]) hx hb dX7_pickWithout_5 hl (by decide) (congrArg (List.cons _) (flk rfl (flk rfl (flk rfl (flk rfl (flk rfl fln)))))) (fun ls hl => ?_)
    refine lv_iload_n hx hb dX7_pickWithout_7 rfl (lv_at hl 3 rfl) ?_
    refine lv_iload_n hx hb dX7_pickWithout_8 rfl (lv_at hl 4 rfl) ?_
    refine lv_iload hx hb dX7_pickWithout_9 (lv_at hl 5 rfl) ?_
    obtain ⟨⟨v10 | k11, h12⟩, g9, hf⟩ := obind hf
    · refine fr_callSX hx hb hml hts hown K hC hR (c_X7_checkSpot hfl D cA g9) 3 kw309 kw307 kw308 kw23 (by decide +kernel) ⟨by exact Nat.le_of_ble_eq_true rfl, by exact Nat.le_of_ble_eq_true rfl⟩ rfl hl.1 (cat8 _ (by exact Nat.le_of_ble_eq_true rfl)) dX7_pickWithout_11 rfl (fun H locs _ _ hC => ?_)
      refine fr_aload_n hx hb dX7_pickWithout_14 rfl (lv_at hl 1 rfl) ?_
      refine lv_iload_n hx hb dX7_pickWithout_15 rfl (lv_at hl 3 rfl) ?_
      refine lv_iload_n hx hb dX7_pickWithout_16 rfl (lv_at hl 4 rfl) ?_
      refine lv_iload hx hb dX7_pickWithout_17 (lv_at hl 5 rfl) ?_
      refine fr_aload_n hx hb dX7_pickWithout_19 rfl (lv_at hl 1 rfl) ?_
      obtain ⟨x13, g14, hf⟩ := obind hf
      refine fr_get hx hb hts hown K hC ct_7 (fgI_get g14) (by decide) kw624 rfl dX7_pickWithout_20 ?_
      refine fr_aload hx hb dX7_pickWithout_23 (lv_at hl 0 rfl) ?_
      obtain ⟨b17, q18, hf⟩ := obind hf
      obtain ⟨r15, g16, hf⟩ := obind hf
      refine fr_callV hx hb hml hts hown K hC hR ct_7 (c_X7_topAt hfl D cA g16) 5 q18 kw332 kw329 kw331 kw10 kw23 (by decide +kernel) ⟨by exact Nat.le_of_ble_eq_true rfl, by exact Nat.le_of_ble_eq_true rfl⟩ rfl hl.1 (cat8 _ (by exact Nat.le_of_ble_eq_true rfl)) dX7_pickWithout_25 rfl (fun H locs _ _ hC => ?_)
      obtain rfl := Option.some.inj hf
      exact fr_retQ (fr_iret hx hb hr hlocks hC dX7_pickWithout_28)
    · obtain rfl := Option.some.inj hf
      refine fr_callST hx hb hml hts hown K hC hR (c_X7_checkSpot hfl D cA g9) 3 kw309 kw307 kw308 kw23 (by decide +kernel) ⟨by exact Nat.le_of_ble_eq_true rfl, by exact Nat.le_of_ble_eq_true rfl⟩ rfl hl.1 (cat8 _ (by exact Nat.le_of_ble_eq_true rfl)) dX7_pickWithout_11 rfl (fun H locs _ _ q ce hC e1 e2 e3 => ?_)
      exact fr_out (fun x hx9 => (hno x hx9).elim) hlocks hC e1 e2 e3
  · obtain rfl := Option.some.inj hf
    refine fr_callVT hx hb hml hts hown K hC hR ct_7 (c_X7_found hfl D cA g2) 1 q4 kw51 kw47 kw49 kw0 kw23 (by decide +kernel) ⟨by exact Nat.le_of_ble_eq_true rfl, by exact Nat.le_of_ble_eq_true rfl⟩ rfl hl.1 (cat8 _ (by exact Nat.le_of_ble_eq_true rfl)) dX7_pickWithout_2 rfl (fun H locs _ _ q ce hC e1 e2 e3 => ?_)
    exact fr_out (fun x hx9 => (hno x hx9).elim) hlocks hC e1 e2 e3
set_option maxRecDepth 100000 in
theorem c_X7_pickWithout {l : Launch} (hfl : l.stackTraces = false) (D : va_G) (cA : Nat → ClassId) {o : Nat} {p0 : Int32} {p1 : Int32} {p2 : Int32} {p3 : Int32} {h : fSt} {r : ((Int32 ⊕ Nat) × fSt)} (hf : f_X7_pickWithout o p0 p1 p2 p3 h = some r) : fMetX l yX7_pickWithout (wsC yX7_pickWithout cX7_pickWithout 6 (some (.int))) (27) (666) D cA [.ref o, .int p0, .int p1, .int p2, .int p3] h r.2 (rI r.1) := by
  exact fMetX.of (own := RX7) (by decide +kernel) rfl (lva1 rfl (lva1 rfl (lva1 rfl (lva1 rfl (lva1 rfl lva0))))) (lgl1 rfl (lgl1 rfl (lgl1 rfl (lgl1 rfl (lgl1 rfl lgl0))))) (Nat.le_of_ble_eq_true rfl) (fun p e s m args below meth c ls hno M hC hl => by
    have hl : lv_has ls 6 [(0, va_rf (some o)), (1, .int p0), (2, .int p1), (3, .int p2), (4, .int p3)] := hl
    exact w_X7_pickWithout_L0 M hfl hno _ _ _ _ _ _ hf _ _ _ _ _ hC (lv_sub hl [0, 1, 2, 3, 4] rfl))
set_option maxHeartbeats 4000000 in
set_option maxRecDepth 100000 in
theorem w_X7_placeOf_L0 {p : Program} {l : Launch} {e : Env} {s : State} {m : MethodId} {args : Array Value} {below : List Frame} {meth : Method} {c : Code} {D : va_G} {cA : Nat → ClassId} {h0 : fSt} {r : ((Int32 ⊕ Nat) × fSt)} (M : fM p s m args meth c D cA h0 { frames := 7, cells := fCB h0 - fZ h0, slots := fLB h0 - fL h0, locals := 112 } cX7_placeOf 2 (some (.int)) RX7) (hfl : l.stackTraces = false) (hno : ∀ x ∈ c.exceptionTable.toList, False) (a0 : Option Nat) (a1 : Int32) (h : fSt) (hf : f_X7_placeOf_L0 a0 a1 h = some r) : ∀ (H : Heap) (locs : List Loc) (cells slots : Nat) (ls : Array Slot), fCur D cA s h0 h H locs → lv_has ls 2 [(0, va_rf a0), (1, .int a1)] → W p l e { frames := 7, cells := fCB h0 - fZ h0, slots := fLB h0 - fL h0, locals := 112 } s m args below meth c H locs cells slots (vx_MQ below (fQX D cA h0 r.2 (rI r.1)) (fXC D cA h0 r.2 (rI r.1)) args s (fCB h0 - fZ h0) (fLB h0 - fL h0) (fA h0)) (F0 m 0 ls []) := by
  obtain ⟨hx, hb, hml, hr, hlocks, hts, hown, K, hR⟩ := id M
  intro H locs cells slots ls hC hl
  refine fr_aload_n hx hb dX7_placeOf_0 rfl (lv_at hl 0 rfl) ?_
  refine lv_iload_n hx hb dX7_placeOf_1 rfl (lv_at hl 1 rfl) ?_
  obtain ⟨b3, q4, hf⟩ := obind hf
  obtain ⟨⟨v5 | k6, h7⟩, g2, hf⟩ := obind hf
  · refine fr_callVX hx hb hml hts hown K hC hR ct_7 (c_X7_found hfl D cA g2) 1 q4 kw51 kw47 kw49 kw0 kw23 (by decide +kernel) ⟨by exact Nat.le_of_ble_eq_true rfl, by exact Nat.le_of_ble_eq_true rfl⟩ rfl hl.1 (cat8 _ (by exact Nat.le_of_ble_eq_true rfl)) dX7_placeOf_2 rfl (fun H locs _ _ hC => ?_)
    obtain ⟨x8, g9, hf⟩ := obind hf
    refine fr_get hx hb hts hown K hC ct_4 (fgI_get g9) (by decide) kw518 rfl dX7_placeOf_5 ?_
    obtain rfl := Option.some.inj hf
    exact fr_retQ (fr_iret hx hb hr hlocks hC dX7_placeOf_8)
  · obtain rfl := Option.some.inj hf
    refine fr_callVT hx hb hml hts hown K hC hR ct_7 (c_X7_found hfl D cA g2) 1 q4 kw51 kw47 kw49 kw0 kw23 (by decide +kernel) ⟨by exact Nat.le_of_ble_eq_true rfl, by exact Nat.le_of_ble_eq_true rfl⟩ rfl hl.1 (cat8 _ (by exact Nat.le_of_ble_eq_true rfl)) dX7_placeOf_2 rfl (fun H locs _ _ q ce hC e1 e2 e3 => ?_)
    exact fr_out (fun x hx9 => (hno x hx9).elim) hlocks hC e1 e2 e3
set_option maxRecDepth 100000 in
theorem c_X7_placeOf {l : Launch} (hfl : l.stackTraces = false) (D : va_G) (cA : Nat → ClassId) {o : Nat} {p0 : Int32} {h : fSt} {r : ((Int32 ⊕ Nat) × fSt)} (hf : f_X7_placeOf o p0 h = some r) : fMetX l yX7_placeOf (wsC yX7_placeOf cX7_placeOf 2 (some (.int))) (7) (112) D cA [.ref o, .int p0] h r.2 (rI r.1) := by
  exact fMetX.of (own := RX7) (by decide +kernel) rfl (lva1 rfl (lva1 rfl lva0)) (lgl1 rfl (lgl1 rfl lgl0)) (Nat.le_of_ble_eq_true rfl) (fun p e s m args below meth c ls hno M hC hl => by
    have hl : lv_has ls 2 [(0, va_rf (some o)), (1, .int p0)] := hl
    exact w_X7_placeOf_L0 M hfl hno _ _ _ hf _ _ _ _ _ hC (lv_sub hl [0, 1] rfl))
set_option maxHeartbeats 4000000 in
set_option maxRecDepth 100000 in
theorem w_X7_setTime_L0 {p : Program} {l : Launch} {e : Env} {s : State} {m : MethodId} {args : Array Value} {below : List Frame} {meth : Method} {c : Code} {D : va_G} {cA : Nat → ClassId} {h0 : fSt} {r : ((Int32 ⊕ Nat) × fSt)} (M : fM p s m args meth c D cA h0 { frames := 7, cells := fCB h0 - fZ h0, slots := fLB h0 - fL h0, locals := 110 } cX7_setTime 3 (some (.int)) RX7) (hfl : l.stackTraces = false) (hno : ∀ x ∈ c.exceptionTable.toList, False) (a0 : Option Nat) (a1 : Int32) (h : fSt) (hf : f_X7_setTime_L0 a0 a1 h = some r) : ∀ (H : Heap) (locs : List Loc) (cells slots : Nat) (ls : Array Slot), fCur D cA s h0 h H locs → lv_has ls 3 [(0, va_rf a0), (1, .int a1)] → W p l e { frames := 7, cells := fCB h0 - fZ h0, slots := fLB h0 - fL h0, locals := 110 } s m args below meth c H locs cells slots (vx_MQ below (fQX D cA h0 r.2 (rI r.1)) (fXC D cA h0 r.2 (rI r.1)) args s (fCB h0 - fZ h0) (fLB h0 - fL h0) (fA h0)) (F0 m 0 ls []) := by
  obtain ⟨hx, hb, hml, hr, hlocks, hts, hown, K, hR⟩ := id M
  intro H locs cells slots ls hC hl
  refine lv_iload_n hx hb dX7_setTime_0 rfl (lv_at hl 1 rfl) ?_
  obtain ⟨⟨v3 | k4, h5⟩, g2, hf⟩ := obind hf
  · refine fr_callSX hx hb hml hts hown K hC hR (c_X7_checkTime hfl D cA g2) 1 kw151 kw149 kw150 kw23 (by decide +kernel) ⟨by exact Nat.le_of_ble_eq_true rfl, by exact Nat.le_of_ble_eq_true rfl⟩ rfl hl.1 (cat8 _ (by exact Nat.le_of_ble_eq_true rfl)) dX7_setTime_1 rfl (fun H locs _ _ hC => ?_)
    refine fr_aload_n hx hb dX7_setTime_4 rfl (lv_at hl 0 rfl) ?_
    obtain ⟨x6, g7, hf⟩ := obind hf
    refine fr_get hx hb hts hown K hC ct_7 (fgI_get g7) (by decide) kw624 rfl dX7_setTime_5 ?_
    refine lv_istore_n (lv' := [(2, .int x6), (0, va_rf a0), (1, .int a1)]) hx hb dX7_setTime_8 rfl hl (by decide) (congrArg (List.cons _) (flk rfl (flk rfl fln))) (fun ls hl => ?_)
    refine fr_aload_n hx hb dX7_setTime_9 rfl (lv_at hl 1 rfl) ?_
    refine lv_iload_n hx hb dX7_setTime_10 rfl (lv_at hl 2 rfl) ?_
    obtain ⟨h8, g9, hf⟩ := obind hf
    refine fr_put hx hb hts hown K hC ct_7 g9 (by decide) kw624 rfl rfl rfl rfl dX7_setTime_11 (fun H locs hC => ?_)
    refine lv_iload_n hx hb dX7_setTime_14 rfl (lv_at hl 0 rfl) ?_
    obtain rfl := Option.some.inj hf
    exact fr_retQ (fr_iret hx hb hr hlocks hC dX7_setTime_15)
  · obtain rfl := Option.some.inj hf
    refine fr_callST hx hb hml hts hown K hC hR (c_X7_checkTime hfl D cA g2) 1 kw151 kw149 kw150 kw23 (by decide +kernel) ⟨by exact Nat.le_of_ble_eq_true rfl, by exact Nat.le_of_ble_eq_true rfl⟩ rfl hl.1 (cat8 _ (by exact Nat.le_of_ble_eq_true rfl)) dX7_setTime_1 rfl (fun H locs _ _ q ce hC e1 e2 e3 => ?_)
    exact fr_out (fun x hx9 => (hno x hx9).elim) hlocks hC e1 e2 e3
set_option maxRecDepth 100000 in
theorem c_X7_setTime {l : Launch} (hfl : l.stackTraces = false) (D : va_G) (cA : Nat → ClassId) {o : Nat} {p0 : Int32} {h : fSt} {r : ((Int32 ⊕ Nat) × fSt)} (hf : f_X7_setTime o p0 h = some r) : fMetX l yX7_setTime (wsC yX7_setTime cX7_setTime 3 (some (.int))) (7) (110) D cA [.ref o, .int p0] h r.2 (rI r.1) := by
  exact fMetX.of (own := RX7) (by decide +kernel) rfl (lva1 rfl (lva1 rfl lva0)) (lgl1 rfl (lgl1 rfl lgl0)) (Nat.le_of_ble_eq_true rfl) (fun p e s m args below meth c ls hno M hC hl => by
    have hl : lv_has ls 3 [(0, va_rf (some o)), (1, .int p0)] := hl
    exact w_X7_setTime_L0 M hfl hno _ _ _ hf _ _ _ _ _ hC (lv_sub hl [0, 1] rfl))
set_option maxHeartbeats 4000000 in
set_option maxRecDepth 100000 in
theorem w_X7_strength_L0 {p : Program} {l : Launch} {e : Env} {s : State} {m : MethodId} {args : Array Value} {below : List Frame} {meth : Method} {c : Code} {D : va_G} {cA : Nat → ClassId} {h0 : fSt} {r : ((Int32 ⊕ Nat) × fSt)} (M : fM p s m args meth c D cA h0 { frames := 17, cells := fCB h0 - fZ h0, slots := fLB h0 - fL h0, locals := 440 } cX7_strength 2 (some (.int)) RX7) (hfl : l.stackTraces = false) (hno : ∀ x ∈ c.exceptionTable.toList, False) (a0 : Option Nat) (a1 : Int32) (h : fSt) (hf : f_X7_strength_L0 a0 a1 h = some r) : ∀ (H : Heap) (locs : List Loc) (cells slots : Nat) (ls : Array Slot), fCur D cA s h0 h H locs → lv_has ls 2 [(0, va_rf a0), (1, .int a1)] → W p l e { frames := 17, cells := fCB h0 - fZ h0, slots := fLB h0 - fL h0, locals := 440 } s m args below meth c H locs cells slots (vx_MQ below (fQX D cA h0 r.2 (rI r.1)) (fXC D cA h0 r.2 (rI r.1)) args s (fCB h0 - fZ h0) (fLB h0 - fL h0) (fA h0)) (F0 m 0 ls []) := by
  obtain ⟨hx, hb, hml, hr, hlocks, hts, hown, K, hR⟩ := id M
  intro H locs cells slots ls hC hl
  refine fr_aload_n hx hb dX7_strength_0 rfl (lv_at hl 0 rfl) ?_
  refine lv_iload_n hx hb dX7_strength_1 rfl (lv_at hl 1 rfl) ?_
  obtain ⟨b3, q4, hf⟩ := obind hf
  obtain ⟨⟨v5 | k6, h7⟩, g2, hf⟩ := obind hf
  · refine fr_callVX hx hb hml hts hown K hC hR ct_7 (c_X7_found hfl D cA g2) 1 q4 kw51 kw47 kw49 kw0 kw23 (by decide +kernel) ⟨by exact Nat.le_of_ble_eq_true rfl, by exact Nat.le_of_ble_eq_true rfl⟩ rfl hl.1 (cat8 _ (by exact Nat.le_of_ble_eq_true rfl)) dX7_strength_2 rfl (fun H locs _ _ hC => ?_)
    refine fr_aload_n hx hb dX7_strength_5 rfl (lv_at hl 0 rfl) ?_
    obtain ⟨x8, g9, hf⟩ := obind hf
    refine fr_get hx hb hts hown K hC ct_7 (fgI_get g9) (by decide) kw624 rfl dX7_strength_6 ?_
    refine lv_iconst (v := (0 : Int32)) hx hb dX7_strength_9 (by decide) ?_
    obtain ⟨r10, g11, hf⟩ := obind hf
    refine fr_callS hx hb hml hts hown K hC hR (c_X7_strengthOf hfl D cA 8 g11) 3 kw292 kw290 kw291 kw23 (by decide +kernel) ⟨by exact Nat.le_of_ble_eq_true rfl, by exact Nat.le_of_ble_eq_true rfl⟩ rfl hl.1 (cat8 _ (by exact Nat.le_of_ble_eq_true rfl)) dX7_strength_10 rfl (fun H locs _ _ hC => ?_)
    obtain rfl := Option.some.inj hf
    exact fr_retQ (fr_iret hx hb hr hlocks hC dX7_strength_13)
  · obtain rfl := Option.some.inj hf
    refine fr_callVT hx hb hml hts hown K hC hR ct_7 (c_X7_found hfl D cA g2) 1 q4 kw51 kw47 kw49 kw0 kw23 (by decide +kernel) ⟨by exact Nat.le_of_ble_eq_true rfl, by exact Nat.le_of_ble_eq_true rfl⟩ rfl hl.1 (cat8 _ (by exact Nat.le_of_ble_eq_true rfl)) dX7_strength_2 rfl (fun H locs _ _ q ce hC e1 e2 e3 => ?_)
    exact fr_out (fun x hx9 => (hno x hx9).elim) hlocks hC e1 e2 e3
set_option maxRecDepth 100000 in
theorem c_X7_strength {l : Launch} (hfl : l.stackTraces = false) (D : va_G) (cA : Nat → ClassId) {o : Nat} {p0 : Int32} {h : fSt} {r : ((Int32 ⊕ Nat) × fSt)} (hf : f_X7_strength o p0 h = some r) : fMetX l yX7_strength (wsC yX7_strength cX7_strength 2 (some (.int))) (17) (440) D cA [.ref o, .int p0] h r.2 (rI r.1) := by
  exact fMetX.of (own := RX7) (by decide +kernel) rfl (lva1 rfl (lva1 rfl lva0)) (lgl1 rfl (lgl1 rfl lgl0)) (Nat.le_of_ble_eq_true rfl) (fun p e s m args below meth c ls hno M hC hl => by
    have hl : lv_has ls 2 [(0, va_rf (some o)), (1, .int p0)] := hl
    exact w_X7_strength_L0 M hfl hno _ _ _ hf _ _ _ _ _ hC (lv_sub hl [0, 1] rfl))
set_option maxHeartbeats 4000000 in
set_option maxRecDepth 100000 in
theorem w_X7_through_L59 {p : Program} {l : Launch} {e : Env} {s : State} {m : MethodId} {args : Array Value} {below : List Frame} {meth : Method} {c : Code} {D : va_G} {cA : Nat → ClassId} {h0 : fSt} {r : ((Int32 ⊕ Nat) × fSt)} (M : fM p s m args meth c D cA h0 { frames := 26, cells := fCB h0 - fZ h0, slots := fLB h0 - fL h0, locals := 640 } cX7_through 6 (some (.int)) RX7) (hfl : l.stackTraces = false) (hno : ∀ x ∈ c.exceptionTable.toList, False) {k17 : Option Nat → Int32 → Int32 → Int32 → Int32 → Option Nat → fSt → Option ((Int32 ⊕ Nat) × fSt)} (hk17 : ∀ (a0 : Option Nat) (a1 : Int32) (a2 : Int32) (a3 : Int32) (a4 : Int32) (a5 : Option Nat) (h : fSt), k17 a0 a1 a2 a3 a4 a5 h = some r → ∀ (H : Heap) (locs : List Loc) (cells slots : Nat) (ls : Array Slot), fCur D cA s h0 h H locs → lv_has ls 6 [(0, va_rf a0), (1, .int a1), (2, .int a2), (3, .int a3), (4, .int a4), (5, va_rf a5)] → W p l e { frames := 26, cells := fCB h0 - fZ h0, slots := fLB h0 - fL h0, locals := 640 } s m args below meth c H locs cells slots (vx_MQ below (fQX D cA h0 r.2 (rI r.1)) (fXC D cA h0 r.2 (rI r.1)) args s (fCB h0 - fZ h0) (fLB h0 - fL h0) (fA h0)) (F0 m 17 ls [])) (a0 : Option Nat) (a1 : Int32) (a2 : Int32) (a3 : Int32) (a4 : Int32) (a5 : Option Nat) (h : fSt) (hf : f_X7_through_L59 k17 a0 a1 a2 a3 a4 a5 h = some r) : ∀ (H : Heap) (locs : List Loc) (cells slots : Nat) (ls : Array Slot), fCur D cA s h0 h H locs → lv_has ls 6 [(0, va_rf a0), (1, .int a1), (2, .int a2), (3, .int a3), (4, .int a4), (5, va_rf a5)] → W p l e { frames := 26, cells := fCB h0 - fZ h0, slots := fLB h0 - fL h0, locals := 640 } s m args below meth c H locs cells slots (vx_MQ below (fQX D cA h0 r.2 (rI r.1)) (fXC D cA h0 r.2 (rI r.1)) args s (fCB h0 - fZ h0) (fLB h0 - fL h0) (fA h0)) (F0 m 59 ls []) := by
  obtain ⟨hx, hb, hml, hr, hlocks, hts, hown, K, hR⟩ := id M
  intro H locs cells slots ls hC hl
  refine fr_aload hx hb dX7_through_59 (lv_at hl 5 rfl) ?_
  obtain ⟨x1, g2, hf⟩ := obind hf
  refine fr_get hx hb hts hown K hC ct_4 (fgR_get g2) (by decide) kw517 rfl dX7_through_61 ?_
  refine fr_astore (lv' := [(5, va_rf x1), (0, va_rf a0), (1, .int a1), (2, .int a2), (3, .int a3), (4, .int a4)]) hx hb dX7_through_64 hl (by decide) (congrArg (List.cons _) (flk rfl (flk rfl (flk rfl (flk rfl (flk rfl (fld rfl fln))))))) (fun ls hl => ?_)
  refine lv_goto (tgt := 17) hx hb dX7_through_66 (by decide) ?_
  exact hk17 _ _ _ _ _ _ _ hf _ _ _ _ _ hC (lv_sub hl [1, 2, 3, 4, 5, 0] rfl)
set_option maxHeartbeats 4000000 in
set_option maxRecDepth 100000 in
theorem w_X7_through_L17 {p : Program} {l : Launch} {e : Env} {s : State} {m : MethodId} {args : Array Value} {below : List Frame} {meth : Method} {c : Code} {D : va_G} {cA : Nat → ClassId} {h0 : fSt} {r : ((Int32 ⊕ Nat) × fSt)} (M : fM p s m args meth c D cA h0 { frames := 26, cells := fCB h0 - fZ h0, slots := fLB h0 - fL h0, locals := 640 } cX7_through 6 (some (.int)) RX7) (hfl : l.stackTraces = false) (hno : ∀ x ∈ c.exceptionTable.toList, False) : ∀ (n : Nat) (a0 : Option Nat) (a1 : Int32) (a2 : Int32) (a3 : Int32) (a4 : Int32) (a5 : Option Nat) (h : fSt), f_X7_through_L17 n a0 a1 a2 a3 a4 a5 h = some r → ∀ (H : Heap) (locs : List Loc) (cells slots : Nat) (ls : Array Slot), fCur D cA s h0 h H locs → lv_has ls 6 [(0, va_rf a0), (1, .int a1), (2, .int a2), (3, .int a3), (4, .int a4), (5, va_rf a5)] → W p l e { frames := 26, cells := fCB h0 - fZ h0, slots := fLB h0 - fL h0, locals := 640 } s m args below meth c H locs cells slots (vx_MQ below (fQX D cA h0 r.2 (rI r.1)) (fXC D cA h0 r.2 (rI r.1)) args s (fCB h0 - fZ h0) (fLB h0 - fL h0) (fA h0)) (F0 m 17 ls []) := by
  obtain ⟨hx, hb, hml, hr, hlocks, hts, hown, K, hR⟩ := id M
  intro n
  induction n with
  | zero =>
    intro a0 a1 a2 a3 a4 a5 h hf
    exact nomatch (show (none : Option ((Int32 ⊕ Nat) × fSt)) = some r from hf)
  | succ n hk17 =>
    intro a0 a1 a2 a3 a4 a5 h hf H locs cells slots ls hC hl
    refine fr_aload hx hb dX7_through_17 (lv_at hl 5 rfl) ?_
    refine fr_ifnull (tgt := 69) hx hb dX7_through_19 (by decide) (fun c3 => ?_) (fun c3 => ?_)
    · replace hf := opos c3 hf
      refine lv_iload hx hb dX7_through_69 (lv_at hl 4 rfl) ?_
      obtain rfl := Option.some.inj hf
      exact fr_retQ (fr_iret hx hb hr hlocks hC dX7_through_71)
    · replace hf := oneg c3 hf
      refine fr_aload_n hx hb dX7_through_22 rfl (lv_at hl 0 rfl) ?_
      refine fr_aload hx hb dX7_through_23 (lv_at hl 5 rfl) ?_
      refine lv_iload_n hx hb dX7_through_25 rfl (lv_at hl 1 rfl) ?_
      refine lv_iload_n hx hb dX7_through_26 rfl (lv_at hl 2 rfl) ?_
      refine lv_iload_n hx hb dX7_through_27 rfl (lv_at hl 3 rfl) ?_
      refine fr_aload_n hx hb dX7_through_28 rfl (lv_at hl 0 rfl) ?_
      obtain ⟨x4, g5, hf⟩ := obind hf
      refine fr_get hx hb hts hown K hC ct_7 (fgI_get g5) (by decide) kw624 rfl dX7_through_29 ?_
      obtain ⟨b8, q9, hf⟩ := obind hf
      obtain ⟨r6, g7, hf⟩ := obind hf
      refine fr_callV hx hb hml hts hown K hC hR ct_7 (c_X7_coversAt hfl D cA g7) 5 q9 kw315 kw312 kw314 kw9 kw23 (by decide +kernel) ⟨by exact Nat.le_of_ble_eq_true rfl, by exact Nat.le_of_ble_eq_true rfl⟩ rfl hl.1 (cat8 _ (by exact Nat.le_of_ble_eq_true rfl)) dX7_through_32 rfl (fun H locs _ _ hC => ?_)
      refine lv_if_eq (tgt := 59) hx hb dX7_through_35 (by decide) (fun c10 => ?_) (fun c10 => ?_)
      · replace hf := opos c10 hf
        exact w_X7_through_L59 M hfl hno hk17 _ _ _ _ _ _ _ hf _ _ _ _ _ hC (lv_sub hl [0, 1, 2, 3, 4, 5] rfl)
      · replace hf := oneg c10 hf
        refine lv_iload hx hb dX7_through_38 (lv_at hl 4 rfl) ?_
        refine lv_bipush (v := (100 : Int32)) hx hb dX7_through_40 (by decide) ?_
        refine fr_aload hx hb dX7_through_42 (lv_at hl 5 rfl) ?_
        refine fr_aload_n hx hb dX7_through_44 rfl (lv_at hl 0 rfl) ?_
        obtain ⟨x11, g12, hf⟩ := obind hf
        refine fr_get hx hb hts hown K hC ct_7 (fgI_get g12) (by decide) kw624 rfl dX7_through_45 ?_
        refine lv_iconst (v := (0 : Int32)) hx hb dX7_through_48 (by decide) ?_
        obtain ⟨r13, g14, hf⟩ := obind hf
        refine fr_callS hx hb hml hts hown K hC hR (c_X7_strengthOf hfl D cA 8 g14) 3 kw292 kw290 kw291 kw23 (by decide +kernel) ⟨by exact Nat.le_of_ble_eq_true rfl, by exact Nat.le_of_ble_eq_true rfl⟩ rfl hl.1 (cat8 _ (by exact Nat.le_of_ble_eq_true rfl)) dX7_through_49 rfl (fun H locs _ _ hC => ?_)
        refine lv_isub hx hb dX7_through_52 ?_
        refine lv_imul hx hb dX7_through_53 ?_
        refine lv_bipush (v := (100 : Int32)) hx hb dX7_through_54 (by decide) ?_
        refine lv_idiv hx hb dX7_through_56 (by decide) ?_
        refine lv_istore (lv' := [(4, .int ((a4 * ((100 : Int32) - r13.1)) / (100 : Int32))), (0, va_rf a0), (1, .int a1), (2, .int a2), (3, .int a3), (5, va_rf a5)]) hx hb dX7_through_57 hl (by decide) (congrArg (List.cons _) (flk rfl (flk rfl (flk rfl (flk rfl (fld rfl (flk rfl fln))))))) (fun ls hl => ?_)
        exact w_X7_through_L59 M hfl hno hk17 _ _ _ _ _ _ _ hf _ _ _ _ _ hC (lv_sub hl [1, 2, 3, 4, 0, 5] rfl)
set_option maxHeartbeats 4000000 in
set_option maxRecDepth 100000 in
theorem w_X7_through_L0 {p : Program} {l : Launch} {e : Env} {s : State} {m : MethodId} {args : Array Value} {below : List Frame} {meth : Method} {c : Code} {D : va_G} {cA : Nat → ClassId} {h0 : fSt} {r : ((Int32 ⊕ Nat) × fSt)} (M : fM p s m args meth c D cA h0 { frames := 26, cells := fCB h0 - fZ h0, slots := fLB h0 - fL h0, locals := 640 } cX7_through 6 (some (.int)) RX7) (hfl : l.stackTraces = false) (hno : ∀ x ∈ c.exceptionTable.toList, False) (a0 : Option Nat) (a1 : Int32) (a2 : Int32) (a3 : Int32) (h : fSt) (hf : f_X7_through_L0 a0 a1 a2 a3 h = some r) : ∀ (H : Heap) (locs : List Loc) (cells slots : Nat) (ls : Array Slot), fCur D cA s h0 h H locs → lv_has ls 6 [(0, va_rf a0), (1, .int a1), (2, .int a2), (3, .int a3)] → W p l e { frames := 26, cells := fCB h0 - fZ h0, slots := fLB h0 - fL h0, locals := 640 } s m args below meth c H locs cells slots (vx_MQ below (fQX D cA h0 r.2 (rI r.1)) (fXC D cA h0 r.2 (rI r.1)) args s (fCB h0 - fZ h0) (fLB h0 - fL h0) (fA h0)) (F0 m 0 ls []) := by
  obtain ⟨hx, hb, hml, hr, hlocks, hts, hown, K, hR⟩ := id M
  intro H locs cells slots ls hC hl
  refine lv_iload_n hx hb dX7_through_0 rfl (lv_at hl 1 rfl) ?_
  refine lv_iload_n hx hb dX7_through_1 rfl (lv_at hl 2 rfl) ?_
  refine lv_iload_n hx hb dX7_through_2 rfl (lv_at hl 3 rfl) ?_
  obtain ⟨⟨v17 | k18, h19⟩, g16, hf⟩ := obind hf
  · refine fr_callSX hx hb hml hts hown K hC hR (c_X7_checkSpot hfl D cA g16) 3 kw309 kw307 kw308 kw23 (by decide +kernel) ⟨by exact Nat.le_of_ble_eq_true rfl, by exact Nat.le_of_ble_eq_true rfl⟩ rfl hl.1 (cat8 _ (by exact Nat.le_of_ble_eq_true rfl)) dX7_through_3 rfl (fun H locs _ _ hC => ?_)
    refine lv_sipush (v := (10000 : Int32)) hx hb dX7_through_6 (by decide) ?_
    refine lv_istore (lv' := [(4, .int (10000 : Int32)), (0, va_rf a0), (1, .int a1), (2, .int a2), (3, .int a3)]) hx hb dX7_through_9 hl (by decide) (congrArg (List.cons _) (flk rfl (flk rfl (flk rfl (flk rfl fln))))) (fun ls hl => ?_)
    refine fr_aload_n hx hb dX7_through_11 rfl (lv_at hl 1 rfl) ?_
    obtain ⟨x20, g21, hf⟩ := obind hf
    refine fr_get hx hb hts hown K hC ct_7 (fgR_get g21) (by decide) kw625 rfl dX7_through_12 ?_
    refine fr_astore (lv' := [(5, va_rf x20), (4, .int (10000 : Int32)), (0, va_rf a0), (1, .int a1), (2, .int a2), (3, .int a3)]) hx hb dX7_through_15 hl (by decide) (congrArg (List.cons _) (flk rfl (flk rfl (flk rfl (flk rfl (flk rfl fln)))))) (fun ls hl => ?_)
    exact w_X7_through_L17 M hfl hno 4096 _ _ _ _ _ _ _ hf _ _ _ _ _ hC (lv_sub hl [2, 3, 4, 5, 1, 0] rfl)
  · obtain rfl := Option.some.inj hf
    refine fr_callST hx hb hml hts hown K hC hR (c_X7_checkSpot hfl D cA g16) 3 kw309 kw307 kw308 kw23 (by decide +kernel) ⟨by exact Nat.le_of_ble_eq_true rfl, by exact Nat.le_of_ble_eq_true rfl⟩ rfl hl.1 (cat8 _ (by exact Nat.le_of_ble_eq_true rfl)) dX7_through_3 rfl (fun H locs _ _ q ce hC e1 e2 e3 => ?_)
    exact fr_out (fun x hx9 => (hno x hx9).elim) hlocks hC e1 e2 e3
set_option maxRecDepth 100000 in
theorem c_X7_through {l : Launch} (hfl : l.stackTraces = false) (D : va_G) (cA : Nat → ClassId) {o : Nat} {p0 : Int32} {p1 : Int32} {p2 : Int32} {h : fSt} {r : ((Int32 ⊕ Nat) × fSt)} (hf : f_X7_through o p0 p1 p2 h = some r) : fMetX l yX7_through (wsC yX7_through cX7_through 6 (some (.int))) (26) (640) D cA [.ref o, .int p0, .int p1, .int p2] h r.2 (rI r.1) := by
  exact fMetX.of (own := RX7) (by decide +kernel) rfl (lva1 rfl (lva1 rfl (lva1 rfl (lva1 rfl lva0)))) (lgl1 rfl (lgl1 rfl (lgl1 rfl (lgl1 rfl lgl0)))) (Nat.le_of_ble_eq_true rfl) (fun p e s m args below meth c ls hno M hC hl => by
    have hl : lv_has ls 6 [(0, va_rf (some o)), (1, .int p0), (2, .int p1), (3, .int p2)] := hl
    exact w_X7_through_L0 M hfl hno _ _ _ _ _ hf _ _ _ _ _ hC (lv_sub hl [0, 1, 2, 3] rfl))
set_option maxHeartbeats 4000000 in
set_option maxRecDepth 100000 in
theorem w_X7_toWhole_L0 {p : Program} {l : Launch} {e : Env} {s : State} {m : MethodId} {args : Array Value} {below : List Frame} {meth : Method} {c : Code} {D : va_G} {cA : Nat → ClassId} {h0 : fSt} {r : ((Int32 ⊕ Nat) × fSt)} (M : fM p s m args meth c D cA h0 { frames := 7, cells := fCB h0 - fZ h0, slots := fLB h0 - fL h0, locals := 112 } cX7_toWhole 6 (some (.int)) RX7) (hfl : l.stackTraces = false) (hno : ∀ x ∈ c.exceptionTable.toList, False) (a0 : Option Nat) (a1 : Int32) (a2 : Int32) (a3 : Int32) (a4 : Int32) (h : fSt) (hf : f_X7_toWhole_L0 a0 a1 a2 a3 a4 h = some r) : ∀ (H : Heap) (locs : List Loc) (cells slots : Nat) (ls : Array Slot), fCur D cA s h0 h H locs → lv_has ls 6 [(0, va_rf a0), (1, .int a1), (2, .int a2), (3, .int a3), (4, .int a4)] → W p l e { frames := 7, cells := fCB h0 - fZ h0, slots := fLB h0 - fL h0, locals := 112 } s m args below meth c H locs cells slots (vx_MQ below (fQX D cA h0 r.2 (rI r.1)) (fXC D cA h0 r.2 (rI r.1)) args s (fCB h0 - fZ h0) (fLB h0 - fL h0) (fA h0)) (F0 m 0 ls []) := by
  obtain ⟨hx, hb, hml, hr, hlocks, hts, hown, K, hR⟩ := id M
  intro H locs cells slots ls hC hl
  refine fr_aload_n hx hb dX7_toWhole_0 rfl (lv_at hl 0 rfl) ?_
  refine lv_iload_n hx hb dX7_toWhole_1 rfl (lv_at hl 1 rfl) ?_
  obtain ⟨b3, q4, hf⟩ := obind hf
  obtain ⟨⟨v5 | k6, h7⟩, g2, hf⟩ := obind hf
  · refine fr_callVX hx hb hml hts hown K hC hR ct_7 (c_X7_found hfl D cA g2) 1 q4 kw51 kw47 kw49 kw0 kw23 (by decide +kernel) ⟨by exact Nat.le_of_ble_eq_true rfl, by exact Nat.le_of_ble_eq_true rfl⟩ rfl hl.1 (cat8 _ (by exact Nat.le_of_ble_eq_true rfl)) dX7_toWhole_2 rfl (fun H locs _ _ hC => ?_)
    refine fr_astore (lv' := [(5, va_rf v5), (0, va_rf a0), (1, .int a1), (2, .int a2), (3, .int a3), (4, .int a4)]) hx hb dX7_toWhole_5 hl (by decide) (congrArg (List.cons _) (flk rfl (flk rfl (flk rfl (flk rfl (flk rfl fln)))))) (fun ls hl => ?_)
    refine lv_iload_n hx hb dX7_toWhole_7 rfl (lv_at hl 3 rfl) ?_
    refine lv_iload_n hx hb dX7_toWhole_8 rfl (lv_at hl 4 rfl) ?_
    refine lv_iload hx hb dX7_toWhole_9 (lv_at hl 5 rfl) ?_
    obtain ⟨⟨v10 | k11, h12⟩, g9, hf⟩ := obind hf
    · refine fr_callSX hx hb hml hts hown K hC hR (c_X7_checkPoint hfl D cA g9) 3 kw177 kw175 kw176 kw23 (by decide +kernel) ⟨by exact Nat.le_of_ble_eq_true rfl, by exact Nat.le_of_ble_eq_true rfl⟩ rfl hl.1 (cat8 _ (by exact Nat.le_of_ble_eq_true rfl)) dX7_toWhole_11 rfl (fun H locs _ _ hC => ?_)
      refine fr_aload_n hx hb dX7_toWhole_14 rfl (lv_at hl 1 rfl) ?_
      refine fr_aload hx hb dX7_toWhole_15 (lv_at hl 0 rfl) ?_
      refine lv_iload_n hx hb dX7_toWhole_17 rfl (lv_at hl 3 rfl) ?_
      refine lv_iload_n hx hb dX7_toWhole_18 rfl (lv_at hl 4 rfl) ?_
      obtain ⟨b15, q16, hf⟩ := obind hf
      obtain ⟨r13, g14, hf⟩ := obind hf
      refine fr_callV hx hb hml hts hown K hC hR ct_7 (c_X7_raise hfl D cA g14) 3 q16 kw183 kw180 kw182 kw3 kw23 (by decide +kernel) ⟨by exact Nat.le_of_ble_eq_true rfl, by exact Nat.le_of_ble_eq_true rfl⟩ rfl hl.1 (cat8 _ (by exact Nat.le_of_ble_eq_true rfl)) dX7_toWhole_19 rfl (fun H locs _ _ hC => ?_)
      refine fr_aload_n hx hb dX7_toWhole_22 rfl (lv_at hl 1 rfl) ?_
      obtain ⟨x17, g18, hf⟩ := obind hf
      refine fr_get hx hb hts hown K hC ct_7 (fgR_get g18) (by decide) kw620 rfl dX7_toWhole_23 ?_
      refine lv_iload hx hb dX7_toWhole_26 (lv_at hl 5 rfl) ?_
      obtain ⟨b21, q22, hf⟩ := obind hf
      obtain ⟨r19, g20, hf⟩ := obind hf
      refine fr_callV hx hb hml hts hown K hC hR ct_5 (c_X5_part hfl D cA g20) 1 q22 kw219 kw216 kw217 kw218 kw27 (by decide +kernel) ⟨by exact Nat.le_of_ble_eq_true rfl, by exact Nat.le_of_ble_eq_true rfl⟩ rfl hl.1 (cat8 _ (by exact Nat.le_of_ble_eq_true rfl)) dX7_toWhole_28 rfl (fun H locs _ _ hC => ?_)
      refine lv_l2i (v := (Int64.toInt32 r19.1)) hx hb dX7_toWhole_31 rfl ?_
      obtain rfl := Option.some.inj hf
      exact fr_retQ (fr_iret hx hb hr hlocks hC dX7_toWhole_32)
    · obtain rfl := Option.some.inj hf
      refine fr_callST hx hb hml hts hown K hC hR (c_X7_checkPoint hfl D cA g9) 3 kw177 kw175 kw176 kw23 (by decide +kernel) ⟨by exact Nat.le_of_ble_eq_true rfl, by exact Nat.le_of_ble_eq_true rfl⟩ rfl hl.1 (cat8 _ (by exact Nat.le_of_ble_eq_true rfl)) dX7_toWhole_11 rfl (fun H locs _ _ q ce hC e1 e2 e3 => ?_)
      exact fr_out (fun x hx9 => (hno x hx9).elim) hlocks hC e1 e2 e3
  · obtain rfl := Option.some.inj hf
    refine fr_callVT hx hb hml hts hown K hC hR ct_7 (c_X7_found hfl D cA g2) 1 q4 kw51 kw47 kw49 kw0 kw23 (by decide +kernel) ⟨by exact Nat.le_of_ble_eq_true rfl, by exact Nat.le_of_ble_eq_true rfl⟩ rfl hl.1 (cat8 _ (by exact Nat.le_of_ble_eq_true rfl)) dX7_toWhole_2 rfl (fun H locs _ _ q ce hC e1 e2 e3 => ?_)
    exact fr_out (fun x hx9 => (hno x hx9).elim) hlocks hC e1 e2 e3
set_option maxRecDepth 100000 in
theorem c_X7_toWhole {l : Launch} (hfl : l.stackTraces = false) (D : va_G) (cA : Nat → ClassId) {o : Nat} {p0 : Int32} {p1 : Int32} {p2 : Int32} {p3 : Int32} {h : fSt} {r : ((Int32 ⊕ Nat) × fSt)} (hf : f_X7_toWhole o p0 p1 p2 p3 h = some r) : fMetX l yX7_toWhole (wsC yX7_toWhole cX7_toWhole 6 (some (.int))) (7) (112) D cA [.ref o, .int p0, .int p1, .int p2, .int p3] h r.2 (rI r.1) := by
  exact fMetX.of (own := RX7) (by decide +kernel) rfl (lva1 rfl (lva1 rfl (lva1 rfl (lva1 rfl (lva1 rfl lva0))))) (lgl1 rfl (lgl1 rfl (lgl1 rfl (lgl1 rfl (lgl1 rfl lgl0))))) (Nat.le_of_ble_eq_true rfl) (fun p e s m args below meth c ls hno M hC hl => by
    have hl : lv_has ls 6 [(0, va_rf (some o)), (1, .int p0), (2, .int p1), (3, .int p2), (4, .int p3)] := hl
    exact w_X7_toWhole_L0 M hfl hno _ _ _ _ _ _ hf _ _ _ _ _ hC (lv_sub hl [0, 1, 2, 3, 4] rfl))
set_option maxHeartbeats 4000000 in
set_option maxRecDepth 100000 in
theorem w_X2_init_L0 {p : Program} {l : Launch} {e : Env} {s : State} {m : MethodId} {args : Array Value} {below : List Frame} {meth : Method} {c : Code} {D : va_G} {cA : Nat → ClassId} {h0 : fSt} {r : (Unit × fSt)} (M : fM p s m args meth c D cA h0 { frames := 1, cells := fCB h0 - fZ h0, slots := fLB h0 - fL h0, locals := 20 } cX2_init 5 none RX2) (hfl : l.stackTraces = false) (hnm : meth.name = "<init>") (a0 : Option Nat) (a1 : Int32) (a2 : Int32) (a3 : Int32) (a4 : Int32) (h : fSt) (hf : f_X2_init_L0 a0 a1 a2 a3 a4 h = some r) : ∀ (H : Heap) (locs : List Loc) (cells slots : Nat) (ls : Array Slot), fCur D cA s h0 h H locs → lv_has ls 5 [(0, va_rf a0), (1, .int a1), (2, .int a2), (3, .int a3), (4, .int a4)] → W p l e { frames := 1, cells := fCB h0 - fZ h0, slots := fLB h0 - fL h0, locals := 20 } s m args below meth c H locs cells slots (MQ below (fQ D cA h0 r.2 none) args s (fCB h0 - fZ h0) (fLB h0 - fL h0) (fA h0)) (F0 m 0 ls []) := by
  obtain ⟨hx, hb, hml, hr, hlocks, hts, hown, K, hR⟩ := id M
  intro H locs cells slots ls hC hl
  refine fr_aload_n hx hb dX2_init_0 rfl (lv_at hl 0 rfl) ?_
  obtain ⟨b1, q2, hf⟩ := obind hf
  refine fr_objInit hx hb hml hts hown kw461 kw82 kw83 hl.1 (fobj_inv q2).1 dX2_init_1 (by exact Nat.le_of_ble_eq_true rfl) (catL _ _ (by exact Nat.le_of_ble_eq_true rfl) (by exact Nat.le_of_ble_eq_true rfl)) ?_
  refine fr_aload_n hx hb dX2_init_4 rfl (lv_at hl 0 rfl) ?_
  refine lv_iload_n hx hb dX2_init_5 rfl (lv_at hl 1 rfl) ?_
  obtain ⟨h3, g4, hf⟩ := obind hf
  refine fr_putF hx hb hts hown K hC ct_2 g4 (by decide) kw462 rfl rfl hnm rfl rfl rfl dX2_init_6 (fun H locs hC => ?_)
  refine fr_aload_n hx hb dX2_init_9 rfl (lv_at hl 0 rfl) ?_
  refine lv_iload_n hx hb dX2_init_10 rfl (lv_at hl 2 rfl) ?_
  obtain ⟨h5, g6, hf⟩ := obind hf
  refine fr_putF hx hb hts hown K hC ct_2 g6 (by decide) kw464 rfl rfl hnm rfl rfl rfl dX2_init_11 (fun H locs hC => ?_)
  refine fr_aload_n hx hb dX2_init_14 rfl (lv_at hl 0 rfl) ?_
  refine lv_iload_n hx hb dX2_init_15 rfl (lv_at hl 3 rfl) ?_
  obtain ⟨h7, g8, hf⟩ := obind hf
  refine fr_putF hx hb hts hown K hC ct_2 g8 (by decide) kw466 rfl rfl hnm rfl rfl rfl dX2_init_16 (fun H locs hC => ?_)
  refine fr_aload_n hx hb dX2_init_19 rfl (lv_at hl 0 rfl) ?_
  refine lv_iload hx hb dX2_init_20 (lv_at hl 4 rfl) ?_
  obtain ⟨h9, g10, hf⟩ := obind hf
  refine fr_putF hx hb hts hown K hC ct_2 g10 (by decide) kw468 rfl rfl hnm rfl rfl rfl dX2_init_22 (fun H locs hC => ?_)
  obtain rfl := Option.some.inj hf
  exact fr_vret hx hb hr hlocks hC dX2_init_25
set_option maxRecDepth 100000 in
theorem c_X2_init {l : Launch} (hfl : l.stackTraces = false) (D : va_G) (cA : Nat → ClassId) {o : Nat} {p0 : Int32} {p1 : Int32} {p2 : Int32} {p3 : Int32} {h : fSt} {r : (Unit × fSt)} (hf : f_X2_init o p0 p1 p2 p3 h = some r) : fMet l yX2_init (wsC yX2_init cX2_init 5 none) (1) (20) D cA [.ref o, .int p0, .int p1, .int p2, .int p3] h r.2 none := by
  exact fMet.of (own := RX2) (by decide +kernel) rfl (lva1 rfl (lva1 rfl (lva1 rfl (lva1 rfl (lva1 rfl lva0))))) (lgl1 rfl (lgl1 rfl (lgl1 rfl (lgl1 rfl (lgl1 rfl lgl0))))) (Nat.le_of_ble_eq_true rfl) (fun p e s m args below meth c ls hnm _ M hC hl => by
    have hl : lv_has ls 5 [(0, va_rf (some o)), (1, .int p0), (2, .int p1), (3, .int p2), (4, .int p3)] := hl
    exact w_X2_init_L0 M hfl (show meth.name = "<init>" from hnm) _ _ _ _ _ _ hf _ _ _ _ _ hC (lv_sub hl [0, 1, 2, 3, 4] rfl))
set_option maxHeartbeats 4000000 in
set_option maxRecDepth 100000 in
theorem w_X6_init_L0 {p : Program} {l : Launch} {e : Env} {s : State} {m : MethodId} {args : Array Value} {below : List Frame} {meth : Method} {c : Code} {D : va_G} {cA : Nat → ClassId} {h0 : fSt} {r : (Unit × fSt)} (M : fM p s m args meth c D cA h0 { frames := 1, cells := fCB h0 - fZ h0, slots := fLB h0 - fL h0, locals := 20 } cX6_init 4 none RX6) (hfl : l.stackTraces = false) (hnm : meth.name = "<init>") (a0 : Option Nat) (a1 : Int32) (a2 : Int32) (a3 : Int32) (h : fSt) (hf : f_X6_init_L0 a0 a1 a2 a3 h = some r) : ∀ (H : Heap) (locs : List Loc) (cells slots : Nat) (ls : Array Slot), fCur D cA s h0 h H locs → lv_has ls 4 [(0, va_rf a0), (1, .int a1), (2, .int a2), (3, .int a3)] → W p l e { frames := 1, cells := fCB h0 - fZ h0, slots := fLB h0 - fL h0, locals := 20 } s m args below meth c H locs cells slots (MQ below (fQ D cA h0 r.2 none) args s (fCB h0 - fZ h0) (fLB h0 - fL h0) (fA h0)) (F0 m 0 ls []) := by
  obtain ⟨hx, hb, hml, hr, hlocks, hts, hown, K, hR⟩ := id M
  intro H locs cells slots ls hC hl
  refine fr_aload_n hx hb dX6_init_0 rfl (lv_at hl 0 rfl) ?_
  obtain ⟨b1, q2, hf⟩ := obind hf
  refine fr_objInit hx hb hml hts hown kw422 kw82 kw83 hl.1 (fobj_inv q2).1 dX6_init_1 (by exact Nat.le_of_ble_eq_true rfl) (catL _ _ (by exact Nat.le_of_ble_eq_true rfl) (by exact Nat.le_of_ble_eq_true rfl)) ?_
  refine fr_aload_n hx hb dX6_init_4 rfl (lv_at hl 0 rfl) ?_
  refine lv_iload_n hx hb dX6_init_5 rfl (lv_at hl 1 rfl) ?_
  obtain ⟨h3, g4, hf⟩ := obind hf
  refine fr_put hx hb hts hown K hC ct_6 g4 (by decide) kw425 rfl rfl rfl rfl dX6_init_6 (fun H locs hC => ?_)
  refine fr_aload_n hx hb dX6_init_9 rfl (lv_at hl 0 rfl) ?_
  refine lv_iload_n hx hb dX6_init_10 rfl (lv_at hl 2 rfl) ?_
  obtain ⟨h5, g6, hf⟩ := obind hf
  refine fr_putF hx hb hts hown K hC ct_6 g6 (by decide) kw423 rfl rfl hnm rfl rfl rfl dX6_init_11 (fun H locs hC => ?_)
  refine fr_aload_n hx hb dX6_init_14 rfl (lv_at hl 0 rfl) ?_
  refine lv_iload_n hx hb dX6_init_15 rfl (lv_at hl 3 rfl) ?_
  obtain ⟨h7, g8, hf⟩ := obind hf
  refine fr_putF hx hb hts hown K hC ct_6 g8 (by decide) kw424 rfl rfl hnm rfl rfl rfl dX6_init_16 (fun H locs hC => ?_)
  obtain rfl := Option.some.inj hf
  exact fr_vret hx hb hr hlocks hC dX6_init_19
set_option maxRecDepth 100000 in
theorem c_X6_init {l : Launch} (hfl : l.stackTraces = false) (D : va_G) (cA : Nat → ClassId) {o : Nat} {p0 : Int32} {p1 : Int32} {p2 : Int32} {h : fSt} {r : (Unit × fSt)} (hf : f_X6_init o p0 p1 p2 h = some r) : fMet l yX6_init (wsC yX6_init cX6_init 4 none) (1) (20) D cA [.ref o, .int p0, .int p1, .int p2] h r.2 none := by
  exact fMet.of (own := RX6) (by decide +kernel) rfl (lva1 rfl (lva1 rfl (lva1 rfl (lva1 rfl lva0)))) (lgl1 rfl (lgl1 rfl (lgl1 rfl (lgl1 rfl lgl0)))) (Nat.le_of_ble_eq_true rfl) (fun p e s m args below meth c ls hnm _ M hC hl => by
    have hl : lv_has ls 4 [(0, va_rf (some o)), (1, .int p0), (2, .int p1), (3, .int p2)] := hl
    exact w_X6_init_L0 M hfl (show meth.name = "<init>" from hnm) _ _ _ _ _ hf _ _ _ _ _ hC (lv_sub hl [0, 1, 2, 3] rfl))
set_option maxHeartbeats 4000000 in
set_option maxRecDepth 100000 in
theorem w_X4_init_L0 {p : Program} {l : Launch} {e : Env} {s : State} {m : MethodId} {args : Array Value} {below : List Frame} {meth : Method} {c : Code} {D : va_G} {cA : Nat → ClassId} {h0 : fSt} {r : (Unit × fSt)} (M : fM p s m args meth c D cA h0 { frames := 2, cells := fCB h0 - fZ h0, slots := fLB h0 - fL h0, locals := 44 } cX4_init 5 none RX4) (hfl : l.stackTraces = false) (hnm : meth.name = "<init>") (a0 : Option Nat) (a1 : Int32) (a2 : Int32) (a3 : Int32) (a4 : Int32) (h : fSt) (hf : f_X4_init_L0 a0 a1 a2 a3 a4 h = some r) : ∀ (H : Heap) (locs : List Loc) (cells slots : Nat) (ls : Array Slot), fCur D cA s h0 h H locs → lv_has ls 5 [(0, va_rf a0), (1, .int a1), (2, .int a2), (3, .int a3), (4, .int a4)] → W p l e { frames := 2, cells := fCB h0 - fZ h0, slots := fLB h0 - fL h0, locals := 44 } s m args below meth c H locs cells slots (MQ below (fQ D cA h0 r.2 none) args s (fCB h0 - fZ h0) (fLB h0 - fL h0) (fA h0)) (F0 m 0 ls []) := by
  obtain ⟨hx, hb, hml, hr, hlocks, hts, hown, K, hR⟩ := id M
  intro H locs cells slots ls hC hl
  refine fr_aload_n hx hb dX4_init_0 rfl (lv_at hl 0 rfl) ?_
  obtain ⟨b1, q2, hf⟩ := obind hf
  refine fr_objInit hx hb hml hts hown kw417 kw82 kw83 hl.1 (fobj_inv q2).1 dX4_init_1 (by exact Nat.le_of_ble_eq_true rfl) (catL _ _ (by exact Nat.le_of_ble_eq_true rfl) (by exact Nat.le_of_ble_eq_true rfl)) ?_
  refine fr_aload_n hx hb dX4_init_4 rfl (lv_at hl 0 rfl) ?_
  obtain ⟨r3, g4, hf⟩ := obind hf
  refine fr_new hx hb hts hown K hC ct_6 hR g4 dv_6 kw418 kw199 kw25 dX4_init_5 (fun H _ _ hC => ?_)
  refine lv_dup hx hb dX4_init_8 (va_rf_cat _) ?_
  refine lv_iconst (v := (0 : Int32)) hx hb dX4_init_9 (by decide) ?_
  refine lv_sipush (v := (-200 : Int32)) hx hb dX4_init_10 (by decide) ?_
  refine lv_sipush (v := (200 : Int32)) hx hb dX4_init_13 (by decide) ?_
  obtain ⟨r5, g6, hf⟩ := obind hf
  refine fr_callI hx hb hml hts hown K hC hR (c_X6_init hfl D cA g6) 3 kw421 kw419 kw420 kw25 rfl (by decide +kernel) ⟨by exact Nat.le_of_ble_eq_true rfl, by exact Nat.le_of_ble_eq_true rfl⟩ rfl hl.1 (cat8 _ (by exact Nat.le_of_ble_eq_true rfl)) dX4_init_16 rfl (fun H locs _ _ hC => ?_)
  obtain ⟨h7, g8, hf⟩ := obind hf
  refine fr_putF hx hb hts hown K hC ct_4 g8 (by decide) kw485 rfl rfl hnm rfl (nR _ _) (fR _ _) dX4_init_19 (fun H locs hC => ?_)
  refine fr_aload_n hx hb dX4_init_22 rfl (lv_at hl 0 rfl) ?_
  obtain ⟨r9, g10, hf⟩ := obind hf
  refine fr_new hx hb hts hown K hC ct_6 hR g10 dv_6 kw418 kw199 kw25 dX4_init_23 (fun H _ _ hC => ?_)
  refine lv_dup hx hb dX4_init_26 (va_rf_cat _) ?_
  refine lv_iconst (v := (0 : Int32)) hx hb dX4_init_27 (by decide) ?_
  refine lv_sipush (v := (-200 : Int32)) hx hb dX4_init_28 (by decide) ?_
  refine lv_sipush (v := (200 : Int32)) hx hb dX4_init_31 (by decide) ?_
  obtain ⟨r11, g12, hf⟩ := obind hf
  refine fr_callI hx hb hml hts hown K hC hR (c_X6_init hfl D cA g12) 3 kw421 kw419 kw420 kw25 rfl (by decide +kernel) ⟨by exact Nat.le_of_ble_eq_true rfl, by exact Nat.le_of_ble_eq_true rfl⟩ rfl hl.1 (cat8 _ (by exact Nat.le_of_ble_eq_true rfl)) dX4_init_34 rfl (fun H locs _ _ hC => ?_)
  obtain ⟨h13, g14, hf⟩ := obind hf
  refine fr_putF hx hb hts hown K hC ct_4 g14 (by decide) kw488 rfl rfl hnm rfl (nR _ _) (fR _ _) dX4_init_37 (fun H locs hC => ?_)
  refine fr_aload_n hx hb dX4_init_40 rfl (lv_at hl 0 rfl) ?_
  obtain ⟨r15, g16, hf⟩ := obind hf
  refine fr_new hx hb hts hown K hC ct_6 hR g16 dv_6 kw418 kw199 kw25 dX4_init_41 (fun H _ _ hC => ?_)
  refine lv_dup hx hb dX4_init_44 (va_rf_cat _) ?_
  refine lv_iconst (v := (0 : Int32)) hx hb dX4_init_45 (by decide) ?_
  refine lv_iconst (v := (0 : Int32)) hx hb dX4_init_46 (by decide) ?_
  refine lv_iconst (v := (3 : Int32)) hx hb dX4_init_47 (by decide) ?_
  obtain ⟨r17, g18, hf⟩ := obind hf
  refine fr_callI hx hb hml hts hown K hC hR (c_X6_init hfl D cA g18) 3 kw421 kw419 kw420 kw25 rfl (by decide +kernel) ⟨by exact Nat.le_of_ble_eq_true rfl, by exact Nat.le_of_ble_eq_true rfl⟩ rfl hl.1 (cat8 _ (by exact Nat.le_of_ble_eq_true rfl)) dX4_init_48 rfl (fun H locs _ _ hC => ?_)
  obtain ⟨h19, g20, hf⟩ := obind hf
  refine fr_putF hx hb hts hown K hC ct_4 g20 (by decide) kw491 rfl rfl hnm rfl (nR _ _) (fR _ _) dX4_init_51 (fun H locs hC => ?_)
  refine fr_aload_n hx hb dX4_init_54 rfl (lv_at hl 0 rfl) ?_
  obtain ⟨r21, g22, hf⟩ := obind hf
  refine fr_new hx hb hts hown K hC ct_6 hR g22 dv_6 kw418 kw199 kw25 dX4_init_55 (fun H _ _ hC => ?_)
  refine lv_dup hx hb dX4_init_58 (va_rf_cat _) ?_
  refine lv_bipush (v := (100 : Int32)) hx hb dX4_init_59 (by decide) ?_
  refine lv_iconst (v := (0 : Int32)) hx hb dX4_init_61 (by decide) ?_
  refine lv_bipush (v := (100 : Int32)) hx hb dX4_init_62 (by decide) ?_
  obtain ⟨r23, g24, hf⟩ := obind hf
  refine fr_callI hx hb hml hts hown K hC hR (c_X6_init hfl D cA g24) 3 kw421 kw419 kw420 kw25 rfl (by decide +kernel) ⟨by exact Nat.le_of_ble_eq_true rfl, by exact Nat.le_of_ble_eq_true rfl⟩ rfl hl.1 (cat8 _ (by exact Nat.le_of_ble_eq_true rfl)) dX4_init_64 rfl (fun H locs _ _ hC => ?_)
  obtain ⟨h25, g26, hf⟩ := obind hf
  refine fr_putF hx hb hts hown K hC ct_4 g26 (by decide) kw494 rfl rfl hnm rfl (nR _ _) (fR _ _) dX4_init_67 (fun H locs hC => ?_)
  refine fr_aload_n hx hb dX4_init_70 rfl (lv_at hl 0 rfl) ?_
  refine lv_iconst (v := (1 : Int32)) hx hb dX4_init_71 (by decide) ?_
  obtain ⟨h27, g28, hf⟩ := obind hf
  refine fr_put hx hb hts hown K hC ct_4 g28 (by decide) kw496 rfl rfl rfl rfl dX4_init_72 (fun H locs hC => ?_)
  refine fr_aload_n hx hb dX4_init_75 rfl (lv_at hl 0 rfl) ?_
  refine lv_iconst (v := (1 : Int32)) hx hb dX4_init_76 (by decide) ?_
  obtain ⟨h29, g30, hf⟩ := obind hf
  refine fr_put hx hb hts hown K hC ct_4 g30 (by decide) kw499 rfl rfl rfl rfl dX4_init_77 (fun H locs hC => ?_)
  refine fr_aload_n hx hb dX4_init_80 rfl (lv_at hl 0 rfl) ?_
  refine lv_iload_n hx hb dX4_init_81 rfl (lv_at hl 1 rfl) ?_
  obtain ⟨h31, g32, hf⟩ := obind hf
  refine fr_putF hx hb hts hown K hC ct_4 g32 (by decide) kw479 rfl rfl hnm rfl rfl rfl dX4_init_82 (fun H locs hC => ?_)
  refine fr_aload_n hx hb dX4_init_85 rfl (lv_at hl 0 rfl) ?_
  refine lv_iload_n hx hb dX4_init_86 rfl (lv_at hl 2 rfl) ?_
  obtain ⟨h33, g34, hf⟩ := obind hf
  refine fr_putF hx hb hts hown K hC ct_4 g34 (by decide) kw481 rfl rfl hnm rfl rfl rfl dX4_init_87 (fun H locs hC => ?_)
  refine fr_aload_n hx hb dX4_init_90 rfl (lv_at hl 0 rfl) ?_
  obtain ⟨r35, g36, hf⟩ := obind hf
  refine fr_new hx hb hts hown K hC ct_2 hR g36 dv_2 kw456 kw457 kw26 dX4_init_91 (fun H _ _ hC => ?_)
  refine lv_dup hx hb dX4_init_94 (va_rf_cat _) ?_
  refine lv_iconst (v := (0 : Int32)) hx hb dX4_init_95 (by decide) ?_
  refine lv_iconst (v := (0 : Int32)) hx hb dX4_init_96 (by decide) ?_
  refine lv_iload_n hx hb dX4_init_97 rfl (lv_at hl 3 rfl) ?_
  refine lv_iload hx hb dX4_init_98 (lv_at hl 4 rfl) ?_
  obtain ⟨r37, g38, hf⟩ := obind hf
  refine fr_callI hx hb hml hts hown K hC hR (c_X2_init hfl D cA g38) 4 kw460 kw458 kw459 kw26 rfl (by decide +kernel) ⟨by exact Nat.le_of_ble_eq_true rfl, by exact Nat.le_of_ble_eq_true rfl⟩ rfl hl.1 (cat8 _ (by exact Nat.le_of_ble_eq_true rfl)) dX4_init_100 rfl (fun H locs _ _ hC => ?_)
  obtain ⟨h39, g40, hf⟩ := obind hf
  refine fr_putF hx hb hts hown K hC ct_4 g40 (by decide) kw483 rfl rfl hnm rfl (nR _ _) (fR _ _) dX4_init_103 (fun H locs hC => ?_)
  obtain rfl := Option.some.inj hf
  exact fr_vret hx hb hr hlocks hC dX4_init_106
set_option maxRecDepth 100000 in
theorem c_X4_init {l : Launch} (hfl : l.stackTraces = false) (D : va_G) (cA : Nat → ClassId) {o : Nat} {p0 : Int32} {p1 : Int32} {p2 : Int32} {p3 : Int32} {h : fSt} {r : (Unit × fSt)} (hf : f_X4_init o p0 p1 p2 p3 h = some r) : fMet l yX4_init (wsC yX4_init cX4_init 5 none) (2) (44) D cA [.ref o, .int p0, .int p1, .int p2, .int p3] h r.2 none := by
  exact fMet.of (own := RX4) (by decide +kernel) rfl (lva1 rfl (lva1 rfl (lva1 rfl (lva1 rfl (lva1 rfl lva0))))) (lgl1 rfl (lgl1 rfl (lgl1 rfl (lgl1 rfl (lgl1 rfl lgl0))))) (Nat.le_of_ble_eq_true rfl) (fun p e s m args below meth c ls hnm _ M hC hl => by
    have hl : lv_has ls 5 [(0, va_rf (some o)), (1, .int p0), (2, .int p1), (3, .int p2), (4, .int p3)] := hl
    exact w_X4_init_L0 M hfl (show meth.name = "<init>" from hnm) _ _ _ _ _ _ hf _ _ _ _ _ hC (lv_sub hl [0, 1, 2, 3, 4] rfl))
set_option maxHeartbeats 4000000 in
set_option maxRecDepth 100000 in
theorem w_X4_takeIn_L38 {p : Program} {l : Launch} {e : Env} {s : State} {m : MethodId} {args : Array Value} {below : List Frame} {meth : Method} {c : Code} {D : va_G} {cA : Nat → ClassId} {h0 : fSt} {r : (Unit × fSt)} (M : fM p s m args meth c D cA h0 { frames := 0, cells := fCB h0 - fZ h0, slots := fLB h0 - fL h0, locals := 0 } cX4_takeIn 4 none RX4) (hfl : l.stackTraces = false) (a0 : Option Nat) (a1 : Option Nat) (h : fSt) (hf : f_X4_takeIn_L38 a0 a1 h = some r) : ∀ (H : Heap) (locs : List Loc) (cells slots : Nat) (ls : Array Slot), fCur D cA s h0 h H locs → lv_has ls 4 [(0, va_rf a0), (1, va_rf a1)] → W p l e { frames := 0, cells := fCB h0 - fZ h0, slots := fLB h0 - fL h0, locals := 0 } s m args below meth c H locs cells slots (MQ below (fQ D cA h0 r.2 none) args s (fCB h0 - fZ h0) (fLB h0 - fL h0) (fA h0)) (F0 m 38 ls []) := by
  obtain ⟨hx, hb, hml, hr, hlocks, hts, hown, K, hR⟩ := id M
  intro H locs cells slots ls hC hl
  refine fr_aload_n hx hb dX4_takeIn_38 rfl (lv_at hl 1 rfl) ?_
  refine fr_null hx hb dX4_takeIn_39 ?_
  obtain ⟨h1, g2, hf⟩ := obind hf
  refine fr_put hx hb hts hown K hC ct_4 g2 (by decide) kw515 rfl rfl (nR _ _) (fR _ _) dX4_takeIn_40 (fun H locs hC => ?_)
  refine fr_aload_n hx hb dX4_takeIn_43 rfl (lv_at hl 1 rfl) ?_
  refine fr_aload_n hx hb dX4_takeIn_44 rfl (lv_at hl 0 rfl) ?_
  obtain ⟨h3, g4, hf⟩ := obind hf
  refine fr_put hx hb hts hown K hC ct_4 g4 (by decide) kw511 rfl rfl (nR _ _) (fR _ _) dX4_takeIn_45 (fun H locs hC => ?_)
  obtain rfl := Option.some.inj hf
  exact fr_vret hx hb hr hlocks hC dX4_takeIn_48
set_option maxHeartbeats 4000000 in
set_option maxRecDepth 100000 in
theorem w_X4_takeIn_L7 {p : Program} {l : Launch} {e : Env} {s : State} {m : MethodId} {args : Array Value} {below : List Frame} {meth : Method} {c : Code} {D : va_G} {cA : Nat → ClassId} {h0 : fSt} {r : (Unit × fSt)} (M : fM p s m args meth c D cA h0 { frames := 0, cells := fCB h0 - fZ h0, slots := fLB h0 - fL h0, locals := 0 } cX4_takeIn 4 none RX4) (hfl : l.stackTraces = false) : ∀ (n : Nat) (a0 : Option Nat) (a1 : Option Nat) (a2 : Option Nat) (a3 : Option Nat) (h : fSt), f_X4_takeIn_L7 n a0 a1 a2 a3 h = some r → ∀ (H : Heap) (locs : List Loc) (cells slots : Nat) (ls : Array Slot), fCur D cA s h0 h H locs → lv_has ls 4 [(0, va_rf a0), (1, va_rf a1), (2, va_rf a2), (3, va_rf a3)] → W p l e { frames := 0, cells := fCB h0 - fZ h0, slots := fLB h0 - fL h0, locals := 0 } s m args below meth c H locs cells slots (MQ below (fQ D cA h0 r.2 none) args s (fCB h0 - fZ h0) (fLB h0 - fL h0) (fA h0)) (F0 m 7 ls []) := by
  obtain ⟨hx, hb, hml, hr, hlocks, hts, hown, K, hR⟩ := id M
  intro n
  induction n with
  | zero =>
    intro a0 a1 a2 a3 h hf
    exact nomatch (show (none : Option (Unit × fSt)) = some r from hf)
  | succ n hk7 =>
    intro a0 a1 a2 a3 h hf H locs cells slots ls hC hl
    refine fr_aload_n hx hb dX4_takeIn_7 rfl (lv_at hl 3 rfl) ?_
    refine fr_ifnull (tgt := 21) hx hb dX4_takeIn_8 (by decide) (fun c5 => ?_) (fun c5 => ?_)
    · replace hf := opos c5 hf
      refine fr_aload_n hx hb dX4_takeIn_21 rfl (lv_at hl 2 rfl) ?_
      refine fr_ifnonnull (tgt := 33) hx hb dX4_takeIn_22 (by decide) (fun c6 => ?_) (fun c6 => ?_)
      · replace hf := oneg c6 hf
        refine fr_aload_n hx hb dX4_takeIn_33 rfl (lv_at hl 2 rfl) ?_
        refine fr_aload_n hx hb dX4_takeIn_34 rfl (lv_at hl 1 rfl) ?_
        obtain ⟨h7, g8, hf⟩ := obind hf
        refine fr_put hx hb hts hown K hC ct_4 g8 (by decide) kw515 rfl rfl (nR _ _) (fR _ _) dX4_takeIn_35 (fun H locs hC => ?_)
        exact w_X4_takeIn_L38 M hfl _ _ _ hf _ _ _ _ _ hC (lv_sub hl [0, 1] rfl)
      · replace hf := opos c6 hf
        refine fr_aload_n hx hb dX4_takeIn_25 rfl (lv_at hl 0 rfl) ?_
        refine fr_aload_n hx hb dX4_takeIn_26 rfl (lv_at hl 1 rfl) ?_
        obtain ⟨h9, g10, hf⟩ := obind hf
        refine fr_put hx hb hts hown K hC ct_4 g10 (by decide) kw513 rfl rfl (nR _ _) (fR _ _) dX4_takeIn_27 (fun H locs hC => ?_)
        refine lv_goto (tgt := 38) hx hb dX4_takeIn_30 (by decide) ?_
        exact w_X4_takeIn_L38 M hfl _ _ _ hf _ _ _ _ _ hC (lv_sub hl [0, 1] rfl)
    · replace hf := oneg c5 hf
      refine fr_aload_n hx hb dX4_takeIn_11 rfl (lv_at hl 3 rfl) ?_
      refine fr_astore_n (lv' := [(2, va_rf a3), (0, va_rf a0), (1, va_rf a1), (3, va_rf a3)]) hx hb dX4_takeIn_12 rfl hl (by decide) (congrArg (List.cons _) (flk rfl (flk (adj1 _ _) (fld rfl (flk rfl fln))))) (fun ls hl => ?_)
      refine fr_aload_n hx hb dX4_takeIn_13 rfl (lv_at hl 3 rfl) ?_
      obtain ⟨x11, g12, hf⟩ := obind hf
      refine fr_get hx hb hts hown K hC ct_4 (fgR_get g12) (by decide) kw515 rfl dX4_takeIn_14 ?_
      refine fr_astore_n (lv' := [(3, va_rf x11), (2, va_rf a3), (0, va_rf a0), (1, va_rf a1)]) hx hb dX4_takeIn_17 rfl hl (by decide) (congrArg (List.cons _) (flk (adj1 _ _) (flk rfl (flk rfl (fld rfl fln))))) (fun ls hl => ?_)
      refine lv_goto (tgt := 7) hx hb dX4_takeIn_18 (by decide) ?_
      exact hk7 _ _ _ _ _ hf _ _ _ _ _ hC (lv_sub hl [2, 3, 1, 0] rfl)
set_option maxHeartbeats 4000000 in
set_option maxRecDepth 100000 in
theorem w_X4_takeIn_L0 {p : Program} {l : Launch} {e : Env} {s : State} {m : MethodId} {args : Array Value} {below : List Frame} {meth : Method} {c : Code} {D : va_G} {cA : Nat → ClassId} {h0 : fSt} {r : (Unit × fSt)} (M : fM p s m args meth c D cA h0 { frames := 0, cells := fCB h0 - fZ h0, slots := fLB h0 - fL h0, locals := 0 } cX4_takeIn 4 none RX4) (hfl : l.stackTraces = false) (a0 : Option Nat) (a1 : Option Nat) (h : fSt) (hf : f_X4_takeIn_L0 a0 a1 h = some r) : ∀ (H : Heap) (locs : List Loc) (cells slots : Nat) (ls : Array Slot), fCur D cA s h0 h H locs → lv_has ls 4 [(0, va_rf a0), (1, va_rf a1)] → W p l e { frames := 0, cells := fCB h0 - fZ h0, slots := fLB h0 - fL h0, locals := 0 } s m args below meth c H locs cells slots (MQ below (fQ D cA h0 r.2 none) args s (fCB h0 - fZ h0) (fLB h0 - fL h0) (fA h0)) (F0 m 0 ls []) := by
  obtain ⟨hx, hb, hml, hr, hlocks, hts, hown, K, hR⟩ := id M
  intro H locs cells slots ls hC hl
  refine fr_null hx hb dX4_takeIn_0 ?_
  refine fr_astore_n (lv' := [(2, va_rf none), (0, va_rf a0), (1, va_rf a1)]) hx hb dX4_takeIn_1 rfl hl (by decide) (congrArg (List.cons _) (flk rfl (flk (adj1 _ _) fln))) (fun ls hl => ?_)
  refine fr_aload_n hx hb dX4_takeIn_2 rfl (lv_at hl 1 rfl) ?_
  obtain ⟨x13, g14, hf⟩ := obind hf
  refine fr_get hx hb hts hown K hC ct_4 (fgR_get g14) (by decide) kw513 rfl dX4_takeIn_3 ?_
  refine fr_astore_n (lv' := [(3, va_rf x13), (2, va_rf none), (0, va_rf a0), (1, va_rf a1)]) hx hb dX4_takeIn_6 rfl hl (by decide) (congrArg (List.cons _) (flk (adj1 _ _) (flk rfl (flk rfl fln)))) (fun ls hl => ?_)
  exact w_X4_takeIn_L7 M hfl 4096 _ _ _ _ _ hf _ _ _ _ _ hC (lv_sub hl [2, 3, 1, 0] rfl)
set_option maxRecDepth 100000 in
theorem c_X4_takeIn {l : Launch} (hfl : l.stackTraces = false) (D : va_G) (cA : Nat → ClassId) {o : Nat} {p0 : Option Nat} {h : fSt} {r : (Unit × fSt)} (hf : f_X4_takeIn o p0 h = some r) : fMet l yX4_takeIn (wsC yX4_takeIn cX4_takeIn 4 none) (0) (0) D cA [.ref o, va_rf p0] h r.2 none := by
  exact fMet.of (own := RX4) (by decide +kernel) rfl (lva1 rfl (lva1 (va_rf_cat _) lva0)) (lgl1 rfl (lgl1 (va_rf_cat _) lgl0)) (Nat.le_of_ble_eq_true rfl) (fun p e s m args below meth c ls hnm _ M hC hl => by
    have hl : lv_has ls 4 [(0, va_rf (some o)), (1, va_rf p0)] := hl
    exact w_X4_takeIn_L0 M hfl _ _ _ hf _ _ _ _ _ hC (lv_sub hl [0, 1] rfl))
set_option maxHeartbeats 4000000 in
set_option maxRecDepth 100000 in
theorem w_X7_layHanging_L38 {p : Program} {l : Launch} {e : Env} {s : State} {m : MethodId} {args : Array Value} {below : List Frame} {meth : Method} {c : Code} {D : va_G} {cA : Nat → ClassId} {h0 : fSt} {self : Nat → Option Nat → Int32 → fSt → Option (Unit × fSt)} {fd ld : Nat} {r : (Unit × fSt)} (hself : ∀ {o : Nat} {p0 : Option Nat} {p1 : Int32} {h : fSt} {r : (Unit × fSt)}, self o p0 p1 h = some r → fMet l yX7_lay (wsC yX7_lay cX7_lay 3 none) fd ld D cA [.ref o, va_rf p0, .int p1] h r.2 none) (M : fM p s m args meth c D cA h0 { frames := fd + 1, cells := fCB h0 - fZ h0, slots := fLB h0 - fL h0, locals := ld + 22 } cX7_layHanging 7 none RX7) (hfl : l.stackTraces = false) {k3 : Option Nat → Option Nat → Int32 → Int32 → Int32 → fSt → Option (Unit × fSt)} (hk3 : ∀ (a0 : Option Nat) (a1 : Option Nat) (a3 : Int32) (a4 : Int32) (a5 : Int32) (h : fSt), k3 a0 a1 a3 a4 a5 h = some r → ∀ (H : Heap) (locs : List Loc) (cells slots : Nat) (ls : Array Slot), fCur D cA s h0 h H locs → lv_has ls 7 [(0, va_rf a0), (1, va_rf a1), (3, .int a3), (4, .int a4), (5, .int a5)] → W p l e { frames := fd + 1, cells := fCB h0 - fZ h0, slots := fLB h0 - fL h0, locals := ld + 22 } s m args below meth c H locs cells slots (MQ below (fQ D cA h0 r.2 none) args s (fCB h0 - fZ h0) (fLB h0 - fL h0) (fA h0)) (F0 m 3 ls [])) {k15 : Option Nat → Option Nat → Int32 → Int32 → Int32 → Option Nat → fSt → Option (Unit × fSt)} (hk15 : ∀ (a0 : Option Nat) (a1 : Option Nat) (a3 : Int32) (a4 : Int32) (a5 : Int32) (a6 : Option Nat) (h : fSt), k15 a0 a1 a3 a4 a5 a6 h = some r → ∀ (H : Heap) (locs : List Loc) (cells slots : Nat) (ls : Array Slot), fCur D cA s h0 h H locs → lv_has ls 7 [(0, va_rf a0), (1, va_rf a1), (3, .int a3), (4, .int a4), (5, .int a5), (6, va_rf a6)] → W p l e { frames := fd + 1, cells := fCB h0 - fZ h0, slots := fLB h0 - fL h0, locals := ld + 22 } s m args below meth c H locs cells slots (MQ below (fQ D cA h0 r.2 none) args s (fCB h0 - fZ h0) (fLB h0 - fL h0) (fA h0)) (F0 m 15 ls [])) (a0 : Option Nat) (a1 : Option Nat) (a3 : Int32) (a4 : Int32) (a5 : Int32) (a6 : Option Nat) (h : fSt) (hf : f_X7_layHanging_L38 self k3 k15 a0 a1 a3 a4 a5 a6 h = some r) : ∀ (H : Heap) (locs : List Loc) (cells slots : Nat) (ls : Array Slot), fCur D cA s h0 h H locs → lv_has ls 7 [(0, va_rf a0), (1, va_rf a1), (3, .int a3), (4, .int a4), (5, .int a5), (6, va_rf a6)] → W p l e { frames := fd + 1, cells := fCB h0 - fZ h0, slots := fLB h0 - fL h0, locals := ld + 22 } s m args below meth c H locs cells slots (MQ below (fQ D cA h0 r.2 none) args s (fCB h0 - fZ h0) (fLB h0 - fL h0) (fA h0)) (F0 m 38 ls []) := by
  obtain ⟨hx, hb, hml, hr, hlocks, hts, hown, K, hR⟩ := id M
  intro H locs cells slots ls hC hl
  refine fr_aload hx hb dX7_layHanging_38 (lv_at hl 5 rfl) ?_
  obtain ⟨x1, g2, hf⟩ := obind hf
  refine fr_get hx hb hts hown K hC ct_4 (fgR_get g2) (by decide) kw516 rfl dX7_layHanging_40 ?_
  refine fr_astore (lv' := [(6, va_rf x1), (0, va_rf a0), (1, va_rf a1), (3, .int a3), (4, .int a4), (5, .int a5)]) hx hb dX7_layHanging_43 hl (by decide) (congrArg (List.cons _) (flk rfl (flk rfl (flk rfl (flk rfl (flk rfl (fld rfl fln))))))) (fun ls hl => ?_)
  refine lv_goto (tgt := 15) hx hb dX7_layHanging_45 (by decide) ?_
  exact hk15 _ _ _ _ _ _ _ hf _ _ _ _ _ hC (lv_sub hl [1, 2, 3, 4, 5, 0] rfl)
set_option maxHeartbeats 4000000 in
set_option maxRecDepth 100000 in
theorem w_X7_layHanging_L15 {p : Program} {l : Launch} {e : Env} {s : State} {m : MethodId} {args : Array Value} {below : List Frame} {meth : Method} {c : Code} {D : va_G} {cA : Nat → ClassId} {h0 : fSt} {self : Nat → Option Nat → Int32 → fSt → Option (Unit × fSt)} {fd ld : Nat} {r : (Unit × fSt)} (hself : ∀ {o : Nat} {p0 : Option Nat} {p1 : Int32} {h : fSt} {r : (Unit × fSt)}, self o p0 p1 h = some r → fMet l yX7_lay (wsC yX7_lay cX7_lay 3 none) fd ld D cA [.ref o, va_rf p0, .int p1] h r.2 none) (M : fM p s m args meth c D cA h0 { frames := fd + 1, cells := fCB h0 - fZ h0, slots := fLB h0 - fL h0, locals := ld + 22 } cX7_layHanging 7 none RX7) (hfl : l.stackTraces = false) {k3 : Option Nat → Option Nat → Int32 → Int32 → Int32 → fSt → Option (Unit × fSt)} (hk3 : ∀ (a0 : Option Nat) (a1 : Option Nat) (a3 : Int32) (a4 : Int32) (a5 : Int32) (h : fSt), k3 a0 a1 a3 a4 a5 h = some r → ∀ (H : Heap) (locs : List Loc) (cells slots : Nat) (ls : Array Slot), fCur D cA s h0 h H locs → lv_has ls 7 [(0, va_rf a0), (1, va_rf a1), (3, .int a3), (4, .int a4), (5, .int a5)] → W p l e { frames := fd + 1, cells := fCB h0 - fZ h0, slots := fLB h0 - fL h0, locals := ld + 22 } s m args below meth c H locs cells slots (MQ below (fQ D cA h0 r.2 none) args s (fCB h0 - fZ h0) (fLB h0 - fL h0) (fA h0)) (F0 m 3 ls [])) : ∀ (n : Nat) (a0 : Option Nat) (a1 : Option Nat) (a3 : Int32) (a4 : Int32) (a5 : Int32) (a6 : Option Nat) (h : fSt), f_X7_layHanging_L15 self k3 n a0 a1 a3 a4 a5 a6 h = some r → ∀ (H : Heap) (locs : List Loc) (cells slots : Nat) (ls : Array Slot), fCur D cA s h0 h H locs → lv_has ls 7 [(0, va_rf a0), (1, va_rf a1), (3, .int a3), (4, .int a4), (5, .int a5), (6, va_rf a6)] → W p l e { frames := fd + 1, cells := fCB h0 - fZ h0, slots := fLB h0 - fL h0, locals := ld + 22 } s m args below meth c H locs cells slots (MQ below (fQ D cA h0 r.2 none) args s (fCB h0 - fZ h0) (fLB h0 - fL h0) (fA h0)) (F0 m 15 ls []) := by
  obtain ⟨hx, hb, hml, hr, hlocks, hts, hown, K, hR⟩ := id M
  intro n
  induction n with
  | zero =>
    intro a0 a1 a3 a4 a5 a6 h hf
    exact nomatch (show (none : Option (Unit × fSt)) = some r from hf)
  | succ n hk15 =>
    intro a0 a1 a3 a4 a5 a6 h hf H locs cells slots ls hC hl
    refine fr_aload hx hb dX7_layHanging_15 (lv_at hl 5 rfl) ?_
    refine fr_ifnull (tgt := 48) hx hb dX7_layHanging_17 (by decide) (fun c3 => ?_) (fun c3 => ?_)
    · replace hf := opos c3 hf
      refine lv_iinc (v := (a5 + (1 : Int32))) (lv' := [(5, .int (a5 + (1 : Int32))), (0, va_rf a0), (1, va_rf a1), (3, .int a3), (4, .int a4), (6, va_rf a6)]) hx hb dX7_layHanging_48 hl (k := 4) rfl rfl (by decide) (congrArg (List.cons _) (flk rfl (flk rfl (flk rfl (flk rfl (fld rfl (flk rfl fln))))))) (fun ls hl => ?_)
      refine lv_goto (tgt := 3) hx hb dX7_layHanging_51 (by decide) ?_
      exact hk3 _ _ _ _ _ _ hf _ _ _ _ _ hC (lv_sub hl [1, 2, 3, 4, 0] rfl)
    · replace hf := oneg c3 hf
      refine fr_aload hx hb dX7_layHanging_20 (lv_at hl 5 rfl) ?_
      obtain ⟨x4, g5, hf⟩ := obind hf
      refine fr_get hx hb hts hown K hC ct_4 (fgI_get g5) (by decide) kw504 rfl dX7_layHanging_22 ?_
      refine lv_iload hx hb dX7_layHanging_25 (lv_at hl 4 rfl) ?_
      refine lv_icmp_ne (tgt := 38) hx hb dX7_layHanging_27 (by decide) (fun c6 => ?_) (fun c6 => ?_)
      · replace hf := oneg c6 hf
        exact w_X7_layHanging_L38 @hself M hfl hk3 hk15 _ _ _ _ _ _ _ hf _ _ _ _ _ hC (lv_sub hl [0, 1, 2, 3, 4, 5] rfl)
      · replace hf := opos c6 hf
        refine fr_aload_n hx hb dX7_layHanging_30 rfl (lv_at hl 0 rfl) ?_
        refine fr_aload hx hb dX7_layHanging_31 (lv_at hl 5 rfl) ?_
        refine lv_iload hx hb dX7_layHanging_33 (lv_at hl 3 rfl) ?_
        obtain ⟨b9, q10, hf⟩ := obind hf
        obtain ⟨r7, g8, hf⟩ := obind hf
        refine fr_callV hx hb hml hts hown K hC hR ct_7 (hself g8) 2 q10 kw771 kw768 kw770 kw16 kw23 (by decide +kernel) ⟨by dsimp only; omega, by dsimp only; omega⟩ rfl hl.1 (cat8 _ (by exact Nat.le_of_ble_eq_true rfl)) dX7_layHanging_35 rfl (fun H locs _ _ hC => ?_)
        exact w_X7_layHanging_L38 @hself M hfl hk3 hk15 _ _ _ _ _ _ _ hf _ _ _ _ _ hC (lv_sub hl [0, 1, 2, 3, 4, 5] rfl)
set_option maxHeartbeats 4000000 in
set_option maxRecDepth 100000 in
theorem w_X7_layHanging_L3 {p : Program} {l : Launch} {e : Env} {s : State} {m : MethodId} {args : Array Value} {below : List Frame} {meth : Method} {c : Code} {D : va_G} {cA : Nat → ClassId} {h0 : fSt} {self : Nat → Option Nat → Int32 → fSt → Option (Unit × fSt)} {fd ld : Nat} {r : (Unit × fSt)} (hself : ∀ {o : Nat} {p0 : Option Nat} {p1 : Int32} {h : fSt} {r : (Unit × fSt)}, self o p0 p1 h = some r → fMet l yX7_lay (wsC yX7_lay cX7_lay 3 none) fd ld D cA [.ref o, va_rf p0, .int p1] h r.2 none) (M : fM p s m args meth c D cA h0 { frames := fd + 1, cells := fCB h0 - fZ h0, slots := fLB h0 - fL h0, locals := ld + 22 } cX7_layHanging 7 none RX7) (hfl : l.stackTraces = false) : ∀ (n : Nat) (a0 : Option Nat) (a1 : Option Nat) (a3 : Int32) (a4 : Int32) (a5 : Int32) (h : fSt), f_X7_layHanging_L3 self n a0 a1 a3 a4 a5 h = some r → ∀ (H : Heap) (locs : List Loc) (cells slots : Nat) (ls : Array Slot), fCur D cA s h0 h H locs → lv_has ls 7 [(0, va_rf a0), (1, va_rf a1), (3, .int a3), (4, .int a4), (5, .int a5)] → W p l e { frames := fd + 1, cells := fCB h0 - fZ h0, slots := fLB h0 - fL h0, locals := ld + 22 } s m args below meth c H locs cells slots (MQ below (fQ D cA h0 r.2 none) args s (fCB h0 - fZ h0) (fLB h0 - fL h0) (fA h0)) (F0 m 3 ls []) := by
  obtain ⟨hx, hb, hml, hr, hlocks, hts, hown, K, hR⟩ := id M
  intro n
  induction n with
  | zero =>
    intro a0 a1 a3 a4 a5 h hf
    exact nomatch (show (none : Option (Unit × fSt)) = some r from hf)
  | succ n hk3 =>
    intro a0 a1 a3 a4 a5 h hf H locs cells slots ls hC hl
    refine lv_iload hx hb dX7_layHanging_3 (lv_at hl 4 rfl) ?_
    refine lv_iload_n hx hb dX7_layHanging_5 rfl (lv_at hl 2 rfl) ?_
    refine lv_icmp_gt (tgt := 54) hx hb dX7_layHanging_6 (by decide) (fun c11 => ?_) (fun c11 => ?_)
    · replace hf := opos c11 hf
      obtain rfl := Option.some.inj hf
      exact fr_vret hx hb hr hlocks hC dX7_layHanging_54
    · replace hf := oneg c11 hf
      refine fr_aload_n hx hb dX7_layHanging_9 rfl (lv_at hl 1 rfl) ?_
      obtain ⟨x12, g13, hf⟩ := obind hf
      refine fr_get hx hb hts hown K hC ct_4 (fgR_get g13) (by decide) kw514 rfl dX7_layHanging_10 ?_
      refine fr_astore (lv' := [(6, va_rf x12), (0, va_rf a0), (1, va_rf a1), (3, .int a3), (4, .int a4), (5, .int a5)]) hx hb dX7_layHanging_13 hl (by decide) (congrArg (List.cons _) (flk rfl (flk rfl (flk rfl (flk rfl (flk rfl fln)))))) (fun ls hl => ?_)
      exact w_X7_layHanging_L15 @hself M hfl hk3 4096 _ _ _ _ _ _ _ hf _ _ _ _ _ hC (lv_sub hl [1, 2, 3, 4, 5, 0] rfl)
set_option maxHeartbeats 4000000 in
set_option maxRecDepth 100000 in
theorem w_X7_layHanging_L0 {p : Program} {l : Launch} {e : Env} {s : State} {m : MethodId} {args : Array Value} {below : List Frame} {meth : Method} {c : Code} {D : va_G} {cA : Nat → ClassId} {h0 : fSt} {self : Nat → Option Nat → Int32 → fSt → Option (Unit × fSt)} {fd ld : Nat} {r : (Unit × fSt)} (hself : ∀ {o : Nat} {p0 : Option Nat} {p1 : Int32} {h : fSt} {r : (Unit × fSt)}, self o p0 p1 h = some r → fMet l yX7_lay (wsC yX7_lay cX7_lay 3 none) fd ld D cA [.ref o, va_rf p0, .int p1] h r.2 none) (M : fM p s m args meth c D cA h0 { frames := fd + 1, cells := fCB h0 - fZ h0, slots := fLB h0 - fL h0, locals := ld + 22 } cX7_layHanging 7 none RX7) (hfl : l.stackTraces = false) (a0 : Option Nat) (a1 : Option Nat) (a2 : Int32) (a3 : Int32) (a4 : Int32) (h : fSt) (hf : f_X7_layHanging_L0 self a0 a1 a2 a3 a4 h = some r) : ∀ (H : Heap) (locs : List Loc) (cells slots : Nat) (ls : Array Slot), fCur D cA s h0 h H locs → lv_has ls 7 [(0, va_rf a0), (1, va_rf a1), (2, .int a2), (3, .int a3), (4, .int a4)] → W p l e { frames := fd + 1, cells := fCB h0 - fZ h0, slots := fLB h0 - fL h0, locals := ld + 22 } s m args below meth c H locs cells slots (MQ below (fQ D cA h0 r.2 none) args s (fCB h0 - fZ h0) (fLB h0 - fL h0) (fA h0)) (F0 m 0 ls []) := by
  obtain ⟨hx, hb, hml, hr, hlocks, hts, hown, K, hR⟩ := id M
  intro H locs cells slots ls hC hl
  refine lv_iload_n hx hb dX7_layHanging_0 rfl (lv_at hl 2 rfl) ?_
  refine lv_istore (lv' := [(5, .int a2), (0, va_rf a0), (1, va_rf a1), (2, .int a2), (3, .int a3), (4, .int a4)]) hx hb dX7_layHanging_1 hl (by decide) (congrArg (List.cons _) (flk rfl (flk rfl (flk rfl (flk rfl (flk rfl fln)))))) (fun ls hl => ?_)
  exact w_X7_layHanging_L3 @hself M hfl 4096 _ _ _ _ _ _ hf _ _ _ _ _ hC (lv_sub hl [1, 2, 4, 5, 0] rfl)
set_option maxRecDepth 100000 in
theorem c_X7_layHanging {l : Launch} (hfl : l.stackTraces = false) (D : va_G) (cA : Nat → ClassId) {self : Nat → Option Nat → Int32 → fSt → Option (Unit × fSt)} {fd ld : Nat} (hself : ∀ {o : Nat} {p0 : Option Nat} {p1 : Int32} {h : fSt} {r : (Unit × fSt)}, self o p0 p1 h = some r → fMet l yX7_lay (wsC yX7_lay cX7_lay 3 none) fd ld D cA [.ref o, va_rf p0, .int p1] h r.2 none) {o : Nat} {p0 : Option Nat} {p1 : Int32} {p2 : Int32} {p3 : Int32} {h : fSt} {r : (Unit × fSt)} (hf : f_X7_layHanging self o p0 p1 p2 p3 h = some r) : fMet l yX7_layHanging (wsC yX7_layHanging cX7_layHanging 7 none) (fd + 1) (ld + 22) D cA [.ref o, va_rf p0, .int p1, .int p2, .int p3] h r.2 none := by
  exact fMet.of (own := RX7) (by decide +kernel) rfl (lva1 rfl (lva1 (va_rf_cat _) (lva1 rfl (lva1 rfl (lva1 rfl lva0))))) (lgl1 rfl (lgl1 (va_rf_cat _) (lgl1 rfl (lgl1 rfl (lgl1 rfl lgl0))))) (Nat.le_of_ble_eq_true rfl) (fun p e s m args below meth c ls hnm _ M hC hl => by
    have hl : lv_has ls 7 [(0, va_rf (some o)), (1, va_rf p0), (2, .int p1), (3, .int p2), (4, .int p3)] := hl
    exact w_X7_layHanging_L0 @hself M hfl _ _ _ _ _ _ hf _ _ _ _ _ hC (lv_sub hl [0, 1, 2, 3, 4] rfl))
set_option maxHeartbeats 4000000 in
set_option maxRecDepth 100000 in
theorem w_X7_lay_L0 {p : Program} {l : Launch} {e : Env} {s : State} {m : MethodId} {args : Array Value} {below : List Frame} {meth : Method} {c : Code} {D : va_G} {cA : Nat → ClassId} {h0 : fSt} {self : Nat → Option Nat → Int32 → fSt → Option (Unit × fSt)} {fd ld : Nat} {r : (Unit × fSt)} (hself : ∀ {o : Nat} {p0 : Option Nat} {p1 : Int32} {h : fSt} {r : (Unit × fSt)}, self o p0 p1 h = some r → fMet l yX7_lay (wsC yX7_lay cX7_lay 3 none) fd ld D cA [.ref o, va_rf p0, .int p1] h r.2 none) (M : fM p s m args meth c D cA h0 { frames := fd + 2, cells := fCB h0 - fZ h0, slots := fLB h0 - fL h0, locals := ld + 48 } cX7_lay 3 none RX7) (hfl : l.stackTraces = false) (a0 : Option Nat) (a1 : Option Nat) (a2 : Int32) (h : fSt) (hf : f_X7_lay_L0 self a0 a1 a2 h = some r) : ∀ (H : Heap) (locs : List Loc) (cells slots : Nat) (ls : Array Slot), fCur D cA s h0 h H locs → lv_has ls 3 [(0, va_rf a0), (1, va_rf a1), (2, .int a2)] → W p l e { frames := fd + 2, cells := fCB h0 - fZ h0, slots := fLB h0 - fL h0, locals := ld + 48 } s m args below meth c H locs cells slots (MQ below (fQ D cA h0 r.2 none) args s (fCB h0 - fZ h0) (fLB h0 - fL h0) (fA h0)) (F0 m 0 ls []) := by
  obtain ⟨hx, hb, hml, hr, hlocks, hts, hown, K, hR⟩ := id M
  intro H locs cells slots ls hC hl
  refine lv_iload_n hx hb dX7_lay_0 rfl (lv_at hl 2 rfl) ?_
  refine lv_iconst (v := (4 : Int32)) hx hb dX7_lay_1 (by decide) ?_
  refine lv_icmp_le (tgt := 6) hx hb dX7_lay_2 (by decide) (fun c1 => ?_) (fun c1 => ?_)
  · replace hf := opos c1 hf
    refine fr_aload_n hx hb dX7_lay_6 rfl (lv_at hl 0 rfl) ?_
    refine fr_aload_n hx hb dX7_lay_7 rfl (lv_at hl 1 rfl) ?_
    refine lv_bipush (v := (-9 : Int32)) hx hb dX7_lay_8 (by decide) ?_
    refine lv_iconst (v := (-1 : Int32)) hx hb dX7_lay_10 (by decide) ?_
    refine lv_iload_n hx hb dX7_lay_11 rfl (lv_at hl 2 rfl) ?_
    refine lv_iconst (v := (1 : Int32)) hx hb dX7_lay_12 (by decide) ?_
    refine lv_iadd hx hb dX7_lay_13 ?_
    obtain ⟨b4, q5, hf⟩ := obind hf
    obtain ⟨r2, g3, hf⟩ := obind hf
    refine fr_callV hx hb hml hts hown K hC hR ct_7 (c_X7_layHanging hfl D cA @hself g3) 4 q5 kw775 kw772 kw774 kw17 kw23 (by decide +kernel) ⟨by dsimp only; omega, by dsimp only; omega⟩ rfl hl.1 (cat8 _ (by exact Nat.le_of_ble_eq_true rfl)) dX7_lay_14 rfl (fun H locs _ _ hC => ?_)
    refine fr_aload_n hx hb dX7_lay_17 rfl (lv_at hl 1 rfl) ?_
    refine fr_aload_n hx hb dX7_lay_18 rfl (lv_at hl 0 rfl) ?_
    obtain ⟨x6, g7, hf⟩ := obind hf
    refine fr_get hx hb hts hown K hC ct_7 (fgR_get g7) (by decide) kw625 rfl dX7_lay_19 ?_
    obtain ⟨h8, g9, hf⟩ := obind hf
    refine fr_put hx hb hts hown K hC ct_4 g9 (by decide) kw517 rfl rfl (nR _ _) (fR _ _) dX7_lay_22 (fun H locs hC => ?_)
    refine fr_aload_n hx hb dX7_lay_25 rfl (lv_at hl 1 rfl) ?_
    refine fr_aload_n hx hb dX7_lay_26 rfl (lv_at hl 0 rfl) ?_
    obtain ⟨x10, g11, hf⟩ := obind hf
    refine fr_get hx hb hts hown K hC ct_7 (fgI_get g11) (by decide) kw626 rfl dX7_lay_27 ?_
    obtain ⟨h12, g13, hf⟩ := obind hf
    refine fr_put hx hb hts hown K hC ct_4 g13 (by decide) kw518 rfl rfl rfl rfl dX7_lay_30 (fun H locs hC => ?_)
    refine fr_aload_n hx hb dX7_lay_33 rfl (lv_at hl 0 rfl) ?_
    refine fr_aload_n hx hb dX7_lay_34 rfl (lv_at hl 1 rfl) ?_
    obtain ⟨h14, g15, hf⟩ := obind hf
    refine fr_put hx hb hts hown K hC ct_7 g15 (by decide) kw625 rfl rfl (nR _ _) (fR _ _) dX7_lay_35 (fun H locs hC => ?_)
    refine fr_aload_n hx hb dX7_lay_38 rfl (lv_at hl 0 rfl) ?_
    refine lv_dup hx hb dX7_lay_39 (va_rf_cat _) ?_
    obtain ⟨x16, g17, hf⟩ := obind hf
    refine fr_get hx hb hts hown K hC ct_7 (fgI_get g17) (by decide) kw626 rfl dX7_lay_40 ?_
    refine lv_iconst (v := (1 : Int32)) hx hb dX7_lay_43 (by decide) ?_
    refine lv_iadd hx hb dX7_lay_44 ?_
    obtain ⟨h18, g19, hf⟩ := obind hf
    refine fr_put hx hb hts hown K hC ct_7 g19 (by decide) kw626 rfl rfl rfl rfl dX7_lay_45 (fun H locs hC => ?_)
    refine fr_aload_n hx hb dX7_lay_48 rfl (lv_at hl 0 rfl) ?_
    refine fr_aload_n hx hb dX7_lay_49 rfl (lv_at hl 1 rfl) ?_
    refine lv_iconst (v := (0 : Int32)) hx hb dX7_lay_50 (by decide) ?_
    refine lv_bipush (v := (9 : Int32)) hx hb dX7_lay_51 (by decide) ?_
    refine lv_iload_n hx hb dX7_lay_53 rfl (lv_at hl 2 rfl) ?_
    refine lv_iconst (v := (1 : Int32)) hx hb dX7_lay_54 (by decide) ?_
    refine lv_iadd hx hb dX7_lay_55 ?_
    obtain ⟨b22, q23, hf⟩ := obind hf
    obtain ⟨r20, g21, hf⟩ := obind hf
    refine fr_callV hx hb hml hts hown K hC hR ct_7 (c_X7_layHanging hfl D cA @hself g21) 4 q23 kw775 kw772 kw774 kw17 kw23 (by decide +kernel) ⟨by dsimp only; omega, by dsimp only; omega⟩ rfl hl.1 (cat8 _ (by exact Nat.le_of_ble_eq_true rfl)) dX7_lay_56 rfl (fun H locs _ _ hC => ?_)
    obtain rfl := Option.some.inj hf
    exact fr_vret hx hb hr hlocks hC dX7_lay_59
  · replace hf := oneg c1 hf
    obtain rfl := Option.some.inj hf
    exact fr_vret hx hb hr hlocks hC dX7_lay_5
set_option maxRecDepth 100000 in
theorem c_X7_lay {l : Launch} (hfl : l.stackTraces = false) (D : va_G) (cA : Nat → ClassId) (d : Nat) : ∀ {o : Nat} {p0 : Option Nat} {p1 : Int32} {h : fSt} {r : (Unit × fSt)}, f_X7_lay d o p0 p1 h = some r → fMet l yX7_lay (wsC yX7_lay cX7_lay 3 none) (2 * d) (48 * d) D cA [.ref o, va_rf p0, .int p1] h r.2 none := by
  induction d with
  | zero =>
    intro o p0 p1 h r hf
    exact nomatch (show (none : Option (Unit × fSt)) = some r from hf)
  | succ d hself =>
    intro o p0 p1 h r hf
    have hf : f_X7_lay_L0 (f_X7_lay d) (some o) p0 p1 h = some r := hf
    exact fMet.of (own := RX7) (by decide +kernel) rfl (lva1 rfl (lva1 (va_rf_cat _) (lva1 rfl lva0))) (lgl1 rfl (lgl1 (va_rf_cat _) (lgl1 rfl lgl0))) (Nat.le_of_ble_eq_true rfl) (fun p e s m args below meth c ls hnm _ M hC hl => by
    have hl : lv_has ls 3 [(0, va_rf (some o)), (1, va_rf p0), (2, .int p1)] := hl
    exact w_X7_lay_L0 @hself M hfl _ _ _ _ hf _ _ _ _ _ hC (lv_sub hl [0, 1, 2] rfl))
set_option maxHeartbeats 4000000 in
set_option maxRecDepth 100000 in
theorem w_X7_layOrder_L0 {p : Program} {l : Launch} {e : Env} {s : State} {m : MethodId} {args : Array Value} {below : List Frame} {meth : Method} {c : Code} {D : va_G} {cA : Nat → ClassId} {h0 : fSt} {r : (Unit × fSt)} (M : fM p s m args meth c D cA h0 { frames := 17, cells := fCB h0 - fZ h0, slots := fLB h0 - fL h0, locals := 406 } cX7_layOrder 1 none RX7) (hfl : l.stackTraces = false) (a0 : Option Nat) (h : fSt) (hf : f_X7_layOrder_L0 a0 h = some r) : ∀ (H : Heap) (locs : List Loc) (cells slots : Nat) (ls : Array Slot), fCur D cA s h0 h H locs → lv_has ls 1 [(0, va_rf a0)] → W p l e { frames := 17, cells := fCB h0 - fZ h0, slots := fLB h0 - fL h0, locals := 406 } s m args below meth c H locs cells slots (MQ below (fQ D cA h0 r.2 none) args s (fCB h0 - fZ h0) (fLB h0 - fL h0) (fA h0)) (F0 m 0 ls []) := by
  obtain ⟨hx, hb, hml, hr, hlocks, hts, hown, K, hR⟩ := id M
  intro H locs cells slots ls hC hl
  refine fr_aload_n hx hb dX7_layOrder_0 rfl (lv_at hl 0 rfl) ?_
  refine fr_null hx hb dX7_layOrder_1 ?_
  obtain ⟨h1, g2, hf⟩ := obind hf
  refine fr_put hx hb hts hown K hC ct_7 g2 (by decide) kw625 rfl rfl (nR _ _) (fR _ _) dX7_layOrder_2 (fun H locs hC => ?_)
  refine fr_aload_n hx hb dX7_layOrder_5 rfl (lv_at hl 0 rfl) ?_
  refine lv_iconst (v := (0 : Int32)) hx hb dX7_layOrder_6 (by decide) ?_
  obtain ⟨h3, g4, hf⟩ := obind hf
  refine fr_put hx hb hts hown K hC ct_7 g4 (by decide) kw626 rfl rfl rfl rfl dX7_layOrder_7 (fun H locs hC => ?_)
  refine fr_aload_n hx hb dX7_layOrder_10 rfl (lv_at hl 0 rfl) ?_
  refine fr_aload_n hx hb dX7_layOrder_11 rfl (lv_at hl 0 rfl) ?_
  obtain ⟨x5, g6, hf⟩ := obind hf
  refine fr_get hx hb hts hown K hC ct_7 (fgR_get g6) (by decide) kw619 rfl dX7_layOrder_12 ?_
  refine lv_iconst (v := (0 : Int32)) hx hb dX7_layOrder_15 (by decide) ?_
  obtain ⟨b9, q10, hf⟩ := obind hf
  obtain ⟨r7, g8, hf⟩ := obind hf
  refine fr_callV hx hb hml hts hown K hC hR ct_7 (c_X7_lay hfl D cA 8 g8) 2 q10 kw771 kw768 kw770 kw16 kw23 (by decide +kernel) ⟨by exact Nat.le_of_ble_eq_true rfl, by exact Nat.le_of_ble_eq_true rfl⟩ rfl hl.1 (cat8 _ (by exact Nat.le_of_ble_eq_true rfl)) dX7_layOrder_16 rfl (fun H locs _ _ hC => ?_)
  obtain rfl := Option.some.inj hf
  exact fr_vret hx hb hr hlocks hC dX7_layOrder_19
set_option maxRecDepth 100000 in
theorem c_X7_layOrder {l : Launch} (hfl : l.stackTraces = false) (D : va_G) (cA : Nat → ClassId) {o : Nat} {h : fSt} {r : (Unit × fSt)} (hf : f_X7_layOrder o h = some r) : fMet l yX7_layOrder (wsC yX7_layOrder cX7_layOrder 1 none) (17) (406) D cA [.ref o] h r.2 none := by
  exact fMet.of (own := RX7) (by decide +kernel) rfl (lva1 rfl lva0) (lgl1 rfl lgl0) (Nat.le_of_ble_eq_true rfl) (fun p e s m args below meth c ls hnm _ M hC hl => by
    have hl : lv_has ls 1 [(0, va_rf (some o))] := hl
    exact w_X7_layOrder_L0 M hfl _ _ hf _ _ _ _ _ hC (lv_sub hl [0] rfl))
set_option maxHeartbeats 4000000 in
set_option maxRecDepth 100000 in
theorem w_X7_add_L53 {p : Program} {l : Launch} {e : Env} {s : State} {m : MethodId} {args : Array Value} {below : List Frame} {meth : Method} {c : Code} {D : va_G} {cA : Nat → ClassId} {h0 : fSt} {r : ((Int32 ⊕ Nat) × fSt)} (M : fM p s m args meth c D cA h0 { frames := 18, cells := fCB h0 - fZ h0, slots := fLB h0 - fL h0, locals := 426 } cX7_add 7 (some (.int)) RX7) (hfl : l.stackTraces = false) (hno : ∀ x ∈ c.exceptionTable.toList, False)  (h : fSt) (hf : f_X7_add_L53  h = some r) : ∀ (H : Heap) (locs : List Loc) (cells slots : Nat) (ls : Array Slot), fCur D cA s h0 h H locs → lv_has ls 7 [] → W p l e { frames := 18, cells := fCB h0 - fZ h0, slots := fLB h0 - fL h0, locals := 426 } s m args below meth c H locs cells slots (vx_MQ below (fQX D cA h0 r.2 (rI r.1)) (fXC D cA h0 r.2 (rI r.1)) args s (fCB h0 - fZ h0) (fLB h0 - fL h0) (fA h0)) (F0 m 53 ls []) := by
  obtain ⟨hx, hb, hml, hr, hlocks, hts, hown, K, hR⟩ := id M
  intro H locs cells slots ls hC hl
  obtain ⟨h1, g2, hf⟩ := obind hf
  obtain rfl := Option.some.inj hf
  exact fr_throwS hx hb hml hts hfl hown K hC hR th_RX7_60_64_1 st_RX7_67 hl.1 dX7_add_53 dX7_add_56 dX7_add_57 dX7_add_59 dX7_add_62 hno (by exact Nat.le_of_ble_eq_true rfl) (catL _ _ (by exact Nat.le_of_ble_eq_true rfl) (by exact Nat.le_of_ble_eq_true rfl)) hlocks g2
set_option maxHeartbeats 4000000 in
set_option maxRecDepth 100000 in
theorem w_X7_add_L91 {p : Program} {l : Launch} {e : Env} {s : State} {m : MethodId} {args : Array Value} {below : List Frame} {meth : Method} {c : Code} {D : va_G} {cA : Nat → ClassId} {h0 : fSt} {r : ((Int32 ⊕ Nat) × fSt)} (M : fM p s m args meth c D cA h0 { frames := 18, cells := fCB h0 - fZ h0, slots := fLB h0 - fL h0, locals := 426 } cX7_add 7 (some (.int)) RX7) (hfl : l.stackTraces = false) (hno : ∀ x ∈ c.exceptionTable.toList, False)  (h : fSt) (hf : f_X7_add_L91  h = some r) : ∀ (H : Heap) (locs : List Loc) (cells slots : Nat) (ls : Array Slot), fCur D cA s h0 h H locs → lv_has ls 7 [] → W p l e { frames := 18, cells := fCB h0 - fZ h0, slots := fLB h0 - fL h0, locals := 426 } s m args below meth c H locs cells slots (vx_MQ below (fQX D cA h0 r.2 (rI r.1)) (fXC D cA h0 r.2 (rI r.1)) args s (fCB h0 - fZ h0) (fLB h0 - fL h0) (fA h0)) (F0 m 91 ls []) := by
  obtain ⟨hx, hb, hml, hr, hlocks, hts, hown, K, hR⟩ := id M
  intro H locs cells slots ls hC hl
  obtain ⟨h3, g4, hf⟩ := obind hf
  obtain rfl := Option.some.inj hf
  exact fr_throwS hx hb hml hts hfl hown K hC hR th_RX7_73_77_2 st_RX7_75 hl.1 dX7_add_91 dX7_add_94 dX7_add_95 dX7_add_97 dX7_add_100 hno (by exact Nat.le_of_ble_eq_true rfl) (catL _ _ (by exact Nat.le_of_ble_eq_true rfl) (by exact Nat.le_of_ble_eq_true rfl)) hlocks g4
set_option maxHeartbeats 4000000 in
set_option maxRecDepth 100000 in
theorem w_X7_add_L63 {p : Program} {l : Launch} {e : Env} {s : State} {m : MethodId} {args : Array Value} {below : List Frame} {meth : Method} {c : Code} {D : va_G} {cA : Nat → ClassId} {h0 : fSt} {r : ((Int32 ⊕ Nat) × fSt)} (M : fM p s m args meth c D cA h0 { frames := 18, cells := fCB h0 - fZ h0, slots := fLB h0 - fL h0, locals := 426 } cX7_add 7 (some (.int)) RX7) (hfl : l.stackTraces = false) (hno : ∀ x ∈ c.exceptionTable.toList, False) (a0 : Option Nat) (a2 : Int32) (a3 : Int32) (a4 : Int32) (a5 : Option Nat) (h : fSt) (hf : f_X7_add_L63 a0 a2 a3 a4 a5 h = some r) : ∀ (H : Heap) (locs : List Loc) (cells slots : Nat) (ls : Array Slot), fCur D cA s h0 h H locs → lv_has ls 7 [(0, va_rf a0), (2, .int a2), (3, .int a3), (4, .int a4), (5, va_rf a5)] → W p l e { frames := 18, cells := fCB h0 - fZ h0, slots := fLB h0 - fL h0, locals := 426 } s m args below meth c H locs cells slots (vx_MQ below (fQX D cA h0 r.2 (rI r.1)) (fXC D cA h0 r.2 (rI r.1)) args s (fCB h0 - fZ h0) (fLB h0 - fL h0) (fA h0)) (F0 m 63 ls []) := by
  obtain ⟨hx, hb, hml, hr, hlocks, hts, hown, K, hR⟩ := id M
  intro H locs cells slots ls hC hl
  refine fr_aload_n hx hb dX7_add_63 rfl (lv_at hl 0 rfl) ?_
  obtain ⟨x5, g6, hf⟩ := obind hf
  refine fr_get hx hb hts hown K hC ct_7 (fgI_get g6) (by decide) kw622 rfl dX7_add_64 ?_
  refine lv_if_lt (tgt := 91) hx hb dX7_add_67 (by decide) (fun c7 => ?_) (fun c7 => ?_)
  · replace hf := opos c7 hf
    exact w_X7_add_L91 M hfl hno _ hf _ _ _ _ _ hC (lv_sub hl [] rfl)
  · replace hf := oneg c7 hf
    refine fr_aload_n hx hb dX7_add_70 rfl (lv_at hl 0 rfl) ?_
    obtain ⟨x8, g9, hf⟩ := obind hf
    refine fr_get hx hb hts hown K hC ct_7 (fgI_get g9) (by decide) kw622 rfl dX7_add_71 ?_
    refine fr_aload_n hx hb dX7_add_74 rfl (lv_at hl 0 rfl) ?_
    obtain ⟨x10, g11, hf⟩ := obind hf
    refine fr_get hx hb hts hown K hC ct_7 (fgR_get g11) (by decide) kw617 rfl dX7_add_75 ?_
    obtain ⟨x12, g13, hf⟩ := obind hf
    refine fr_alen hx hb K hC (t := 2) rfl g13 dX7_add_78 ?_
    refine lv_icmp_ge (tgt := 91) hx hb dX7_add_79 (by decide) (fun c14 => ?_) (fun c14 => ?_)
    · replace hf := opos c14 hf
      exact w_X7_add_L91 M hfl hno _ hf _ _ _ _ _ hC (lv_sub hl [] rfl)
    · replace hf := oneg c14 hf
      refine fr_aload hx hb dX7_add_82 (lv_at hl 4 rfl) ?_
      obtain ⟨b17, q18, hf⟩ := obind hf
      obtain ⟨r15, g16, hf⟩ := obind hf
      refine fr_callV hx hb hml hts hown K hC hR ct_4 (c_X4_depth hfl D cA g16) 0 q18 kw136 kw133 kw134 kw135 kw24 (by decide +kernel) ⟨by exact Nat.le_of_ble_eq_true rfl, by exact Nat.le_of_ble_eq_true rfl⟩ rfl hl.1 (cat8 _ (by exact Nat.le_of_ble_eq_true rfl)) dX7_add_84 rfl (fun H locs _ _ hC => ?_)
      refine lv_iconst (v := (4 : Int32)) hx hb dX7_add_87 (by decide) ?_
      refine lv_icmp_lt (tgt := 101) hx hb dX7_add_88 (by decide) (fun c19 => ?_) (fun c19 => ?_)
      · replace hf := opos c19 hf
        obtain ⟨r20, g21, hf⟩ := obind hf
        refine fr_new hx hb hts hown K hC ct_4 hR g21 dv_4 kw409 kw413 kw24 dX7_add_101 (fun H _ _ hC => ?_)
        refine lv_dup hx hb dX7_add_104 (va_rf_cat _) ?_
        refine fr_aload_n hx hb dX7_add_105 rfl (lv_at hl 0 rfl) ?_
        obtain ⟨x22, g23, hf⟩ := obind hf
        refine fr_get hx hb hts hown K hC ct_7 (fgI_get g23) (by decide) kw622 rfl dX7_add_106 ?_
        refine lv_iload_n hx hb dX7_add_109 rfl (lv_at hl 1 rfl) ?_
        refine lv_iload_n hx hb dX7_add_110 rfl (lv_at hl 2 rfl) ?_
        refine lv_iload hx hb dX7_add_111 (lv_at hl 3 rfl) ?_
        obtain ⟨r24, g25, hf⟩ := obind hf
        refine fr_callI hx hb hml hts hown K hC hR (c_X4_init hfl D cA g25) 4 kw416 kw414 kw415 kw24 rfl (by decide +kernel) ⟨by exact Nat.le_of_ble_eq_true rfl, by exact Nat.le_of_ble_eq_true rfl⟩ rfl hl.1 (cat8 _ (by exact Nat.le_of_ble_eq_true rfl)) dX7_add_113 rfl (fun H locs _ _ hC => ?_)
        refine fr_astore (lv' := [(6, va_rf (some r20.1)), (0, va_rf a0), (2, .int a2), (3, .int a3), (4, .int a4), (5, va_rf a5)]) hx hb dX7_add_116 hl (by decide) (congrArg (List.cons _) (flk rfl (flk rfl (flk rfl (flk rfl (flk (adj1 _ _) fln)))))) (fun ls hl => ?_)
        refine fr_aload_n hx hb dX7_add_118 rfl (lv_at hl 1 rfl) ?_
        obtain ⟨x26, g27, hf⟩ := obind hf
        refine fr_get hx hb hts hown K hC ct_7 (fgR_get g27) (by decide) kw617 rfl dX7_add_119 ?_
        refine fr_aload_n hx hb dX7_add_122 rfl (lv_at hl 1 rfl) ?_
        obtain ⟨x28, g29, hf⟩ := obind hf
        refine fr_get hx hb hts hown K hC ct_7 (fgI_get g29) (by decide) kw622 rfl dX7_add_123 ?_
        refine fr_aload hx hb dX7_add_126 (lv_at hl 0 rfl) ?_
        obtain ⟨h30, g31, hf⟩ := obind hf
        refine fr_aast hx hb K hC (t := 2) ct_4 rfl g31 dX7_add_128 (fun H locs hC => ?_)
        refine fr_aload_n hx hb dX7_add_129 rfl (lv_at hl 1 rfl) ?_
        refine lv_dup hx hb dX7_add_130 (va_rf_cat _) ?_
        obtain ⟨x32, g33, hf⟩ := obind hf
        refine fr_get hx hb hts hown K hC ct_7 (fgI_get g33) (by decide) kw622 rfl dX7_add_131 ?_
        refine lv_iconst (v := (1 : Int32)) hx hb dX7_add_134 (by decide) ?_
        refine lv_iadd hx hb dX7_add_135 ?_
        obtain ⟨h34, g35, hf⟩ := obind hf
        refine fr_put hx hb hts hown K hC ct_7 g35 (by decide) kw622 rfl rfl rfl rfl dX7_add_136 (fun H locs hC => ?_)
        refine fr_aload hx hb dX7_add_139 (lv_at hl 5 rfl) ?_
        refine fr_aload hx hb dX7_add_141 (lv_at hl 0 rfl) ?_
        obtain ⟨b38, q39, hf⟩ := obind hf
        obtain ⟨r36, g37, hf⟩ := obind hf
        refine fr_callV hx hb hml hts hown K hC hR ct_4 (c_X4_takeIn hfl D cA g37) 1 q39 kw763 kw760 kw761 kw762 kw24 (by decide +kernel) ⟨by exact Nat.le_of_ble_eq_true rfl, by exact Nat.le_of_ble_eq_true rfl⟩ rfl hl.1 (cat8 _ (by exact Nat.le_of_ble_eq_true rfl)) dX7_add_143 rfl (fun H locs _ _ hC => ?_)
        refine fr_aload_n hx hb dX7_add_146 rfl (lv_at hl 1 rfl) ?_
        obtain ⟨b42, q43, hf⟩ := obind hf
        obtain ⟨r40, g41, hf⟩ := obind hf
        refine fr_callV hx hb hml hts hown K hC hR ct_7 (c_X7_layOrder hfl D cA g41) 0 q43 kw767 kw764 kw766 kw15 kw23 (by decide +kernel) ⟨by exact Nat.le_of_ble_eq_true rfl, by exact Nat.le_of_ble_eq_true rfl⟩ rfl hl.1 (cat8 _ (by exact Nat.le_of_ble_eq_true rfl)) dX7_add_147 rfl (fun H locs _ _ hC => ?_)
        refine fr_aload hx hb dX7_add_150 (lv_at hl 0 rfl) ?_
        obtain ⟨x44, g45, hf⟩ := obind hf
        refine fr_get hx hb hts hown K hC ct_4 (fgI_get g45) (by decide) kw480 rfl dX7_add_152 ?_
        obtain rfl := Option.some.inj hf
        exact fr_retQ (fr_iret hx hb hr hlocks hC dX7_add_155)
      · replace hf := oneg c19 hf
        exact w_X7_add_L91 M hfl hno _ hf _ _ _ _ _ hC (lv_sub hl [] rfl)
set_option maxHeartbeats 4000000 in
set_option maxRecDepth 100000 in
theorem w_X7_add_L0 {p : Program} {l : Launch} {e : Env} {s : State} {m : MethodId} {args : Array Value} {below : List Frame} {meth : Method} {c : Code} {D : va_G} {cA : Nat → ClassId} {h0 : fSt} {r : ((Int32 ⊕ Nat) × fSt)} (M : fM p s m args meth c D cA h0 { frames := 18, cells := fCB h0 - fZ h0, slots := fLB h0 - fL h0, locals := 426 } cX7_add 7 (some (.int)) RX7) (hfl : l.stackTraces = false) (hno : ∀ x ∈ c.exceptionTable.toList, False) (a0 : Option Nat) (a1 : Int32) (a2 : Int32) (a3 : Int32) (a4 : Int32) (h : fSt) (hf : f_X7_add_L0 a0 a1 a2 a3 a4 h = some r) : ∀ (H : Heap) (locs : List Loc) (cells slots : Nat) (ls : Array Slot), fCur D cA s h0 h H locs → lv_has ls 7 [(0, va_rf a0), (1, .int a1), (2, .int a2), (3, .int a3), (4, .int a4)] → W p l e { frames := 18, cells := fCB h0 - fZ h0, slots := fLB h0 - fL h0, locals := 426 } s m args below meth c H locs cells slots (vx_MQ below (fQX D cA h0 r.2 (rI r.1)) (fXC D cA h0 r.2 (rI r.1)) args s (fCB h0 - fZ h0) (fLB h0 - fL h0) (fA h0)) (F0 m 0 ls []) := by
  obtain ⟨hx, hb, hml, hr, hlocks, hts, hown, K, hR⟩ := id M
  intro H locs cells slots ls hC hl
  refine fr_aload_n hx hb dX7_add_0 rfl (lv_at hl 0 rfl) ?_
  refine lv_iload_n hx hb dX7_add_1 rfl (lv_at hl 1 rfl) ?_
  obtain ⟨b48, q49, hf⟩ := obind hf
  obtain ⟨⟨v50 | k51, h52⟩, g47, hf⟩ := obind hf
  · refine fr_callVX hx hb hml hts hown K hC hR ct_7 (c_X7_found hfl D cA g47) 1 q49 kw51 kw47 kw49 kw0 kw23 (by decide +kernel) ⟨by exact Nat.le_of_ble_eq_true rfl, by exact Nat.le_of_ble_eq_true rfl⟩ rfl hl.1 (cat8 _ (by exact Nat.le_of_ble_eq_true rfl)) dX7_add_2 rfl (fun H locs _ _ hC => ?_)
    refine fr_astore (lv' := [(5, va_rf v50), (0, va_rf a0), (1, .int a1), (2, .int a2), (3, .int a3), (4, .int a4)]) hx hb dX7_add_5 hl (by decide) (congrArg (List.cons _) (flk rfl (flk rfl (flk rfl (flk rfl (flk rfl fln)))))) (fun ls hl => ?_)
    refine lv_iload_n hx hb dX7_add_7 rfl (lv_at hl 3 rfl) ?_
    refine lv_iconst (v := (0 : Int32)) hx hb dX7_add_8 (by decide) ?_
    refine lv_iconst (v := (2 : Int32)) hx hb dX7_add_9 (by decide) ?_
    obtain ⟨r53, g54, hf⟩ := obind hf
    refine fr_callS hx hb hml hts hown K hC hR (c_X7_isFrom hfl D cA g54) 3 kw154 kw152 kw153 kw23 (by decide +kernel) ⟨by exact Nat.le_of_ble_eq_true rfl, by exact Nat.le_of_ble_eq_true rfl⟩ rfl hl.1 (cat8 _ (by exact Nat.le_of_ble_eq_true rfl)) dX7_add_10 rfl (fun H locs _ _ hC => ?_)
    refine lv_if_ne (tgt := 26) hx hb dX7_add_13 (by decide) (fun c55 => ?_) (fun c55 => ?_)
    · replace hf := oneg c55 hf
      refine lv_iload_n hx hb dX7_add_26 rfl (lv_at hl 3 rfl) ?_
      refine lv_if_eq (tgt := 63) hx hb dX7_add_27 (by decide) (fun c56 => ?_) (fun c56 => ?_)
      · replace hf := opos c56 hf
        exact w_X7_add_L63 M hfl hno _ _ _ _ _ _ hf _ _ _ _ _ hC (lv_sub hl [1, 3, 4, 5, 0] rfl)
      · replace hf := oneg c56 hf
        refine lv_iload_n hx hb dX7_add_30 rfl (lv_at hl 4 rfl) ?_
        refine lv_iconst (v := (1 : Int32)) hx hb dX7_add_31 (by decide) ?_
        refine lv_sipush (v := (200 : Int32)) hx hb dX7_add_32 (by decide) ?_
        obtain ⟨r57, g58, hf⟩ := obind hf
        refine fr_callS hx hb hml hts hown K hC hR (c_X7_isFrom hfl D cA g58) 3 kw154 kw152 kw153 kw23 (by decide +kernel) ⟨by exact Nat.le_of_ble_eq_true rfl, by exact Nat.le_of_ble_eq_true rfl⟩ rfl hl.1 (cat8 _ (by exact Nat.le_of_ble_eq_true rfl)) dX7_add_35 rfl (fun H locs _ _ hC => ?_)
        refine lv_if_eq (tgt := 53) hx hb dX7_add_38 (by decide) (fun c59 => ?_) (fun c59 => ?_)
        · replace hf := opos c59 hf
          exact w_X7_add_L53 M hfl hno _ hf _ _ _ _ _ hC (lv_sub hl [] rfl)
        · replace hf := oneg c59 hf
          refine lv_iload hx hb dX7_add_41 (lv_at hl 5 rfl) ?_
          refine lv_iconst (v := (1 : Int32)) hx hb dX7_add_43 (by decide) ?_
          refine lv_sipush (v := (200 : Int32)) hx hb dX7_add_44 (by decide) ?_
          obtain ⟨r60, g61, hf⟩ := obind hf
          refine fr_callS hx hb hml hts hown K hC hR (c_X7_isFrom hfl D cA g61) 3 kw154 kw152 kw153 kw23 (by decide +kernel) ⟨by exact Nat.le_of_ble_eq_true rfl, by exact Nat.le_of_ble_eq_true rfl⟩ rfl hl.1 (cat8 _ (by exact Nat.le_of_ble_eq_true rfl)) dX7_add_47 rfl (fun H locs _ _ hC => ?_)
          refine lv_if_ne (tgt := 63) hx hb dX7_add_50 (by decide) (fun c62 => ?_) (fun c62 => ?_)
          · replace hf := oneg c62 hf
            exact w_X7_add_L63 M hfl hno _ _ _ _ _ _ hf _ _ _ _ _ hC (lv_sub hl [1, 3, 4, 5, 0] rfl)
          · replace hf := opos c62 hf
            exact w_X7_add_L53 M hfl hno _ hf _ _ _ _ _ hC (lv_sub hl [] rfl)
    · replace hf := opos c55 hf
      obtain ⟨h63, g64, hf⟩ := obind hf
      obtain rfl := Option.some.inj hf
      exact fr_throwS hx hb hml hts hfl hown K hC hR th_RX7_60_64_1 st_RX7_62 hl.1 dX7_add_16 dX7_add_19 dX7_add_20 dX7_add_22 dX7_add_25 hno (by exact Nat.le_of_ble_eq_true rfl) (catL _ _ (by exact Nat.le_of_ble_eq_true rfl) (by exact Nat.le_of_ble_eq_true rfl)) hlocks g64
  · obtain rfl := Option.some.inj hf
    refine fr_callVT hx hb hml hts hown K hC hR ct_7 (c_X7_found hfl D cA g47) 1 q49 kw51 kw47 kw49 kw0 kw23 (by decide +kernel) ⟨by exact Nat.le_of_ble_eq_true rfl, by exact Nat.le_of_ble_eq_true rfl⟩ rfl hl.1 (cat8 _ (by exact Nat.le_of_ble_eq_true rfl)) dX7_add_2 rfl (fun H locs _ _ q ce hC e1 e2 e3 => ?_)
    exact fr_out (fun x hx9 => (hno x hx9).elim) hlocks hC e1 e2 e3
set_option maxRecDepth 100000 in
theorem c_X7_add {l : Launch} (hfl : l.stackTraces = false) (D : va_G) (cA : Nat → ClassId) {o : Nat} {p0 : Int32} {p1 : Int32} {p2 : Int32} {p3 : Int32} {h : fSt} {r : ((Int32 ⊕ Nat) × fSt)} (hf : f_X7_add o p0 p1 p2 p3 h = some r) : fMetX l yX7_add (wsC yX7_add cX7_add 7 (some (.int))) (18) (426) D cA [.ref o, .int p0, .int p1, .int p2, .int p3] h r.2 (rI r.1) := by
  exact fMetX.of (own := RX7) (by decide +kernel) rfl (lva1 rfl (lva1 rfl (lva1 rfl (lva1 rfl (lva1 rfl lva0))))) (lgl1 rfl (lgl1 rfl (lgl1 rfl (lgl1 rfl (lgl1 rfl lgl0))))) (Nat.le_of_ble_eq_true rfl) (fun p e s m args below meth c ls hno M hC hl => by
    have hl : lv_has ls 7 [(0, va_rf (some o)), (1, .int p0), (2, .int p1), (3, .int p2), (4, .int p3)] := hl
    exact w_X7_add_L0 M hfl hno _ _ _ _ _ _ hf _ _ _ _ _ hC (lv_sub hl [0, 1, 2, 3, 4] rfl))
set_option maxHeartbeats 4000000 in
set_option maxRecDepth 100000 in
theorem w_X8_draw_L0 {p : Program} {l : Launch} {e : Env} {s : State} {m : MethodId} {args : Array Value} {below : List Frame} {meth : Method} {c : Code} {D : va_G} {cA : Nat → ClassId} {h0 : fSt} {r : (Int32 × fSt)} (M : fM p s m args meth c D cA h0 { frames := 1, cells := fCB h0 - fZ h0, slots := fLB h0 - fL h0, locals := 21 } cX8_draw 3 (some (.int)) RX8) (hfl : l.stackTraces = false) (a0 : Option Nat) (a1 : Int32) (h : fSt) (hf : f_X8_draw_L0 a0 a1 h = some r) : ∀ (H : Heap) (locs : List Loc) (cells slots : Nat) (ls : Array Slot), fCur D cA s h0 h H locs → lv_has ls 3 [(0, va_rf a0), (1, .int a1)] → W p l e { frames := 1, cells := fCB h0 - fZ h0, slots := fLB h0 - fL h0, locals := 21 } s m args below meth c H locs cells slots (MQ below (fQ D cA h0 r.2 (some (.int r.1))) args s (fCB h0 - fZ h0) (fLB h0 - fL h0) (fA h0)) (F0 m 0 ls []) := by
  obtain ⟨hx, hb, hml, hr, hlocks, hts, hown, K, hR⟩ := id M
  intro H locs cells slots ls hC hl
  refine fr_aload_n hx hb dX8_draw_0 rfl (lv_at hl 0 rfl) ?_
  obtain ⟨x1, g2, hf⟩ := obind hf
  refine fr_get hx hb hts hown K hC ct_8 (fgR_get g2) (by decide) kw657 rfl dX8_draw_1 ?_
  refine fr_aload_n hx hb dX8_draw_4 rfl (lv_at hl 0 rfl) ?_
  obtain ⟨x3, g4, hf⟩ := obind hf
  refine fr_get hx hb hts hown K hC ct_8 (fgI_get g4) (by decide) kw658 rfl dX8_draw_5 ?_
  refine lv_bipush (v := (24 : Int32)) hx hb dX8_draw_8 (by decide) ?_
  refine lv_irem hx hb dX8_draw_10 (by decide) ?_
  obtain ⟨r5, g6, hf⟩ := obind hf
  refine fr_callSN hx hb hml hts hown K hC hR (c_L_cell hfl D cA g6) 2 kw709 kn707 kw708 kw21 (by decide +kernel) ⟨by exact Nat.le_of_ble_eq_true rfl, by exact Nat.le_of_ble_eq_true rfl⟩ rfl hl.1 (cat8 _ (by exact Nat.le_of_ble_eq_true rfl)) dX8_draw_11 rfl (fun H locs _ _ hC => ?_)
  refine fr_aload_n hx hb dX8_draw_14 rfl (lv_at hl 0 rfl) ?_
  obtain ⟨x7, g8, hf⟩ := obind hf
  refine fr_get hx hb hts hown K hC ct_8 (fgI_get g8) (by decide) kw658 rfl dX8_draw_15 ?_
  refine lv_bipush (v := (24 : Int32)) hx hb dX8_draw_18 (by decide) ?_
  refine lv_idiv hx hb dX8_draw_20 (by decide) ?_
  refine lv_bipush (v := (8 : Int32)) hx hb dX8_draw_21 (by decide) ?_
  refine lv_irem hx hb dX8_draw_23 (by decide) ?_
  refine lv_ishr hx hb dX8_draw_24 ?_
  refine lv_bipush (v := (89 : Int32)) hx hb dX8_draw_25 (by decide) ?_
  refine fr_aload_n hx hb dX8_draw_27 rfl (lv_at hl 0 rfl) ?_
  obtain ⟨x9, g10, hf⟩ := obind hf
  refine fr_get hx hb hts hown K hC ct_8 (fgI_get g10) (by decide) kw658 rfl dX8_draw_28 ?_
  refine lv_imul hx hb dX8_draw_31 ?_
  refine lv_iadd hx hb dX8_draw_32 ?_
  refine lv_iload_n hx hb dX8_draw_33 rfl (lv_at hl 1 rfl) ?_
  obtain ⟨r11, g12, hf⟩ := obind hf
  refine fr_callSN hx hb hml hts hown K hC hR (c_L_below hfl D cA g12) 2 kw713 kn711 kw712 kw21 (by decide +kernel) ⟨by exact Nat.le_of_ble_eq_true rfl, by exact Nat.le_of_ble_eq_true rfl⟩ rfl hl.1 (cat8 _ (by exact Nat.le_of_ble_eq_true rfl)) dX8_draw_34 rfl (fun H locs _ _ hC => ?_)
  refine lv_istore_n (lv' := [(2, .int r11.1), (0, va_rf a0), (1, .int a1)]) hx hb dX8_draw_37 rfl hl (by decide) (congrArg (List.cons _) (flk rfl (flk rfl fln))) (fun ls hl => ?_)
  refine fr_aload_n hx hb dX8_draw_38 rfl (lv_at hl 1 rfl) ?_
  refine lv_dup hx hb dX8_draw_39 (va_rf_cat _) ?_
  obtain ⟨x13, g14, hf⟩ := obind hf
  refine fr_get hx hb hts hown K hC ct_8 (fgI_get g14) (by decide) kw658 rfl dX8_draw_40 ?_
  refine lv_iconst (v := (1 : Int32)) hx hb dX8_draw_43 (by decide) ?_
  refine lv_iadd hx hb dX8_draw_44 ?_
  obtain ⟨h15, g16, hf⟩ := obind hf
  refine fr_put hx hb hts hown K hC ct_8 g16 (by decide) kw658 rfl rfl rfl rfl dX8_draw_45 (fun H locs hC => ?_)
  refine lv_iload_n hx hb dX8_draw_48 rfl (lv_at hl 0 rfl) ?_
  obtain rfl := Option.some.inj hf
  exact fr_iret hx hb hr hlocks hC dX8_draw_49
set_option maxRecDepth 100000 in
theorem c_X8_draw {l : Launch} (hfl : l.stackTraces = false) (D : va_G) (cA : Nat → ClassId) {o : Nat} {p0 : Int32} {h : fSt} {r : (Int32 × fSt)} (hf : f_X8_draw o p0 h = some r) : fMet l yX8_draw (wsC yX8_draw cX8_draw 3 (some (.int))) (1) (21) D cA [.ref o, .int p0] h r.2 (some (.int r.1)) := by
  exact fMet.of (own := RX8) (by decide +kernel) rfl (lva1 rfl (lva1 rfl lva0)) (lgl1 rfl (lgl1 rfl lgl0)) (Nat.le_of_ble_eq_true rfl) (fun p e s m args below meth c ls hnm _ M hC hl => by
    have hl : lv_has ls 3 [(0, va_rf (some o)), (1, .int p0)] := hl
    exact w_X8_draw_L0 M hfl _ _ _ hf _ _ _ _ _ hC (lv_sub hl [0, 1] rfl))
