theorem dX8_up_0 : decode cX8_up 0 = .ok (.aload_n 2, 1) := by decide +kernel
theorem dX8_up_1 : decode cX8_up 1 = .ok (.iconst 0, 1) := by decide +kernel
theorem dX8_up_2 : decode cX8_up 2 = .ok (.laload, 1) := by decide +kernel
theorem dX8_up_3 : decode cX8_up 3 = .ok (.aload_n 0, 1) := by decide +kernel
theorem dX8_up_4 : decode cX8_up 4 = .ok (.getfield 39, 3) := by decide +kernel
theorem dX8_up_7 : decode cX8_up 7 = .ok (.iload_n 1, 1) := by decide +kernel
theorem dX8_up_8 : decode cX8_up 8 = .ok (.iaload, 1) := by decide +kernel
theorem dX8_up_9 : decode cX8_up 9 = .ok (.i2l, 1) := by decide +kernel
theorem dX8_up_10 : decode cX8_up 10 = .ok (.lmul, 1) := by decide +kernel
theorem dX8_up_11 : decode cX8_up 11 = .ok (.aload_n 0, 1) := by decide +kernel
theorem dX8_up_12 : decode cX8_up 12 = .ok (.getfield 17, 3) := by decide +kernel
theorem dX8_up_15 : decode cX8_up 15 = .ok (.iload_n 1, 1) := by decide +kernel
theorem dX8_up_16 : decode cX8_up 16 = .ok (.baload, 1) := by decide +kernel
theorem dX8_up_17 : decode cX8_up 17 = .ok (.ifCond .eq 7, 3) := by decide +kernel
theorem dX8_up_20 : decode cX8_up 20 = .ok (.iconst (-1), 1) := by decide +kernel
theorem dX8_up_21 : decode cX8_up 21 = .ok (.goto 4, 3) := by decide +kernel
theorem dX8_up_24 : decode cX8_up 24 = .ok (.iconst 1, 1) := by decide +kernel
theorem dX8_up_25 : decode cX8_up 25 = .ok (.i2l, 1) := by decide +kernel
theorem dX8_up_26 : decode cX8_up 26 = .ok (.lmul, 1) := by decide +kernel
theorem dX8_up_27 : decode cX8_up 27 = .ok (.lstore_n 3, 1) := by decide +kernel
theorem dX8_up_28 : decode cX8_up 28 = .ok (.aload_n 2, 1) := by decide +kernel
theorem dX8_up_29 : decode cX8_up 29 = .ok (.iconst 1, 1) := by decide +kernel
theorem dX8_up_30 : decode cX8_up 30 = .ok (.laload, 1) := by decide +kernel
theorem dX8_up_31 : decode cX8_up 31 = .ok (.aload_n 0, 1) := by decide +kernel
theorem dX8_up_32 : decode cX8_up 32 = .ok (.getfield 39, 3) := by decide +kernel
theorem dX8_up_35 : decode cX8_up 35 = .ok (.iload_n 1, 1) := by decide +kernel
theorem dX8_up_36 : decode cX8_up 36 = .ok (.iaload, 1) := by decide +kernel
theorem dX8_up_37 : decode cX8_up 37 = .ok (.i2l, 1) := by decide +kernel
theorem dX8_up_38 : decode cX8_up 38 = .ok (.lmul, 1) := by decide +kernel
theorem dX8_up_39 : decode cX8_up 39 = .ok (.lstore 5, 2) := by decide +kernel
theorem dX8_up_41 : decode cX8_up 41 = .ok (.aload_n 2, 1) := by decide +kernel
theorem dX8_up_42 : decode cX8_up 42 = .ok (.iconst 2, 1) := by decide +kernel
theorem dX8_up_43 : decode cX8_up 43 = .ok (.dup2, 1) := by decide +kernel
theorem dX8_up_44 : decode cX8_up 44 = .ok (.laload, 1) := by decide +kernel
theorem dX8_up_45 : decode cX8_up 45 = .ok (.aload_n 0, 1) := by decide +kernel
theorem dX8_up_46 : decode cX8_up 46 = .ok (.getfield 42, 3) := by decide +kernel
theorem dX8_up_49 : decode cX8_up 49 = .ok (.iload_n 1, 1) := by decide +kernel
theorem dX8_up_50 : decode cX8_up 50 = .ok (.iaload, 1) := by decide +kernel
theorem dX8_up_51 : decode cX8_up 51 = .ok (.i2l, 1) := by decide +kernel
theorem dX8_up_52 : decode cX8_up 52 = .ok (.lmul, 1) := by decide +kernel
theorem dX8_up_53 : decode cX8_up 53 = .ok (.lastore, 1) := by decide +kernel
theorem dX8_up_54 : decode cX8_up 54 = .ok (.aload_n 0, 1) := by decide +kernel
theorem dX8_up_55 : decode cX8_up 55 = .ok (.iload_n 1, 1) := by decide +kernel
theorem dX8_up_56 : decode cX8_up 56 = .ok (.iconst 2, 1) := by decide +kernel
theorem dX8_up_57 : decode cX8_up 57 = .ok (.invokevirtual 164, 3) := by decide +kernel
theorem dX8_up_60 : decode cX8_up 60 = .ok (.istore 7, 2) := by decide +kernel
theorem dX8_up_62 : decode cX8_up 62 = .ok (.iload 7, 2) := by decide +kernel
theorem dX8_up_64 : decode cX8_up 64 = .ok (.ifCond .le 20, 3) := by decide +kernel
theorem dX8_up_67 : decode cX8_up 67 = .ok (.lload_n 3, 1) := by decide +kernel
theorem dX8_up_68 : decode cX8_up 68 = .ok (.lstore 8, 2) := by decide +kernel
theorem dX8_up_70 : decode cX8_up 70 = .ok (.lload 5, 2) := by decide +kernel
theorem dX8_up_72 : decode cX8_up 72 = .ok (.lneg, 1) := by decide +kernel
theorem dX8_up_73 : decode cX8_up 73 = .ok (.lstore_n 3, 1) := by decide +kernel
theorem dX8_up_74 : decode cX8_up 74 = .ok (.lload 8, 2) := by decide +kernel
theorem dX8_up_76 : decode cX8_up 76 = .ok (.lstore 5, 2) := by decide +kernel
theorem dX8_up_78 : decode cX8_up 78 = .ok (.iinc 7 (-1), 3) := by decide +kernel
theorem dX8_up_81 : decode cX8_up 81 = .ok (.goto (-19), 3) := by decide +kernel
theorem dX8_up_84 : decode cX8_up 84 = .ok (.aload_n 2, 1) := by decide +kernel
theorem dX8_up_85 : decode cX8_up 85 = .ok (.iconst 0, 1) := by decide +kernel
theorem dX8_up_86 : decode cX8_up 86 = .ok (.lload_n 3, 1) := by decide +kernel
theorem dX8_up_87 : decode cX8_up 87 = .ok (.aload_n 0, 1) := by decide +kernel
theorem dX8_up_88 : decode cX8_up 88 = .ok (.iload_n 1, 1) := by decide +kernel
theorem dX8_up_89 : decode cX8_up 89 = .ok (.iconst 0, 1) := by decide +kernel
theorem dX8_up_90 : decode cX8_up 90 = .ok (.invokevirtual 164, 3) := by decide +kernel
theorem dX8_up_93 : decode cX8_up 93 = .ok (.i2l, 1) := by decide +kernel
theorem dX8_up_94 : decode cX8_up 94 = .ok (.aload_n 2, 1) := by decide +kernel
theorem dX8_up_95 : decode cX8_up 95 = .ok (.iconst 2, 1) := by decide +kernel
theorem dX8_up_96 : decode cX8_up 96 = .ok (.laload, 1) := by decide +kernel
theorem dX8_up_97 : decode cX8_up 97 = .ok (.lmul, 1) := by decide +kernel
theorem dX8_up_98 : decode cX8_up 98 = .ok (.ladd, 1) := by decide +kernel
theorem dX8_up_99 : decode cX8_up 99 = .ok (.lastore, 1) := by decide +kernel
theorem dX8_up_100 : decode cX8_up 100 = .ok (.aload_n 2, 1) := by decide +kernel
theorem dX8_up_101 : decode cX8_up 101 = .ok (.iconst 1, 1) := by decide +kernel
theorem dX8_up_102 : decode cX8_up 102 = .ok (.lload 5, 2) := by decide +kernel
theorem dX8_up_104 : decode cX8_up 104 = .ok (.aload_n 0, 1) := by decide +kernel
theorem dX8_up_105 : decode cX8_up 105 = .ok (.iload_n 1, 1) := by decide +kernel
theorem dX8_up_106 : decode cX8_up 106 = .ok (.iconst 1, 1) := by decide +kernel
theorem dX8_up_107 : decode cX8_up 107 = .ok (.invokevirtual 164, 3) := by decide +kernel
theorem dX8_up_110 : decode cX8_up 110 = .ok (.i2l, 1) := by decide +kernel
theorem dX8_up_111 : decode cX8_up 111 = .ok (.aload_n 2, 1) := by decide +kernel
theorem dX8_up_112 : decode cX8_up 112 = .ok (.iconst 2, 1) := by decide +kernel
theorem dX8_up_113 : decode cX8_up 113 = .ok (.laload, 1) := by decide +kernel
theorem dX8_up_114 : decode cX8_up 114 = .ok (.lmul, 1) := by decide +kernel
theorem dX8_up_115 : decode cX8_up 115 = .ok (.ladd, 1) := by decide +kernel
theorem dX8_up_116 : decode cX8_up 116 = .ok (.lastore, 1) := by decide +kernel
theorem dX8_up_117 : decode cX8_up 117 = .ok (.return_, 1) := by decide +kernel
theorem dX8_upAll_0 : decode cX8_upAll 0 = .ok (.iload_n 1, 1) := by decide +kernel
theorem dX8_upAll_1 : decode cX8_upAll 1 = .ok (.istore_n 3, 1) := by decide +kernel
theorem dX8_upAll_2 : decode cX8_upAll 2 = .ok (.iload_n 3, 1) := by decide +kernel
theorem dX8_upAll_3 : decode cX8_upAll 3 = .ok (.ifCond .eq 19, 3) := by decide +kernel
theorem dX8_upAll_6 : decode cX8_upAll 6 = .ok (.aload_n 0, 1) := by decide +kernel
theorem dX8_upAll_7 : decode cX8_upAll 7 = .ok (.iload_n 3, 1) := by decide +kernel
theorem dX8_upAll_8 : decode cX8_upAll 8 = .ok (.aload_n 2, 1) := by decide +kernel
theorem dX8_upAll_9 : decode cX8_upAll 9 = .ok (.invokevirtual 170, 3) := by decide +kernel
theorem dX8_upAll_12 : decode cX8_upAll 12 = .ok (.aload_n 0, 1) := by decide +kernel
theorem dX8_upAll_13 : decode cX8_upAll 13 = .ok (.getfield 26, 3) := by decide +kernel
theorem dX8_upAll_16 : decode cX8_upAll 16 = .ok (.iload_n 3, 1) := by decide +kernel
theorem dX8_upAll_17 : decode cX8_upAll 17 = .ok (.iaload, 1) := by decide +kernel
theorem dX8_upAll_18 : decode cX8_upAll 18 = .ok (.istore_n 3, 1) := by decide +kernel
theorem dX8_upAll_19 : decode cX8_upAll 19 = .ok (.goto (-17), 3) := by decide +kernel
theorem dX8_upAll_22 : decode cX8_upAll 22 = .ok (.return_, 1) := by decide +kernel
theorem dX8_between_0 : decode cX8_between 0 = .ok (.aload_n 0, 1) := by decide +kernel
theorem dX8_between_1 : decode cX8_between 1 = .ok (.aload_n 0, 1) := by decide +kernel
theorem dX8_between_2 : decode cX8_between 2 = .ok (.aload_n 0, 1) := by decide +kernel
theorem dX8_between_3 : decode cX8_between 3 = .ok (.iload_n 1, 1) := by decide +kernel
theorem dX8_between_4 : decode cX8_between 4 = .ok (.invokevirtual 88, 3) := by decide +kernel
theorem dX8_between_7 : decode cX8_between 7 = .ok (.ifCond .eq 15, 3) := by decide +kernel
theorem dX8_between_10 : decode cX8_between 10 = .ok (.aload_n 0, 1) := by decide +kernel
theorem dX8_between_11 : decode cX8_between 11 = .ok (.iload_n 2, 1) := by decide +kernel
theorem dX8_between_12 : decode cX8_between 12 = .ok (.invokevirtual 88, 3) := by decide +kernel
theorem dX8_between_15 : decode cX8_between 15 = .ok (.ifCond .eq 7, 3) := by decide +kernel
theorem dX8_between_18 : decode cX8_between 18 = .ok (.iconst 1, 1) := by decide +kernel
theorem dX8_between_19 : decode cX8_between 19 = .ok (.goto 4, 3) := by decide +kernel
theorem dX8_between_22 : decode cX8_between 22 = .ok (.iconst 0, 1) := by decide +kernel
theorem dX8_between_23 : decode cX8_between 23 = .ok (.iload_n 3, 1) := by decide +kernel
theorem dX8_between_24 : decode cX8_between 24 = .ok (.iload 4, 2) := by decide +kernel
theorem dX8_between_26 : decode cX8_between 26 = .ok (.iload 5, 2) := by decide +kernel
theorem dX8_between_28 : decode cX8_between 28 = .ok (.invokevirtual 195, 3) := by decide +kernel
theorem dX8_between_31 : decode cX8_between 31 = .ok (.putfield 81, 3) := by decide +kernel
theorem dX8_between_34 : decode cX8_between 34 = .ok (.aload_n 0, 1) := by decide +kernel
theorem dX8_between_35 : decode cX8_between 35 = .ok (.getfield 81, 3) := by decide +kernel
theorem dX8_between_38 : decode cX8_between 38 = .ok (.ifCond .eq 5, 3) := by decide +kernel
theorem dX8_between_41 : decode cX8_between 41 = .ok (.iconst 0, 1) := by decide +kernel
theorem dX8_between_42 : decode cX8_between 42 = .ok (.ireturn, 1) := by decide +kernel
theorem dX8_between_43 : decode cX8_between 43 = .ok (.iload_n 3, 1) := by decide +kernel
theorem dX8_between_44 : decode cX8_between 44 = .ok (.i2l, 1) := by decide +kernel
theorem dX8_between_45 : decode cX8_between 45 = .ok (.iload 4, 2) := by decide +kernel
theorem dX8_between_47 : decode cX8_between 47 = .ok (.i2l, 1) := by decide +kernel
theorem dX8_between_48 : decode cX8_between 48 = .ok (.lconst 1, 1) := by decide +kernel
theorem dX8_between_49 : decode cX8_between 49 = .ok (.invokestatic 184, 3) := by decide +kernel
theorem dX8_between_52 : decode cX8_between 52 = .ok (.astore 6, 2) := by decide +kernel
theorem dX8_between_54 : decode cX8_between 54 = .ok (.aload_n 0, 1) := by decide +kernel
theorem dX8_between_55 : decode cX8_between 55 = .ok (.iload_n 1, 1) := by decide +kernel
theorem dX8_between_56 : decode cX8_between 56 = .ok (.aload 6, 2) := by decide +kernel
theorem dX8_between_58 : decode cX8_between 58 = .ok (.invokevirtual 188, 3) := by decide +kernel
theorem dX8_between_61 : decode cX8_between 61 = .ok (.aload_n 0, 1) := by decide +kernel
theorem dX8_between_62 : decode cX8_between 62 = .ok (.iload_n 2, 1) := by decide +kernel
theorem dX8_between_63 : decode cX8_between 63 = .ok (.aload 6, 2) := by decide +kernel
theorem dX8_between_65 : decode cX8_between 65 = .ok (.invokevirtual 174, 3) := by decide +kernel
theorem dX8_between_68 : decode cX8_between 68 = .ok (.aload 6, 2) := by decide +kernel
theorem dX8_between_70 : decode cX8_between 70 = .ok (.iload 5, 2) := by decide +kernel
theorem dX8_between_72 : decode cX8_between 72 = .ok (.invokestatic 191, 3) := by decide +kernel
theorem dX8_between_75 : decode cX8_between 75 = .ok (.ireturn, 1) := by decide +kernel
theorem dX8_isShownNow_0 : decode cX8_isShownNow 0 = .ok (.iload_n 1, 1) := by decide +kernel
theorem dX8_isShownNow_1 : decode cX8_isShownNow 1 = .ok (.istore_n 2, 1) := by decide +kernel
theorem dX8_isShownNow_2 : decode cX8_isShownNow 2 = .ok (.iload_n 2, 1) := by decide +kernel
theorem dX8_isShownNow_3 : decode cX8_isShownNow 3 = .ok (.iconst (-1), 1) := by decide +kernel
theorem dX8_isShownNow_4 : decode cX8_isShownNow 4 = .ok (.if_icmp .eq 33, 3) := by decide +kernel
theorem dX8_isShownNow_7 : decode cX8_isShownNow 7 = .ok (.aload_n 0, 1) := by decide +kernel
theorem dX8_isShownNow_8 : decode cX8_isShownNow 8 = .ok (.getfield 20, 3) := by decide +kernel
theorem dX8_isShownNow_11 : decode cX8_isShownNow 11 = .ok (.iload_n 2, 1) := by decide +kernel
theorem dX8_isShownNow_12 : decode cX8_isShownNow 12 = .ok (.baload, 1) := by decide +kernel
theorem dX8_isShownNow_13 : decode cX8_isShownNow 13 = .ok (.ifCond .ne 12, 3) := by decide +kernel
theorem dX8_isShownNow_16 : decode cX8_isShownNow 16 = .ok (.aload_n 0, 1) := by decide +kernel
theorem dX8_isShownNow_17 : decode cX8_isShownNow 17 = .ok (.iload_n 2, 1) := by decide +kernel
theorem dX8_isShownNow_18 : decode cX8_isShownNow 18 = .ok (.iconst 3, 1) := by decide +kernel
theorem dX8_isShownNow_19 : decode cX8_isShownNow 19 = .ok (.invokevirtual 164, 3) := by decide +kernel
theorem dX8_isShownNow_22 : decode cX8_isShownNow 22 = .ok (.ifCond .ne 5, 3) := by decide +kernel
theorem dX8_isShownNow_25 : decode cX8_isShownNow 25 = .ok (.iconst 0, 1) := by decide +kernel
theorem dX8_isShownNow_26 : decode cX8_isShownNow 26 = .ok (.ireturn, 1) := by decide +kernel
theorem dX8_isShownNow_27 : decode cX8_isShownNow 27 = .ok (.aload_n 0, 1) := by decide +kernel
theorem dX8_isShownNow_28 : decode cX8_isShownNow 28 = .ok (.getfield 26, 3) := by decide +kernel
theorem dX8_isShownNow_31 : decode cX8_isShownNow 31 = .ok (.iload_n 2, 1) := by decide +kernel
theorem dX8_isShownNow_32 : decode cX8_isShownNow 32 = .ok (.iaload, 1) := by decide +kernel
theorem dX8_isShownNow_33 : decode cX8_isShownNow 33 = .ok (.istore_n 2, 1) := by decide +kernel
theorem dX8_isShownNow_34 : decode cX8_isShownNow 34 = .ok (.goto (-32), 3) := by decide +kernel
theorem dX8_isShownNow_37 : decode cX8_isShownNow 37 = .ok (.aload_n 0, 1) := by decide +kernel
theorem dX8_isShownNow_38 : decode cX8_isShownNow 38 = .ok (.getfield 13, 3) := by decide +kernel
theorem dX8_isShownNow_41 : decode cX8_isShownNow 41 = .ok (.iload_n 1, 1) := by decide +kernel
theorem dX8_isShownNow_42 : decode cX8_isShownNow 42 = .ok (.baload, 1) := by decide +kernel
theorem dX8_isShownNow_43 : decode cX8_isShownNow 43 = .ok (.ifCond .ne 7, 3) := by decide +kernel
theorem dX8_isShownNow_46 : decode cX8_isShownNow 46 = .ok (.iconst 1, 1) := by decide +kernel
theorem dX8_isShownNow_47 : decode cX8_isShownNow 47 = .ok (.goto 4, 3) := by decide +kernel
theorem dX8_isShownNow_50 : decode cX8_isShownNow 50 = .ok (.iconst 0, 1) := by decide +kernel
theorem dX8_isShownNow_51 : decode cX8_isShownNow 51 = .ok (.ireturn, 1) := by decide +kernel
theorem dX8_isWithin_0 : decode cX8_isWithin 0 = .ok (.iload_n 1, 1) := by decide +kernel
theorem dX8_isWithin_1 : decode cX8_isWithin 1 = .ok (.istore_n 3, 1) := by decide +kernel
theorem dX8_isWithin_2 : decode cX8_isWithin 2 = .ok (.iload_n 3, 1) := by decide +kernel
theorem dX8_isWithin_3 : decode cX8_isWithin 3 = .ok (.iconst (-1), 1) := by decide +kernel
theorem dX8_isWithin_4 : decode cX8_isWithin 4 = .ok (.if_icmp .eq 20, 3) := by decide +kernel
theorem dX8_isWithin_7 : decode cX8_isWithin 7 = .ok (.iload_n 3, 1) := by decide +kernel
theorem dX8_isWithin_8 : decode cX8_isWithin 8 = .ok (.iload_n 2, 1) := by decide +kernel
theorem dX8_isWithin_9 : decode cX8_isWithin 9 = .ok (.if_icmp .ne 5, 3) := by decide +kernel
theorem dX8_isWithin_12 : decode cX8_isWithin 12 = .ok (.iconst 1, 1) := by decide +kernel
theorem dX8_isWithin_13 : decode cX8_isWithin 13 = .ok (.ireturn, 1) := by decide +kernel
theorem dX8_isWithin_14 : decode cX8_isWithin 14 = .ok (.aload_n 0, 1) := by decide +kernel
theorem dX8_isWithin_15 : decode cX8_isWithin 15 = .ok (.getfield 26, 3) := by decide +kernel
theorem dX8_isWithin_18 : decode cX8_isWithin 18 = .ok (.iload_n 3, 1) := by decide +kernel
theorem dX8_isWithin_19 : decode cX8_isWithin 19 = .ok (.iaload, 1) := by decide +kernel
theorem dX8_isWithin_20 : decode cX8_isWithin 20 = .ok (.istore_n 3, 1) := by decide +kernel
theorem dX8_isWithin_21 : decode cX8_isWithin 21 = .ok (.goto (-19), 3) := by decide +kernel
theorem dX8_isWithin_24 : decode cX8_isWithin 24 = .ok (.iconst 0, 1) := by decide +kernel
theorem dX8_isWithin_25 : decode cX8_isWithin 25 = .ok (.ireturn, 1) := by decide +kernel
theorem dX8_boundNow_0 : decode cX8_boundNow 0 = .ok (.aconst_null, 1) := by decide +kernel
theorem dX8_boundNow_1 : decode cX8_boundNow 1 = .ok (.astore 4, 2) := by decide +kernel
theorem dX8_boundNow_3 : decode cX8_boundNow 3 = .ok (.iload_n 2, 1) := by decide +kernel
theorem dX8_boundNow_4 : decode cX8_boundNow 4 = .ok (.iconst 2, 1) := by decide +kernel
theorem dX8_boundNow_5 : decode cX8_boundNow 5 = .ok (.irem, 1) := by decide +kernel
theorem dX8_boundNow_6 : decode cX8_boundNow 6 = .ok (.istore 5, 2) := by decide +kernel
theorem dX8_boundNow_8 : decode cX8_boundNow 8 = .ok (.iconst 1, 1) := by decide +kernel
theorem dX8_boundNow_9 : decode cX8_boundNow 9 = .ok (.istore 6, 2) := by decide +kernel
theorem dX8_boundNow_11 : decode cX8_boundNow 11 = .ok (.iload 6, 2) := by decide +kernel
theorem dX8_boundNow_13 : decode cX8_boundNow 13 = .ok (.aload_n 0, 1) := by decide +kernel
theorem dX8_boundNow_14 : decode cX8_boundNow 14 = .ok (.getfield 7, 3) := by decide +kernel
theorem dX8_boundNow_17 : decode cX8_boundNow 17 = .ok (.if_icmp .ge 200, 3) := by decide +kernel
theorem dX8_boundNow_20 : decode cX8_boundNow 20 = .ok (.aload_n 0, 1) := by decide +kernel
theorem dX8_boundNow_21 : decode cX8_boundNow 21 = .ok (.getfield 13, 3) := by decide +kernel
theorem dX8_boundNow_24 : decode cX8_boundNow 24 = .ok (.iload 6, 2) := by decide +kernel
theorem dX8_boundNow_26 : decode cX8_boundNow 26 = .ok (.baload, 1) := by decide +kernel
theorem dX8_boundNow_27 : decode cX8_boundNow 27 = .ok (.ifCond .ne 184, 3) := by decide +kernel
theorem dX8_boundNow_30 : decode cX8_boundNow 30 = .ok (.aload_n 0, 1) := by decide +kernel
theorem dX8_boundNow_31 : decode cX8_boundNow 31 = .ok (.getfield 30, 3) := by decide +kernel
theorem dX8_boundNow_34 : decode cX8_boundNow 34 = .ok (.iload 6, 2) := by decide +kernel
theorem dX8_boundNow_36 : decode cX8_boundNow 36 = .ok (.iaload, 1) := by decide +kernel
theorem dX8_boundNow_37 : decode cX8_boundNow 37 = .ok (.ifCond .eq 174, 3) := by decide +kernel
theorem dX8_boundNow_40 : decode cX8_boundNow 40 = .ok (.aload_n 0, 1) := by decide +kernel
theorem dX8_boundNow_41 : decode cX8_boundNow 41 = .ok (.iload 6, 2) := by decide +kernel
theorem dX8_boundNow_43 : decode cX8_boundNow 43 = .ok (.iload_n 1, 1) := by decide +kernel
theorem dX8_boundNow_44 : decode cX8_boundNow 44 = .ok (.invokevirtual 99, 3) := by decide +kernel
theorem dX8_boundNow_47 : decode cX8_boundNow 47 = .ok (.ifCond .eq 164, 3) := by decide +kernel
theorem dX8_boundNow_50 : decode cX8_boundNow 50 = .ok (.aload_n 0, 1) := by decide +kernel
theorem dX8_boundNow_51 : decode cX8_boundNow 51 = .ok (.iload 6, 2) := by decide +kernel
theorem dX8_boundNow_53 : decode cX8_boundNow 53 = .ok (.invokevirtual 206, 3) := by decide +kernel
theorem dX8_boundNow_56 : decode cX8_boundNow 56 = .ok (.ifCond .ne 6, 3) := by decide +kernel
theorem dX8_boundNow_59 : decode cX8_boundNow 59 = .ok (.goto 152, 3) := by decide +kernel
theorem dX8_boundNow_62 : decode cX8_boundNow 62 = .ok (.iconst 0, 1) := by decide +kernel
theorem dX8_boundNow_63 : decode cX8_boundNow 63 = .ok (.istore 7, 2) := by decide +kernel
theorem dX8_boundNow_65 : decode cX8_boundNow 65 = .ok (.iload 7, 2) := by decide +kernel
theorem dX8_boundNow_67 : decode cX8_boundNow 67 = .ok (.aload_n 0, 1) := by decide +kernel
theorem dX8_boundNow_68 : decode cX8_boundNow 68 = .ok (.getfield 30, 3) := by decide +kernel
theorem dX8_boundNow_71 : decode cX8_boundNow 71 = .ok (.iload 6, 2) := by decide +kernel
theorem dX8_boundNow_73 : decode cX8_boundNow 73 = .ok (.iaload, 1) := by decide +kernel
theorem dX8_boundNow_74 : decode cX8_boundNow 74 = .ok (.iconst 2, 1) := by decide +kernel
theorem dX8_boundNow_75 : decode cX8_boundNow 75 = .ok (.if_icmp .ne 7, 3) := by decide +kernel
theorem dX8_boundNow_78 : decode cX8_boundNow 78 = .ok (.iconst 3, 1) := by decide +kernel
theorem dX8_boundNow_79 : decode cX8_boundNow 79 = .ok (.goto 4, 3) := by decide +kernel
theorem dX8_boundNow_82 : decode cX8_boundNow 82 = .ok (.iconst 4, 1) := by decide +kernel
theorem dX8_boundNow_83 : decode cX8_boundNow 83 = .ok (.if_icmp .ge 128, 3) := by decide +kernel
theorem dX8_boundNow_86 : decode cX8_boundNow 86 = .ok (.iload 7, 2) := by decide +kernel
theorem dX8_boundNow_88 : decode cX8_boundNow 88 = .ok (.iconst 1, 1) := by decide +kernel
theorem dX8_boundNow_89 : decode cX8_boundNow 89 = .ok (.if_icmp .eq 9, 3) := by decide +kernel
theorem dX8_boundNow_92 : decode cX8_boundNow 92 = .ok (.iload 7, 2) := by decide +kernel
theorem dX8_boundNow_94 : decode cX8_boundNow 94 = .ok (.iconst 3, 1) := by decide +kernel
theorem dX8_boundNow_95 : decode cX8_boundNow 95 = .ok (.if_icmp .ne 14, 3) := by decide +kernel
theorem dX8_boundNow_98 : decode cX8_boundNow 98 = .ok (.aload_n 0, 1) := by decide +kernel
theorem dX8_boundNow_99 : decode cX8_boundNow 99 = .ok (.getfield 33, 3) := by decide +kernel
theorem dX8_boundNow_102 : decode cX8_boundNow 102 = .ok (.iload 6, 2) := by decide +kernel
theorem dX8_boundNow_104 : decode cX8_boundNow 104 = .ok (.iaload, 1) := by decide +kernel
theorem dX8_boundNow_105 : decode cX8_boundNow 105 = .ok (.i2l, 1) := by decide +kernel
theorem dX8_boundNow_106 : decode cX8_boundNow 106 = .ok (.goto 4, 3) := by decide +kernel
theorem dX8_boundNow_109 : decode cX8_boundNow 109 = .ok (.lconst 0, 1) := by decide +kernel
theorem dX8_boundNow_110 : decode cX8_boundNow 110 = .ok (.iload 7, 2) := by decide +kernel
theorem dX8_boundNow_112 : decode cX8_boundNow 112 = .ok (.iconst 1, 1) := by decide +kernel
theorem dX8_boundNow_113 : decode cX8_boundNow 113 = .ok (.if_icmp .le 14, 3) := by decide +kernel
theorem dX8_boundNow_116 : decode cX8_boundNow 116 = .ok (.aload_n 0, 1) := by decide +kernel
theorem dX8_boundNow_117 : decode cX8_boundNow 117 = .ok (.getfield 36, 3) := by decide +kernel
theorem dX8_boundNow_120 : decode cX8_boundNow 120 = .ok (.iload 6, 2) := by decide +kernel
theorem dX8_boundNow_122 : decode cX8_boundNow 122 = .ok (.iaload, 1) := by decide +kernel
theorem dX8_boundNow_123 : decode cX8_boundNow 123 = .ok (.i2l, 1) := by decide +kernel
theorem dX8_boundNow_124 : decode cX8_boundNow 124 = .ok (.goto 4, 3) := by decide +kernel
theorem dX8_boundNow_127 : decode cX8_boundNow 127 = .ok (.lconst 0, 1) := by decide +kernel
theorem dX8_boundNow_128 : decode cX8_boundNow 128 = .ok (.lconst 1, 1) := by decide +kernel
theorem dX8_boundNow_129 : decode cX8_boundNow 129 = .ok (.invokestatic 184, 3) := by decide +kernel
theorem dX8_boundNow_132 : decode cX8_boundNow 132 = .ok (.astore 8, 2) := by decide +kernel
theorem dX8_boundNow_134 : decode cX8_boundNow 134 = .ok (.aload_n 0, 1) := by decide +kernel
theorem dX8_boundNow_135 : decode cX8_boundNow 135 = .ok (.iload 6, 2) := by decide +kernel
theorem dX8_boundNow_137 : decode cX8_boundNow 137 = .ok (.aload 8, 2) := by decide +kernel
theorem dX8_boundNow_139 : decode cX8_boundNow 139 = .ok (.invokevirtual 188, 3) := by decide +kernel
theorem dX8_boundNow_142 : decode cX8_boundNow 142 = .ok (.aload 4, 2) := by decide +kernel
theorem dX8_boundNow_144 : decode cX8_boundNow 144 = .ok (.ifnonnull 7, 3) := by decide +kernel
theorem dX8_boundNow_147 : decode cX8_boundNow 147 = .ok (.lconst 0, 1) := by decide +kernel
theorem dX8_boundNow_148 : decode cX8_boundNow 148 = .ok (.goto 24, 3) := by decide +kernel
theorem dX8_boundNow_151 : decode cX8_boundNow 151 = .ok (.aload 8, 2) := by decide +kernel
theorem dX8_boundNow_153 : decode cX8_boundNow 153 = .ok (.iload 5, 2) := by decide +kernel
theorem dX8_boundNow_155 : decode cX8_boundNow 155 = .ok (.laload, 1) := by decide +kernel
theorem dX8_boundNow_156 : decode cX8_boundNow 156 = .ok (.aload 4, 2) := by decide +kernel
theorem dX8_boundNow_158 : decode cX8_boundNow 158 = .ok (.iconst 2, 1) := by decide +kernel
theorem dX8_boundNow_159 : decode cX8_boundNow 159 = .ok (.laload, 1) := by decide +kernel
theorem dX8_boundNow_160 : decode cX8_boundNow 160 = .ok (.lmul, 1) := by decide +kernel
theorem dX8_boundNow_161 : decode cX8_boundNow 161 = .ok (.aload 4, 2) := by decide +kernel
theorem dX8_boundNow_163 : decode cX8_boundNow 163 = .ok (.iload 5, 2) := by decide +kernel
theorem dX8_boundNow_165 : decode cX8_boundNow 165 = .ok (.laload, 1) := by decide +kernel
theorem dX8_boundNow_166 : decode cX8_boundNow 166 = .ok (.aload 8, 2) := by decide +kernel
theorem dX8_boundNow_168 : decode cX8_boundNow 168 = .ok (.iconst 2, 1) := by decide +kernel
theorem dX8_boundNow_169 : decode cX8_boundNow 169 = .ok (.laload, 1) := by decide +kernel
theorem dX8_boundNow_170 : decode cX8_boundNow 170 = .ok (.lmul, 1) := by decide +kernel
theorem dX8_boundNow_171 : decode cX8_boundNow 171 = .ok (.lsub, 1) := by decide +kernel
theorem dX8_boundNow_172 : decode cX8_boundNow 172 = .ok (.lstore 9, 2) := by decide +kernel
theorem dX8_boundNow_174 : decode cX8_boundNow 174 = .ok (.aload 4, 2) := by decide +kernel
theorem dX8_boundNow_176 : decode cX8_boundNow 176 = .ok (.ifnull 25, 3) := by decide +kernel
theorem dX8_boundNow_179 : decode cX8_boundNow 179 = .ok (.iload_n 2, 1) := by decide +kernel
theorem dX8_boundNow_180 : decode cX8_boundNow 180 = .ok (.iconst 2, 1) := by decide +kernel
theorem dX8_boundNow_181 : decode cX8_boundNow 181 = .ok (.if_icmp .ge 13, 3) := by decide +kernel
theorem dX8_boundNow_184 : decode cX8_boundNow 184 = .ok (.lload 9, 2) := by decide +kernel
theorem dX8_boundNow_186 : decode cX8_boundNow 186 = .ok (.lconst 0, 1) := by decide +kernel
theorem dX8_boundNow_187 : decode cX8_boundNow 187 = .ok (.lcmp, 1) := by decide +kernel
theorem dX8_boundNow_188 : decode cX8_boundNow 188 = .ok (.ifCond .ge 17, 3) := by decide +kernel
theorem dX8_boundNow_191 : decode cX8_boundNow 191 = .ok (.goto 10, 3) := by decide +kernel
theorem dX8_boundNow_194 : decode cX8_boundNow 194 = .ok (.lload 9, 2) := by decide +kernel
theorem dX8_boundNow_196 : decode cX8_boundNow 196 = .ok (.lconst 0, 1) := by decide +kernel
theorem dX8_boundNow_197 : decode cX8_boundNow 197 = .ok (.lcmp, 1) := by decide +kernel
theorem dX8_boundNow_198 : decode cX8_boundNow 198 = .ok (.ifCond .le 7, 3) := by decide +kernel
theorem dX8_boundNow_201 : decode cX8_boundNow 201 = .ok (.aload 8, 2) := by decide +kernel
theorem dX8_boundNow_203 : decode cX8_boundNow 203 = .ok (.astore 4, 2) := by decide +kernel
theorem dX8_boundNow_205 : decode cX8_boundNow 205 = .ok (.iinc 7 1, 3) := by decide +kernel
theorem dX8_boundNow_208 : decode cX8_boundNow 208 = .ok (.goto (-143), 3) := by decide +kernel
theorem dX8_boundNow_211 : decode cX8_boundNow 211 = .ok (.iinc 6 1, 3) := by decide +kernel
theorem dX8_boundNow_214 : decode cX8_boundNow 214 = .ok (.goto (-203), 3) := by decide +kernel
theorem dX8_boundNow_217 : decode cX8_boundNow 217 = .ok (.aload 4, 2) := by decide +kernel
theorem dX8_boundNow_219 : decode cX8_boundNow 219 = .ok (.ifnonnull 7, 3) := by decide +kernel
theorem dX8_boundNow_222 : decode cX8_boundNow 222 = .ok (.iconst 0, 1) := by decide +kernel
theorem dX8_boundNow_223 : decode cX8_boundNow 223 = .ok (.goto 22, 3) := by decide +kernel
theorem dX8_boundNow_226 : decode cX8_boundNow 226 = .ok (.aload 4, 2) := by decide +kernel
theorem dX8_boundNow_228 : decode cX8_boundNow 228 = .ok (.iload 5, 2) := by decide +kernel
theorem dX8_boundNow_230 : decode cX8_boundNow 230 = .ok (.iconst 2, 1) := by decide +kernel
theorem dX8_boundNow_231 : decode cX8_boundNow 231 = .ok (.imul, 1) := by decide +kernel
theorem dX8_boundNow_232 : decode cX8_boundNow 232 = .ok (.iload_n 3, 1) := by decide +kernel
theorem dX8_boundNow_233 : decode cX8_boundNow 233 = .ok (.ifCond .eq 7, 3) := by decide +kernel
theorem dX8_boundNow_236 : decode cX8_boundNow 236 = .ok (.iconst 1, 1) := by decide +kernel
theorem dX8_boundNow_237 : decode cX8_boundNow 237 = .ok (.goto 4, 3) := by decide +kernel
theorem dX8_boundNow_240 : decode cX8_boundNow 240 = .ok (.iconst 0, 1) := by decide +kernel
theorem dX8_boundNow_241 : decode cX8_boundNow 241 = .ok (.iadd, 1) := by decide +kernel
theorem dX8_boundNow_242 : decode cX8_boundNow 242 = .ok (.invokestatic 191, 3) := by decide +kernel
theorem dX8_boundNow_245 : decode cX8_boundNow 245 = .ok (.ireturn, 1) := by decide +kernel
theorem dX8_bound_0 : decode cX8_bound 0 = .ok (.aload_n 0, 1) := by decide +kernel
theorem dX8_bound_1 : decode cX8_bound 1 = .ok (.iconst 0, 1) := by decide +kernel
theorem dX8_bound_2 : decode cX8_bound 2 = .ok (.putfield 81, 3) := by decide +kernel
theorem dX8_bound_5 : decode cX8_bound 5 = .ok (.aload_n 0, 1) := by decide +kernel
theorem dX8_bound_6 : decode cX8_bound 6 = .ok (.iload_n 1, 1) := by decide +kernel
theorem dX8_bound_7 : decode cX8_bound 7 = .ok (.invokevirtual 88, 3) := by decide +kernel
theorem dX8_bound_10 : decode cX8_bound 10 = .ok (.ifCond .ne 9, 3) := by decide +kernel
theorem dX8_bound_13 : decode cX8_bound 13 = .ok (.aload_n 0, 1) := by decide +kernel
theorem dX8_bound_14 : decode cX8_bound 14 = .ok (.iconst 1, 1) := by decide +kernel
theorem dX8_bound_15 : decode cX8_bound 15 = .ok (.invokevirtual 92, 3) := by decide +kernel
theorem dX8_bound_18 : decode cX8_bound 18 = .ok (.ireturn, 1) := by decide +kernel
theorem dX8_bound_19 : decode cX8_bound 19 = .ok (.iload_n 2, 1) := by decide +kernel
theorem dX8_bound_20 : decode cX8_bound 20 = .ok (.iconst 0, 1) := by decide +kernel
theorem dX8_bound_21 : decode cX8_bound 21 = .ok (.iconst 3, 1) := by decide +kernel
theorem dX8_bound_22 : decode cX8_bound 22 = .ok (.invokestatic 84, 3) := by decide +kernel
theorem dX8_bound_25 : decode cX8_bound 25 = .ok (.ifCond .eq 13, 3) := by decide +kernel
theorem dX8_bound_28 : decode cX8_bound 28 = .ok (.aload_n 0, 1) := by decide +kernel
theorem dX8_bound_29 : decode cX8_bound 29 = .ok (.iload_n 1, 1) := by decide +kernel
theorem dX8_bound_30 : decode cX8_bound 30 = .ok (.iload_n 2, 1) := by decide +kernel
theorem dX8_bound_31 : decode cX8_bound 31 = .ok (.iload_n 3, 1) := by decide +kernel
theorem dX8_bound_32 : decode cX8_bound 32 = .ok (.invokevirtual 209, 3) := by decide +kernel
theorem dX8_bound_35 : decode cX8_bound 35 = .ok (.goto 8, 3) := by decide +kernel
theorem dX8_bound_38 : decode cX8_bound 38 = .ok (.aload_n 0, 1) := by decide +kernel
theorem dX8_bound_39 : decode cX8_bound 39 = .ok (.iconst 2, 1) := by decide +kernel
theorem dX8_bound_40 : decode cX8_bound 40 = .ok (.invokevirtual 92, 3) := by decide +kernel
theorem dX8_bound_43 : decode cX8_bound 43 = .ok (.ireturn, 1) := by decide +kernel
theorem dX8_isOther_0 : decode cX8_isOther 0 = .ok (.iconst 0, 1) := by decide +kernel
theorem dX8_isOther_1 : decode cX8_isOther 1 = .ok (.istore 4, 2) := by decide +kernel
theorem dX8_isOther_3 : decode cX8_isOther 3 = .ok (.iload 4, 2) := by decide +kernel
theorem dX8_isOther_5 : decode cX8_isOther 5 = .ok (.iconst 4, 1) := by decide +kernel
theorem dX8_isOther_6 : decode cX8_isOther 6 = .ok (.if_icmp .ge 30, 3) := by decide +kernel
theorem dX8_isOther_9 : decode cX8_isOther 9 = .ok (.aload_n 0, 1) := by decide +kernel
theorem dX8_isOther_10 : decode cX8_isOther 10 = .ok (.iload_n 1, 1) := by decide +kernel
theorem dX8_isOther_11 : decode cX8_isOther 11 = .ok (.iload 4, 2) := by decide +kernel
theorem dX8_isOther_13 : decode cX8_isOther 13 = .ok (.iload_n 2, 1) := by decide +kernel
theorem dX8_isOther_14 : decode cX8_isOther 14 = .ok (.invokevirtual 160, 3) := by decide +kernel
theorem dX8_isOther_17 : decode cX8_isOther 17 = .ok (.aload_n 0, 1) := by decide +kernel
theorem dX8_isOther_18 : decode cX8_isOther 18 = .ok (.iload_n 1, 1) := by decide +kernel
theorem dX8_isOther_19 : decode cX8_isOther 19 = .ok (.iload 4, 2) := by decide +kernel
theorem dX8_isOther_21 : decode cX8_isOther 21 = .ok (.iload_n 3, 1) := by decide +kernel
theorem dX8_isOther_22 : decode cX8_isOther 22 = .ok (.invokevirtual 160, 3) := by decide +kernel
theorem dX8_isOther_25 : decode cX8_isOther 25 = .ok (.if_icmp .eq 5, 3) := by decide +kernel
theorem dX8_isOther_28 : decode cX8_isOther 28 = .ok (.iconst 1, 1) := by decide +kernel
theorem dX8_isOther_29 : decode cX8_isOther 29 = .ok (.ireturn, 1) := by decide +kernel
theorem dX8_isOther_30 : decode cX8_isOther 30 = .ok (.iinc 4 1, 3) := by decide +kernel
theorem dX8_isOther_33 : decode cX8_isOther 33 = .ok (.goto (-30), 3) := by decide +kernel
theorem dX8_isOther_36 : decode cX8_isOther 36 = .ok (.aload_n 0, 1) := by decide +kernel
theorem dX8_isOther_37 : decode cX8_isOther 37 = .ok (.getfield 26, 3) := by decide +kernel
theorem dX8_isOther_40 : decode cX8_isOther 40 = .ok (.iload_n 1, 1) := by decide +kernel
theorem dX8_isOther_41 : decode cX8_isOther 41 = .ok (.iaload, 1) := by decide +kernel
theorem dX8_isOther_42 : decode cX8_isOther 42 = .ok (.iconst (-1), 1) := by decide +kernel
theorem dX8_isOther_43 : decode cX8_isOther 43 = .ok (.if_icmp .eq 22, 3) := by decide +kernel
theorem dX8_isOther_46 : decode cX8_isOther 46 = .ok (.aload_n 0, 1) := by decide +kernel
theorem dX8_isOther_47 : decode cX8_isOther 47 = .ok (.aload_n 0, 1) := by decide +kernel
theorem dX8_isOther_48 : decode cX8_isOther 48 = .ok (.getfield 26, 3) := by decide +kernel
theorem dX8_isOther_51 : decode cX8_isOther 51 = .ok (.iload_n 1, 1) := by decide +kernel
theorem dX8_isOther_52 : decode cX8_isOther 52 = .ok (.iaload, 1) := by decide +kernel
theorem dX8_isOther_53 : decode cX8_isOther 53 = .ok (.iload_n 2, 1) := by decide +kernel
theorem dX8_isOther_54 : decode cX8_isOther 54 = .ok (.iload_n 3, 1) := by decide +kernel
theorem dX8_isOther_55 : decode cX8_isOther 55 = .ok (.invokevirtual 241, 3) := by decide +kernel
theorem dX8_isOther_58 : decode cX8_isOther 58 = .ok (.ifCond .eq 7, 3) := by decide +kernel
theorem dX8_isOther_61 : decode cX8_isOther 61 = .ok (.iconst 1, 1) := by decide +kernel
theorem dX8_isOther_62 : decode cX8_isOther 62 = .ok (.goto 4, 3) := by decide +kernel
theorem dX8_isOther_65 : decode cX8_isOther 65 = .ok (.iconst 0, 1) := by decide +kernel
theorem dX8_isOther_66 : decode cX8_isOther 66 = .ok (.ireturn, 1) := by decide +kernel
theorem dX8_changesNow_0 : decode cX8_changesNow 0 = .ok (.iconst 0, 1) := by decide +kernel
theorem dX8_changesNow_1 : decode cX8_changesNow 1 = .ok (.istore_n 3, 1) := by decide +kernel
theorem dX8_changesNow_2 : decode cX8_changesNow 2 = .ok (.iconst 0, 1) := by decide +kernel
theorem dX8_changesNow_3 : decode cX8_changesNow 3 = .ok (.istore 4, 2) := by decide +kernel
theorem dX8_changesNow_5 : decode cX8_changesNow 5 = .ok (.iload 4, 2) := by decide +kernel
theorem dX8_changesNow_7 : decode cX8_changesNow 7 = .ok (.aload_n 0, 1) := by decide +kernel
theorem dX8_changesNow_8 : decode cX8_changesNow 8 = .ok (.getfield 7, 3) := by decide +kernel
theorem dX8_changesNow_11 : decode cX8_changesNow 11 = .ok (.if_icmp .ge 38, 3) := by decide +kernel
theorem dX8_changesNow_14 : decode cX8_changesNow 14 = .ok (.iload_n 3, 1) := by decide +kernel
theorem dX8_changesNow_15 : decode cX8_changesNow 15 = .ok (.aload_n 0, 1) := by decide +kernel
theorem dX8_changesNow_16 : decode cX8_changesNow 16 = .ok (.getfield 13, 3) := by decide +kernel
theorem dX8_changesNow_19 : decode cX8_changesNow 19 = .ok (.iload 4, 2) := by decide +kernel
theorem dX8_changesNow_21 : decode cX8_changesNow 21 = .ok (.baload, 1) := by decide +kernel
theorem dX8_changesNow_22 : decode cX8_changesNow 22 = .ok (.ifCond .ne 18, 3) := by decide +kernel
theorem dX8_changesNow_25 : decode cX8_changesNow 25 = .ok (.aload_n 0, 1) := by decide +kernel
theorem dX8_changesNow_26 : decode cX8_changesNow 26 = .ok (.iload 4, 2) := by decide +kernel
theorem dX8_changesNow_28 : decode cX8_changesNow 28 = .ok (.iload_n 1, 1) := by decide +kernel
theorem dX8_changesNow_29 : decode cX8_changesNow 29 = .ok (.iload_n 2, 1) := by decide +kernel
theorem dX8_changesNow_30 : decode cX8_changesNow 30 = .ok (.invokevirtual 241, 3) := by decide +kernel
theorem dX8_changesNow_33 : decode cX8_changesNow 33 = .ok (.ifCond .eq 7, 3) := by decide +kernel
theorem dX8_changesNow_36 : decode cX8_changesNow 36 = .ok (.iconst 1, 1) := by decide +kernel
theorem dX8_changesNow_37 : decode cX8_changesNow 37 = .ok (.goto 4, 3) := by decide +kernel
theorem dX8_changesNow_40 : decode cX8_changesNow 40 = .ok (.iconst 0, 1) := by decide +kernel
theorem dX8_changesNow_41 : decode cX8_changesNow 41 = .ok (.iadd, 1) := by decide +kernel
theorem dX8_changesNow_42 : decode cX8_changesNow 42 = .ok (.istore_n 3, 1) := by decide +kernel
theorem dX8_changesNow_43 : decode cX8_changesNow 43 = .ok (.iinc 4 1, 3) := by decide +kernel
theorem dX8_changesNow_46 : decode cX8_changesNow 46 = .ok (.goto (-41), 3) := by decide +kernel
theorem dX8_changesNow_49 : decode cX8_changesNow 49 = .ok (.iload_n 3, 1) := by decide +kernel
theorem dX8_changesNow_50 : decode cX8_changesNow 50 = .ok (.ireturn, 1) := by decide +kernel
theorem dX8_changes_0 : decode cX8_changes 0 = .ok (.aload_n 0, 1) := by decide +kernel
theorem dX8_changes_1 : decode cX8_changes 1 = .ok (.iconst 0, 1) := by decide +kernel
theorem dX8_changes_2 : decode cX8_changes 2 = .ok (.putfield 81, 3) := by decide +kernel
theorem dX8_changes_5 : decode cX8_changes 5 = .ok (.iload_n 1, 1) := by decide +kernel
theorem dX8_changes_6 : decode cX8_changes 6 = .ok (.iconst 0, 1) := by decide +kernel
theorem dX8_changes_7 : decode cX8_changes 7 = .ok (.sipush 9999, 3) := by decide +kernel
theorem dX8_changes_10 : decode cX8_changes 10 = .ok (.invokestatic 84, 3) := by decide +kernel
theorem dX8_changes_13 : decode cX8_changes 13 = .ok (.ifCond .eq 23, 3) := by decide +kernel
theorem dX8_changes_16 : decode cX8_changes 16 = .ok (.iload_n 2, 1) := by decide +kernel
theorem dX8_changes_17 : decode cX8_changes 17 = .ok (.iconst 0, 1) := by decide +kernel
theorem dX8_changes_18 : decode cX8_changes 18 = .ok (.sipush 9999, 3) := by decide +kernel
theorem dX8_changes_21 : decode cX8_changes 21 = .ok (.invokestatic 84, 3) := by decide +kernel
theorem dX8_changes_24 : decode cX8_changes 24 = .ok (.ifCond .eq 12, 3) := by decide +kernel
theorem dX8_changes_27 : decode cX8_changes 27 = .ok (.aload_n 0, 1) := by decide +kernel
theorem dX8_changes_28 : decode cX8_changes 28 = .ok (.iload_n 1, 1) := by decide +kernel
theorem dX8_changes_29 : decode cX8_changes 29 = .ok (.iload_n 2, 1) := by decide +kernel
theorem dX8_changes_30 : decode cX8_changes 30 = .ok (.invokevirtual 244, 3) := by decide +kernel
theorem dX8_changes_33 : decode cX8_changes 33 = .ok (.goto 8, 3) := by decide +kernel
theorem dX8_changes_36 : decode cX8_changes 36 = .ok (.aload_n 0, 1) := by decide +kernel
theorem dX8_changes_37 : decode cX8_changes 37 = .ok (.iconst 1, 1) := by decide +kernel
theorem dX8_changes_38 : decode cX8_changes 38 = .ok (.invokevirtual 92, 3) := by decide +kernel
theorem dX8_changes_41 : decode cX8_changes 41 = .ok (.ireturn, 1) := by decide +kernel
theorem dX8_common_0 : decode cX8_common 0 = .ok (.aload_n 0, 1) := by decide +kernel
theorem dX8_common_1 : decode cX8_common 1 = .ok (.iconst 0, 1) := by decide +kernel
theorem dX8_common_2 : decode cX8_common 2 = .ok (.putfield 81, 3) := by decide +kernel
theorem dX8_common_5 : decode cX8_common 5 = .ok (.aload_n 0, 1) := by decide +kernel
theorem dX8_common_6 : decode cX8_common 6 = .ok (.iload_n 1, 1) := by decide +kernel
theorem dX8_common_7 : decode cX8_common 7 = .ok (.invokevirtual 88, 3) := by decide +kernel
theorem dX8_common_10 : decode cX8_common 10 = .ok (.ifCond .eq 11, 3) := by decide +kernel
theorem dX8_common_13 : decode cX8_common 13 = .ok (.aload_n 0, 1) := by decide +kernel
theorem dX8_common_14 : decode cX8_common 14 = .ok (.iload_n 2, 1) := by decide +kernel
theorem dX8_common_15 : decode cX8_common 15 = .ok (.invokevirtual 88, 3) := by decide +kernel
theorem dX8_common_18 : decode cX8_common 18 = .ok (.ifCond .ne 9, 3) := by decide +kernel
theorem dX8_common_21 : decode cX8_common 21 = .ok (.aload_n 0, 1) := by decide +kernel
theorem dX8_common_22 : decode cX8_common 22 = .ok (.iconst 1, 1) := by decide +kernel
theorem dX8_common_23 : decode cX8_common 23 = .ok (.invokevirtual 92, 3) := by decide +kernel
theorem dX8_common_26 : decode cX8_common 26 = .ok (.ireturn, 1) := by decide +kernel
theorem dX8_common_27 : decode cX8_common 27 = .ok (.iload_n 1, 1) := by decide +kernel
theorem dX8_common_28 : decode cX8_common 28 = .ok (.istore_n 3, 1) := by decide +kernel
theorem dX8_common_29 : decode cX8_common 29 = .ok (.aload_n 0, 1) := by decide +kernel
theorem dX8_common_30 : decode cX8_common 30 = .ok (.iload_n 2, 1) := by decide +kernel
theorem dX8_common_31 : decode cX8_common 31 = .ok (.iload_n 3, 1) := by decide +kernel
theorem dX8_common_32 : decode cX8_common 32 = .ok (.invokevirtual 99, 3) := by decide +kernel
theorem dX8_common_35 : decode cX8_common 35 = .ok (.ifCond .ne 13, 3) := by decide +kernel
theorem dX8_common_38 : decode cX8_common 38 = .ok (.aload_n 0, 1) := by decide +kernel
theorem dX8_common_39 : decode cX8_common 39 = .ok (.getfield 26, 3) := by decide +kernel
theorem dX8_common_42 : decode cX8_common 42 = .ok (.iload_n 3, 1) := by decide +kernel
theorem dX8_common_43 : decode cX8_common 43 = .ok (.iaload, 1) := by decide +kernel
theorem dX8_common_44 : decode cX8_common 44 = .ok (.istore_n 3, 1) := by decide +kernel
theorem dX8_common_45 : decode cX8_common 45 = .ok (.goto (-16), 3) := by decide +kernel
theorem dX8_common_48 : decode cX8_common 48 = .ok (.iload_n 3, 1) := by decide +kernel
theorem dX8_common_49 : decode cX8_common 49 = .ok (.ireturn, 1) := by decide +kernel
theorem dX8_coversNow_0 : decode cX8_coversNow 0 = .ok (.aload_n 0, 1) := by decide +kernel
theorem dX8_coversNow_1 : decode cX8_coversNow 1 = .ok (.getfield 30, 3) := by decide +kernel
theorem dX8_coversNow_4 : decode cX8_coversNow 4 = .ok (.iload_n 1, 1) := by decide +kernel
theorem dX8_coversNow_5 : decode cX8_coversNow 5 = .ok (.iaload, 1) := by decide +kernel
theorem dX8_coversNow_6 : decode cX8_coversNow 6 = .ok (.ifCond .eq 11, 3) := by decide +kernel
theorem dX8_coversNow_9 : decode cX8_coversNow 9 = .ok (.aload_n 0, 1) := by decide +kernel
theorem dX8_coversNow_10 : decode cX8_coversNow 10 = .ok (.iload_n 1, 1) := by decide +kernel
theorem dX8_coversNow_11 : decode cX8_coversNow 11 = .ok (.invokevirtual 206, 3) := by decide +kernel
theorem dX8_coversNow_14 : decode cX8_coversNow 14 = .ok (.ifCond .ne 5, 3) := by decide +kernel
theorem dX8_coversNow_17 : decode cX8_coversNow 17 = .ok (.iconst 0, 1) := by decide +kernel
theorem dX8_coversNow_18 : decode cX8_coversNow 18 = .ok (.ireturn, 1) := by decide +kernel
theorem dX8_coversNow_19 : decode cX8_coversNow 19 = .ok (.iconst 5, 1) := by decide +kernel
theorem dX8_coversNow_20 : decode cX8_coversNow 20 = .ok (.newarray .int, 2) := by decide +kernel
theorem dX8_coversNow_22 : decode cX8_coversNow 22 = .ok (.astore 5, 2) := by decide +kernel
theorem dX8_coversNow_24 : decode cX8_coversNow 24 = .ok (.iconst 0, 1) := by decide +kernel
theorem dX8_coversNow_25 : decode cX8_coversNow 25 = .ok (.istore 6, 2) := by decide +kernel
theorem dX8_coversNow_27 : decode cX8_coversNow 27 = .ok (.iload_n 1, 1) := by decide +kernel
theorem dX8_coversNow_28 : decode cX8_coversNow 28 = .ok (.istore 7, 2) := by decide +kernel
theorem dX8_coversNow_30 : decode cX8_coversNow 30 = .ok (.iload 7, 2) := by decide +kernel
theorem dX8_coversNow_32 : decode cX8_coversNow 32 = .ok (.ifCond .eq 25, 3) := by decide +kernel
theorem dX8_coversNow_35 : decode cX8_coversNow 35 = .ok (.aload 5, 2) := by decide +kernel
theorem dX8_coversNow_37 : decode cX8_coversNow 37 = .ok (.iload 6, 2) := by decide +kernel
theorem dX8_coversNow_39 : decode cX8_coversNow 39 = .ok (.iinc 6 1, 3) := by decide +kernel
theorem dX8_coversNow_42 : decode cX8_coversNow 42 = .ok (.iload 7, 2) := by decide +kernel
theorem dX8_coversNow_44 : decode cX8_coversNow 44 = .ok (.iastore, 1) := by decide +kernel
theorem dX8_coversNow_45 : decode cX8_coversNow 45 = .ok (.aload_n 0, 1) := by decide +kernel
theorem dX8_coversNow_46 : decode cX8_coversNow 46 = .ok (.getfield 26, 3) := by decide +kernel
theorem dX8_coversNow_49 : decode cX8_coversNow 49 = .ok (.iload 7, 2) := by decide +kernel
theorem dX8_coversNow_51 : decode cX8_coversNow 51 = .ok (.iaload, 1) := by decide +kernel
theorem dX8_coversNow_52 : decode cX8_coversNow 52 = .ok (.istore 7, 2) := by decide +kernel
theorem dX8_coversNow_54 : decode cX8_coversNow 54 = .ok (.goto (-24), 3) := by decide +kernel
theorem dX8_coversNow_57 : decode cX8_coversNow 57 = .ok (.iload_n 2, 1) := by decide +kernel
theorem dX8_coversNow_58 : decode cX8_coversNow 58 = .ok (.i2l, 1) := by decide +kernel
theorem dX8_coversNow_59 : decode cX8_coversNow 59 = .ok (.iload_n 3, 1) := by decide +kernel
theorem dX8_coversNow_60 : decode cX8_coversNow 60 = .ok (.i2l, 1) := by decide +kernel
theorem dX8_coversNow_61 : decode cX8_coversNow 61 = .ok (.iload 4, 2) := by decide +kernel
theorem dX8_coversNow_63 : decode cX8_coversNow 63 = .ok (.i2l, 1) := by decide +kernel
theorem dX8_coversNow_64 : decode cX8_coversNow 64 = .ok (.invokestatic 184, 3) := by decide +kernel
theorem dX8_coversNow_67 : decode cX8_coversNow 67 = .ok (.astore 7, 2) := by decide +kernel
theorem dX8_coversNow_69 : decode cX8_coversNow 69 = .ok (.iload 6, 2) := by decide +kernel
theorem dX8_coversNow_71 : decode cX8_coversNow 71 = .ok (.ifCond .le 134, 3) := by decide +kernel
theorem dX8_coversNow_74 : decode cX8_coversNow 74 = .ok (.aload 5, 2) := by decide +kernel
theorem dX8_coversNow_76 : decode cX8_coversNow 76 = .ok (.iinc 6 (-1), 3) := by decide +kernel
theorem dX8_coversNow_79 : decode cX8_coversNow 79 = .ok (.iload 6, 2) := by decide +kernel
theorem dX8_coversNow_81 : decode cX8_coversNow 81 = .ok (.iaload, 1) := by decide +kernel
theorem dX8_coversNow_82 : decode cX8_coversNow 82 = .ok (.istore 8, 2) := by decide +kernel
theorem dX8_coversNow_84 : decode cX8_coversNow 84 = .ok (.aload_n 0, 1) := by decide +kernel
theorem dX8_coversNow_85 : decode cX8_coversNow 85 = .ok (.iload 8, 2) := by decide +kernel
theorem dX8_coversNow_87 : decode cX8_coversNow 87 = .ok (.aload 7, 2) := by decide +kernel
theorem dX8_coversNow_89 : decode cX8_coversNow 89 = .ok (.invokevirtual 177, 3) := by decide +kernel
theorem dX8_coversNow_92 : decode cX8_coversNow 92 = .ok (.aload_n 0, 1) := by decide +kernel
theorem dX8_coversNow_93 : decode cX8_coversNow 93 = .ok (.getfield 23, 3) := by decide +kernel
theorem dX8_coversNow_96 : decode cX8_coversNow 96 = .ok (.iload 8, 2) := by decide +kernel
theorem dX8_coversNow_98 : decode cX8_coversNow 98 = .ok (.baload, 1) := by decide +kernel
theorem dX8_coversNow_99 : decode cX8_coversNow 99 = .ok (.ifCond .eq 103, 3) := by decide +kernel
theorem dX8_coversNow_102 : decode cX8_coversNow 102 = .ok (.aload 7, 2) := by decide +kernel
theorem dX8_coversNow_104 : decode cX8_coversNow 104 = .ok (.iconst 0, 1) := by decide +kernel
theorem dX8_coversNow_105 : decode cX8_coversNow 105 = .ok (.laload, 1) := by decide +kernel
theorem dX8_coversNow_106 : decode cX8_coversNow 106 = .ok (.aload_n 0, 1) := by decide +kernel
theorem dX8_coversNow_107 : decode cX8_coversNow 107 = .ok (.getfield 54, 3) := by decide +kernel
theorem dX8_coversNow_110 : decode cX8_coversNow 110 = .ok (.iload 8, 2) := by decide +kernel
theorem dX8_coversNow_112 : decode cX8_coversNow 112 = .ok (.iconst 4, 1) := by decide +kernel
theorem dX8_coversNow_113 : decode cX8_coversNow 113 = .ok (.imul, 1) := by decide +kernel
theorem dX8_coversNow_114 : decode cX8_coversNow 114 = .ok (.iaload, 1) := by decide +kernel
theorem dX8_coversNow_115 : decode cX8_coversNow 115 = .ok (.i2l, 1) := by decide +kernel
theorem dX8_coversNow_116 : decode cX8_coversNow 116 = .ok (.aload 7, 2) := by decide +kernel
theorem dX8_coversNow_118 : decode cX8_coversNow 118 = .ok (.iconst 2, 1) := by decide +kernel
theorem dX8_coversNow_119 : decode cX8_coversNow 119 = .ok (.laload, 1) := by decide +kernel
theorem dX8_coversNow_120 : decode cX8_coversNow 120 = .ok (.lmul, 1) := by decide +kernel
theorem dX8_coversNow_121 : decode cX8_coversNow 121 = .ok (.lcmp, 1) := by decide +kernel
theorem dX8_coversNow_122 : decode cX8_coversNow 122 = .ok (.ifCond .lt 78, 3) := by decide +kernel
theorem dX8_coversNow_125 : decode cX8_coversNow 125 = .ok (.aload 7, 2) := by decide +kernel
theorem dX8_coversNow_127 : decode cX8_coversNow 127 = .ok (.iconst 1, 1) := by decide +kernel
theorem dX8_coversNow_128 : decode cX8_coversNow 128 = .ok (.laload, 1) := by decide +kernel
theorem dX8_coversNow_129 : decode cX8_coversNow 129 = .ok (.aload_n 0, 1) := by decide +kernel
theorem dX8_coversNow_130 : decode cX8_coversNow 130 = .ok (.getfield 54, 3) := by decide +kernel
theorem dX8_coversNow_133 : decode cX8_coversNow 133 = .ok (.iload 8, 2) := by decide +kernel
theorem dX8_coversNow_135 : decode cX8_coversNow 135 = .ok (.iconst 4, 1) := by decide +kernel
theorem dX8_coversNow_136 : decode cX8_coversNow 136 = .ok (.imul, 1) := by decide +kernel
theorem dX8_coversNow_137 : decode cX8_coversNow 137 = .ok (.iconst 1, 1) := by decide +kernel
theorem dX8_coversNow_138 : decode cX8_coversNow 138 = .ok (.iadd, 1) := by decide +kernel
theorem dX8_coversNow_139 : decode cX8_coversNow 139 = .ok (.iaload, 1) := by decide +kernel
theorem dX8_coversNow_140 : decode cX8_coversNow 140 = .ok (.i2l, 1) := by decide +kernel
theorem dX8_coversNow_141 : decode cX8_coversNow 141 = .ok (.aload 7, 2) := by decide +kernel
theorem dX8_coversNow_143 : decode cX8_coversNow 143 = .ok (.iconst 2, 1) := by decide +kernel
theorem dX8_coversNow_144 : decode cX8_coversNow 144 = .ok (.laload, 1) := by decide +kernel
theorem dX8_coversNow_145 : decode cX8_coversNow 145 = .ok (.lmul, 1) := by decide +kernel
theorem dX8_coversNow_146 : decode cX8_coversNow 146 = .ok (.lcmp, 1) := by decide +kernel
theorem dX8_coversNow_147 : decode cX8_coversNow 147 = .ok (.ifCond .lt 53, 3) := by decide +kernel
theorem dX8_coversNow_150 : decode cX8_coversNow 150 = .ok (.aload 7, 2) := by decide +kernel
theorem dX8_coversNow_152 : decode cX8_coversNow 152 = .ok (.iconst 0, 1) := by decide +kernel
theorem dX8_coversNow_153 : decode cX8_coversNow 153 = .ok (.laload, 1) := by decide +kernel
theorem dX8_coversNow_154 : decode cX8_coversNow 154 = .ok (.aload_n 0, 1) := by decide +kernel
theorem dX8_coversNow_155 : decode cX8_coversNow 155 = .ok (.getfield 54, 3) := by decide +kernel
theorem dX8_coversNow_158 : decode cX8_coversNow 158 = .ok (.iload 8, 2) := by decide +kernel
theorem dX8_coversNow_160 : decode cX8_coversNow 160 = .ok (.iconst 4, 1) := by decide +kernel
theorem dX8_coversNow_161 : decode cX8_coversNow 161 = .ok (.imul, 1) := by decide +kernel
theorem dX8_coversNow_162 : decode cX8_coversNow 162 = .ok (.iconst 2, 1) := by decide +kernel
theorem dX8_coversNow_163 : decode cX8_coversNow 163 = .ok (.iadd, 1) := by decide +kernel
theorem dX8_coversNow_164 : decode cX8_coversNow 164 = .ok (.iaload, 1) := by decide +kernel
theorem dX8_coversNow_165 : decode cX8_coversNow 165 = .ok (.i2l, 1) := by decide +kernel
theorem dX8_coversNow_166 : decode cX8_coversNow 166 = .ok (.aload 7, 2) := by decide +kernel
theorem dX8_coversNow_168 : decode cX8_coversNow 168 = .ok (.iconst 2, 1) := by decide +kernel
theorem dX8_coversNow_169 : decode cX8_coversNow 169 = .ok (.laload, 1) := by decide +kernel
theorem dX8_coversNow_170 : decode cX8_coversNow 170 = .ok (.lmul, 1) := by decide +kernel
theorem dX8_coversNow_171 : decode cX8_coversNow 171 = .ok (.lcmp, 1) := by decide +kernel
theorem dX8_coversNow_172 : decode cX8_coversNow 172 = .ok (.ifCond .gt 28, 3) := by decide +kernel
theorem dX8_coversNow_175 : decode cX8_coversNow 175 = .ok (.aload 7, 2) := by decide +kernel
theorem dX8_coversNow_177 : decode cX8_coversNow 177 = .ok (.iconst 1, 1) := by decide +kernel
theorem dX8_coversNow_178 : decode cX8_coversNow 178 = .ok (.laload, 1) := by decide +kernel
theorem dX8_coversNow_179 : decode cX8_coversNow 179 = .ok (.aload_n 0, 1) := by decide +kernel
theorem dX8_coversNow_180 : decode cX8_coversNow 180 = .ok (.getfield 54, 3) := by decide +kernel
theorem dX8_coversNow_183 : decode cX8_coversNow 183 = .ok (.iload 8, 2) := by decide +kernel
theorem dX8_coversNow_185 : decode cX8_coversNow 185 = .ok (.iconst 4, 1) := by decide +kernel
theorem dX8_coversNow_186 : decode cX8_coversNow 186 = .ok (.imul, 1) := by decide +kernel
theorem dX8_coversNow_187 : decode cX8_coversNow 187 = .ok (.iconst 3, 1) := by decide +kernel
theorem dX8_coversNow_188 : decode cX8_coversNow 188 = .ok (.iadd, 1) := by decide +kernel
theorem dX8_coversNow_189 : decode cX8_coversNow 189 = .ok (.iaload, 1) := by decide +kernel
theorem dX8_coversNow_190 : decode cX8_coversNow 190 = .ok (.i2l, 1) := by decide +kernel
theorem dX8_coversNow_191 : decode cX8_coversNow 191 = .ok (.aload 7, 2) := by decide +kernel
theorem dX8_coversNow_193 : decode cX8_coversNow 193 = .ok (.iconst 2, 1) := by decide +kernel
theorem dX8_coversNow_194 : decode cX8_coversNow 194 = .ok (.laload, 1) := by decide +kernel
theorem dX8_coversNow_195 : decode cX8_coversNow 195 = .ok (.lmul, 1) := by decide +kernel
theorem dX8_coversNow_196 : decode cX8_coversNow 196 = .ok (.lcmp, 1) := by decide +kernel
theorem dX8_coversNow_197 : decode cX8_coversNow 197 = .ok (.ifCond .le 5, 3) := by decide +kernel
theorem dX8_coversNow_200 : decode cX8_coversNow 200 = .ok (.iconst 0, 1) := by decide +kernel
theorem dX8_coversNow_201 : decode cX8_coversNow 201 = .ok (.ireturn, 1) := by decide +kernel
theorem dX8_coversNow_202 : decode cX8_coversNow 202 = .ok (.goto (-133), 3) := by decide +kernel
theorem dX8_coversNow_205 : decode cX8_coversNow 205 = .ok (.aload_n 0, 1) := by decide +kernel
theorem dX8_coversNow_206 : decode cX8_coversNow 206 = .ok (.getfield 33, 3) := by decide +kernel
theorem dX8_coversNow_209 : decode cX8_coversNow 209 = .ok (.iload_n 1, 1) := by decide +kernel
theorem dX8_coversNow_210 : decode cX8_coversNow 210 = .ok (.iaload, 1) := by decide +kernel
theorem dX8_coversNow_211 : decode cX8_coversNow 211 = .ok (.i2l, 1) := by decide +kernel
theorem dX8_coversNow_212 : decode cX8_coversNow 212 = .ok (.aload 7, 2) := by decide +kernel
theorem dX8_coversNow_214 : decode cX8_coversNow 214 = .ok (.iconst 2, 1) := by decide +kernel
theorem dX8_coversNow_215 : decode cX8_coversNow 215 = .ok (.laload, 1) := by decide +kernel
theorem dX8_coversNow_216 : decode cX8_coversNow 216 = .ok (.lmul, 1) := by decide +kernel
theorem dX8_coversNow_217 : decode cX8_coversNow 217 = .ok (.lstore 8, 2) := by decide +kernel
theorem dX8_coversNow_219 : decode cX8_coversNow 219 = .ok (.aload_n 0, 1) := by decide +kernel
theorem dX8_coversNow_220 : decode cX8_coversNow 220 = .ok (.getfield 36, 3) := by decide +kernel
theorem dX8_coversNow_223 : decode cX8_coversNow 223 = .ok (.iload_n 1, 1) := by decide +kernel
theorem dX8_coversNow_224 : decode cX8_coversNow 224 = .ok (.iaload, 1) := by decide +kernel
theorem dX8_coversNow_225 : decode cX8_coversNow 225 = .ok (.i2l, 1) := by decide +kernel
theorem dX8_coversNow_226 : decode cX8_coversNow 226 = .ok (.aload 7, 2) := by decide +kernel
theorem dX8_coversNow_228 : decode cX8_coversNow 228 = .ok (.iconst 2, 1) := by decide +kernel
theorem dX8_coversNow_229 : decode cX8_coversNow 229 = .ok (.laload, 1) := by decide +kernel
theorem dX8_coversNow_230 : decode cX8_coversNow 230 = .ok (.lmul, 1) := by decide +kernel
theorem dX8_coversNow_231 : decode cX8_coversNow 231 = .ok (.lstore 10, 2) := by decide +kernel
theorem dX8_coversNow_233 : decode cX8_coversNow 233 = .ok (.aload 7, 2) := by decide +kernel
theorem dX8_coversNow_235 : decode cX8_coversNow 235 = .ok (.iconst 0, 1) := by decide +kernel
theorem dX8_coversNow_236 : decode cX8_coversNow 236 = .ok (.laload, 1) := by decide +kernel
theorem dX8_coversNow_237 : decode cX8_coversNow 237 = .ok (.lconst 0, 1) := by decide +kernel
theorem dX8_coversNow_238 : decode cX8_coversNow 238 = .ok (.lcmp, 1) := by decide +kernel
theorem dX8_coversNow_239 : decode cX8_coversNow 239 = .ok (.ifCond .lt 32, 3) := by decide +kernel
theorem dX8_coversNow_242 : decode cX8_coversNow 242 = .ok (.aload 7, 2) := by decide +kernel
theorem dX8_coversNow_244 : decode cX8_coversNow 244 = .ok (.iconst 1, 1) := by decide +kernel
theorem dX8_coversNow_245 : decode cX8_coversNow 245 = .ok (.laload, 1) := by decide +kernel
theorem dX8_coversNow_246 : decode cX8_coversNow 246 = .ok (.lconst 0, 1) := by decide +kernel
theorem dX8_coversNow_247 : decode cX8_coversNow 247 = .ok (.lcmp, 1) := by decide +kernel
theorem dX8_coversNow_248 : decode cX8_coversNow 248 = .ok (.ifCond .lt 23, 3) := by decide +kernel
theorem dX8_coversNow_251 : decode cX8_coversNow 251 = .ok (.aload 7, 2) := by decide +kernel
theorem dX8_coversNow_253 : decode cX8_coversNow 253 = .ok (.iconst 0, 1) := by decide +kernel
theorem dX8_coversNow_254 : decode cX8_coversNow 254 = .ok (.laload, 1) := by decide +kernel
theorem dX8_coversNow_255 : decode cX8_coversNow 255 = .ok (.lload 8, 2) := by decide +kernel
theorem dX8_coversNow_257 : decode cX8_coversNow 257 = .ok (.lcmp, 1) := by decide +kernel
theorem dX8_coversNow_258 : decode cX8_coversNow 258 = .ok (.ifCond .gt 13, 3) := by decide +kernel
theorem dX8_coversNow_261 : decode cX8_coversNow 261 = .ok (.aload 7, 2) := by decide +kernel
theorem dX8_coversNow_263 : decode cX8_coversNow 263 = .ok (.iconst 1, 1) := by decide +kernel
theorem dX8_coversNow_264 : decode cX8_coversNow 264 = .ok (.laload, 1) := by decide +kernel
theorem dX8_coversNow_265 : decode cX8_coversNow 265 = .ok (.lload 10, 2) := by decide +kernel
theorem dX8_coversNow_267 : decode cX8_coversNow 267 = .ok (.lcmp, 1) := by decide +kernel
theorem dX8_coversNow_268 : decode cX8_coversNow 268 = .ok (.ifCond .le 5, 3) := by decide +kernel
theorem dX8_coversNow_271 : decode cX8_coversNow 271 = .ok (.iconst 0, 1) := by decide +kernel
theorem dX8_coversNow_272 : decode cX8_coversNow 272 = .ok (.ireturn, 1) := by decide +kernel
theorem dX8_coversNow_273 : decode cX8_coversNow 273 = .ok (.aload_n 0, 1) := by decide +kernel
theorem dX8_coversNow_274 : decode cX8_coversNow 274 = .ok (.getfield 30, 3) := by decide +kernel
theorem dX8_coversNow_277 : decode cX8_coversNow 277 = .ok (.iload_n 1, 1) := by decide +kernel
theorem dX8_coversNow_278 : decode cX8_coversNow 278 = .ok (.iaload, 1) := by decide +kernel
theorem dX8_coversNow_279 : decode cX8_coversNow 279 = .ok (.iconst 2, 1) := by decide +kernel
theorem dX8_coversNow_280 : decode cX8_coversNow 280 = .ok (.if_icmp .ne 42, 3) := by decide +kernel
theorem dX8_coversNow_283 : decode cX8_coversNow 283 = .ok (.aload 7, 2) := by decide +kernel
theorem dX8_coversNow_285 : decode cX8_coversNow 285 = .ok (.iconst 0, 1) := by decide +kernel
theorem dX8_coversNow_286 : decode cX8_coversNow 286 = .ok (.laload, 1) := by decide +kernel
theorem dX8_coversNow_287 : decode cX8_coversNow 287 = .ok (.aload_n 0, 1) := by decide +kernel
theorem dX8_coversNow_288 : decode cX8_coversNow 288 = .ok (.getfield 36, 3) := by decide +kernel
theorem dX8_coversNow_291 : decode cX8_coversNow 291 = .ok (.iload_n 1, 1) := by decide +kernel
theorem dX8_coversNow_292 : decode cX8_coversNow 292 = .ok (.iaload, 1) := by decide +kernel
theorem dX8_coversNow_293 : decode cX8_coversNow 293 = .ok (.i2l, 1) := by decide +kernel
theorem dX8_coversNow_294 : decode cX8_coversNow 294 = .ok (.lmul, 1) := by decide +kernel
theorem dX8_coversNow_295 : decode cX8_coversNow 295 = .ok (.aload 7, 2) := by decide +kernel
theorem dX8_coversNow_297 : decode cX8_coversNow 297 = .ok (.iconst 1, 1) := by decide +kernel
theorem dX8_coversNow_298 : decode cX8_coversNow 298 = .ok (.laload, 1) := by decide +kernel
theorem dX8_coversNow_299 : decode cX8_coversNow 299 = .ok (.aload_n 0, 1) := by decide +kernel
theorem dX8_coversNow_300 : decode cX8_coversNow 300 = .ok (.getfield 33, 3) := by decide +kernel
theorem dX8_coversNow_303 : decode cX8_coversNow 303 = .ok (.iload_n 1, 1) := by decide +kernel
theorem dX8_coversNow_304 : decode cX8_coversNow 304 = .ok (.iaload, 1) := by decide +kernel
theorem dX8_coversNow_305 : decode cX8_coversNow 305 = .ok (.i2l, 1) := by decide +kernel
theorem dX8_coversNow_306 : decode cX8_coversNow 306 = .ok (.lmul, 1) := by decide +kernel
theorem dX8_coversNow_307 : decode cX8_coversNow 307 = .ok (.ladd, 1) := by decide +kernel
theorem dX8_coversNow_308 : decode cX8_coversNow 308 = .ok (.aload_n 0, 1) := by decide +kernel
theorem dX8_coversNow_309 : decode cX8_coversNow 309 = .ok (.getfield 33, 3) := by decide +kernel
theorem dX8_coversNow_312 : decode cX8_coversNow 312 = .ok (.iload_n 1, 1) := by decide +kernel
theorem dX8_coversNow_313 : decode cX8_coversNow 313 = .ok (.iaload, 1) := by decide +kernel
theorem dX8_coversNow_314 : decode cX8_coversNow 314 = .ok (.i2l, 1) := by decide +kernel
theorem dX8_coversNow_315 : decode cX8_coversNow 315 = .ok (.lload 10, 2) := by decide +kernel
theorem dX8_coversNow_317 : decode cX8_coversNow 317 = .ok (.lmul, 1) := by decide +kernel
theorem dX8_coversNow_318 : decode cX8_coversNow 318 = .ok (.lcmp, 1) := by decide +kernel
theorem dX8_coversNow_319 : decode cX8_coversNow 319 = .ok (.ifCond .gt 7, 3) := by decide +kernel
theorem dX8_coversNow_322 : decode cX8_coversNow 322 = .ok (.iconst 1, 1) := by decide +kernel
theorem dX8_coversNow_323 : decode cX8_coversNow 323 = .ok (.goto 4, 3) := by decide +kernel
theorem dX8_coversNow_326 : decode cX8_coversNow 326 = .ok (.iconst 0, 1) := by decide +kernel
theorem dX8_coversNow_327 : decode cX8_coversNow 327 = .ok (.ireturn, 1) := by decide +kernel
noncomputable def f_X8_up_L62 (n : Nat) : Option Nat → Int32 → Option Nat → Int64 → Int64 → Int32 → fSt → Option (Unit × fSt) := Nat.rec (motive := fun _ => Option Nat → Int32 → Option Nat → Int64 → Int64 → Int32 → fSt → Option (Unit × fSt)) (fun _ _ _ _ _ _ _ => none) (fun _ k62 (a0 : Option Nat) (a1 : Int32) (a2 : Option Nat) (a3 : Int64) (a5 : Int64) (a7 : Int32) (h : fSt) => (if a7 ≤ 0 then (fobj h a0 8).bind fun b4 => (f_X8_has b4 a1 (0 : Int32) h).bind fun r2 => (faJ r2.2 a2 1 (2 : Int32)).bind fun x6 => (fsJ r2.2 a2 1 (0 : Int32) (a3 + ((Int32.toInt64 r2.1) * x6))).bind fun h8 => (fobj h8 a0 8).bind fun b12 => (f_X8_has b12 a1 (1 : Int32) h8).bind fun r10 => (faJ r10.2 a2 1 (2 : Int32)).bind fun x14 => (fsJ r10.2 a2 1 (1 : Int32) (a5 + ((Int32.toInt64 r10.1) * x14))).bind fun h16 => some ((), h16) else k62 a0 a1 a2 (-a5) a3 (a7 + (-1 : Int32)) h)) n
noncomputable def f_X8_up_L25 (a0 : Option Nat) (a1 : Int32) (a2 : Option Nat) (s1 : Int32) (s0 : Int64) (h : fSt) : Option (Unit × fSt) := (faJ h a2 1 (1 : Int32)).bind fun x18 => (fgR h a0 8 10).bind fun x20 => (faI h x20 0 a1).bind fun x22 => (faJ h a2 1 (2 : Int32)).bind fun x24 => (fgR h a0 8 11).bind fun x26 => (faI h x26 0 a1).bind fun x28 => (fsJ h a2 1 (2 : Int32) (x24 * (Int32.toInt64 x28))).bind fun h30 => (fobj h30 a0 8).bind fun b34 => (f_X8_has b34 a1 (2 : Int32) h30).bind fun r32 => f_X8_up_L62 4096 a0 a1 a2 (s0 * (Int32.toInt64 s1)) (x18 * (Int32.toInt64 x22)) r32.1 r32.2
noncomputable def f_X8_up_L0 (a0 : Option Nat) (a1 : Int32) (a2 : Option Nat) (h : fSt) : Option (Unit × fSt) := (faJ h a2 1 (0 : Int32)).bind fun x36 => (fgR h a0 8 10).bind fun x38 => (faI h x38 0 a1).bind fun x40 => (fgR h a0 8 3).bind fun x42 => (faI h x42 2 a1).bind fun x44 => (if x44 = 0 then f_X8_up_L25 a0 a1 a2 (1 : Int32) (x36 * (Int32.toInt64 x40)) h else f_X8_up_L25 a0 a1 a2 (-1 : Int32) (x36 * (Int32.toInt64 x40)) h)
noncomputable def f_X8_up (o : Nat) (p0 : Int32) (p1 : Option Nat) (h : fSt) : Option (Unit × fSt) := f_X8_up_L0 (some o) p0 p1 h
noncomputable def f_X8_upAll_L2 (n : Nat) : Option Nat → Option Nat → Int32 → fSt → Option (Unit × fSt) := Nat.rec (motive := fun _ => Option Nat → Option Nat → Int32 → fSt → Option (Unit × fSt)) (fun _ _ _ _ => none) (fun _ k2 (a0 : Option Nat) (a2 : Option Nat) (a3 : Int32) (h : fSt) => (if a3 = 0 then some ((), h) else (fobj h a0 8).bind fun b4 => (f_X8_up b4 a3 a2 h).bind fun r2 => (fgR r2.2 a0 8 6).bind fun x6 => (faI r2.2 x6 0 a3).bind fun x8 => k2 a0 a2 x8 r2.2)) n
noncomputable def f_X8_upAll_L0 (a0 : Option Nat) (a1 : Int32) (a2 : Option Nat) (h : fSt) : Option (Unit × fSt) := f_X8_upAll_L2 4096 a0 a2 a1 h
noncomputable def f_X8_upAll (o : Nat) (p0 : Int32) (p1 : Option Nat) (h : fSt) : Option (Unit × fSt) := f_X8_upAll_L0 (some o) p0 p1 h
noncomputable def f_X8_between_L23 (a0 : Option Nat) (a1 : Int32) (a2 : Int32) (a3 : Int32) (a4 : Int32) (a5 : Int32) (s2 : Int32) (s1 : Option Nat) (s0 : Option Nat) (h : fSt) : Option (Int32 × fSt) := (fobj h s1 8).bind fun b3 => (f_X8_asked b3 s2 a3 a4 a5 h).bind fun r1 => (fput r1.2 s0 8 0 (.int r1.1)).bind fun h5 => (fgI h5 a0 8 0).bind fun x7 => (if x7 = 0 then (f_X8_point (Int32.toInt64 a3) (Int32.toInt64 a4) (1 : Int64) h5).bind fun r10 => (fobj r10.2 a0 8).bind fun b14 => (f_X8_upAll b14 a1 r10.1 r10.2).bind fun r12 => (fobj r12.2 a0 8).bind fun b18 => (f_X8_downAll 8 b18 a2 r10.1 r12.2).bind fun r16 => (f_X8_part r10.1 a5 r16.2).bind fun r20 => some (r20.1, r20.2) else some ((0 : Int32), h5))
noncomputable def f_X8_between_L22 (a0 : Option Nat) (a1 : Int32) (a2 : Int32) (a3 : Int32) (a4 : Int32) (a5 : Int32) (s1 : Option Nat) (s0 : Option Nat) (h : fSt) : Option (Int32 × fSt) := f_X8_between_L23 a0 a1 a2 a3 a4 a5 (0 : Int32) s1 s0 h
noncomputable def f_X8_between_L0 (a0 : Option Nat) (a1 : Int32) (a2 : Int32) (a3 : Int32) (a4 : Int32) (a5 : Int32) (h : fSt) : Option (Int32 × fSt) := (fobj h a0 8).bind fun b24 => (f_X8_isNode b24 a1 h).bind fun r22 => (if r22.1 = 0 then f_X8_between_L22 a0 a1 a2 a3 a4 a5 a0 a0 r22.2 else (fobj r22.2 a0 8).bind fun b29 => (f_X8_isNode b29 a2 r22.2).bind fun r27 => (if r27.1 = 0 then f_X8_between_L22 a0 a1 a2 a3 a4 a5 a0 a0 r27.2 else f_X8_between_L23 a0 a1 a2 a3 a4 a5 (1 : Int32) a0 a0 r27.2))
noncomputable def f_X8_between (o : Nat) (p0 : Int32) (p1 : Int32) (p2 : Int32) (p3 : Int32) (p4 : Int32) (h : fSt) : Option (Int32 × fSt) := f_X8_between_L0 (some o) p0 p1 p2 p3 p4 h
noncomputable def f_X8_isShownNow_L25  (h : fSt) : Option (Int32 × fSt) := some ((0 : Int32), h)
noncomputable def f_X8_isShownNow_L51 (s0 : Int32) (h : fSt) : Option (Int32 × fSt) := if s0 = 0 ∨ s0 = 1 then some (s0, h) else none
noncomputable def f_X8_isShownNow_L2 (n : Nat) : Option Nat → Int32 → Int32 → fSt → Option (Int32 × fSt) := Nat.rec (motive := fun _ => Option Nat → Int32 → Int32 → fSt → Option (Int32 × fSt)) (fun _ _ _ _ => none) (fun _ k2 (a0 : Option Nat) (a1 : Int32) (a2 : Int32) (h : fSt) => (if a2 = (-1 : Int32) then (fgR h a0 8 2).bind fun x3 => (faI h x3 2 a1).bind fun x5 => (if x5 = 0 then f_X8_isShownNow_L51 (1 : Int32) h else f_X8_isShownNow_L51 (0 : Int32) h) else (fgR h a0 8 4).bind fun x8 => (faI h x8 2 a2).bind fun x10 => (if x10 = 0 then (fobj h a0 8).bind fun b15 => (f_X8_has b15 a2 (3 : Int32) h).bind fun r13 => (if r13.1 = 0 then f_X8_isShownNow_L25 r13.2 else (fgR r13.2 a0 8 6).bind fun x18 => (faI r13.2 x18 0 a2).bind fun x20 => k2 a0 a1 x20 r13.2) else f_X8_isShownNow_L25 h))) n
noncomputable def f_X8_isShownNow_L0 (a0 : Option Nat) (a1 : Int32) (h : fSt) : Option (Int32 × fSt) := f_X8_isShownNow_L2 4096 a0 a1 a1 h
noncomputable def f_X8_isShownNow (o : Nat) (p0 : Int32) (h : fSt) : Option (Int32 × fSt) := f_X8_isShownNow_L0 (some o) p0 h
noncomputable def f_X8_isWithin_L2 (n : Nat) : Option Nat → Int32 → Int32 → fSt → Option (Int32 × fSt) := Nat.rec (motive := fun _ => Option Nat → Int32 → Int32 → fSt → Option (Int32 × fSt)) (fun _ _ _ _ => none) (fun _ k2 (a0 : Option Nat) (a2 : Int32) (a3 : Int32) (h : fSt) => (if a3 = (-1 : Int32) then some ((0 : Int32), h) else (if a3 = a2 then some ((1 : Int32), h) else (fgR h a0 8 6).bind fun x3 => (faI h x3 0 a3).bind fun x5 => k2 a0 a2 x5 h))) n
noncomputable def f_X8_isWithin_L0 (a0 : Option Nat) (a1 : Int32) (a2 : Int32) (h : fSt) : Option (Int32 × fSt) := f_X8_isWithin_L2 4096 a0 a2 a1 h
noncomputable def f_X8_isWithin (o : Nat) (p0 : Int32) (p1 : Int32) (h : fSt) : Option (Int32 × fSt) := f_X8_isWithin_L0 (some o) p0 p1 h
noncomputable def f_X8_boundNow_L211 (k11 : Option Nat → Int32 → Int32 → Int32 → Option Nat → Int32 → Int32 → fSt → Option (Int32 × fSt)) (a0 : Option Nat) (a1 : Int32) (a2 : Int32) (a3 : Int32) (a4 : Option Nat) (a5 : Int32) (a6 : Int32) (h : fSt) : Option (Int32 × fSt) := k11 a0 a1 a2 a3 a4 a5 (a6 + (1 : Int32)) h
noncomputable def f_X8_boundNow_L205 (k11 : Option Nat → Int32 → Int32 → Int32 → Option Nat → Int32 → Int32 → fSt → Option (Int32 × fSt)) (k65 : Option Nat → Int32 → Int32 → Int32 → Option Nat → Int32 → Int32 → Int32 → fSt → Option (Int32 × fSt)) (a0 : Option Nat) (a1 : Int32) (a2 : Int32) (a3 : Int32) (a4 : Option Nat) (a5 : Int32) (a6 : Int32) (a7 : Int32) (h : fSt) : Option (Int32 × fSt) := k65 a0 a1 a2 a3 a4 a5 a6 (a7 + (1 : Int32)) h
noncomputable def f_X8_boundNow_L201 (k11 : Option Nat → Int32 → Int32 → Int32 → Option Nat → Int32 → Int32 → fSt → Option (Int32 × fSt)) (k65 : Option Nat → Int32 → Int32 → Int32 → Option Nat → Int32 → Int32 → Int32 → fSt → Option (Int32 × fSt)) (a0 : Option Nat) (a1 : Int32) (a2 : Int32) (a3 : Int32) (a5 : Int32) (a6 : Int32) (a7 : Int32) (a8 : Option Nat) (h : fSt) : Option (Int32 × fSt) := f_X8_boundNow_L205 k11 k65 a0 a1 a2 a3 a8 a5 a6 a7 h
noncomputable def f_X8_boundNow_L172 (k11 : Option Nat → Int32 → Int32 → Int32 → Option Nat → Int32 → Int32 → fSt → Option (Int32 × fSt)) (k65 : Option Nat → Int32 → Int32 → Int32 → Option Nat → Int32 → Int32 → Int32 → fSt → Option (Int32 × fSt)) (a0 : Option Nat) (a1 : Int32) (a2 : Int32) (a3 : Int32) (a4 : Option Nat) (a5 : Int32) (a6 : Int32) (a7 : Int32) (a8 : Option Nat) (s0 : Int64) (h : fSt) : Option (Int32 × fSt) := (if a4 = none then f_X8_boundNow_L201 k11 k65 a0 a1 a2 a3 a5 a6 a7 a8 h else (if (2 : Int32) ≤ a2 then (if s0 ≤ (0 : Int64) then f_X8_boundNow_L205 k11 k65 a0 a1 a2 a3 a4 a5 a6 a7 h else f_X8_boundNow_L201 k11 k65 a0 a1 a2 a3 a5 a6 a7 a8 h) else (if (0 : Int64) ≤ s0 then f_X8_boundNow_L205 k11 k65 a0 a1 a2 a3 a4 a5 a6 a7 h else f_X8_boundNow_L201 k11 k65 a0 a1 a2 a3 a5 a6 a7 a8 h)))
noncomputable def f_X8_boundNow_L128 (k11 : Option Nat → Int32 → Int32 → Int32 → Option Nat → Int32 → Int32 → fSt → Option (Int32 × fSt)) (k65 : Option Nat → Int32 → Int32 → Int32 → Option Nat → Int32 → Int32 → Int32 → fSt → Option (Int32 × fSt)) (a0 : Option Nat) (a1 : Int32) (a2 : Int32) (a3 : Int32) (a4 : Option Nat) (a5 : Int32) (a6 : Int32) (a7 : Int32) (s1 : Int64) (s0 : Int64) (h : fSt) : Option (Int32 × fSt) := (f_X8_point s0 s1 (1 : Int64) h).bind fun r5 => (fobj r5.2 a0 8).bind fun b9 => (f_X8_upAll b9 a6 r5.1 r5.2).bind fun r7 => (if a4 = none then f_X8_boundNow_L172 k11 k65 a0 a1 a2 a3 a4 a5 a6 a7 r5.1 (0 : Int64) r7.2 else (faJ r7.2 r5.1 1 a5).bind fun x12 => (faJ r7.2 a4 1 (2 : Int32)).bind fun x14 => (faJ r7.2 a4 1 a5).bind fun x16 => (faJ r7.2 r5.1 1 (2 : Int32)).bind fun x18 => f_X8_boundNow_L172 k11 k65 a0 a1 a2 a3 a4 a5 a6 a7 r5.1 ((x12 * x14) - (x16 * x18)) r7.2)
noncomputable def f_X8_boundNow_L110 (k11 : Option Nat → Int32 → Int32 → Int32 → Option Nat → Int32 → Int32 → fSt → Option (Int32 × fSt)) (k65 : Option Nat → Int32 → Int32 → Int32 → Option Nat → Int32 → Int32 → Int32 → fSt → Option (Int32 × fSt)) (a0 : Option Nat) (a1 : Int32) (a2 : Int32) (a3 : Int32) (a4 : Option Nat) (a5 : Int32) (a6 : Int32) (a7 : Int32) (s0 : Int64) (h : fSt) : Option (Int32 × fSt) := (if a7 ≤ (1 : Int32) then f_X8_boundNow_L128 k11 k65 a0 a1 a2 a3 a4 a5 a6 a7 (0 : Int64) s0 h else (fgR h a0 8 9).bind fun x21 => (faI h x21 0 a6).bind fun x23 => f_X8_boundNow_L128 k11 k65 a0 a1 a2 a3 a4 a5 a6 a7 (Int32.toInt64 x23) s0 h)
noncomputable def f_X8_boundNow_L98 (k11 : Option Nat → Int32 → Int32 → Int32 → Option Nat → Int32 → Int32 → fSt → Option (Int32 × fSt)) (k65 : Option Nat → Int32 → Int32 → Int32 → Option Nat → Int32 → Int32 → Int32 → fSt → Option (Int32 × fSt)) (a0 : Option Nat) (a1 : Int32) (a2 : Int32) (a3 : Int32) (a4 : Option Nat) (a5 : Int32) (a6 : Int32) (a7 : Int32) (h : fSt) : Option (Int32 × fSt) := (fgR h a0 8 8).bind fun x25 => (faI h x25 0 a6).bind fun x27 => f_X8_boundNow_L110 k11 k65 a0 a1 a2 a3 a4 a5 a6 a7 (Int32.toInt64 x27) h
noncomputable def f_X8_boundNow_L83 (k11 : Option Nat → Int32 → Int32 → Int32 → Option Nat → Int32 → Int32 → fSt → Option (Int32 × fSt)) (k65 : Option Nat → Int32 → Int32 → Int32 → Option Nat → Int32 → Int32 → Int32 → fSt → Option (Int32 × fSt)) (a0 : Option Nat) (a1 : Int32) (a2 : Int32) (a3 : Int32) (a4 : Option Nat) (a5 : Int32) (a6 : Int32) (a7 : Int32) (s1 : Int32) (s0 : Int32) (h : fSt) : Option (Int32 × fSt) := (if s1 ≤ s0 then f_X8_boundNow_L211 k11 a0 a1 a2 a3 a4 a5 a6 h else (if a7 = (1 : Int32) then f_X8_boundNow_L98 k11 k65 a0 a1 a2 a3 a4 a5 a6 a7 h else (if a7 = (3 : Int32) then f_X8_boundNow_L98 k11 k65 a0 a1 a2 a3 a4 a5 a6 a7 h else f_X8_boundNow_L110 k11 k65 a0 a1 a2 a3 a4 a5 a6 a7 (0 : Int64) h)))
noncomputable def f_X8_boundNow_L65 (k11 : Option Nat → Int32 → Int32 → Int32 → Option Nat → Int32 → Int32 → fSt → Option (Int32 × fSt)) (n : Nat) : Option Nat → Int32 → Int32 → Int32 → Option Nat → Int32 → Int32 → Int32 → fSt → Option (Int32 × fSt) := Nat.rec (motive := fun _ => Option Nat → Int32 → Int32 → Int32 → Option Nat → Int32 → Int32 → Int32 → fSt → Option (Int32 × fSt)) (fun _ _ _ _ _ _ _ _ _ => none) (fun _ k65 (a0 : Option Nat) (a1 : Int32) (a2 : Int32) (a3 : Int32) (a4 : Option Nat) (a5 : Int32) (a6 : Int32) (a7 : Int32) (h : fSt) => (fgR h a0 8 7).bind fun x32 => (faI h x32 0 a6).bind fun x34 => (if x34 = (2 : Int32) then f_X8_boundNow_L83 k11 k65 a0 a1 a2 a3 a4 a5 a6 a7 (3 : Int32) a7 h else f_X8_boundNow_L83 k11 k65 a0 a1 a2 a3 a4 a5 a6 a7 (4 : Int32) a7 h)) n
noncomputable def f_X8_boundNow_L245 (s0 : Int32) (h : fSt) : Option (Int32 × fSt) := some (s0, h)
noncomputable def f_X8_boundNow_L241 (s2 : Int32) (s1 : Int32) (s0 : Option Nat) (h : fSt) : Option (Int32 × fSt) := (f_X8_part s0 (s1 + s2) h).bind fun r37 => f_X8_boundNow_L245 r37.1 r37.2
noncomputable def f_X8_boundNow_L11 (n : Nat) : Option Nat → Int32 → Int32 → Int32 → Option Nat → Int32 → Int32 → fSt → Option (Int32 × fSt) := Nat.rec (motive := fun _ => Option Nat → Int32 → Int32 → Int32 → Option Nat → Int32 → Int32 → fSt → Option (Int32 × fSt)) (fun _ _ _ _ _ _ _ _ => none) (fun _ k11 (a0 : Option Nat) (a1 : Int32) (a2 : Int32) (a3 : Int32) (a4 : Option Nat) (a5 : Int32) (a6 : Int32) (h : fSt) => (fgI h a0 8 1).bind fun x39 => (if x39 ≤ a6 then (if a4 = none then f_X8_boundNow_L245 (0 : Int32) h else (if a3 = 0 then f_X8_boundNow_L241 (0 : Int32) (a5 * (2 : Int32)) a4 h else f_X8_boundNow_L241 (1 : Int32) (a5 * (2 : Int32)) a4 h)) else (fgR h a0 8 2).bind fun x44 => (faI h x44 2 a6).bind fun x46 => (if x46 = 0 then (fgR h a0 8 7).bind fun x49 => (faI h x49 0 a6).bind fun x51 => (if x51 = 0 then f_X8_boundNow_L211 k11 a0 a1 a2 a3 a4 a5 a6 h else (fobj h a0 8).bind fun b56 => (f_X8_isWithin b56 a6 a1 h).bind fun r54 => (if r54.1 = 0 then f_X8_boundNow_L211 k11 a0 a1 a2 a3 a4 a5 a6 r54.2 else (fobj r54.2 a0 8).bind fun b61 => (f_X8_isShownNow b61 a6 r54.2).bind fun r59 => (if r59.1 = 0 then f_X8_boundNow_L211 k11 a0 a1 a2 a3 a4 a5 a6 r59.2 else f_X8_boundNow_L65 k11 4096 a0 a1 a2 a3 a4 a5 a6 (0 : Int32) r59.2))) else f_X8_boundNow_L211 k11 a0 a1 a2 a3 a4 a5 a6 h))) n
noncomputable def f_X8_boundNow_L0 (a0 : Option Nat) (a1 : Int32) (a2 : Int32) (a3 : Int32) (h : fSt) : Option (Int32 × fSt) := f_X8_boundNow_L11 4096 a0 a1 a2 a3 none (a2 - a2 / (2 : Int32) * (2 : Int32)) (1 : Int32) h
noncomputable def f_X8_boundNow (o : Nat) (p0 : Int32) (p1 : Int32) (p2 : Int32) (h : fSt) : Option (Int32 × fSt) := f_X8_boundNow_L0 (some o) p0 p1 p2 h
noncomputable def f_X8_bound_L43 (s0 : Int32) (h : fSt) : Option (Int32 × fSt) := some (s0, h)
noncomputable def f_X8_bound_L0 (a0 : Option Nat) (a1 : Int32) (a2 : Int32) (a3 : Int32) (h : fSt) : Option (Int32 × fSt) := (fput h a0 8 0 (.int (0 : Int32))).bind fun h1 => (fobj h1 a0 8).bind fun b5 => (f_X8_isNode b5 a1 h1).bind fun r3 => (if r3.1 = 0 then (fobj r3.2 a0 8).bind fun b21 => (f_X8_no b21 (1 : Int32) r3.2).bind fun r19 => some (r19.1, r19.2) else (f_X8_isIn a2 (0 : Int32) (3 : Int32) r3.2).bind fun r8 => (if r8.1 = 0 then (fobj r8.2 a0 8).bind fun b13 => (f_X8_no b13 (2 : Int32) r8.2).bind fun r11 => f_X8_bound_L43 r11.1 r11.2 else (fobj r8.2 a0 8).bind fun b17 => (f_X8_boundNow b17 a1 a2 a3 r8.2).bind fun r15 => f_X8_bound_L43 r15.1 r15.2))
noncomputable def f_X8_bound (o : Nat) (p0 : Int32) (p1 : Int32) (p2 : Int32) (h : fSt) : Option (Int32 × fSt) := f_X8_bound_L0 (some o) p0 p1 p2 h
noncomputable def f_X8_isOther_L66 (self : Nat → Int32 → Int32 → Int32 → fSt → Option (Int32 × fSt)) (s0 : Int32) (h : fSt) : Option (Int32 × fSt) := if s0 = 0 ∨ s0 = 1 then some (s0, h) else none
noncomputable def f_X8_isOther_L65 (self : Nat → Int32 → Int32 → Int32 → fSt → Option (Int32 × fSt))  (h : fSt) : Option (Int32 × fSt) := f_X8_isOther_L66 self (0 : Int32) h
noncomputable def f_X8_isOther_L3 (self : Nat → Int32 → Int32 → Int32 → fSt → Option (Int32 × fSt)) (n : Nat) : Option Nat → Int32 → Int32 → Int32 → Int32 → fSt → Option (Int32 × fSt) := Nat.rec (motive := fun _ => Option Nat → Int32 → Int32 → Int32 → Int32 → fSt → Option (Int32 × fSt)) (fun _ _ _ _ _ _ => none) (fun _ k3 (a0 : Option Nat) (a1 : Int32) (a2 : Int32) (a3 : Int32) (a4 : Int32) (h : fSt) => (if (4 : Int32) ≤ a4 then (fgR h a0 8 6).bind fun x3 => (faI h x3 0 a1).bind fun x5 => (if x5 = (-1 : Int32) then f_X8_isOther_L65 self h else (fgR h a0 8 6).bind fun x8 => (faI h x8 0 a1).bind fun x10 => (fobj h a0 8).bind fun b14 => (self b14 x10 a2 a3 h).bind fun r12 => (if r12.1 = 0 then f_X8_isOther_L65 self r12.2 else f_X8_isOther_L66 self (1 : Int32) r12.2)) else (fobj h a0 8).bind fun b19 => (f_X8_valueAt b19 a1 a4 a2 h).bind fun r17 => (fobj r17.2 a0 8).bind fun b23 => (f_X8_valueAt b23 a1 a4 a3 r17.2).bind fun r21 => (if r17.1 = r21.1 then k3 a0 a1 a2 a3 (a4 + (1 : Int32)) r21.2 else some ((1 : Int32), r21.2)))) n
noncomputable def f_X8_isOther_L0 (self : Nat → Int32 → Int32 → Int32 → fSt → Option (Int32 × fSt)) (a0 : Option Nat) (a1 : Int32) (a2 : Int32) (a3 : Int32) (h : fSt) : Option (Int32 × fSt) := f_X8_isOther_L3 self 4096 a0 a1 a2 a3 (0 : Int32) h
noncomputable def f_X8_isOther (d : Nat) : Nat → Int32 → Int32 → Int32 → fSt → Option (Int32 × fSt) := Nat.rec (motive := fun _ => Nat → Int32 → Int32 → Int32 → fSt → Option (Int32 × fSt)) (fun _ _ _ _ _ => none) (fun _ self (o : Nat) (p0 : Int32) (p1 : Int32) (p2 : Int32) (h : fSt) => f_X8_isOther_L0 self (some o) p0 p1 p2 h) d
noncomputable def f_X8_changesNow_L41 (k5 : Option Nat → Int32 → Int32 → Int32 → Int32 → fSt → Option (Int32 × fSt)) (a0 : Option Nat) (a1 : Int32) (a2 : Int32) (a4 : Int32) (s1 : Int32) (s0 : Int32) (h : fSt) : Option (Int32 × fSt) := k5 a0 a1 a2 (s0 + s1) (a4 + (1 : Int32)) h
noncomputable def f_X8_changesNow_L40 (k5 : Option Nat → Int32 → Int32 → Int32 → Int32 → fSt → Option (Int32 × fSt)) (a0 : Option Nat) (a1 : Int32) (a2 : Int32) (a4 : Int32) (s0 : Int32) (h : fSt) : Option (Int32 × fSt) := f_X8_changesNow_L41 k5 a0 a1 a2 a4 (0 : Int32) s0 h
noncomputable def f_X8_changesNow_L5 (n : Nat) : Option Nat → Int32 → Int32 → Int32 → Int32 → fSt → Option (Int32 × fSt) := Nat.rec (motive := fun _ => Option Nat → Int32 → Int32 → Int32 → Int32 → fSt → Option (Int32 × fSt)) (fun _ _ _ _ _ _ => none) (fun _ k5 (a0 : Option Nat) (a1 : Int32) (a2 : Int32) (a3 : Int32) (a4 : Int32) (h : fSt) => (fgI h a0 8 1).bind fun x1 => (if x1 ≤ a4 then some (a3, h) else (fgR h a0 8 2).bind fun x4 => (faI h x4 2 a4).bind fun x6 => (if x6 = 0 then (fobj h a0 8).bind fun b11 => (f_X8_isOther 8 b11 a4 a1 a2 h).bind fun r9 => (if r9.1 = 0 then f_X8_changesNow_L40 k5 a0 a1 a2 a4 a3 r9.2 else f_X8_changesNow_L41 k5 a0 a1 a2 a4 (1 : Int32) a3 r9.2) else f_X8_changesNow_L40 k5 a0 a1 a2 a4 a3 h))) n
noncomputable def f_X8_changesNow_L0 (a0 : Option Nat) (a1 : Int32) (a2 : Int32) (h : fSt) : Option (Int32 × fSt) := f_X8_changesNow_L5 4096 a0 a1 a2 (0 : Int32) (0 : Int32) h
noncomputable def f_X8_changesNow (o : Nat) (p0 : Int32) (p1 : Int32) (h : fSt) : Option (Int32 × fSt) := f_X8_changesNow_L0 (some o) p0 p1 h
noncomputable def f_X8_changes_L41 (s0 : Int32) (h : fSt) : Option (Int32 × fSt) := some (s0, h)
noncomputable def f_X8_changes_L36 (a0 : Option Nat) (h : fSt) : Option (Int32 × fSt) := (fobj h a0 8).bind fun b3 => (f_X8_no b3 (1 : Int32) h).bind fun r1 => f_X8_changes_L41 r1.1 r1.2
noncomputable def f_X8_changes_L0 (a0 : Option Nat) (a1 : Int32) (a2 : Int32) (h : fSt) : Option (Int32 × fSt) := (fput h a0 8 0 (.int (0 : Int32))).bind fun h5 => (f_X8_isIn a1 (0 : Int32) (9999 : Int32) h5).bind fun r7 => (if r7.1 = 0 then f_X8_changes_L36 a0 r7.2 else (f_X8_isIn a2 (0 : Int32) (9999 : Int32) r7.2).bind fun r10 => (if r10.1 = 0 then f_X8_changes_L36 a0 r10.2 else (fobj r10.2 a0 8).bind fun b15 => (f_X8_changesNow b15 a1 a2 r10.2).bind fun r13 => f_X8_changes_L41 r13.1 r13.2))
noncomputable def f_X8_changes (o : Nat) (p0 : Int32) (p1 : Int32) (h : fSt) : Option (Int32 × fSt) := f_X8_changes_L0 (some o) p0 p1 h
noncomputable def f_X8_common_L21 (a0 : Option Nat) (h : fSt) : Option (Int32 × fSt) := (fobj h a0 8).bind fun b3 => (f_X8_no b3 (1 : Int32) h).bind fun r1 => some (r1.1, r1.2)
noncomputable def f_X8_common_L29 (n : Nat) : Option Nat → Int32 → Int32 → fSt → Option (Int32 × fSt) := Nat.rec (motive := fun _ => Option Nat → Int32 → Int32 → fSt → Option (Int32 × fSt)) (fun _ _ _ _ => none) (fun _ k29 (a0 : Option Nat) (a2 : Int32) (a3 : Int32) (h : fSt) => (fobj h a0 8).bind fun b7 => (f_X8_isWithin b7 a2 a3 h).bind fun r5 => (if r5.1 = 0 then (fgR r5.2 a0 8 6).bind fun x10 => (faI r5.2 x10 0 a3).bind fun x12 => k29 a0 a2 x12 r5.2 else some (a3, r5.2))) n
noncomputable def f_X8_common_L0 (a0 : Option Nat) (a1 : Int32) (a2 : Int32) (h : fSt) : Option (Int32 × fSt) := (fput h a0 8 0 (.int (0 : Int32))).bind fun h14 => (fobj h14 a0 8).bind fun b18 => (f_X8_isNode b18 a1 h14).bind fun r16 => (if r16.1 = 0 then f_X8_common_L21 a0 r16.2 else (fobj r16.2 a0 8).bind fun b23 => (f_X8_isNode b23 a2 r16.2).bind fun r21 => (if r21.1 = 0 then f_X8_common_L21 a0 r21.2 else f_X8_common_L29 4096 a0 a2 a1 r21.2))
noncomputable def f_X8_common (o : Nat) (p0 : Int32) (p1 : Int32) (h : fSt) : Option (Int32 × fSt) := f_X8_common_L0 (some o) p0 p1 h
noncomputable def f_X8_coversNow_L17  (h : fSt) : Option (Int32 × fSt) := some ((0 : Int32), h)
noncomputable def f_X8_coversNow_L200  (h : fSt) : Option (Int32 × fSt) := some ((0 : Int32), h)
noncomputable def f_X8_coversNow_L202 (k69 : Option Nat → Int32 → Option Nat → Int32 → Option Nat → fSt → Option (Int32 × fSt)) (a0 : Option Nat) (a1 : Int32) (a5 : Option Nat) (a6 : Int32) (a7 : Option Nat) (h : fSt) : Option (Int32 × fSt) := k69 a0 a1 a5 a6 a7 h
noncomputable def f_X8_coversNow_L271  (h : fSt) : Option (Int32 × fSt) := some ((0 : Int32), h)
noncomputable def f_X8_coversNow_L327 (s0 : Int32) (h : fSt) : Option (Int32 × fSt) := if s0 = 0 ∨ s0 = 1 then some (s0, h) else none
noncomputable def f_X8_coversNow_L322  (h : fSt) : Option (Int32 × fSt) := f_X8_coversNow_L327 (1 : Int32) h
noncomputable def f_X8_coversNow_L69 (n : Nat) : Option Nat → Int32 → Option Nat → Int32 → Option Nat → fSt → Option (Int32 × fSt) := Nat.rec (motive := fun _ => Option Nat → Int32 → Option Nat → Int32 → Option Nat → fSt → Option (Int32 × fSt)) (fun _ _ _ _ _ _ => none) (fun _ k69 (a0 : Option Nat) (a1 : Int32) (a5 : Option Nat) (a6 : Int32) (a7 : Option Nat) (h : fSt) => (if a6 ≤ 0 then (fgR h a0 8 8).bind fun x3 => (faI h x3 0 a1).bind fun x5 => (faJ h a7 1 (2 : Int32)).bind fun x7 => (fgR h a0 8 9).bind fun x9 => (faI h x9 0 a1).bind fun x11 => (faJ h a7 1 (2 : Int32)).bind fun x13 => (faJ h a7 1 (0 : Int32)).bind fun x15 => (if x15 < (0 : Int64) then f_X8_coversNow_L271 h else (faJ h a7 1 (1 : Int32)).bind fun x18 => (if x18 < (0 : Int64) then f_X8_coversNow_L271 h else (faJ h a7 1 (0 : Int32)).bind fun x21 => (if ((Int32.toInt64 x5) * x7) < x21 then f_X8_coversNow_L271 h else (faJ h a7 1 (1 : Int32)).bind fun x24 => (if x24 ≤ ((Int32.toInt64 x11) * x13) then (fgR h a0 8 7).bind fun x27 => (faI h x27 0 a1).bind fun x29 => (if x29 = (2 : Int32) then (faJ h a7 1 (0 : Int32)).bind fun x32 => (fgR h a0 8 9).bind fun x34 => (faI h x34 0 a1).bind fun x36 => (faJ h a7 1 (1 : Int32)).bind fun x38 => (fgR h a0 8 8).bind fun x40 => (faI h x40 0 a1).bind fun x42 => (fgR h a0 8 8).bind fun x44 => (faI h x44 0 a1).bind fun x46 => (if ((Int32.toInt64 x46) * ((Int32.toInt64 x11) * x13)) < ((x32 * (Int32.toInt64 x36)) + (x38 * (Int32.toInt64 x42))) then f_X8_coversNow_L327 (0 : Int32) h else f_X8_coversNow_L322 h) else f_X8_coversNow_L322 h) else f_X8_coversNow_L271 h)))) else (faI h a5 0 (a6 + (-1 : Int32))).bind fun x49 => (fobj h a0 8).bind fun b53 => (f_X8_down b53 x49 a7 h).bind fun r51 => (fgR r51.2 a0 8 5).bind fun x55 => (faI r51.2 x55 2 x49).bind fun x57 => (if x57 = 0 then f_X8_coversNow_L202 k69 a0 a1 a5 (a6 + (-1 : Int32)) a7 r51.2 else (faJ r51.2 a7 1 (0 : Int32)).bind fun x60 => (fgR r51.2 a0 8 15).bind fun x62 => (faI r51.2 x62 0 (x49 * (4 : Int32))).bind fun x64 => (faJ r51.2 a7 1 (2 : Int32)).bind fun x66 => (if x60 < ((Int32.toInt64 x64) * x66) then f_X8_coversNow_L200 r51.2 else (faJ r51.2 a7 1 (1 : Int32)).bind fun x69 => (fgR r51.2 a0 8 15).bind fun x71 => (faI r51.2 x71 0 ((x49 * (4 : Int32)) + (1 : Int32))).bind fun x73 => (faJ r51.2 a7 1 (2 : Int32)).bind fun x75 => (if x69 < ((Int32.toInt64 x73) * x75) then f_X8_coversNow_L200 r51.2 else (faJ r51.2 a7 1 (0 : Int32)).bind fun x78 => (fgR r51.2 a0 8 15).bind fun x80 => (faI r51.2 x80 0 ((x49 * (4 : Int32)) + (2 : Int32))).bind fun x82 => (faJ r51.2 a7 1 (2 : Int32)).bind fun x84 => (if ((Int32.toInt64 x82) * x84) < x78 then f_X8_coversNow_L200 r51.2 else (faJ r51.2 a7 1 (1 : Int32)).bind fun x87 => (fgR r51.2 a0 8 15).bind fun x89 => (faI r51.2 x89 0 ((x49 * (4 : Int32)) + (3 : Int32))).bind fun x91 => (faJ r51.2 a7 1 (2 : Int32)).bind fun x93 => (if x87 ≤ ((Int32.toInt64 x91) * x93) then f_X8_coversNow_L202 k69 a0 a1 a5 (a6 + (-1 : Int32)) a7 r51.2 else f_X8_coversNow_L200 r51.2))))))) n
noncomputable def f_X8_coversNow_L30 (n : Nat) : Option Nat → Int32 → Int32 → Int32 → Int32 → Option Nat → Int32 → Int32 → fSt → Option (Int32 × fSt) := Nat.rec (motive := fun _ => Option Nat → Int32 → Int32 → Int32 → Int32 → Option Nat → Int32 → Int32 → fSt → Option (Int32 × fSt)) (fun _ _ _ _ _ _ _ _ _ => none) (fun _ k30 (a0 : Option Nat) (a1 : Int32) (a2 : Int32) (a3 : Int32) (a4 : Int32) (a5 : Option Nat) (a6 : Int32) (a7 : Int32) (h : fSt) => (if a7 = 0 then (f_X8_point (Int32.toInt64 a2) (Int32.toInt64 a3) (Int32.toInt64 a4) h).bind fun r97 => f_X8_coversNow_L69 4096 a0 a1 a5 a6 r97.1 r97.2 else (fsI h a5 0 a6 a7).bind fun h99 => (fgR h99 a0 8 6).bind fun x101 => (faI h99 x101 0 a7).bind fun x103 => k30 a0 a1 a2 a3 a4 a5 (a6 + (1 : Int32)) x103 h99)) n
noncomputable def f_X8_coversNow_L0 (a0 : Option Nat) (a1 : Int32) (a2 : Int32) (a3 : Int32) (a4 : Int32) (h : fSt) : Option (Int32 × fSt) := (fgR h a0 8 7).bind fun x105 => (faI h x105 0 a1).bind fun x107 => (if x107 = 0 then f_X8_coversNow_L17 h else (fobj h a0 8).bind fun b112 => (f_X8_isShownNow b112 a1 h).bind fun r110 => (if r110.1 = 0 then f_X8_coversNow_L17 r110.2 else (if (5 : Int32) < 0 ∨ 67000000 < ((5 : Int32)).toNatClampNeg then none else (fnew r110.2 (.inr (0, ((5 : Int32)).toNatClampNeg, .inl (fun _ => 0))) ((5 : Int32)).toNatClampNeg).bind fun r116 => f_X8_coversNow_L30 4096 a0 a1 a2 a3 a4 (some r116.1) (0 : Int32) a1 r116.2)))
noncomputable def f_X8_coversNow (o : Nat) (p0 : Int32) (p1 : Int32) (p2 : Int32) (p3 : Int32) (h : fSt) : Option (Int32 × fSt) := f_X8_coversNow_L0 (some o) p0 p1 p2 p3 h
set_option maxHeartbeats 4000000 in
set_option maxRecDepth 100000 in
theorem w_X8_up_L62 {p : Program} {l : Launch} {e : Env} {s : State} {m : MethodId} {args : Array Value} {below : List Frame} {meth : Method} {c : Code} {D : va_G} {cA : Nat → ClassId} {h0 : fSt} {r : (Unit × fSt)} (M : fM p s m args meth c D cA h0 { frames := 3, cells := fCB h0 - fZ h0, slots := fLB h0 - fL h0, locals := 80 } cX8_up 10 none RX8) (hfl : l.stackTraces = false) : ∀ (n : Nat) (a0 : Option Nat) (a1 : Int32) (a2 : Option Nat) (a3 : Int64) (a5 : Int64) (a7 : Int32) (h : fSt), f_X8_up_L62 n a0 a1 a2 a3 a5 a7 h = some r → ∀ (H : Heap) (locs : List Loc) (cells slots : Nat) (ls : Array Slot), fCur D cA s h0 h H locs → lv_has ls 10 [(0, va_rf a0), (1, .int a1), (2, va_rf a2), (3, .long a3), (5, .long a5), (7, .int a7)] → W p l e { frames := 3, cells := fCB h0 - fZ h0, slots := fLB h0 - fL h0, locals := 80 } s m args below meth c H locs cells slots (MQ below (fQ D cA h0 r.2 none) args s (fCB h0 - fZ h0) (fLB h0 - fL h0) (fA h0)) (F0 m 62 ls []) := by
  obtain ⟨hx, hb, hml, hr, hlocks, hts, hown, K, hR⟩ := id M
  intro n
  induction n with
  | zero =>
    intro a0 a1 a2 a3 a5 a7 h hf
    exact nomatch (show (none : Option (Unit × fSt)) = some r from hf)
  | succ n hk62 =>
    intro a0 a1 a2 a3 a5 a7 h hf H locs cells slots ls hC hl
    refine lv_iload hx hb dX8_up_62 (lv_at hl 5 rfl) ?_
    refine lv_if_le (tgt := 84) hx hb dX8_up_64 (by decide) (fun c1 => ?_) (fun c1 => ?_)
    · replace hf := opos c1 hf
      refine fr_aload_n hx hb dX8_up_84 rfl (lv_at hl 2 rfl) ?_
      refine lv_iconst (v := (0 : Int32)) hx hb dX8_up_85 (by decide) ?_
      refine lv_lload_n hx hb dX8_up_86 rfl (lv_at hl 3 rfl) ?_
      refine fr_aload_n hx hb dX8_up_87 rfl (lv_at hl 0 rfl) ?_
      refine lv_iload_n hx hb dX8_up_88 rfl (lv_at hl 1 rfl) ?_
      refine lv_iconst (v := (0 : Int32)) hx hb dX8_up_89 (by decide) ?_
      obtain ⟨b4, q5, hf⟩ := obind hf
      obtain ⟨r2, g3, hf⟩ := obind hf
      refine fr_callV hx hb hml hts hown K hC hR ct_8 (c_X8_has hfl D cA g3) 2 q5 kw1201 kw1198 kw1200 kw33 kw62 (by decide +kernel) ⟨by exact Nat.le_of_ble_eq_true rfl, by exact Nat.le_of_ble_eq_true rfl⟩ rfl hl.1 (cat8 _ (by exact Nat.le_of_ble_eq_true rfl)) dX8_up_90 rfl (fun H locs _ _ hC => ?_)
      refine lv_i2l (v := (Int32.toInt64 r2.1)) hx hb dX8_up_93 rfl ?_
      refine fr_aload_n hx hb dX8_up_94 rfl (lv_at hl 2 rfl) ?_
      refine lv_iconst (v := (2 : Int32)) hx hb dX8_up_95 (by decide) ?_
      obtain ⟨x6, g7, hf⟩ := obind hf
      refine fr_lald hx hb K hC (t := 1) rfl g7 dX8_up_96 ?_
      refine lv_lmul hx hb dX8_up_97 ?_
      refine lv_ladd hx hb dX8_up_98 ?_
      obtain ⟨h8, g9, hf⟩ := obind hf
      refine fr_last hx hb K hC (t := 1) rfl g9 dX8_up_99 (fun H locs hC => ?_)
      refine fr_aload_n hx hb dX8_up_100 rfl (lv_at hl 2 rfl) ?_
      refine lv_iconst (v := (1 : Int32)) hx hb dX8_up_101 (by decide) ?_
      refine lv_lload hx hb dX8_up_102 (lv_at hl 4 rfl) ?_
      refine fr_aload_n hx hb dX8_up_104 rfl (lv_at hl 0 rfl) ?_
      refine lv_iload_n hx hb dX8_up_105 rfl (lv_at hl 1 rfl) ?_
      refine lv_iconst (v := (1 : Int32)) hx hb dX8_up_106 (by decide) ?_
      obtain ⟨b12, q13, hf⟩ := obind hf
      obtain ⟨r10, g11, hf⟩ := obind hf
      refine fr_callV hx hb hml hts hown K hC hR ct_8 (c_X8_has hfl D cA g11) 2 q13 kw1201 kw1198 kw1200 kw33 kw62 (by decide +kernel) ⟨by exact Nat.le_of_ble_eq_true rfl, by exact Nat.le_of_ble_eq_true rfl⟩ rfl hl.1 (cat8 _ (by exact Nat.le_of_ble_eq_true rfl)) dX8_up_107 rfl (fun H locs _ _ hC => ?_)
      refine lv_i2l (v := (Int32.toInt64 r10.1)) hx hb dX8_up_110 rfl ?_
      refine fr_aload_n hx hb dX8_up_111 rfl (lv_at hl 2 rfl) ?_
      refine lv_iconst (v := (2 : Int32)) hx hb dX8_up_112 (by decide) ?_
      obtain ⟨x14, g15, hf⟩ := obind hf
      refine fr_lald hx hb K hC (t := 1) rfl g15 dX8_up_113 ?_
      refine lv_lmul hx hb dX8_up_114 ?_
      refine lv_ladd hx hb dX8_up_115 ?_
      obtain ⟨h16, g17, hf⟩ := obind hf
      refine fr_last hx hb K hC (t := 1) rfl g17 dX8_up_116 (fun H locs hC => ?_)
      obtain rfl := Option.some.inj hf
      exact fr_vret hx hb hr hlocks hC dX8_up_117
    · replace hf := oneg c1 hf
      refine lv_lload_n hx hb dX8_up_67 rfl (lv_at hl 3 rfl) ?_
      refine lv_lstore (lv' := [(8, .long a3), (0, va_rf a0), (1, .int a1), (2, va_rf a2), (3, .long a3), (5, .long a5), (7, .int a7)]) hx hb dX8_up_68 hl (by decide) (congrArg (List.cons _) (flk rfl (flk rfl (flk rfl (flk rfl (flk rfl (flk rfl fln))))))) (fun ls hl => ?_)
      refine lv_lload hx hb dX8_up_70 (lv_at hl 5 rfl) ?_
      refine lv_lneg hx hb dX8_up_72 ?_
      refine lv_lstore_n (lv' := [(3, .long (-a5)), (8, .long a3), (0, va_rf a0), (1, .int a1), (2, va_rf a2), (5, .long a5), (7, .int a7)]) hx hb dX8_up_73 rfl hl (by decide) (congrArg (List.cons _) (flk rfl (flk rfl (flk rfl (flk (adj2 _ _) (fld rfl (flk rfl (flk rfl fln)))))))) (fun ls hl => ?_)
      refine lv_lload hx hb dX8_up_74 (lv_at hl 1 rfl) ?_
      refine lv_lstore (lv' := [(5, .long a3), (3, .long (-a5)), (8, .long a3), (0, va_rf a0), (1, .int a1), (2, va_rf a2), (7, .int a7)]) hx hb dX8_up_76 hl (by decide) (congrArg (List.cons _) (flk rfl (flk rfl (flk rfl (flk rfl (flk rfl (fld rfl (flk rfl fln)))))))) (fun ls hl => ?_)
      refine lv_iinc (v := (a7 + (-1 : Int32))) (lv' := [(7, .int (a7 + (-1 : Int32))), (5, .long a3), (3, .long (-a5)), (8, .long a3), (0, va_rf a0), (1, .int a1), (2, va_rf a2)]) hx hb dX8_up_78 hl (k := 6) rfl rfl (by decide) (congrArg (List.cons _) (flk rfl (flk rfl (flk rfl (flk rfl (flk rfl (flk rfl (fld rfl fln)))))))) (fun ls hl => ?_)
      refine lv_goto (tgt := 62) hx hb dX8_up_81 (by decide) ?_
      exact hk62 _ _ _ _ _ _ _ hf _ _ _ _ _ hC (lv_sub hl [4, 5, 6, 2, 1, 0] rfl)
set_option maxHeartbeats 4000000 in
set_option maxRecDepth 100000 in
theorem w_X8_up_L25 {p : Program} {l : Launch} {e : Env} {s : State} {m : MethodId} {args : Array Value} {below : List Frame} {meth : Method} {c : Code} {D : va_G} {cA : Nat → ClassId} {h0 : fSt} {r : (Unit × fSt)} (M : fM p s m args meth c D cA h0 { frames := 3, cells := fCB h0 - fZ h0, slots := fLB h0 - fL h0, locals := 80 } cX8_up 10 none RX8) (hfl : l.stackTraces = false) (a0 : Option Nat) (a1 : Int32) (a2 : Option Nat) (s1 : Int32) (s0 : Int64) (h : fSt) (hf : f_X8_up_L25 a0 a1 a2 s1 s0 h = some r) : ∀ (H : Heap) (locs : List Loc) (cells slots : Nat) (ls : Array Slot), fCur D cA s h0 h H locs → lv_has ls 10 [(0, va_rf a0), (1, .int a1), (2, va_rf a2)] → W p l e { frames := 3, cells := fCB h0 - fZ h0, slots := fLB h0 - fL h0, locals := 80 } s m args below meth c H locs cells slots (MQ below (fQ D cA h0 r.2 none) args s (fCB h0 - fZ h0) (fLB h0 - fL h0) (fA h0)) (F0 m 25 ls [.int s1, .long s0]) := by
  obtain ⟨hx, hb, hml, hr, hlocks, hts, hown, K, hR⟩ := id M
  intro H locs cells slots ls hC hl
  refine lv_i2l (v := (Int32.toInt64 s1)) hx hb dX8_up_25 rfl ?_
  refine lv_lmul hx hb dX8_up_26 ?_
  refine lv_lstore_n (lv' := [(3, .long (s0 * (Int32.toInt64 s1))), (0, va_rf a0), (1, .int a1), (2, va_rf a2)]) hx hb dX8_up_27 rfl hl (by decide) (congrArg (List.cons _) (flk rfl (flk rfl (flk (adj2 _ _) fln)))) (fun ls hl => ?_)
  refine fr_aload_n hx hb dX8_up_28 rfl (lv_at hl 3 rfl) ?_
  refine lv_iconst (v := (1 : Int32)) hx hb dX8_up_29 (by decide) ?_
  obtain ⟨x18, g19, hf⟩ := obind hf
  refine fr_lald hx hb K hC (t := 1) rfl g19 dX8_up_30 ?_
  refine fr_aload_n hx hb dX8_up_31 rfl (lv_at hl 1 rfl) ?_
  obtain ⟨x20, g21, hf⟩ := obind hf
  refine fr_get hx hb hts hown K hC ct_8 (fgR_get g21) (by decide) kw981 rfl dX8_up_32 ?_
  refine lv_iload_n hx hb dX8_up_35 rfl (lv_at hl 2 rfl) ?_
  obtain ⟨x22, g23, hf⟩ := obind hf
  refine fr_iald hx hb K hC (t := 0) rfl g23 dX8_up_36 ?_
  refine lv_i2l (v := (Int32.toInt64 x22)) hx hb dX8_up_37 rfl ?_
  refine lv_lmul hx hb dX8_up_38 ?_
  refine lv_lstore (lv' := [(5, .long (x18 * (Int32.toInt64 x22))), (3, .long (s0 * (Int32.toInt64 s1))), (0, va_rf a0), (1, .int a1), (2, va_rf a2)]) hx hb dX8_up_39 hl (by decide) (congrArg (List.cons _) (flk rfl (flk rfl (flk rfl (flk rfl fln))))) (fun ls hl => ?_)
  refine fr_aload_n hx hb dX8_up_41 rfl (lv_at hl 4 rfl) ?_
  refine lv_iconst (v := (2 : Int32)) hx hb dX8_up_42 (by decide) ?_
  refine lv_dup2_11 hx hb dX8_up_43 rfl (va_rf_cat _) ?_
  obtain ⟨x24, g25, hf⟩ := obind hf
  refine fr_lald hx hb K hC (t := 1) rfl g25 dX8_up_44 ?_
  refine fr_aload_n hx hb dX8_up_45 rfl (lv_at hl 2 rfl) ?_
  obtain ⟨x26, g27, hf⟩ := obind hf
  refine fr_get hx hb hts hown K hC ct_8 (fgR_get g27) (by decide) kw982 rfl dX8_up_46 ?_
  refine lv_iload_n hx hb dX8_up_49 rfl (lv_at hl 3 rfl) ?_
  obtain ⟨x28, g29, hf⟩ := obind hf
  refine fr_iald hx hb K hC (t := 0) rfl g29 dX8_up_50 ?_
  refine lv_i2l (v := (Int32.toInt64 x28)) hx hb dX8_up_51 rfl ?_
  refine lv_lmul hx hb dX8_up_52 ?_
  obtain ⟨h30, g31, hf⟩ := obind hf
  refine fr_last hx hb K hC (t := 1) rfl g31 dX8_up_53 (fun H locs hC => ?_)
  refine fr_aload_n hx hb dX8_up_54 rfl (lv_at hl 2 rfl) ?_
  refine lv_iload_n hx hb dX8_up_55 rfl (lv_at hl 3 rfl) ?_
  refine lv_iconst (v := (2 : Int32)) hx hb dX8_up_56 (by decide) ?_
  obtain ⟨b34, q35, hf⟩ := obind hf
  obtain ⟨r32, g33, hf⟩ := obind hf
  refine fr_callV hx hb hml hts hown K hC hR ct_8 (c_X8_has hfl D cA g33) 2 q35 kw1201 kw1198 kw1200 kw33 kw62 (by decide +kernel) ⟨by exact Nat.le_of_ble_eq_true rfl, by exact Nat.le_of_ble_eq_true rfl⟩ rfl hl.1 (cat8 _ (by exact Nat.le_of_ble_eq_true rfl)) dX8_up_57 rfl (fun H locs _ _ hC => ?_)
  refine lv_istore (lv' := [(7, .int r32.1), (5, .long (x18 * (Int32.toInt64 x22))), (3, .long (s0 * (Int32.toInt64 s1))), (0, va_rf a0), (1, .int a1), (2, va_rf a2)]) hx hb dX8_up_60 hl (by decide) (congrArg (List.cons _) (flk rfl (flk rfl (flk rfl (flk rfl (flk rfl fln)))))) (fun ls hl => ?_)
  exact w_X8_up_L62 M hfl 4096 _ _ _ _ _ _ _ hf _ _ _ _ _ hC (lv_sub hl [3, 4, 5, 2, 1, 0] rfl)
set_option maxHeartbeats 4000000 in
set_option maxRecDepth 100000 in
theorem w_X8_up_L0 {p : Program} {l : Launch} {e : Env} {s : State} {m : MethodId} {args : Array Value} {below : List Frame} {meth : Method} {c : Code} {D : va_G} {cA : Nat → ClassId} {h0 : fSt} {r : (Unit × fSt)} (M : fM p s m args meth c D cA h0 { frames := 3, cells := fCB h0 - fZ h0, slots := fLB h0 - fL h0, locals := 80 } cX8_up 10 none RX8) (hfl : l.stackTraces = false) (a0 : Option Nat) (a1 : Int32) (a2 : Option Nat) (h : fSt) (hf : f_X8_up_L0 a0 a1 a2 h = some r) : ∀ (H : Heap) (locs : List Loc) (cells slots : Nat) (ls : Array Slot), fCur D cA s h0 h H locs → lv_has ls 10 [(0, va_rf a0), (1, .int a1), (2, va_rf a2)] → W p l e { frames := 3, cells := fCB h0 - fZ h0, slots := fLB h0 - fL h0, locals := 80 } s m args below meth c H locs cells slots (MQ below (fQ D cA h0 r.2 none) args s (fCB h0 - fZ h0) (fLB h0 - fL h0) (fA h0)) (F0 m 0 ls []) := by
  obtain ⟨hx, hb, hml, hr, hlocks, hts, hown, K, hR⟩ := id M
  intro H locs cells slots ls hC hl
  refine fr_aload_n hx hb dX8_up_0 rfl (lv_at hl 2 rfl) ?_
  refine lv_iconst (v := (0 : Int32)) hx hb dX8_up_1 (by decide) ?_
  obtain ⟨x36, g37, hf⟩ := obind hf
  refine fr_lald hx hb K hC (t := 1) rfl g37 dX8_up_2 ?_
  refine fr_aload_n hx hb dX8_up_3 rfl (lv_at hl 0 rfl) ?_
  obtain ⟨x38, g39, hf⟩ := obind hf
  refine fr_get hx hb hts hown K hC ct_8 (fgR_get g39) (by decide) kw981 rfl dX8_up_4 ?_
  refine lv_iload_n hx hb dX8_up_7 rfl (lv_at hl 1 rfl) ?_
  obtain ⟨x40, g41, hf⟩ := obind hf
  refine fr_iald hx hb K hC (t := 0) rfl g41 dX8_up_8 ?_
  refine lv_i2l (v := (Int32.toInt64 x40)) hx hb dX8_up_9 rfl ?_
  refine lv_lmul hx hb dX8_up_10 ?_
  refine fr_aload_n hx hb dX8_up_11 rfl (lv_at hl 0 rfl) ?_
  obtain ⟨x42, g43, hf⟩ := obind hf
  refine fr_get hx hb hts hown K hC ct_8 (fgR_get g43) (by decide) kw974 rfl dX8_up_12 ?_
  refine lv_iload_n hx hb dX8_up_15 rfl (lv_at hl 1 rfl) ?_
  obtain ⟨x44, g45, hf⟩ := obind hf
  refine fr_zald hx hb K hC (t := 2) rfl g45 dX8_up_16 ?_
  refine lv_if_eq (tgt := 24) hx hb dX8_up_17 (by decide) (fun c46 => ?_) (fun c46 => ?_)
  · replace hf := opos c46 hf
    refine lv_iconst (v := (1 : Int32)) hx hb dX8_up_24 (by decide) ?_
    exact w_X8_up_L25 M hfl _ _ _ _ _ _ hf _ _ _ _ _ hC (lv_sub hl [0, 1, 2] rfl)
  · replace hf := oneg c46 hf
    refine lv_iconst (v := (-1 : Int32)) hx hb dX8_up_20 (by decide) ?_
    refine lv_goto (tgt := 25) hx hb dX8_up_21 (by decide) ?_
    exact w_X8_up_L25 M hfl _ _ _ _ _ _ hf _ _ _ _ _ hC (lv_sub hl [0, 1, 2] rfl)
set_option maxRecDepth 100000 in
theorem c_X8_up {l : Launch} (hfl : l.stackTraces = false) (D : va_G) (cA : Nat → ClassId) {o : Nat} {p0 : Int32} {p1 : Option Nat} {h : fSt} {r : (Unit × fSt)} (hf : f_X8_up o p0 p1 h = some r) : fMet l yX8_up (wsC yX8_up cX8_up 10 none) (3) (80) D cA [.ref o, .int p0, va_rf p1] h r.2 none := by
  exact fMet.of (own := RX8) (by decide +kernel) rfl (lva1 rfl (lva1 rfl (lva1 (va_rf_cat _) lva0))) (lgl1 rfl (lgl1 rfl (lgl1 (va_rf_cat _) lgl0))) (Nat.le_of_ble_eq_true rfl) (fun p e s m args below meth c ls hnm _ M hC hl => by
    have hl : lv_has ls 10 [(0, va_rf (some o)), (1, .int p0), (2, va_rf p1)] := hl
    exact w_X8_up_L0 M hfl _ _ _ _ hf _ _ _ _ _ hC (lv_sub hl [0, 1, 2] rfl))
set_option maxHeartbeats 4000000 in
set_option maxRecDepth 100000 in
theorem w_X8_upAll_L2 {p : Program} {l : Launch} {e : Env} {s : State} {m : MethodId} {args : Array Value} {below : List Frame} {meth : Method} {c : Code} {D : va_G} {cA : Nat → ClassId} {h0 : fSt} {r : (Unit × fSt)} (M : fM p s m args meth c D cA h0 { frames := 4, cells := fCB h0 - fZ h0, slots := fLB h0 - fL h0, locals := 109 } cX8_upAll 4 none RX8) (hfl : l.stackTraces = false) : ∀ (n : Nat) (a0 : Option Nat) (a2 : Option Nat) (a3 : Int32) (h : fSt), f_X8_upAll_L2 n a0 a2 a3 h = some r → ∀ (H : Heap) (locs : List Loc) (cells slots : Nat) (ls : Array Slot), fCur D cA s h0 h H locs → lv_has ls 4 [(0, va_rf a0), (2, va_rf a2), (3, .int a3)] → W p l e { frames := 4, cells := fCB h0 - fZ h0, slots := fLB h0 - fL h0, locals := 109 } s m args below meth c H locs cells slots (MQ below (fQ D cA h0 r.2 none) args s (fCB h0 - fZ h0) (fLB h0 - fL h0) (fA h0)) (F0 m 2 ls []) := by
  obtain ⟨hx, hb, hml, hr, hlocks, hts, hown, K, hR⟩ := id M
  intro n
  induction n with
  | zero =>
    intro a0 a2 a3 h hf
    exact nomatch (show (none : Option (Unit × fSt)) = some r from hf)
  | succ n hk2 =>
    intro a0 a2 a3 h hf H locs cells slots ls hC hl
    refine lv_iload_n hx hb dX8_upAll_2 rfl (lv_at hl 2 rfl) ?_
    refine lv_if_eq (tgt := 22) hx hb dX8_upAll_3 (by decide) (fun c1 => ?_) (fun c1 => ?_)
    · replace hf := opos c1 hf
      obtain rfl := Option.some.inj hf
      exact fr_vret hx hb hr hlocks hC dX8_upAll_22
    · replace hf := oneg c1 hf
      refine fr_aload_n hx hb dX8_upAll_6 rfl (lv_at hl 0 rfl) ?_
      refine lv_iload_n hx hb dX8_upAll_7 rfl (lv_at hl 2 rfl) ?_
      refine fr_aload_n hx hb dX8_upAll_8 rfl (lv_at hl 1 rfl) ?_
      obtain ⟨b4, q5, hf⟩ := obind hf
      obtain ⟨r2, g3, hf⟩ := obind hf
      refine fr_callV hx hb hml hts hown K hC hR ct_8 (c_X8_up hfl D cA g3) 2 q5 kw1242 kw1239 kw1241 kw40 kw62 (by decide +kernel) ⟨by exact Nat.le_of_ble_eq_true rfl, by exact Nat.le_of_ble_eq_true rfl⟩ rfl hl.1 (cat8 _ (by exact Nat.le_of_ble_eq_true rfl)) dX8_upAll_9 rfl (fun H locs _ _ hC => ?_)
      refine fr_aload_n hx hb dX8_upAll_12 rfl (lv_at hl 0 rfl) ?_
      obtain ⟨x6, g7, hf⟩ := obind hf
      refine fr_get hx hb hts hown K hC ct_8 (fgR_get g7) (by decide) kw977 rfl dX8_upAll_13 ?_
      refine lv_iload_n hx hb dX8_upAll_16 rfl (lv_at hl 2 rfl) ?_
      obtain ⟨x8, g9, hf⟩ := obind hf
      refine fr_iald hx hb K hC (t := 0) rfl g9 dX8_upAll_17 ?_
      refine lv_istore_n (lv' := [(3, .int x8), (0, va_rf a0), (2, va_rf a2)]) hx hb dX8_upAll_18 rfl hl (by decide) (congrArg (List.cons _) (flk rfl (flk (adj1 _ _) (fld rfl fln)))) (fun ls hl => ?_)
      refine lv_goto (tgt := 2) hx hb dX8_upAll_19 (by decide) ?_
      exact hk2 _ _ _ _ hf _ _ _ _ _ hC (lv_sub hl [1, 2, 0] rfl)
set_option maxHeartbeats 4000000 in
set_option maxRecDepth 100000 in
theorem w_X8_upAll_L0 {p : Program} {l : Launch} {e : Env} {s : State} {m : MethodId} {args : Array Value} {below : List Frame} {meth : Method} {c : Code} {D : va_G} {cA : Nat → ClassId} {h0 : fSt} {r : (Unit × fSt)} (M : fM p s m args meth c D cA h0 { frames := 4, cells := fCB h0 - fZ h0, slots := fLB h0 - fL h0, locals := 109 } cX8_upAll 4 none RX8) (hfl : l.stackTraces = false) (a0 : Option Nat) (a1 : Int32) (a2 : Option Nat) (h : fSt) (hf : f_X8_upAll_L0 a0 a1 a2 h = some r) : ∀ (H : Heap) (locs : List Loc) (cells slots : Nat) (ls : Array Slot), fCur D cA s h0 h H locs → lv_has ls 4 [(0, va_rf a0), (1, .int a1), (2, va_rf a2)] → W p l e { frames := 4, cells := fCB h0 - fZ h0, slots := fLB h0 - fL h0, locals := 109 } s m args below meth c H locs cells slots (MQ below (fQ D cA h0 r.2 none) args s (fCB h0 - fZ h0) (fLB h0 - fL h0) (fA h0)) (F0 m 0 ls []) := by
  obtain ⟨hx, hb, hml, hr, hlocks, hts, hown, K, hR⟩ := id M
  intro H locs cells slots ls hC hl
  refine lv_iload_n hx hb dX8_upAll_0 rfl (lv_at hl 1 rfl) ?_
  refine lv_istore_n (lv' := [(3, .int a1), (0, va_rf a0), (1, .int a1), (2, va_rf a2)]) hx hb dX8_upAll_1 rfl hl (by decide) (congrArg (List.cons _) (flk rfl (flk rfl (flk (adj1 _ _) fln)))) (fun ls hl => ?_)
  exact w_X8_upAll_L2 M hfl 4096 _ _ _ _ hf _ _ _ _ _ hC (lv_sub hl [1, 3, 0] rfl)
set_option maxRecDepth 100000 in
theorem c_X8_upAll {l : Launch} (hfl : l.stackTraces = false) (D : va_G) (cA : Nat → ClassId) {o : Nat} {p0 : Int32} {p1 : Option Nat} {h : fSt} {r : (Unit × fSt)} (hf : f_X8_upAll o p0 p1 h = some r) : fMet l yX8_upAll (wsC yX8_upAll cX8_upAll 4 none) (4) (109) D cA [.ref o, .int p0, va_rf p1] h r.2 none := by
  exact fMet.of (own := RX8) (by decide +kernel) rfl (lva1 rfl (lva1 rfl (lva1 (va_rf_cat _) lva0))) (lgl1 rfl (lgl1 rfl (lgl1 (va_rf_cat _) lgl0))) (Nat.le_of_ble_eq_true rfl) (fun p e s m args below meth c ls hnm _ M hC hl => by
    have hl : lv_has ls 4 [(0, va_rf (some o)), (1, .int p0), (2, va_rf p1)] := hl
    exact w_X8_upAll_L0 M hfl _ _ _ _ hf _ _ _ _ _ hC (lv_sub hl [0, 1, 2] rfl))
set_option maxHeartbeats 4000000 in
set_option maxRecDepth 100000 in
theorem w_X8_between_L23 {p : Program} {l : Launch} {e : Env} {s : State} {m : MethodId} {args : Array Value} {below : List Frame} {meth : Method} {c : Code} {D : va_G} {cA : Nat → ClassId} {h0 : fSt} {r : (Int32 × fSt)} (M : fM p s m args meth c D cA h0 { frames := 33, cells := fCB h0 - fZ h0, slots := fLB h0 - fL h0, locals := 894 } cX8_between 7 (some (.int)) RX8) (hfl : l.stackTraces = false) (a0 : Option Nat) (a1 : Int32) (a2 : Int32) (a3 : Int32) (a4 : Int32) (a5 : Int32) (s2 : Int32) (s1 : Option Nat) (s0 : Option Nat) (h : fSt) (hf : f_X8_between_L23 a0 a1 a2 a3 a4 a5 s2 s1 s0 h = some r) : ∀ (H : Heap) (locs : List Loc) (cells slots : Nat) (ls : Array Slot), fCur D cA s h0 h H locs → lv_has ls 7 [(0, va_rf a0), (1, .int a1), (2, .int a2), (3, .int a3), (4, .int a4), (5, .int a5)] → W p l e { frames := 33, cells := fCB h0 - fZ h0, slots := fLB h0 - fL h0, locals := 894 } s m args below meth c H locs cells slots (MQ below (fQ D cA h0 r.2 (some (.int r.1))) args s (fCB h0 - fZ h0) (fLB h0 - fL h0) (fA h0)) (F0 m 23 ls [.int s2, va_rf s1, va_rf s0]) := by
  obtain ⟨hx, hb, hml, hr, hlocks, hts, hown, K, hR⟩ := id M
  intro H locs cells slots ls hC hl
  refine lv_iload_n hx hb dX8_between_23 rfl (lv_at hl 3 rfl) ?_
  refine lv_iload hx hb dX8_between_24 (lv_at hl 4 rfl) ?_
  refine lv_iload hx hb dX8_between_26 (lv_at hl 5 rfl) ?_
  obtain ⟨b3, q4, hf⟩ := obind hf
  obtain ⟨r1, g2, hf⟩ := obind hf
  refine fr_callV hx hb hml hts hown K hC hR ct_8 (c_X8_asked hfl D cA g2) 4 q4 kw1227 kw1224 kw1226 kw37 kw62 (by decide +kernel) ⟨by exact Nat.le_of_ble_eq_true rfl, by exact Nat.le_of_ble_eq_true rfl⟩ rfl hl.1 (cat8 _ (by exact Nat.le_of_ble_eq_true rfl)) dX8_between_28 rfl (fun H locs _ _ hC => ?_)
  obtain ⟨h5, g6, hf⟩ := obind hf
  refine fr_put hx hb hts hown K hC ct_8 g6 (by decide) kw971 rfl rfl rfl rfl dX8_between_31 (fun H locs hC => ?_)
  refine fr_aload_n hx hb dX8_between_34 rfl (lv_at hl 0 rfl) ?_
  obtain ⟨x7, g8, hf⟩ := obind hf
  refine fr_get hx hb hts hown K hC ct_8 (fgI_get g8) (by decide) kw971 rfl dX8_between_35 ?_
  refine lv_if_eq (tgt := 43) hx hb dX8_between_38 (by decide) (fun c9 => ?_) (fun c9 => ?_)
  · replace hf := opos c9 hf
    refine lv_iload_n hx hb dX8_between_43 rfl (lv_at hl 3 rfl) ?_
    refine lv_i2l (v := (Int32.toInt64 a3)) hx hb dX8_between_44 rfl ?_
    refine lv_iload hx hb dX8_between_45 (lv_at hl 4 rfl) ?_
    refine lv_i2l (v := (Int32.toInt64 a4)) hx hb dX8_between_47 rfl ?_
    refine lv_lconst (v := (1 : Int64)) hx hb dX8_between_48 (by decide) ?_
    obtain ⟨r10, g11, hf⟩ := obind hf
    refine fr_callS hx hb hml hts hown K hC hR (c_X8_point hfl D cA g11) 3 kw1234 kw1232 kw1233 kw62 (by decide +kernel) ⟨by exact Nat.le_of_ble_eq_true rfl, by exact Nat.le_of_ble_eq_true rfl⟩ rfl hl.1 (cat8 _ (by exact Nat.le_of_ble_eq_true rfl)) dX8_between_49 rfl (fun H locs _ _ hC => ?_)
    refine fr_astore (lv' := [(6, va_rf r10.1), (0, va_rf a0), (1, .int a1), (2, .int a2), (3, .int a3), (4, .int a4), (5, .int a5)]) hx hb dX8_between_52 hl (by decide) (congrArg (List.cons _) (flk rfl (flk rfl (flk rfl (flk rfl (flk rfl (flk rfl fln))))))) (fun ls hl => ?_)
    refine fr_aload_n hx hb dX8_between_54 rfl (lv_at hl 1 rfl) ?_
    refine lv_iload_n hx hb dX8_between_55 rfl (lv_at hl 2 rfl) ?_
    refine fr_aload hx hb dX8_between_56 (lv_at hl 0 rfl) ?_
    obtain ⟨b14, q15, hf⟩ := obind hf
    obtain ⟨r12, g13, hf⟩ := obind hf
    refine fr_callV hx hb hml hts hown K hC hR ct_8 (c_X8_upAll hfl D cA g13) 2 q15 kw1238 kw1235 kw1237 kw39 kw62 (by decide +kernel) ⟨by exact Nat.le_of_ble_eq_true rfl, by exact Nat.le_of_ble_eq_true rfl⟩ rfl hl.1 (cat8 _ (by exact Nat.le_of_ble_eq_true rfl)) dX8_between_58 rfl (fun H locs _ _ hC => ?_)
    refine fr_aload_n hx hb dX8_between_61 rfl (lv_at hl 1 rfl) ?_
    refine lv_iload_n hx hb dX8_between_62 rfl (lv_at hl 3 rfl) ?_
    refine fr_aload hx hb dX8_between_63 (lv_at hl 0 rfl) ?_
    obtain ⟨b18, q19, hf⟩ := obind hf
    obtain ⟨r16, g17, hf⟩ := obind hf
    refine fr_callV hx hb hml hts hown K hC hR ct_8 (c_X8_downAll hfl D cA 8 g17) 2 q19 kw1261 kw1258 kw1260 kw42 kw62 (by decide +kernel) ⟨by exact Nat.le_of_ble_eq_true rfl, by exact Nat.le_of_ble_eq_true rfl⟩ rfl hl.1 (cat8 _ (by exact Nat.le_of_ble_eq_true rfl)) dX8_between_65 rfl (fun H locs _ _ hC => ?_)
    refine fr_aload hx hb dX8_between_68 (lv_at hl 0 rfl) ?_
    refine lv_iload hx hb dX8_between_70 (lv_at hl 6 rfl) ?_
    obtain ⟨r20, g21, hf⟩ := obind hf
    refine fr_callS hx hb hml hts hown K hC hR (c_X8_part hfl D cA g21) 2 kw1245 kw1243 kw1244 kw62 (by decide +kernel) ⟨by exact Nat.le_of_ble_eq_true rfl, by exact Nat.le_of_ble_eq_true rfl⟩ rfl hl.1 (cat8 _ (by exact Nat.le_of_ble_eq_true rfl)) dX8_between_72 rfl (fun H locs _ _ hC => ?_)
    obtain rfl := Option.some.inj hf
    exact fr_iret hx hb hr hlocks hC dX8_between_75
  · replace hf := oneg c9 hf
    refine lv_iconst (v := (0 : Int32)) hx hb dX8_between_41 (by decide) ?_
    obtain rfl := Option.some.inj hf
    exact fr_iret hx hb hr hlocks hC dX8_between_42
set_option maxHeartbeats 4000000 in
set_option maxRecDepth 100000 in
theorem w_X8_between_L22 {p : Program} {l : Launch} {e : Env} {s : State} {m : MethodId} {args : Array Value} {below : List Frame} {meth : Method} {c : Code} {D : va_G} {cA : Nat → ClassId} {h0 : fSt} {r : (Int32 × fSt)} (M : fM p s m args meth c D cA h0 { frames := 33, cells := fCB h0 - fZ h0, slots := fLB h0 - fL h0, locals := 894 } cX8_between 7 (some (.int)) RX8) (hfl : l.stackTraces = false) (a0 : Option Nat) (a1 : Int32) (a2 : Int32) (a3 : Int32) (a4 : Int32) (a5 : Int32) (s1 : Option Nat) (s0 : Option Nat) (h : fSt) (hf : f_X8_between_L22 a0 a1 a2 a3 a4 a5 s1 s0 h = some r) : ∀ (H : Heap) (locs : List Loc) (cells slots : Nat) (ls : Array Slot), fCur D cA s h0 h H locs → lv_has ls 7 [(0, va_rf a0), (1, .int a1), (2, .int a2), (3, .int a3), (4, .int a4), (5, .int a5)] → W p l e { frames := 33, cells := fCB h0 - fZ h0, slots := fLB h0 - fL h0, locals := 894 } s m args below meth c H locs cells slots (MQ below (fQ D cA h0 r.2 (some (.int r.1))) args s (fCB h0 - fZ h0) (fLB h0 - fL h0) (fA h0)) (F0 m 22 ls [va_rf s1, va_rf s0]) := by
  obtain ⟨hx, hb, hml, hr, hlocks, hts, hown, K, hR⟩ := id M
  intro H locs cells slots ls hC hl
  refine lv_iconst (v := (0 : Int32)) hx hb dX8_between_22 (by decide) ?_
  exact w_X8_between_L23 M hfl _ _ _ _ _ _ _ _ _ _ hf _ _ _ _ _ hC (lv_sub hl [0, 1, 2, 3, 4, 5] rfl)
set_option maxHeartbeats 4000000 in
set_option maxRecDepth 100000 in
theorem w_X8_between_L0 {p : Program} {l : Launch} {e : Env} {s : State} {m : MethodId} {args : Array Value} {below : List Frame} {meth : Method} {c : Code} {D : va_G} {cA : Nat → ClassId} {h0 : fSt} {r : (Int32 × fSt)} (M : fM p s m args meth c D cA h0 { frames := 33, cells := fCB h0 - fZ h0, slots := fLB h0 - fL h0, locals := 894 } cX8_between 7 (some (.int)) RX8) (hfl : l.stackTraces = false) (a0 : Option Nat) (a1 : Int32) (a2 : Int32) (a3 : Int32) (a4 : Int32) (a5 : Int32) (h : fSt) (hf : f_X8_between_L0 a0 a1 a2 a3 a4 a5 h = some r) : ∀ (H : Heap) (locs : List Loc) (cells slots : Nat) (ls : Array Slot), fCur D cA s h0 h H locs → lv_has ls 7 [(0, va_rf a0), (1, .int a1), (2, .int a2), (3, .int a3), (4, .int a4), (5, .int a5)] → W p l e { frames := 33, cells := fCB h0 - fZ h0, slots := fLB h0 - fL h0, locals := 894 } s m args below meth c H locs cells slots (MQ below (fQ D cA h0 r.2 (some (.int r.1))) args s (fCB h0 - fZ h0) (fLB h0 - fL h0) (fA h0)) (F0 m 0 ls []) := by
  obtain ⟨hx, hb, hml, hr, hlocks, hts, hown, K, hR⟩ := id M
  intro H locs cells slots ls hC hl
  refine fr_aload_n hx hb dX8_between_0 rfl (lv_at hl 0 rfl) ?_
  refine fr_aload_n hx hb dX8_between_1 rfl (lv_at hl 0 rfl) ?_
  refine fr_aload_n hx hb dX8_between_2 rfl (lv_at hl 0 rfl) ?_
  refine lv_iload_n hx hb dX8_between_3 rfl (lv_at hl 1 rfl) ?_
  obtain ⟨b24, q25, hf⟩ := obind hf
  obtain ⟨r22, g23, hf⟩ := obind hf
  refine fr_callV hx hb hml hts hown K hC hR ct_8 (c_X8_isNode hfl D cA g23) 1 q25 kw1063 kw1060 kw1062 kw20 kw62 (by decide +kernel) ⟨by exact Nat.le_of_ble_eq_true rfl, by exact Nat.le_of_ble_eq_true rfl⟩ rfl hl.1 (cat8 _ (by exact Nat.le_of_ble_eq_true rfl)) dX8_between_4 rfl (fun H locs _ _ hC => ?_)
  refine lv_if_eq (tgt := 22) hx hb dX8_between_7 (by decide) (fun c26 => ?_) (fun c26 => ?_)
  · replace hf := opos c26 hf
    exact w_X8_between_L22 M hfl _ _ _ _ _ _ _ _ _ hf _ _ _ _ _ hC (lv_sub hl [0, 1, 2, 3, 4, 5] rfl)
  · replace hf := oneg c26 hf
    refine fr_aload_n hx hb dX8_between_10 rfl (lv_at hl 0 rfl) ?_
    refine lv_iload_n hx hb dX8_between_11 rfl (lv_at hl 2 rfl) ?_
    obtain ⟨b29, q30, hf⟩ := obind hf
    obtain ⟨r27, g28, hf⟩ := obind hf
    refine fr_callV hx hb hml hts hown K hC hR ct_8 (c_X8_isNode hfl D cA g28) 1 q30 kw1063 kw1060 kw1062 kw20 kw62 (by decide +kernel) ⟨by exact Nat.le_of_ble_eq_true rfl, by exact Nat.le_of_ble_eq_true rfl⟩ rfl hl.1 (cat8 _ (by exact Nat.le_of_ble_eq_true rfl)) dX8_between_12 rfl (fun H locs _ _ hC => ?_)
    refine lv_if_eq (tgt := 22) hx hb dX8_between_15 (by decide) (fun c31 => ?_) (fun c31 => ?_)
    · replace hf := opos c31 hf
      exact w_X8_between_L22 M hfl _ _ _ _ _ _ _ _ _ hf _ _ _ _ _ hC (lv_sub hl [0, 1, 2, 3, 4, 5] rfl)
    · replace hf := oneg c31 hf
      refine lv_iconst (v := (1 : Int32)) hx hb dX8_between_18 (by decide) ?_
      refine lv_goto (tgt := 23) hx hb dX8_between_19 (by decide) ?_
      exact w_X8_between_L23 M hfl _ _ _ _ _ _ _ _ _ _ hf _ _ _ _ _ hC (lv_sub hl [0, 1, 2, 3, 4, 5] rfl)
set_option maxRecDepth 100000 in
theorem c_X8_between {l : Launch} (hfl : l.stackTraces = false) (D : va_G) (cA : Nat → ClassId) {o : Nat} {p0 : Int32} {p1 : Int32} {p2 : Int32} {p3 : Int32} {p4 : Int32} {h : fSt} {r : (Int32 × fSt)} (hf : f_X8_between o p0 p1 p2 p3 p4 h = some r) : fMet l yX8_between (wsC yX8_between cX8_between 7 (some (.int))) (33) (894) D cA [.ref o, .int p0, .int p1, .int p2, .int p3, .int p4] h r.2 (some (.int r.1)) := by
  exact fMet.of (own := RX8) (by decide +kernel) rfl (lva1 rfl (lva1 rfl (lva1 rfl (lva1 rfl (lva1 rfl (lva1 rfl lva0)))))) (lgl1 rfl (lgl1 rfl (lgl1 rfl (lgl1 rfl (lgl1 rfl (lgl1 rfl lgl0)))))) (Nat.le_of_ble_eq_true rfl) (fun p e s m args below meth c ls hnm _ M hC hl => by
    have hl : lv_has ls 7 [(0, va_rf (some o)), (1, .int p0), (2, .int p1), (3, .int p2), (4, .int p3), (5, .int p4)] := hl
    exact w_X8_between_L0 M hfl _ _ _ _ _ _ _ hf _ _ _ _ _ hC (lv_sub hl [0, 1, 2, 3, 4, 5] rfl))
set_option maxHeartbeats 4000000 in
set_option maxRecDepth 100000 in
theorem w_X8_isShownNow_L25 {p : Program} {l : Launch} {e : Env} {s : State} {m : MethodId} {args : Array Value} {below : List Frame} {meth : Method} {c : Code} {D : va_G} {cA : Nat → ClassId} {h0 : fSt} {r : (Int32 × fSt)} (M : fM p s m args meth c D cA h0 { frames := 3, cells := fCB h0 - fZ h0, slots := fLB h0 - fL h0, locals := 80 } cX8_isShownNow 3 (some (.boolean)) RX8) (hfl : l.stackTraces = false)  (h : fSt) (hf : f_X8_isShownNow_L25  h = some r) : ∀ (H : Heap) (locs : List Loc) (cells slots : Nat) (ls : Array Slot), fCur D cA s h0 h H locs → lv_has ls 3 [] → W p l e { frames := 3, cells := fCB h0 - fZ h0, slots := fLB h0 - fL h0, locals := 80 } s m args below meth c H locs cells slots (MQ below (fQ D cA h0 r.2 (some (.int r.1))) args s (fCB h0 - fZ h0) (fLB h0 - fL h0) (fA h0)) (F0 m 25 ls []) := by
  obtain ⟨hx, hb, hml, hr, hlocks, hts, hown, K, hR⟩ := id M
  intro H locs cells slots ls hC hl
  refine lv_iconst (v := (0 : Int32)) hx hb dX8_isShownNow_25 (by decide) ?_
  obtain rfl := Option.some.inj hf
  exact fr_zret hx hb hr hlocks hC (Or.inl rfl) dX8_isShownNow_26
set_option maxHeartbeats 4000000 in
set_option maxRecDepth 100000 in
theorem w_X8_isShownNow_L51 {p : Program} {l : Launch} {e : Env} {s : State} {m : MethodId} {args : Array Value} {below : List Frame} {meth : Method} {c : Code} {D : va_G} {cA : Nat → ClassId} {h0 : fSt} {r : (Int32 × fSt)} (M : fM p s m args meth c D cA h0 { frames := 3, cells := fCB h0 - fZ h0, slots := fLB h0 - fL h0, locals := 80 } cX8_isShownNow 3 (some (.boolean)) RX8) (hfl : l.stackTraces = false) (s0 : Int32) (h : fSt) (hf : f_X8_isShownNow_L51 s0 h = some r) : ∀ (H : Heap) (locs : List Loc) (cells slots : Nat) (ls : Array Slot), fCur D cA s h0 h H locs → lv_has ls 3 [] → W p l e { frames := 3, cells := fCB h0 - fZ h0, slots := fLB h0 - fL h0, locals := 80 } s m args below meth c H locs cells slots (MQ below (fQ D cA h0 r.2 (some (.int r.1))) args s (fCB h0 - fZ h0) (fLB h0 - fL h0) (fA h0)) (F0 m 51 ls [.int s0]) := by
  obtain ⟨hx, hb, hml, hr, hlocks, hts, hown, K, hR⟩ := id M
  intro H locs cells slots ls hC hl
  by_cases c1 : s0 = 0 ∨ s0 = 1
  rotate_left
  · exact nomatch (oneg c1 hf)
  obtain rfl := Option.some.inj (opos c1 hf)
  exact fr_zret hx hb hr hlocks hC c1 dX8_isShownNow_51
set_option maxHeartbeats 4000000 in
set_option maxRecDepth 100000 in
theorem w_X8_isShownNow_L2 {p : Program} {l : Launch} {e : Env} {s : State} {m : MethodId} {args : Array Value} {below : List Frame} {meth : Method} {c : Code} {D : va_G} {cA : Nat → ClassId} {h0 : fSt} {r : (Int32 × fSt)} (M : fM p s m args meth c D cA h0 { frames := 3, cells := fCB h0 - fZ h0, slots := fLB h0 - fL h0, locals := 80 } cX8_isShownNow 3 (some (.boolean)) RX8) (hfl : l.stackTraces = false) : ∀ (n : Nat) (a0 : Option Nat) (a1 : Int32) (a2 : Int32) (h : fSt), f_X8_isShownNow_L2 n a0 a1 a2 h = some r → ∀ (H : Heap) (locs : List Loc) (cells slots : Nat) (ls : Array Slot), fCur D cA s h0 h H locs → lv_has ls 3 [(0, va_rf a0), (1, .int a1), (2, .int a2)] → W p l e { frames := 3, cells := fCB h0 - fZ h0, slots := fLB h0 - fL h0, locals := 80 } s m args below meth c H locs cells slots (MQ below (fQ D cA h0 r.2 (some (.int r.1))) args s (fCB h0 - fZ h0) (fLB h0 - fL h0) (fA h0)) (F0 m 2 ls []) := by
  obtain ⟨hx, hb, hml, hr, hlocks, hts, hown, K, hR⟩ := id M
  intro n
  induction n with
  | zero =>
    intro a0 a1 a2 h hf
    exact nomatch (show (none : Option (Int32 × fSt)) = some r from hf)
  | succ n hk2 =>
    intro a0 a1 a2 h hf H locs cells slots ls hC hl
    refine lv_iload_n hx hb dX8_isShownNow_2 rfl (lv_at hl 2 rfl) ?_
    refine lv_iconst (v := (-1 : Int32)) hx hb dX8_isShownNow_3 (by decide) ?_
    refine lv_icmp_eq (tgt := 37) hx hb dX8_isShownNow_4 (by decide) (fun c2 => ?_) (fun c2 => ?_)
    · replace hf := opos c2 hf
      refine fr_aload_n hx hb dX8_isShownNow_37 rfl (lv_at hl 0 rfl) ?_
      obtain ⟨x3, g4, hf⟩ := obind hf
      refine fr_get hx hb hts hown K hC ct_8 (fgR_get g4) (by decide) kw973 rfl dX8_isShownNow_38 ?_
      refine lv_iload_n hx hb dX8_isShownNow_41 rfl (lv_at hl 1 rfl) ?_
      obtain ⟨x5, g6, hf⟩ := obind hf
      refine fr_zald hx hb K hC (t := 2) rfl g6 dX8_isShownNow_42 ?_
      refine lv_if_ne (tgt := 50) hx hb dX8_isShownNow_43 (by decide) (fun c7 => ?_) (fun c7 => ?_)
      · replace hf := oneg c7 hf
        refine lv_iconst (v := (0 : Int32)) hx hb dX8_isShownNow_50 (by decide) ?_
        exact w_X8_isShownNow_L51 M hfl _ _ hf _ _ _ _ _ hC (lv_sub hl [] rfl)
      · replace hf := opos c7 hf
        refine lv_iconst (v := (1 : Int32)) hx hb dX8_isShownNow_46 (by decide) ?_
        refine lv_goto (tgt := 51) hx hb dX8_isShownNow_47 (by decide) ?_
        exact w_X8_isShownNow_L51 M hfl _ _ hf _ _ _ _ _ hC (lv_sub hl [] rfl)
    · replace hf := oneg c2 hf
      refine fr_aload_n hx hb dX8_isShownNow_7 rfl (lv_at hl 0 rfl) ?_
      obtain ⟨x8, g9, hf⟩ := obind hf
      refine fr_get hx hb hts hown K hC ct_8 (fgR_get g9) (by decide) kw975 rfl dX8_isShownNow_8 ?_
      refine lv_iload_n hx hb dX8_isShownNow_11 rfl (lv_at hl 2 rfl) ?_
      obtain ⟨x10, g11, hf⟩ := obind hf
      refine fr_zald hx hb K hC (t := 2) rfl g11 dX8_isShownNow_12 ?_
      refine lv_if_ne (tgt := 25) hx hb dX8_isShownNow_13 (by decide) (fun c12 => ?_) (fun c12 => ?_)
      · replace hf := oneg c12 hf
        exact w_X8_isShownNow_L25 M hfl _ hf _ _ _ _ _ hC (lv_sub hl [] rfl)
      · replace hf := opos c12 hf
        refine fr_aload_n hx hb dX8_isShownNow_16 rfl (lv_at hl 0 rfl) ?_
        refine lv_iload_n hx hb dX8_isShownNow_17 rfl (lv_at hl 2 rfl) ?_
        refine lv_iconst (v := (3 : Int32)) hx hb dX8_isShownNow_18 (by decide) ?_
        obtain ⟨b15, q16, hf⟩ := obind hf
        obtain ⟨r13, g14, hf⟩ := obind hf
        refine fr_callV hx hb hml hts hown K hC hR ct_8 (c_X8_has hfl D cA g14) 2 q16 kw1201 kw1198 kw1200 kw33 kw62 (by decide +kernel) ⟨by exact Nat.le_of_ble_eq_true rfl, by exact Nat.le_of_ble_eq_true rfl⟩ rfl hl.1 (cat8 _ (by exact Nat.le_of_ble_eq_true rfl)) dX8_isShownNow_19 rfl (fun H locs _ _ hC => ?_)
        refine lv_if_ne (tgt := 27) hx hb dX8_isShownNow_22 (by decide) (fun c17 => ?_) (fun c17 => ?_)
        · replace hf := oneg c17 hf
          refine fr_aload_n hx hb dX8_isShownNow_27 rfl (lv_at hl 0 rfl) ?_
          obtain ⟨x18, g19, hf⟩ := obind hf
          refine fr_get hx hb hts hown K hC ct_8 (fgR_get g19) (by decide) kw977 rfl dX8_isShownNow_28 ?_
          refine lv_iload_n hx hb dX8_isShownNow_31 rfl (lv_at hl 2 rfl) ?_
          obtain ⟨x20, g21, hf⟩ := obind hf
          refine fr_iald hx hb K hC (t := 0) rfl g21 dX8_isShownNow_32 ?_
          refine lv_istore_n (lv' := [(2, .int x20), (0, va_rf a0), (1, .int a1)]) hx hb dX8_isShownNow_33 rfl hl (by decide) (congrArg (List.cons _) (flk rfl (flk rfl (fld rfl fln)))) (fun ls hl => ?_)
          refine lv_goto (tgt := 2) hx hb dX8_isShownNow_34 (by decide) ?_
          exact hk2 _ _ _ _ hf _ _ _ _ _ hC (lv_sub hl [1, 2, 0] rfl)
        · replace hf := opos c17 hf
          exact w_X8_isShownNow_L25 M hfl _ hf _ _ _ _ _ hC (lv_sub hl [] rfl)
set_option maxHeartbeats 4000000 in
set_option maxRecDepth 100000 in
theorem w_X8_isShownNow_L0 {p : Program} {l : Launch} {e : Env} {s : State} {m : MethodId} {args : Array Value} {below : List Frame} {meth : Method} {c : Code} {D : va_G} {cA : Nat → ClassId} {h0 : fSt} {r : (Int32 × fSt)} (M : fM p s m args meth c D cA h0 { frames := 3, cells := fCB h0 - fZ h0, slots := fLB h0 - fL h0, locals := 80 } cX8_isShownNow 3 (some (.boolean)) RX8) (hfl : l.stackTraces = false) (a0 : Option Nat) (a1 : Int32) (h : fSt) (hf : f_X8_isShownNow_L0 a0 a1 h = some r) : ∀ (H : Heap) (locs : List Loc) (cells slots : Nat) (ls : Array Slot), fCur D cA s h0 h H locs → lv_has ls 3 [(0, va_rf a0), (1, .int a1)] → W p l e { frames := 3, cells := fCB h0 - fZ h0, slots := fLB h0 - fL h0, locals := 80 } s m args below meth c H locs cells slots (MQ below (fQ D cA h0 r.2 (some (.int r.1))) args s (fCB h0 - fZ h0) (fLB h0 - fL h0) (fA h0)) (F0 m 0 ls []) := by
  obtain ⟨hx, hb, hml, hr, hlocks, hts, hown, K, hR⟩ := id M
  intro H locs cells slots ls hC hl
  refine lv_iload_n hx hb dX8_isShownNow_0 rfl (lv_at hl 1 rfl) ?_
  refine lv_istore_n (lv' := [(2, .int a1), (0, va_rf a0), (1, .int a1)]) hx hb dX8_isShownNow_1 rfl hl (by decide) (congrArg (List.cons _) (flk rfl (flk rfl fln))) (fun ls hl => ?_)
  exact w_X8_isShownNow_L2 M hfl 4096 _ _ _ _ hf _ _ _ _ _ hC (lv_sub hl [1, 2, 0] rfl)
set_option maxRecDepth 100000 in
theorem c_X8_isShownNow {l : Launch} (hfl : l.stackTraces = false) (D : va_G) (cA : Nat → ClassId) {o : Nat} {p0 : Int32} {h : fSt} {r : (Int32 × fSt)} (hf : f_X8_isShownNow o p0 h = some r) : fMet l yX8_isShownNow (wsC yX8_isShownNow cX8_isShownNow 3 (some (.boolean))) (3) (80) D cA [.ref o, .int p0] h r.2 (some (.int r.1)) := by
  exact fMet.of (own := RX8) (by decide +kernel) rfl (lva1 rfl (lva1 rfl lva0)) (lgl1 rfl (lgl1 rfl lgl0)) (Nat.le_of_ble_eq_true rfl) (fun p e s m args below meth c ls hnm _ M hC hl => by
    have hl : lv_has ls 3 [(0, va_rf (some o)), (1, .int p0)] := hl
    exact w_X8_isShownNow_L0 M hfl _ _ _ hf _ _ _ _ _ hC (lv_sub hl [0, 1] rfl))
set_option maxHeartbeats 4000000 in
set_option maxRecDepth 100000 in
theorem w_X8_isWithin_L2 {p : Program} {l : Launch} {e : Env} {s : State} {m : MethodId} {args : Array Value} {below : List Frame} {meth : Method} {c : Code} {D : va_G} {cA : Nat → ClassId} {h0 : fSt} {r : (Int32 × fSt)} (M : fM p s m args meth c D cA h0 { frames := 0, cells := fCB h0 - fZ h0, slots := fLB h0 - fL h0, locals := 0 } cX8_isWithin 4 (some (.boolean)) RX8) (hfl : l.stackTraces = false) : ∀ (n : Nat) (a0 : Option Nat) (a2 : Int32) (a3 : Int32) (h : fSt), f_X8_isWithin_L2 n a0 a2 a3 h = some r → ∀ (H : Heap) (locs : List Loc) (cells slots : Nat) (ls : Array Slot), fCur D cA s h0 h H locs → lv_has ls 4 [(0, va_rf a0), (2, .int a2), (3, .int a3)] → W p l e { frames := 0, cells := fCB h0 - fZ h0, slots := fLB h0 - fL h0, locals := 0 } s m args below meth c H locs cells slots (MQ below (fQ D cA h0 r.2 (some (.int r.1))) args s (fCB h0 - fZ h0) (fLB h0 - fL h0) (fA h0)) (F0 m 2 ls []) := by
  obtain ⟨hx, hb, hml, hr, hlocks, hts, hown, K, hR⟩ := id M
  intro n
  induction n with
  | zero =>
    intro a0 a2 a3 h hf
    exact nomatch (show (none : Option (Int32 × fSt)) = some r from hf)
  | succ n hk2 =>
    intro a0 a2 a3 h hf H locs cells slots ls hC hl
    refine lv_iload_n hx hb dX8_isWithin_2 rfl (lv_at hl 2 rfl) ?_
    refine lv_iconst (v := (-1 : Int32)) hx hb dX8_isWithin_3 (by decide) ?_
    refine lv_icmp_eq (tgt := 24) hx hb dX8_isWithin_4 (by decide) (fun c1 => ?_) (fun c1 => ?_)
    · replace hf := opos c1 hf
      refine lv_iconst (v := (0 : Int32)) hx hb dX8_isWithin_24 (by decide) ?_
      obtain rfl := Option.some.inj hf
      exact fr_zret hx hb hr hlocks hC (Or.inl rfl) dX8_isWithin_25
    · replace hf := oneg c1 hf
      refine lv_iload_n hx hb dX8_isWithin_7 rfl (lv_at hl 2 rfl) ?_
      refine lv_iload_n hx hb dX8_isWithin_8 rfl (lv_at hl 1 rfl) ?_
      refine lv_icmp_ne (tgt := 14) hx hb dX8_isWithin_9 (by decide) (fun c2 => ?_) (fun c2 => ?_)
      · replace hf := oneg c2 hf
        refine fr_aload_n hx hb dX8_isWithin_14 rfl (lv_at hl 0 rfl) ?_
        obtain ⟨x3, g4, hf⟩ := obind hf
        refine fr_get hx hb hts hown K hC ct_8 (fgR_get g4) (by decide) kw977 rfl dX8_isWithin_15 ?_
        refine lv_iload_n hx hb dX8_isWithin_18 rfl (lv_at hl 2 rfl) ?_
        obtain ⟨x5, g6, hf⟩ := obind hf
        refine fr_iald hx hb K hC (t := 0) rfl g6 dX8_isWithin_19 ?_
        refine lv_istore_n (lv' := [(3, .int x5), (0, va_rf a0), (2, .int a2)]) hx hb dX8_isWithin_20 rfl hl (by decide) (congrArg (List.cons _) (flk rfl (flk rfl (fld rfl fln)))) (fun ls hl => ?_)
        refine lv_goto (tgt := 2) hx hb dX8_isWithin_21 (by decide) ?_
        exact hk2 _ _ _ _ hf _ _ _ _ _ hC (lv_sub hl [1, 2, 0] rfl)
      · replace hf := opos c2 hf
        refine lv_iconst (v := (1 : Int32)) hx hb dX8_isWithin_12 (by decide) ?_
        obtain rfl := Option.some.inj hf
        exact fr_zret hx hb hr hlocks hC (Or.inr rfl) dX8_isWithin_13
set_option maxHeartbeats 4000000 in
set_option maxRecDepth 100000 in
theorem w_X8_isWithin_L0 {p : Program} {l : Launch} {e : Env} {s : State} {m : MethodId} {args : Array Value} {below : List Frame} {meth : Method} {c : Code} {D : va_G} {cA : Nat → ClassId} {h0 : fSt} {r : (Int32 × fSt)} (M : fM p s m args meth c D cA h0 { frames := 0, cells := fCB h0 - fZ h0, slots := fLB h0 - fL h0, locals := 0 } cX8_isWithin 4 (some (.boolean)) RX8) (hfl : l.stackTraces = false) (a0 : Option Nat) (a1 : Int32) (a2 : Int32) (h : fSt) (hf : f_X8_isWithin_L0 a0 a1 a2 h = some r) : ∀ (H : Heap) (locs : List Loc) (cells slots : Nat) (ls : Array Slot), fCur D cA s h0 h H locs → lv_has ls 4 [(0, va_rf a0), (1, .int a1), (2, .int a2)] → W p l e { frames := 0, cells := fCB h0 - fZ h0, slots := fLB h0 - fL h0, locals := 0 } s m args below meth c H locs cells slots (MQ below (fQ D cA h0 r.2 (some (.int r.1))) args s (fCB h0 - fZ h0) (fLB h0 - fL h0) (fA h0)) (F0 m 0 ls []) := by
  obtain ⟨hx, hb, hml, hr, hlocks, hts, hown, K, hR⟩ := id M
  intro H locs cells slots ls hC hl
  refine lv_iload_n hx hb dX8_isWithin_0 rfl (lv_at hl 1 rfl) ?_
  refine lv_istore_n (lv' := [(3, .int a1), (0, va_rf a0), (1, .int a1), (2, .int a2)]) hx hb dX8_isWithin_1 rfl hl (by decide) (congrArg (List.cons _) (flk rfl (flk rfl (flk rfl fln)))) (fun ls hl => ?_)
  exact w_X8_isWithin_L2 M hfl 4096 _ _ _ _ hf _ _ _ _ _ hC (lv_sub hl [1, 3, 0] rfl)
set_option maxRecDepth 100000 in
theorem c_X8_isWithin {l : Launch} (hfl : l.stackTraces = false) (D : va_G) (cA : Nat → ClassId) {o : Nat} {p0 : Int32} {p1 : Int32} {h : fSt} {r : (Int32 × fSt)} (hf : f_X8_isWithin o p0 p1 h = some r) : fMet l yX8_isWithin (wsC yX8_isWithin cX8_isWithin 4 (some (.boolean))) (0) (0) D cA [.ref o, .int p0, .int p1] h r.2 (some (.int r.1)) := by
  exact fMet.of (own := RX8) (by decide +kernel) rfl (lva1 rfl (lva1 rfl (lva1 rfl lva0))) (lgl1 rfl (lgl1 rfl (lgl1 rfl lgl0))) (Nat.le_of_ble_eq_true rfl) (fun p e s m args below meth c ls hnm _ M hC hl => by
    have hl : lv_has ls 4 [(0, va_rf (some o)), (1, .int p0), (2, .int p1)] := hl
    exact w_X8_isWithin_L0 M hfl _ _ _ _ hf _ _ _ _ _ hC (lv_sub hl [0, 1, 2] rfl))
set_option maxHeartbeats 4000000 in
set_option maxRecDepth 100000 in
theorem w_X8_boundNow_L211 {p : Program} {l : Launch} {e : Env} {s : State} {m : MethodId} {args : Array Value} {below : List Frame} {meth : Method} {c : Code} {D : va_G} {cA : Nat → ClassId} {h0 : fSt} {r : (Int32 × fSt)} (M : fM p s m args meth c D cA h0 { frames := 5, cells := fCB h0 - fZ h0, slots := fLB h0 - fL h0, locals := 132 } cX8_boundNow 11 (some (.int)) RX8) (hfl : l.stackTraces = false) {k11 : Option Nat → Int32 → Int32 → Int32 → Option Nat → Int32 → Int32 → fSt → Option (Int32 × fSt)} (hk11 : ∀ (a0 : Option Nat) (a1 : Int32) (a2 : Int32) (a3 : Int32) (a4 : Option Nat) (a5 : Int32) (a6 : Int32) (h : fSt), k11 a0 a1 a2 a3 a4 a5 a6 h = some r → ∀ (H : Heap) (locs : List Loc) (cells slots : Nat) (ls : Array Slot), fCur D cA s h0 h H locs → lv_has ls 11 [(0, va_rf a0), (1, .int a1), (2, .int a2), (3, .int a3), (4, va_rf a4), (5, .int a5), (6, .int a6)] → W p l e { frames := 5, cells := fCB h0 - fZ h0, slots := fLB h0 - fL h0, locals := 132 } s m args below meth c H locs cells slots (MQ below (fQ D cA h0 r.2 (some (.int r.1))) args s (fCB h0 - fZ h0) (fLB h0 - fL h0) (fA h0)) (F0 m 11 ls [])) (a0 : Option Nat) (a1 : Int32) (a2 : Int32) (a3 : Int32) (a4 : Option Nat) (a5 : Int32) (a6 : Int32) (h : fSt) (hf : f_X8_boundNow_L211 k11 a0 a1 a2 a3 a4 a5 a6 h = some r) : ∀ (H : Heap) (locs : List Loc) (cells slots : Nat) (ls : Array Slot), fCur D cA s h0 h H locs → lv_has ls 11 [(0, va_rf a0), (1, .int a1), (2, .int a2), (3, .int a3), (4, va_rf a4), (5, .int a5), (6, .int a6)] → W p l e { frames := 5, cells := fCB h0 - fZ h0, slots := fLB h0 - fL h0, locals := 132 } s m args below meth c H locs cells slots (MQ below (fQ D cA h0 r.2 (some (.int r.1))) args s (fCB h0 - fZ h0) (fLB h0 - fL h0) (fA h0)) (F0 m 211 ls []) := by
  obtain ⟨hx, hb, hml, hr, hlocks, hts, hown, K, hR⟩ := id M
  intro H locs cells slots ls hC hl
  refine lv_iinc (v := (a6 + (1 : Int32))) (lv' := [(6, .int (a6 + (1 : Int32))), (0, va_rf a0), (1, .int a1), (2, .int a2), (3, .int a3), (4, va_rf a4), (5, .int a5)]) hx hb dX8_boundNow_211 hl (k := 6) rfl rfl (by decide) (congrArg (List.cons _) (flk rfl (flk rfl (flk rfl (flk rfl (flk rfl (flk rfl (fld rfl fln)))))))) (fun ls hl => ?_)
  refine lv_goto (tgt := 11) hx hb dX8_boundNow_214 (by decide) ?_
  exact hk11 _ _ _ _ _ _ _ _ hf _ _ _ _ _ hC (lv_sub hl [1, 2, 3, 4, 5, 6, 0] rfl)
set_option maxHeartbeats 4000000 in
set_option maxRecDepth 100000 in
theorem w_X8_boundNow_L205 {p : Program} {l : Launch} {e : Env} {s : State} {m : MethodId} {args : Array Value} {below : List Frame} {meth : Method} {c : Code} {D : va_G} {cA : Nat → ClassId} {h0 : fSt} {r : (Int32 × fSt)} (M : fM p s m args meth c D cA h0 { frames := 5, cells := fCB h0 - fZ h0, slots := fLB h0 - fL h0, locals := 132 } cX8_boundNow 11 (some (.int)) RX8) (hfl : l.stackTraces = false) {k11 : Option Nat → Int32 → Int32 → Int32 → Option Nat → Int32 → Int32 → fSt → Option (Int32 × fSt)} (hk11 : ∀ (a0 : Option Nat) (a1 : Int32) (a2 : Int32) (a3 : Int32) (a4 : Option Nat) (a5 : Int32) (a6 : Int32) (h : fSt), k11 a0 a1 a2 a3 a4 a5 a6 h = some r → ∀ (H : Heap) (locs : List Loc) (cells slots : Nat) (ls : Array Slot), fCur D cA s h0 h H locs → lv_has ls 11 [(0, va_rf a0), (1, .int a1), (2, .int a2), (3, .int a3), (4, va_rf a4), (5, .int a5), (6, .int a6)] → W p l e { frames := 5, cells := fCB h0 - fZ h0, slots := fLB h0 - fL h0, locals := 132 } s m args below meth c H locs cells slots (MQ below (fQ D cA h0 r.2 (some (.int r.1))) args s (fCB h0 - fZ h0) (fLB h0 - fL h0) (fA h0)) (F0 m 11 ls [])) {k65 : Option Nat → Int32 → Int32 → Int32 → Option Nat → Int32 → Int32 → Int32 → fSt → Option (Int32 × fSt)} (hk65 : ∀ (a0 : Option Nat) (a1 : Int32) (a2 : Int32) (a3 : Int32) (a4 : Option Nat) (a5 : Int32) (a6 : Int32) (a7 : Int32) (h : fSt), k65 a0 a1 a2 a3 a4 a5 a6 a7 h = some r → ∀ (H : Heap) (locs : List Loc) (cells slots : Nat) (ls : Array Slot), fCur D cA s h0 h H locs → lv_has ls 11 [(0, va_rf a0), (1, .int a1), (2, .int a2), (3, .int a3), (4, va_rf a4), (5, .int a5), (6, .int a6), (7, .int a7)] → W p l e { frames := 5, cells := fCB h0 - fZ h0, slots := fLB h0 - fL h0, locals := 132 } s m args below meth c H locs cells slots (MQ below (fQ D cA h0 r.2 (some (.int r.1))) args s (fCB h0 - fZ h0) (fLB h0 - fL h0) (fA h0)) (F0 m 65 ls [])) (a0 : Option Nat) (a1 : Int32) (a2 : Int32) (a3 : Int32) (a4 : Option Nat) (a5 : Int32) (a6 : Int32) (a7 : Int32) (h : fSt) (hf : f_X8_boundNow_L205 k11 k65 a0 a1 a2 a3 a4 a5 a6 a7 h = some r) : ∀ (H : Heap) (locs : List Loc) (cells slots : Nat) (ls : Array Slot), fCur D cA s h0 h H locs → lv_has ls 11 [(0, va_rf a0), (1, .int a1), (2, .int a2), (3, .int a3), (4, va_rf a4), (5, .int a5), (6, .int a6), (7, .int a7)] → W p l e { frames := 5, cells := fCB h0 - fZ h0, slots := fLB h0 - fL h0, locals := 132 } s m args below meth c H locs cells slots (MQ below (fQ D cA h0 r.2 (some (.int r.1))) args s (fCB h0 - fZ h0) (fLB h0 - fL h0) (fA h0)) (F0 m 205 ls []) := by
  obtain ⟨hx, hb, hml, hr, hlocks, hts, hown, K, hR⟩ := id M
  intro H locs cells slots ls hC hl
  refine lv_iinc (v := (a7 + (1 : Int32))) (lv' := [(7, .int (a7 + (1 : Int32))), (0, va_rf a0), (1, .int a1), (2, .int a2), (3, .int a3), (4, va_rf a4), (5, .int a5), (6, .int a6)]) hx hb dX8_boundNow_205 hl (k := 7) rfl rfl (by decide) (congrArg (List.cons _) (flk rfl (flk rfl (flk rfl (flk rfl (flk rfl (flk rfl (flk rfl (fld rfl fln))))))))) (fun ls hl => ?_)
  refine lv_goto (tgt := 65) hx hb dX8_boundNow_208 (by decide) ?_
  exact hk65 _ _ _ _ _ _ _ _ _ hf _ _ _ _ _ hC (lv_sub hl [1, 2, 3, 4, 5, 6, 7, 0] rfl)
set_option maxHeartbeats 4000000 in
set_option maxRecDepth 100000 in
theorem w_X8_boundNow_L201 {p : Program} {l : Launch} {e : Env} {s : State} {m : MethodId} {args : Array Value} {below : List Frame} {meth : Method} {c : Code} {D : va_G} {cA : Nat → ClassId} {h0 : fSt} {r : (Int32 × fSt)} (M : fM p s m args meth c D cA h0 { frames := 5, cells := fCB h0 - fZ h0, slots := fLB h0 - fL h0, locals := 132 } cX8_boundNow 11 (some (.int)) RX8) (hfl : l.stackTraces = false) {k11 : Option Nat → Int32 → Int32 → Int32 → Option Nat → Int32 → Int32 → fSt → Option (Int32 × fSt)} (hk11 : ∀ (a0 : Option Nat) (a1 : Int32) (a2 : Int32) (a3 : Int32) (a4 : Option Nat) (a5 : Int32) (a6 : Int32) (h : fSt), k11 a0 a1 a2 a3 a4 a5 a6 h = some r → ∀ (H : Heap) (locs : List Loc) (cells slots : Nat) (ls : Array Slot), fCur D cA s h0 h H locs → lv_has ls 11 [(0, va_rf a0), (1, .int a1), (2, .int a2), (3, .int a3), (4, va_rf a4), (5, .int a5), (6, .int a6)] → W p l e { frames := 5, cells := fCB h0 - fZ h0, slots := fLB h0 - fL h0, locals := 132 } s m args below meth c H locs cells slots (MQ below (fQ D cA h0 r.2 (some (.int r.1))) args s (fCB h0 - fZ h0) (fLB h0 - fL h0) (fA h0)) (F0 m 11 ls [])) {k65 : Option Nat → Int32 → Int32 → Int32 → Option Nat → Int32 → Int32 → Int32 → fSt → Option (Int32 × fSt)} (hk65 : ∀ (a0 : Option Nat) (a1 : Int32) (a2 : Int32) (a3 : Int32) (a4 : Option Nat) (a5 : Int32) (a6 : Int32) (a7 : Int32) (h : fSt), k65 a0 a1 a2 a3 a4 a5 a6 a7 h = some r → ∀ (H : Heap) (locs : List Loc) (cells slots : Nat) (ls : Array Slot), fCur D cA s h0 h H locs → lv_has ls 11 [(0, va_rf a0), (1, .int a1), (2, .int a2), (3, .int a3), (4, va_rf a4), (5, .int a5), (6, .int a6), (7, .int a7)] → W p l e { frames := 5, cells := fCB h0 - fZ h0, slots := fLB h0 - fL h0, locals := 132 } s m args below meth c H locs cells slots (MQ below (fQ D cA h0 r.2 (some (.int r.1))) args s (fCB h0 - fZ h0) (fLB h0 - fL h0) (fA h0)) (F0 m 65 ls [])) (a0 : Option Nat) (a1 : Int32) (a2 : Int32) (a3 : Int32) (a5 : Int32) (a6 : Int32) (a7 : Int32) (a8 : Option Nat) (h : fSt) (hf : f_X8_boundNow_L201 k11 k65 a0 a1 a2 a3 a5 a6 a7 a8 h = some r) : ∀ (H : Heap) (locs : List Loc) (cells slots : Nat) (ls : Array Slot), fCur D cA s h0 h H locs → lv_has ls 11 [(0, va_rf a0), (1, .int a1), (2, .int a2), (3, .int a3), (5, .int a5), (6, .int a6), (7, .int a7), (8, va_rf a8)] → W p l e { frames := 5, cells := fCB h0 - fZ h0, slots := fLB h0 - fL h0, locals := 132 } s m args below meth c H locs cells slots (MQ below (fQ D cA h0 r.2 (some (.int r.1))) args s (fCB h0 - fZ h0) (fLB h0 - fL h0) (fA h0)) (F0 m 201 ls []) := by
  obtain ⟨hx, hb, hml, hr, hlocks, hts, hown, K, hR⟩ := id M
  intro H locs cells slots ls hC hl
  refine fr_aload hx hb dX8_boundNow_201 (lv_at hl 7 rfl) ?_
  refine fr_astore (lv' := [(4, va_rf a8), (0, va_rf a0), (1, .int a1), (2, .int a2), (3, .int a3), (5, .int a5), (6, .int a6), (7, .int a7), (8, va_rf a8)]) hx hb dX8_boundNow_203 hl (by decide) (congrArg (List.cons _) (flk rfl (flk rfl (flk rfl (flk rfl (flk rfl (flk rfl (flk rfl (flk rfl fln))))))))) (fun ls hl => ?_)
  exact w_X8_boundNow_L205 M hfl hk11 hk65 _ _ _ _ _ _ _ _ _ hf _ _ _ _ _ hC (lv_sub hl [1, 2, 3, 4, 0, 5, 6, 7] rfl)
set_option maxHeartbeats 4000000 in
set_option maxRecDepth 100000 in
theorem w_X8_boundNow_L172 {p : Program} {l : Launch} {e : Env} {s : State} {m : MethodId} {args : Array Value} {below : List Frame} {meth : Method} {c : Code} {D : va_G} {cA : Nat → ClassId} {h0 : fSt} {r : (Int32 × fSt)} (M : fM p s m args meth c D cA h0 { frames := 5, cells := fCB h0 - fZ h0, slots := fLB h0 - fL h0, locals := 132 } cX8_boundNow 11 (some (.int)) RX8) (hfl : l.stackTraces = false) {k11 : Option Nat → Int32 → Int32 → Int32 → Option Nat → Int32 → Int32 → fSt → Option (Int32 × fSt)} (hk11 : ∀ (a0 : Option Nat) (a1 : Int32) (a2 : Int32) (a3 : Int32) (a4 : Option Nat) (a5 : Int32) (a6 : Int32) (h : fSt), k11 a0 a1 a2 a3 a4 a5 a6 h = some r → ∀ (H : Heap) (locs : List Loc) (cells slots : Nat) (ls : Array Slot), fCur D cA s h0 h H locs → lv_has ls 11 [(0, va_rf a0), (1, .int a1), (2, .int a2), (3, .int a3), (4, va_rf a4), (5, .int a5), (6, .int a6)] → W p l e { frames := 5, cells := fCB h0 - fZ h0, slots := fLB h0 - fL h0, locals := 132 } s m args below meth c H locs cells slots (MQ below (fQ D cA h0 r.2 (some (.int r.1))) args s (fCB h0 - fZ h0) (fLB h0 - fL h0) (fA h0)) (F0 m 11 ls [])) {k65 : Option Nat → Int32 → Int32 → Int32 → Option Nat → Int32 → Int32 → Int32 → fSt → Option (Int32 × fSt)} (hk65 : ∀ (a0 : Option Nat) (a1 : Int32) (a2 : Int32) (a3 : Int32) (a4 : Option Nat) (a5 : Int32) (a6 : Int32) (a7 : Int32) (h : fSt), k65 a0 a1 a2 a3 a4 a5 a6 a7 h = some r → ∀ (H : Heap) (locs : List Loc) (cells slots : Nat) (ls : Array Slot), fCur D cA s h0 h H locs → lv_has ls 11 [(0, va_rf a0), (1, .int a1), (2, .int a2), (3, .int a3), (4, va_rf a4), (5, .int a5), (6, .int a6), (7, .int a7)] → W p l e { frames := 5, cells := fCB h0 - fZ h0, slots := fLB h0 - fL h0, locals := 132 } s m args below meth c H locs cells slots (MQ below (fQ D cA h0 r.2 (some (.int r.1))) args s (fCB h0 - fZ h0) (fLB h0 - fL h0) (fA h0)) (F0 m 65 ls [])) (a0 : Option Nat) (a1 : Int32) (a2 : Int32) (a3 : Int32) (a4 : Option Nat) (a5 : Int32) (a6 : Int32) (a7 : Int32) (a8 : Option Nat) (s0 : Int64) (h : fSt) (hf : f_X8_boundNow_L172 k11 k65 a0 a1 a2 a3 a4 a5 a6 a7 a8 s0 h = some r) : ∀ (H : Heap) (locs : List Loc) (cells slots : Nat) (ls : Array Slot), fCur D cA s h0 h H locs → lv_has ls 11 [(0, va_rf a0), (1, .int a1), (2, .int a2), (3, .int a3), (4, va_rf a4), (5, .int a5), (6, .int a6), (7, .int a7), (8, va_rf a8)] → W p l e { frames := 5, cells := fCB h0 - fZ h0, slots := fLB h0 - fL h0, locals := 132 } s m args below meth c H locs cells slots (MQ below (fQ D cA h0 r.2 (some (.int r.1))) args s (fCB h0 - fZ h0) (fLB h0 - fL h0) (fA h0)) (F0 m 172 ls [.long s0]) := by
  obtain ⟨hx, hb, hml, hr, hlocks, hts, hown, K, hR⟩ := id M
  intro H locs cells slots ls hC hl
  refine lv_lstore (lv' := [(9, .long s0), (0, va_rf a0), (1, .int a1), (2, .int a2), (3, .int a3), (4, va_rf a4), (5, .int a5), (6, .int a6), (7, .int a7), (8, va_rf a8)]) hx hb dX8_boundNow_172 hl (by decide) (congrArg (List.cons _) (flk rfl (flk rfl (flk rfl (flk rfl (flk rfl (flk rfl (flk rfl (flk rfl (flk (adj2 _ _) fln)))))))))) (fun ls hl => ?_)
  refine fr_aload hx hb dX8_boundNow_174 (lv_at hl 5 rfl) ?_
  refine fr_ifnull (tgt := 201) hx hb dX8_boundNow_176 (by decide) (fun c1 => ?_) (fun c1 => ?_)
  · replace hf := opos c1 hf
    exact w_X8_boundNow_L201 M hfl hk11 hk65 _ _ _ _ _ _ _ _ _ hf _ _ _ _ _ hC (lv_sub hl [1, 2, 3, 4, 6, 7, 8, 9] rfl)
  · replace hf := oneg c1 hf
    refine lv_iload_n hx hb dX8_boundNow_179 rfl (lv_at hl 3 rfl) ?_
    refine lv_iconst (v := (2 : Int32)) hx hb dX8_boundNow_180 (by decide) ?_
    refine lv_icmp_ge (tgt := 194) hx hb dX8_boundNow_181 (by decide) (fun c2 => ?_) (fun c2 => ?_)
    · replace hf := opos c2 hf
      refine lv_lload hx hb dX8_boundNow_194 (lv_at hl 0 rfl) ?_
      refine lv_lconst (v := (0 : Int64)) hx hb dX8_boundNow_196 (by decide) ?_
      refine fr_lcmp_le (tgt := 205) hx hb dX8_boundNow_197 dX8_boundNow_198 (by decide) (fun c3 => ?_) (fun c3 => ?_)
      · replace hf := opos c3 hf
        exact w_X8_boundNow_L205 M hfl hk11 hk65 _ _ _ _ _ _ _ _ _ hf _ _ _ _ _ hC (lv_sub hl [1, 2, 3, 4, 5, 6, 7, 8] rfl)
      · replace hf := oneg c3 hf
        exact w_X8_boundNow_L201 M hfl hk11 hk65 _ _ _ _ _ _ _ _ _ hf _ _ _ _ _ hC (lv_sub hl [1, 2, 3, 4, 6, 7, 8, 9] rfl)
    · replace hf := oneg c2 hf
      refine lv_lload hx hb dX8_boundNow_184 (lv_at hl 0 rfl) ?_
      refine lv_lconst (v := (0 : Int64)) hx hb dX8_boundNow_186 (by decide) ?_
      refine fr_lcmp_ge (tgt := 205) hx hb dX8_boundNow_187 dX8_boundNow_188 (by decide) (fun c4 => ?_) (fun c4 => ?_)
      · replace hf := opos c4 hf
        exact w_X8_boundNow_L205 M hfl hk11 hk65 _ _ _ _ _ _ _ _ _ hf _ _ _ _ _ hC (lv_sub hl [1, 2, 3, 4, 5, 6, 7, 8] rfl)
      · replace hf := oneg c4 hf
        refine lv_goto (tgt := 201) hx hb dX8_boundNow_191 (by decide) ?_
        exact w_X8_boundNow_L201 M hfl hk11 hk65 _ _ _ _ _ _ _ _ _ hf _ _ _ _ _ hC (lv_sub hl [1, 2, 3, 4, 6, 7, 8, 9] rfl)
set_option maxHeartbeats 4000000 in
set_option maxRecDepth 100000 in
theorem w_X8_boundNow_L128 {p : Program} {l : Launch} {e : Env} {s : State} {m : MethodId} {args : Array Value} {below : List Frame} {meth : Method} {c : Code} {D : va_G} {cA : Nat → ClassId} {h0 : fSt} {r : (Int32 × fSt)} (M : fM p s m args meth c D cA h0 { frames := 5, cells := fCB h0 - fZ h0, slots := fLB h0 - fL h0, locals := 132 } cX8_boundNow 11 (some (.int)) RX8) (hfl : l.stackTraces = false) {k11 : Option Nat → Int32 → Int32 → Int32 → Option Nat → Int32 → Int32 → fSt → Option (Int32 × fSt)} (hk11 : ∀ (a0 : Option Nat) (a1 : Int32) (a2 : Int32) (a3 : Int32) (a4 : Option Nat) (a5 : Int32) (a6 : Int32) (h : fSt), k11 a0 a1 a2 a3 a4 a5 a6 h = some r → ∀ (H : Heap) (locs : List Loc) (cells slots : Nat) (ls : Array Slot), fCur D cA s h0 h H locs → lv_has ls 11 [(0, va_rf a0), (1, .int a1), (2, .int a2), (3, .int a3), (4, va_rf a4), (5, .int a5), (6, .int a6)] → W p l e { frames := 5, cells := fCB h0 - fZ h0, slots := fLB h0 - fL h0, locals := 132 } s m args below meth c H locs cells slots (MQ below (fQ D cA h0 r.2 (some (.int r.1))) args s (fCB h0 - fZ h0) (fLB h0 - fL h0) (fA h0)) (F0 m 11 ls [])) {k65 : Option Nat → Int32 → Int32 → Int32 → Option Nat → Int32 → Int32 → Int32 → fSt → Option (Int32 × fSt)} (hk65 : ∀ (a0 : Option Nat) (a1 : Int32) (a2 : Int32) (a3 : Int32) (a4 : Option Nat) (a5 : Int32) (a6 : Int32) (a7 : Int32) (h : fSt), k65 a0 a1 a2 a3 a4 a5 a6 a7 h = some r → ∀ (H : Heap) (locs : List Loc) (cells slots : Nat) (ls : Array Slot), fCur D cA s h0 h H locs → lv_has ls 11 [(0, va_rf a0), (1, .int a1), (2, .int a2), (3, .int a3), (4, va_rf a4), (5, .int a5), (6, .int a6), (7, .int a7)] → W p l e { frames := 5, cells := fCB h0 - fZ h0, slots := fLB h0 - fL h0, locals := 132 } s m args below meth c H locs cells slots (MQ below (fQ D cA h0 r.2 (some (.int r.1))) args s (fCB h0 - fZ h0) (fLB h0 - fL h0) (fA h0)) (F0 m 65 ls [])) (a0 : Option Nat) (a1 : Int32) (a2 : Int32) (a3 : Int32) (a4 : Option Nat) (a5 : Int32) (a6 : Int32) (a7 : Int32) (s1 : Int64) (s0 : Int64) (h : fSt) (hf : f_X8_boundNow_L128 k11 k65 a0 a1 a2 a3 a4 a5 a6 a7 s1 s0 h = some r) : ∀ (H : Heap) (locs : List Loc) (cells slots : Nat) (ls : Array Slot), fCur D cA s h0 h H locs → lv_has ls 11 [(0, va_rf a0), (1, .int a1), (2, .int a2), (3, .int a3), (4, va_rf a4), (5, .int a5), (6, .int a6), (7, .int a7)] → W p l e { frames := 5, cells := fCB h0 - fZ h0, slots := fLB h0 - fL h0, locals := 132 } s m args below meth c H locs cells slots (MQ below (fQ D cA h0 r.2 (some (.int r.1))) args s (fCB h0 - fZ h0) (fLB h0 - fL h0) (fA h0)) (F0 m 128 ls [.long s1, .long s0]) := by
  obtain ⟨hx, hb, hml, hr, hlocks, hts, hown, K, hR⟩ := id M
  intro H locs cells slots ls hC hl
  refine lv_lconst (v := (1 : Int64)) hx hb dX8_boundNow_128 (by decide) ?_
  obtain ⟨r5, g6, hf⟩ := obind hf
  refine fr_callS hx hb hml hts hown K hC hR (c_X8_point hfl D cA g6) 3 kw1234 kw1232 kw1233 kw62 (by decide +kernel) ⟨by exact Nat.le_of_ble_eq_true rfl, by exact Nat.le_of_ble_eq_true rfl⟩ rfl hl.1 (cat8 _ (by exact Nat.le_of_ble_eq_true rfl)) dX8_boundNow_129 rfl (fun H locs _ _ hC => ?_)
  refine fr_astore (lv' := [(8, va_rf r5.1), (0, va_rf a0), (1, .int a1), (2, .int a2), (3, .int a3), (4, va_rf a4), (5, .int a5), (6, .int a6), (7, .int a7)]) hx hb dX8_boundNow_132 hl (by decide) (congrArg (List.cons _) (flk rfl (flk rfl (flk rfl (flk rfl (flk rfl (flk rfl (flk rfl (flk rfl fln))))))))) (fun ls hl => ?_)
  refine fr_aload_n hx hb dX8_boundNow_134 rfl (lv_at hl 1 rfl) ?_
  refine lv_iload hx hb dX8_boundNow_135 (lv_at hl 7 rfl) ?_
  refine fr_aload hx hb dX8_boundNow_137 (lv_at hl 0 rfl) ?_
  obtain ⟨b9, q10, hf⟩ := obind hf
  obtain ⟨r7, g8, hf⟩ := obind hf
  refine fr_callV hx hb hml hts hown K hC hR ct_8 (c_X8_upAll hfl D cA g8) 2 q10 kw1238 kw1235 kw1237 kw39 kw62 (by decide +kernel) ⟨by exact Nat.le_of_ble_eq_true rfl, by exact Nat.le_of_ble_eq_true rfl⟩ rfl hl.1 (cat8 _ (by exact Nat.le_of_ble_eq_true rfl)) dX8_boundNow_139 rfl (fun H locs _ _ hC => ?_)
  refine fr_aload hx hb dX8_boundNow_142 (lv_at hl 5 rfl) ?_
  refine fr_ifnonnull (tgt := 151) hx hb dX8_boundNow_144 (by decide) (fun c11 => ?_) (fun c11 => ?_)
  · replace hf := oneg c11 hf
    refine fr_aload hx hb dX8_boundNow_151 (lv_at hl 0 rfl) ?_
    refine lv_iload hx hb dX8_boundNow_153 (lv_at hl 6 rfl) ?_
    obtain ⟨x12, g13, hf⟩ := obind hf
    refine fr_lald hx hb K hC (t := 1) rfl g13 dX8_boundNow_155 ?_
    refine fr_aload hx hb dX8_boundNow_156 (lv_at hl 5 rfl) ?_
    refine lv_iconst (v := (2 : Int32)) hx hb dX8_boundNow_158 (by decide) ?_
    obtain ⟨x14, g15, hf⟩ := obind hf
    refine fr_lald hx hb K hC (t := 1) rfl g15 dX8_boundNow_159 ?_
    refine lv_lmul hx hb dX8_boundNow_160 ?_
    refine fr_aload hx hb dX8_boundNow_161 (lv_at hl 5 rfl) ?_
    refine lv_iload hx hb dX8_boundNow_163 (lv_at hl 6 rfl) ?_
    obtain ⟨x16, g17, hf⟩ := obind hf
    refine fr_lald hx hb K hC (t := 1) rfl g17 dX8_boundNow_165 ?_
    refine fr_aload hx hb dX8_boundNow_166 (lv_at hl 0 rfl) ?_
    refine lv_iconst (v := (2 : Int32)) hx hb dX8_boundNow_168 (by decide) ?_
    obtain ⟨x18, g19, hf⟩ := obind hf
    refine fr_lald hx hb K hC (t := 1) rfl g19 dX8_boundNow_169 ?_
    refine lv_lmul hx hb dX8_boundNow_170 ?_
    refine lv_lsub hx hb dX8_boundNow_171 ?_
    exact w_X8_boundNow_L172 M hfl hk11 hk65 _ _ _ _ _ _ _ _ _ _ _ hf _ _ _ _ _ hC (lv_sub hl [1, 2, 3, 4, 5, 6, 7, 8, 0] rfl)
  · replace hf := opos c11 hf
    refine lv_lconst (v := (0 : Int64)) hx hb dX8_boundNow_147 (by decide) ?_
    refine lv_goto (tgt := 172) hx hb dX8_boundNow_148 (by decide) ?_
    exact w_X8_boundNow_L172 M hfl hk11 hk65 _ _ _ _ _ _ _ _ _ _ _ hf _ _ _ _ _ hC (lv_sub hl [1, 2, 3, 4, 5, 6, 7, 8, 0] rfl)
set_option maxHeartbeats 4000000 in
set_option maxRecDepth 100000 in
theorem w_X8_boundNow_L110 {p : Program} {l : Launch} {e : Env} {s : State} {m : MethodId} {args : Array Value} {below : List Frame} {meth : Method} {c : Code} {D : va_G} {cA : Nat → ClassId} {h0 : fSt} {r : (Int32 × fSt)} (M : fM p s m args meth c D cA h0 { frames := 5, cells := fCB h0 - fZ h0, slots := fLB h0 - fL h0, locals := 132 } cX8_boundNow 11 (some (.int)) RX8) (hfl : l.stackTraces = false) {k11 : Option Nat → Int32 → Int32 → Int32 → Option Nat → Int32 → Int32 → fSt → Option (Int32 × fSt)} (hk11 : ∀ (a0 : Option Nat) (a1 : Int32) (a2 : Int32) (a3 : Int32) (a4 : Option Nat) (a5 : Int32) (a6 : Int32) (h : fSt), k11 a0 a1 a2 a3 a4 a5 a6 h = some r → ∀ (H : Heap) (locs : List Loc) (cells slots : Nat) (ls : Array Slot), fCur D cA s h0 h H locs → lv_has ls 11 [(0, va_rf a0), (1, .int a1), (2, .int a2), (3, .int a3), (4, va_rf a4), (5, .int a5), (6, .int a6)] → W p l e { frames := 5, cells := fCB h0 - fZ h0, slots := fLB h0 - fL h0, locals := 132 } s m args below meth c H locs cells slots (MQ below (fQ D cA h0 r.2 (some (.int r.1))) args s (fCB h0 - fZ h0) (fLB h0 - fL h0) (fA h0)) (F0 m 11 ls [])) {k65 : Option Nat → Int32 → Int32 → Int32 → Option Nat → Int32 → Int32 → Int32 → fSt → Option (Int32 × fSt)} (hk65 : ∀ (a0 : Option Nat) (a1 : Int32) (a2 : Int32) (a3 : Int32) (a4 : Option Nat) (a5 : Int32) (a6 : Int32) (a7 : Int32) (h : fSt), k65 a0 a1 a2 a3 a4 a5 a6 a7 h = some r → ∀ (H : Heap) (locs : List Loc) (cells slots : Nat) (ls : Array Slot), fCur D cA s h0 h H locs → lv_has ls 11 [(0, va_rf a0), (1, .int a1), (2, .int a2), (3, .int a3), (4, va_rf a4), (5, .int a5), (6, .int a6), (7, .int a7)] → W p l e { frames := 5, cells := fCB h0 - fZ h0, slots := fLB h0 - fL h0, locals := 132 } s m args below meth c H locs cells slots (MQ below (fQ D cA h0 r.2 (some (.int r.1))) args s (fCB h0 - fZ h0) (fLB h0 - fL h0) (fA h0)) (F0 m 65 ls [])) (a0 : Option Nat) (a1 : Int32) (a2 : Int32) (a3 : Int32) (a4 : Option Nat) (a5 : Int32) (a6 : Int32) (a7 : Int32) (s0 : Int64) (h : fSt) (hf : f_X8_boundNow_L110 k11 k65 a0 a1 a2 a3 a4 a5 a6 a7 s0 h = some r) : ∀ (H : Heap) (locs : List Loc) (cells slots : Nat) (ls : Array Slot), fCur D cA s h0 h H locs → lv_has ls 11 [(0, va_rf a0), (1, .int a1), (2, .int a2), (3, .int a3), (4, va_rf a4), (5, .int a5), (6, .int a6), (7, .int a7)] → W p l e { frames := 5, cells := fCB h0 - fZ h0, slots := fLB h0 - fL h0, locals := 132 } s m args below meth c H locs cells slots (MQ below (fQ D cA h0 r.2 (some (.int r.1))) args s (fCB h0 - fZ h0) (fLB h0 - fL h0) (fA h0)) (F0 m 110 ls [.long s0]) := by
  obtain ⟨hx, hb, hml, hr, hlocks, hts, hown, K, hR⟩ := id M
  intro H locs cells slots ls hC hl
  refine lv_iload hx hb dX8_boundNow_110 (lv_at hl 7 rfl) ?_
  refine lv_iconst (v := (1 : Int32)) hx hb dX8_boundNow_112 (by decide) ?_
  refine lv_icmp_le (tgt := 127) hx hb dX8_boundNow_113 (by decide) (fun c20 => ?_) (fun c20 => ?_)
  · replace hf := opos c20 hf
    refine lv_lconst (v := (0 : Int64)) hx hb dX8_boundNow_127 (by decide) ?_
    exact w_X8_boundNow_L128 M hfl hk11 hk65 _ _ _ _ _ _ _ _ _ _ _ hf _ _ _ _ _ hC (lv_sub hl [0, 1, 2, 3, 4, 5, 6, 7] rfl)
  · replace hf := oneg c20 hf
    refine fr_aload_n hx hb dX8_boundNow_116 rfl (lv_at hl 0 rfl) ?_
    obtain ⟨x21, g22, hf⟩ := obind hf
    refine fr_get hx hb hts hown K hC ct_8 (fgR_get g22) (by decide) kw980 rfl dX8_boundNow_117 ?_
    refine lv_iload hx hb dX8_boundNow_120 (lv_at hl 6 rfl) ?_
    obtain ⟨x23, g24, hf⟩ := obind hf
    refine fr_iald hx hb K hC (t := 0) rfl g24 dX8_boundNow_122 ?_
    refine lv_i2l (v := (Int32.toInt64 x23)) hx hb dX8_boundNow_123 rfl ?_
    refine lv_goto (tgt := 128) hx hb dX8_boundNow_124 (by decide) ?_
    exact w_X8_boundNow_L128 M hfl hk11 hk65 _ _ _ _ _ _ _ _ _ _ _ hf _ _ _ _ _ hC (lv_sub hl [0, 1, 2, 3, 4, 5, 6, 7] rfl)
set_option maxHeartbeats 4000000 in
set_option maxRecDepth 100000 in
theorem w_X8_boundNow_L98 {p : Program} {l : Launch} {e : Env} {s : State} {m : MethodId} {args : Array Value} {below : List Frame} {meth : Method} {c : Code} {D : va_G} {cA : Nat → ClassId} {h0 : fSt} {r : (Int32 × fSt)} (M : fM p s m args meth c D cA h0 { frames := 5, cells := fCB h0 - fZ h0, slots := fLB h0 - fL h0, locals := 132 } cX8_boundNow 11 (some (.int)) RX8) (hfl : l.stackTraces = false) {k11 : Option Nat → Int32 → Int32 → Int32 → Option Nat → Int32 → Int32 → fSt → Option (Int32 × fSt)} (hk11 : ∀ (a0 : Option Nat) (a1 : Int32) (a2 : Int32) (a3 : Int32) (a4 : Option Nat) (a5 : Int32) (a6 : Int32) (h : fSt), k11 a0 a1 a2 a3 a4 a5 a6 h = some r → ∀ (H : Heap) (locs : List Loc) (cells slots : Nat) (ls : Array Slot), fCur D cA s h0 h H locs → lv_has ls 11 [(0, va_rf a0), (1, .int a1), (2, .int a2), (3, .int a3), (4, va_rf a4), (5, .int a5), (6, .int a6)] → W p l e { frames := 5, cells := fCB h0 - fZ h0, slots := fLB h0 - fL h0, locals := 132 } s m args below meth c H locs cells slots (MQ below (fQ D cA h0 r.2 (some (.int r.1))) args s (fCB h0 - fZ h0) (fLB h0 - fL h0) (fA h0)) (F0 m 11 ls [])) {k65 : Option Nat → Int32 → Int32 → Int32 → Option Nat → Int32 → Int32 → Int32 → fSt → Option (Int32 × fSt)} (hk65 : ∀ (a0 : Option Nat) (a1 : Int32) (a2 : Int32) (a3 : Int32) (a4 : Option Nat) (a5 : Int32) (a6 : Int32) (a7 : Int32) (h : fSt), k65 a0 a1 a2 a3 a4 a5 a6 a7 h = some r → ∀ (H : Heap) (locs : List Loc) (cells slots : Nat) (ls : Array Slot), fCur D cA s h0 h H locs → lv_has ls 11 [(0, va_rf a0), (1, .int a1), (2, .int a2), (3, .int a3), (4, va_rf a4), (5, .int a5), (6, .int a6), (7, .int a7)] → W p l e { frames := 5, cells := fCB h0 - fZ h0, slots := fLB h0 - fL h0, locals := 132 } s m args below meth c H locs cells slots (MQ below (fQ D cA h0 r.2 (some (.int r.1))) args s (fCB h0 - fZ h0) (fLB h0 - fL h0) (fA h0)) (F0 m 65 ls [])) (a0 : Option Nat) (a1 : Int32) (a2 : Int32) (a3 : Int32) (a4 : Option Nat) (a5 : Int32) (a6 : Int32) (a7 : Int32) (h : fSt) (hf : f_X8_boundNow_L98 k11 k65 a0 a1 a2 a3 a4 a5 a6 a7 h = some r) : ∀ (H : Heap) (locs : List Loc) (cells slots : Nat) (ls : Array Slot), fCur D cA s h0 h H locs → lv_has ls 11 [(0, va_rf a0), (1, .int a1), (2, .int a2), (3, .int a3), (4, va_rf a4), (5, .int a5), (6, .int a6), (7, .int a7)] → W p l e { frames := 5, cells := fCB h0 - fZ h0, slots := fLB h0 - fL h0, locals := 132 } s m args below meth c H locs cells slots (MQ below (fQ D cA h0 r.2 (some (.int r.1))) args s (fCB h0 - fZ h0) (fLB h0 - fL h0) (fA h0)) (F0 m 98 ls []) := by
  obtain ⟨hx, hb, hml, hr, hlocks, hts, hown, K, hR⟩ := id M
  intro H locs cells slots ls hC hl
  refine fr_aload_n hx hb dX8_boundNow_98 rfl (lv_at hl 0 rfl) ?_
  obtain ⟨x25, g26, hf⟩ := obind hf
  refine fr_get hx hb hts hown K hC ct_8 (fgR_get g26) (by decide) kw979 rfl dX8_boundNow_99 ?_
  refine lv_iload hx hb dX8_boundNow_102 (lv_at hl 6 rfl) ?_
  obtain ⟨x27, g28, hf⟩ := obind hf
  refine fr_iald hx hb K hC (t := 0) rfl g28 dX8_boundNow_104 ?_
  refine lv_i2l (v := (Int32.toInt64 x27)) hx hb dX8_boundNow_105 rfl ?_
  refine lv_goto (tgt := 110) hx hb dX8_boundNow_106 (by decide) ?_
  exact w_X8_boundNow_L110 M hfl hk11 hk65 _ _ _ _ _ _ _ _ _ _ hf _ _ _ _ _ hC (lv_sub hl [0, 1, 2, 3, 4, 5, 6, 7] rfl)
set_option maxHeartbeats 4000000 in
set_option maxRecDepth 100000 in
theorem w_X8_boundNow_L83 {p : Program} {l : Launch} {e : Env} {s : State} {m : MethodId} {args : Array Value} {below : List Frame} {meth : Method} {c : Code} {D : va_G} {cA : Nat → ClassId} {h0 : fSt} {r : (Int32 × fSt)} (M : fM p s m args meth c D cA h0 { frames := 5, cells := fCB h0 - fZ h0, slots := fLB h0 - fL h0, locals := 132 } cX8_boundNow 11 (some (.int)) RX8) (hfl : l.stackTraces = false) {k11 : Option Nat → Int32 → Int32 → Int32 → Option Nat → Int32 → Int32 → fSt → Option (Int32 × fSt)} (hk11 : ∀ (a0 : Option Nat) (a1 : Int32) (a2 : Int32) (a3 : Int32) (a4 : Option Nat) (a5 : Int32) (a6 : Int32) (h : fSt), k11 a0 a1 a2 a3 a4 a5 a6 h = some r → ∀ (H : Heap) (locs : List Loc) (cells slots : Nat) (ls : Array Slot), fCur D cA s h0 h H locs → lv_has ls 11 [(0, va_rf a0), (1, .int a1), (2, .int a2), (3, .int a3), (4, va_rf a4), (5, .int a5), (6, .int a6)] → W p l e { frames := 5, cells := fCB h0 - fZ h0, slots := fLB h0 - fL h0, locals := 132 } s m args below meth c H locs cells slots (MQ below (fQ D cA h0 r.2 (some (.int r.1))) args s (fCB h0 - fZ h0) (fLB h0 - fL h0) (fA h0)) (F0 m 11 ls [])) {k65 : Option Nat → Int32 → Int32 → Int32 → Option Nat → Int32 → Int32 → Int32 → fSt → Option (Int32 × fSt)} (hk65 : ∀ (a0 : Option Nat) (a1 : Int32) (a2 : Int32) (a3 : Int32) (a4 : Option Nat) (a5 : Int32) (a6 : Int32) (a7 : Int32) (h : fSt), k65 a0 a1 a2 a3 a4 a5 a6 a7 h = some r → ∀ (H : Heap) (locs : List Loc) (cells slots : Nat) (ls : Array Slot), fCur D cA s h0 h H locs → lv_has ls 11 [(0, va_rf a0), (1, .int a1), (2, .int a2), (3, .int a3), (4, va_rf a4), (5, .int a5), (6, .int a6), (7, .int a7)] → W p l e { frames := 5, cells := fCB h0 - fZ h0, slots := fLB h0 - fL h0, locals := 132 } s m args below meth c H locs cells slots (MQ below (fQ D cA h0 r.2 (some (.int r.1))) args s (fCB h0 - fZ h0) (fLB h0 - fL h0) (fA h0)) (F0 m 65 ls [])) (a0 : Option Nat) (a1 : Int32) (a2 : Int32) (a3 : Int32) (a4 : Option Nat) (a5 : Int32) (a6 : Int32) (a7 : Int32) (s1 : Int32) (s0 : Int32) (h : fSt) (hf : f_X8_boundNow_L83 k11 k65 a0 a1 a2 a3 a4 a5 a6 a7 s1 s0 h = some r) : ∀ (H : Heap) (locs : List Loc) (cells slots : Nat) (ls : Array Slot), fCur D cA s h0 h H locs → lv_has ls 11 [(0, va_rf a0), (1, .int a1), (2, .int a2), (3, .int a3), (4, va_rf a4), (5, .int a5), (6, .int a6), (7, .int a7)] → W p l e { frames := 5, cells := fCB h0 - fZ h0, slots := fLB h0 - fL h0, locals := 132 } s m args below meth c H locs cells slots (MQ below (fQ D cA h0 r.2 (some (.int r.1))) args s (fCB h0 - fZ h0) (fLB h0 - fL h0) (fA h0)) (F0 m 83 ls [.int s1, .int s0]) := by
  obtain ⟨hx, hb, hml, hr, hlocks, hts, hown, K, hR⟩ := id M
  intro H locs cells slots ls hC hl
  refine lv_icmp_ge (tgt := 211) hx hb dX8_boundNow_83 (by decide) (fun c29 => ?_) (fun c29 => ?_)
  · replace hf := opos c29 hf
    exact w_X8_boundNow_L211 M hfl hk11 _ _ _ _ _ _ _ _ hf _ _ _ _ _ hC (lv_sub hl [0, 1, 2, 3, 4, 5, 6] rfl)
  · replace hf := oneg c29 hf
    refine lv_iload hx hb dX8_boundNow_86 (lv_at hl 7 rfl) ?_
    refine lv_iconst (v := (1 : Int32)) hx hb dX8_boundNow_88 (by decide) ?_
    refine lv_icmp_eq (tgt := 98) hx hb dX8_boundNow_89 (by decide) (fun c30 => ?_) (fun c30 => ?_)
    · replace hf := opos c30 hf
      exact w_X8_boundNow_L98 M hfl hk11 hk65 _ _ _ _ _ _ _ _ _ hf _ _ _ _ _ hC (lv_sub hl [0, 1, 2, 3, 4, 5, 6, 7] rfl)
    · replace hf := oneg c30 hf
      refine lv_iload hx hb dX8_boundNow_92 (lv_at hl 7 rfl) ?_
      refine lv_iconst (v := (3 : Int32)) hx hb dX8_boundNow_94 (by decide) ?_
      refine lv_icmp_ne (tgt := 109) hx hb dX8_boundNow_95 (by decide) (fun c31 => ?_) (fun c31 => ?_)
      · replace hf := oneg c31 hf
        refine lv_lconst (v := (0 : Int64)) hx hb dX8_boundNow_109 (by decide) ?_
        exact w_X8_boundNow_L110 M hfl hk11 hk65 _ _ _ _ _ _ _ _ _ _ hf _ _ _ _ _ hC (lv_sub hl [0, 1, 2, 3, 4, 5, 6, 7] rfl)
      · replace hf := opos c31 hf
        exact w_X8_boundNow_L98 M hfl hk11 hk65 _ _ _ _ _ _ _ _ _ hf _ _ _ _ _ hC (lv_sub hl [0, 1, 2, 3, 4, 5, 6, 7] rfl)
set_option maxHeartbeats 4000000 in
set_option maxRecDepth 100000 in
theorem w_X8_boundNow_L65 {p : Program} {l : Launch} {e : Env} {s : State} {m : MethodId} {args : Array Value} {below : List Frame} {meth : Method} {c : Code} {D : va_G} {cA : Nat → ClassId} {h0 : fSt} {r : (Int32 × fSt)} (M : fM p s m args meth c D cA h0 { frames := 5, cells := fCB h0 - fZ h0, slots := fLB h0 - fL h0, locals := 132 } cX8_boundNow 11 (some (.int)) RX8) (hfl : l.stackTraces = false) {k11 : Option Nat → Int32 → Int32 → Int32 → Option Nat → Int32 → Int32 → fSt → Option (Int32 × fSt)} (hk11 : ∀ (a0 : Option Nat) (a1 : Int32) (a2 : Int32) (a3 : Int32) (a4 : Option Nat) (a5 : Int32) (a6 : Int32) (h : fSt), k11 a0 a1 a2 a3 a4 a5 a6 h = some r → ∀ (H : Heap) (locs : List Loc) (cells slots : Nat) (ls : Array Slot), fCur D cA s h0 h H locs → lv_has ls 11 [(0, va_rf a0), (1, .int a1), (2, .int a2), (3, .int a3), (4, va_rf a4), (5, .int a5), (6, .int a6)] → W p l e { frames := 5, cells := fCB h0 - fZ h0, slots := fLB h0 - fL h0, locals := 132 } s m args below meth c H locs cells slots (MQ below (fQ D cA h0 r.2 (some (.int r.1))) args s (fCB h0 - fZ h0) (fLB h0 - fL h0) (fA h0)) (F0 m 11 ls [])) : ∀ (n : Nat) (a0 : Option Nat) (a1 : Int32) (a2 : Int32) (a3 : Int32) (a4 : Option Nat) (a5 : Int32) (a6 : Int32) (a7 : Int32) (h : fSt), f_X8_boundNow_L65 k11 n a0 a1 a2 a3 a4 a5 a6 a7 h = some r → ∀ (H : Heap) (locs : List Loc) (cells slots : Nat) (ls : Array Slot), fCur D cA s h0 h H locs → lv_has ls 11 [(0, va_rf a0), (1, .int a1), (2, .int a2), (3, .int a3), (4, va_rf a4), (5, .int a5), (6, .int a6), (7, .int a7)] → W p l e { frames := 5, cells := fCB h0 - fZ h0, slots := fLB h0 - fL h0, locals := 132 } s m args below meth c H locs cells slots (MQ below (fQ D cA h0 r.2 (some (.int r.1))) args s (fCB h0 - fZ h0) (fLB h0 - fL h0) (fA h0)) (F0 m 65 ls []) := by
  obtain ⟨hx, hb, hml, hr, hlocks, hts, hown, K, hR⟩ := id M
  intro n
  induction n with
  | zero =>
    intro a0 a1 a2 a3 a4 a5 a6 a7 h hf
    exact nomatch (show (none : Option (Int32 × fSt)) = some r from hf)
  | succ n hk65 =>
    intro a0 a1 a2 a3 a4 a5 a6 a7 h hf H locs cells slots ls hC hl
    refine lv_iload hx hb dX8_boundNow_65 (lv_at hl 7 rfl) ?_
    refine fr_aload_n hx hb dX8_boundNow_67 rfl (lv_at hl 0 rfl) ?_
    obtain ⟨x32, g33, hf⟩ := obind hf
    refine fr_get hx hb hts hown K hC ct_8 (fgR_get g33) (by decide) kw978 rfl dX8_boundNow_68 ?_
    refine lv_iload hx hb dX8_boundNow_71 (lv_at hl 6 rfl) ?_
    obtain ⟨x34, g35, hf⟩ := obind hf
    refine fr_iald hx hb K hC (t := 0) rfl g35 dX8_boundNow_73 ?_
    refine lv_iconst (v := (2 : Int32)) hx hb dX8_boundNow_74 (by decide) ?_
    refine lv_icmp_ne (tgt := 82) hx hb dX8_boundNow_75 (by decide) (fun c36 => ?_) (fun c36 => ?_)
    · replace hf := oneg c36 hf
      refine lv_iconst (v := (4 : Int32)) hx hb dX8_boundNow_82 (by decide) ?_
      exact w_X8_boundNow_L83 M hfl hk11 hk65 _ _ _ _ _ _ _ _ _ _ _ hf _ _ _ _ _ hC (lv_sub hl [0, 1, 2, 3, 4, 5, 6, 7] rfl)
    · replace hf := opos c36 hf
      refine lv_iconst (v := (3 : Int32)) hx hb dX8_boundNow_78 (by decide) ?_
      refine lv_goto (tgt := 83) hx hb dX8_boundNow_79 (by decide) ?_
      exact w_X8_boundNow_L83 M hfl hk11 hk65 _ _ _ _ _ _ _ _ _ _ _ hf _ _ _ _ _ hC (lv_sub hl [0, 1, 2, 3, 4, 5, 6, 7] rfl)
set_option maxHeartbeats 4000000 in
set_option maxRecDepth 100000 in
theorem w_X8_boundNow_L245 {p : Program} {l : Launch} {e : Env} {s : State} {m : MethodId} {args : Array Value} {below : List Frame} {meth : Method} {c : Code} {D : va_G} {cA : Nat → ClassId} {h0 : fSt} {r : (Int32 × fSt)} (M : fM p s m args meth c D cA h0 { frames := 5, cells := fCB h0 - fZ h0, slots := fLB h0 - fL h0, locals := 132 } cX8_boundNow 11 (some (.int)) RX8) (hfl : l.stackTraces = false) (s0 : Int32) (h : fSt) (hf : f_X8_boundNow_L245 s0 h = some r) : ∀ (H : Heap) (locs : List Loc) (cells slots : Nat) (ls : Array Slot), fCur D cA s h0 h H locs → lv_has ls 11 [] → W p l e { frames := 5, cells := fCB h0 - fZ h0, slots := fLB h0 - fL h0, locals := 132 } s m args below meth c H locs cells slots (MQ below (fQ D cA h0 r.2 (some (.int r.1))) args s (fCB h0 - fZ h0) (fLB h0 - fL h0) (fA h0)) (F0 m 245 ls [.int s0]) := by
  obtain ⟨hx, hb, hml, hr, hlocks, hts, hown, K, hR⟩ := id M
  intro H locs cells slots ls hC hl
  obtain rfl := Option.some.inj hf
  exact fr_iret hx hb hr hlocks hC dX8_boundNow_245
set_option maxHeartbeats 4000000 in
set_option maxRecDepth 100000 in
theorem w_X8_boundNow_L241 {p : Program} {l : Launch} {e : Env} {s : State} {m : MethodId} {args : Array Value} {below : List Frame} {meth : Method} {c : Code} {D : va_G} {cA : Nat → ClassId} {h0 : fSt} {r : (Int32 × fSt)} (M : fM p s m args meth c D cA h0 { frames := 5, cells := fCB h0 - fZ h0, slots := fLB h0 - fL h0, locals := 132 } cX8_boundNow 11 (some (.int)) RX8) (hfl : l.stackTraces = false) (s2 : Int32) (s1 : Int32) (s0 : Option Nat) (h : fSt) (hf : f_X8_boundNow_L241 s2 s1 s0 h = some r) : ∀ (H : Heap) (locs : List Loc) (cells slots : Nat) (ls : Array Slot), fCur D cA s h0 h H locs → lv_has ls 11 [] → W p l e { frames := 5, cells := fCB h0 - fZ h0, slots := fLB h0 - fL h0, locals := 132 } s m args below meth c H locs cells slots (MQ below (fQ D cA h0 r.2 (some (.int r.1))) args s (fCB h0 - fZ h0) (fLB h0 - fL h0) (fA h0)) (F0 m 241 ls [.int s2, .int s1, va_rf s0]) := by
  obtain ⟨hx, hb, hml, hr, hlocks, hts, hown, K, hR⟩ := id M
  intro H locs cells slots ls hC hl
  refine lv_iadd hx hb dX8_boundNow_241 ?_
  obtain ⟨r37, g38, hf⟩ := obind hf
  refine fr_callS hx hb hml hts hown K hC hR (c_X8_part hfl D cA g38) 2 kw1245 kw1243 kw1244 kw62 (by decide +kernel) ⟨by exact Nat.le_of_ble_eq_true rfl, by exact Nat.le_of_ble_eq_true rfl⟩ rfl hl.1 (cat8 _ (by exact Nat.le_of_ble_eq_true rfl)) dX8_boundNow_242 rfl (fun H locs _ _ hC => ?_)
  exact w_X8_boundNow_L245 M hfl _ _ hf _ _ _ _ _ hC (lv_sub hl [] rfl)
set_option maxHeartbeats 4000000 in
set_option maxRecDepth 100000 in
theorem w_X8_boundNow_L11 {p : Program} {l : Launch} {e : Env} {s : State} {m : MethodId} {args : Array Value} {below : List Frame} {meth : Method} {c : Code} {D : va_G} {cA : Nat → ClassId} {h0 : fSt} {r : (Int32 × fSt)} (M : fM p s m args meth c D cA h0 { frames := 5, cells := fCB h0 - fZ h0, slots := fLB h0 - fL h0, locals := 132 } cX8_boundNow 11 (some (.int)) RX8) (hfl : l.stackTraces = false) : ∀ (n : Nat) (a0 : Option Nat) (a1 : Int32) (a2 : Int32) (a3 : Int32) (a4 : Option Nat) (a5 : Int32) (a6 : Int32) (h : fSt), f_X8_boundNow_L11 n a0 a1 a2 a3 a4 a5 a6 h = some r → ∀ (H : Heap) (locs : List Loc) (cells slots : Nat) (ls : Array Slot), fCur D cA s h0 h H locs → lv_has ls 11 [(0, va_rf a0), (1, .int a1), (2, .int a2), (3, .int a3), (4, va_rf a4), (5, .int a5), (6, .int a6)] → W p l e { frames := 5, cells := fCB h0 - fZ h0, slots := fLB h0 - fL h0, locals := 132 } s m args below meth c H locs cells slots (MQ below (fQ D cA h0 r.2 (some (.int r.1))) args s (fCB h0 - fZ h0) (fLB h0 - fL h0) (fA h0)) (F0 m 11 ls []) := by
  obtain ⟨hx, hb, hml, hr, hlocks, hts, hown, K, hR⟩ := id M
  intro n
  induction n with
  | zero =>
    intro a0 a1 a2 a3 a4 a5 a6 h hf
    exact nomatch (show (none : Option (Int32 × fSt)) = some r from hf)
  | succ n hk11 =>
    intro a0 a1 a2 a3 a4 a5 a6 h hf H locs cells slots ls hC hl
    refine lv_iload hx hb dX8_boundNow_11 (lv_at hl 6 rfl) ?_
    refine fr_aload_n hx hb dX8_boundNow_13 rfl (lv_at hl 0 rfl) ?_
    obtain ⟨x39, g40, hf⟩ := obind hf
    refine fr_get hx hb hts hown K hC ct_8 (fgI_get g40) (by decide) kw972 rfl dX8_boundNow_14 ?_
    refine lv_icmp_ge (tgt := 217) hx hb dX8_boundNow_17 (by decide) (fun c41 => ?_) (fun c41 => ?_)
    · replace hf := opos c41 hf
      refine fr_aload hx hb dX8_boundNow_217 (lv_at hl 4 rfl) ?_
      refine fr_ifnonnull (tgt := 226) hx hb dX8_boundNow_219 (by decide) (fun c42 => ?_) (fun c42 => ?_)
      · replace hf := oneg c42 hf
        refine fr_aload hx hb dX8_boundNow_226 (lv_at hl 4 rfl) ?_
        refine lv_iload hx hb dX8_boundNow_228 (lv_at hl 5 rfl) ?_
        refine lv_iconst (v := (2 : Int32)) hx hb dX8_boundNow_230 (by decide) ?_
        refine lv_imul hx hb dX8_boundNow_231 ?_
        refine lv_iload_n hx hb dX8_boundNow_232 rfl (lv_at hl 3 rfl) ?_
        refine lv_if_eq (tgt := 240) hx hb dX8_boundNow_233 (by decide) (fun c43 => ?_) (fun c43 => ?_)
        · replace hf := opos c43 hf
          refine lv_iconst (v := (0 : Int32)) hx hb dX8_boundNow_240 (by decide) ?_
          exact w_X8_boundNow_L241 M hfl _ _ _ _ hf _ _ _ _ _ hC (lv_sub hl [] rfl)
        · replace hf := oneg c43 hf
          refine lv_iconst (v := (1 : Int32)) hx hb dX8_boundNow_236 (by decide) ?_
          refine lv_goto (tgt := 241) hx hb dX8_boundNow_237 (by decide) ?_
          exact w_X8_boundNow_L241 M hfl _ _ _ _ hf _ _ _ _ _ hC (lv_sub hl [] rfl)
      · replace hf := opos c42 hf
        refine lv_iconst (v := (0 : Int32)) hx hb dX8_boundNow_222 (by decide) ?_
        refine lv_goto (tgt := 245) hx hb dX8_boundNow_223 (by decide) ?_
        exact w_X8_boundNow_L245 M hfl _ _ hf _ _ _ _ _ hC (lv_sub hl [] rfl)
    · replace hf := oneg c41 hf
      refine fr_aload_n hx hb dX8_boundNow_20 rfl (lv_at hl 0 rfl) ?_
      obtain ⟨x44, g45, hf⟩ := obind hf
      refine fr_get hx hb hts hown K hC ct_8 (fgR_get g45) (by decide) kw973 rfl dX8_boundNow_21 ?_
      refine lv_iload hx hb dX8_boundNow_24 (lv_at hl 6 rfl) ?_
      obtain ⟨x46, g47, hf⟩ := obind hf
      refine fr_zald hx hb K hC (t := 2) rfl g47 dX8_boundNow_26 ?_
      refine lv_if_ne (tgt := 211) hx hb dX8_boundNow_27 (by decide) (fun c48 => ?_) (fun c48 => ?_)
      · replace hf := oneg c48 hf
        exact w_X8_boundNow_L211 M hfl hk11 _ _ _ _ _ _ _ _ hf _ _ _ _ _ hC (lv_sub hl [0, 1, 2, 3, 4, 5, 6] rfl)
      · replace hf := opos c48 hf
        refine fr_aload_n hx hb dX8_boundNow_30 rfl (lv_at hl 0 rfl) ?_
        obtain ⟨x49, g50, hf⟩ := obind hf
        refine fr_get hx hb hts hown K hC ct_8 (fgR_get g50) (by decide) kw978 rfl dX8_boundNow_31 ?_
        refine lv_iload hx hb dX8_boundNow_34 (lv_at hl 6 rfl) ?_
        obtain ⟨x51, g52, hf⟩ := obind hf
        refine fr_iald hx hb K hC (t := 0) rfl g52 dX8_boundNow_36 ?_
        refine lv_if_eq (tgt := 211) hx hb dX8_boundNow_37 (by decide) (fun c53 => ?_) (fun c53 => ?_)
        · replace hf := opos c53 hf
          exact w_X8_boundNow_L211 M hfl hk11 _ _ _ _ _ _ _ _ hf _ _ _ _ _ hC (lv_sub hl [0, 1, 2, 3, 4, 5, 6] rfl)
        · replace hf := oneg c53 hf
          refine fr_aload_n hx hb dX8_boundNow_40 rfl (lv_at hl 0 rfl) ?_
          refine lv_iload hx hb dX8_boundNow_41 (lv_at hl 6 rfl) ?_
          refine lv_iload_n hx hb dX8_boundNow_43 rfl (lv_at hl 1 rfl) ?_
          obtain ⟨b56, q57, hf⟩ := obind hf
          obtain ⟨r54, g55, hf⟩ := obind hf
          refine fr_callV hx hb hml hts hown K hC hR ct_8 (c_X8_isWithin hfl D cA g55) 2 q57 kw1082 kw1079 kw1081 kw23 kw62 (by decide +kernel) ⟨by exact Nat.le_of_ble_eq_true rfl, by exact Nat.le_of_ble_eq_true rfl⟩ rfl hl.1 (cat8 _ (by exact Nat.le_of_ble_eq_true rfl)) dX8_boundNow_44 rfl (fun H locs _ _ hC => ?_)
          refine lv_if_eq (tgt := 211) hx hb dX8_boundNow_47 (by decide) (fun c58 => ?_) (fun c58 => ?_)
          · replace hf := opos c58 hf
            exact w_X8_boundNow_L211 M hfl hk11 _ _ _ _ _ _ _ _ hf _ _ _ _ _ hC (lv_sub hl [0, 1, 2, 3, 4, 5, 6] rfl)
          · replace hf := oneg c58 hf
            refine fr_aload_n hx hb dX8_boundNow_50 rfl (lv_at hl 0 rfl) ?_
            refine lv_iload hx hb dX8_boundNow_51 (lv_at hl 6 rfl) ?_
            obtain ⟨b61, q62, hf⟩ := obind hf
            obtain ⟨r59, g60, hf⟩ := obind hf
            refine fr_callV hx hb hml hts hown K hC hR ct_8 (c_X8_isShownNow hfl D cA g60) 1 q62 kw1281 kw1278 kw1280 kw45 kw62 (by decide +kernel) ⟨by exact Nat.le_of_ble_eq_true rfl, by exact Nat.le_of_ble_eq_true rfl⟩ rfl hl.1 (cat8 _ (by exact Nat.le_of_ble_eq_true rfl)) dX8_boundNow_53 rfl (fun H locs _ _ hC => ?_)
            refine lv_if_ne (tgt := 62) hx hb dX8_boundNow_56 (by decide) (fun c63 => ?_) (fun c63 => ?_)
            · replace hf := oneg c63 hf
              refine lv_iconst (v := (0 : Int32)) hx hb dX8_boundNow_62 (by decide) ?_
              refine lv_istore (lv' := [(7, .int (0 : Int32)), (0, va_rf a0), (1, .int a1), (2, .int a2), (3, .int a3), (4, va_rf a4), (5, .int a5), (6, .int a6)]) hx hb dX8_boundNow_63 hl (by decide) (congrArg (List.cons _) (flk rfl (flk rfl (flk rfl (flk rfl (flk rfl (flk rfl (flk rfl fln)))))))) (fun ls hl => ?_)
              exact w_X8_boundNow_L65 M hfl hk11 4096 _ _ _ _ _ _ _ _ _ hf _ _ _ _ _ hC (lv_sub hl [1, 2, 3, 4, 5, 6, 7, 0] rfl)
            · replace hf := opos c63 hf
              refine lv_goto (tgt := 211) hx hb dX8_boundNow_59 (by decide) ?_
              exact w_X8_boundNow_L211 M hfl hk11 _ _ _ _ _ _ _ _ hf _ _ _ _ _ hC (lv_sub hl [0, 1, 2, 3, 4, 5, 6] rfl)
set_option maxHeartbeats 4000000 in
set_option maxRecDepth 100000 in
theorem w_X8_boundNow_L0 {p : Program} {l : Launch} {e : Env} {s : State} {m : MethodId} {args : Array Value} {below : List Frame} {meth : Method} {c : Code} {D : va_G} {cA : Nat → ClassId} {h0 : fSt} {r : (Int32 × fSt)} (M : fM p s m args meth c D cA h0 { frames := 5, cells := fCB h0 - fZ h0, slots := fLB h0 - fL h0, locals := 132 } cX8_boundNow 11 (some (.int)) RX8) (hfl : l.stackTraces = false) (a0 : Option Nat) (a1 : Int32) (a2 : Int32) (a3 : Int32) (h : fSt) (hf : f_X8_boundNow_L0 a0 a1 a2 a3 h = some r) : ∀ (H : Heap) (locs : List Loc) (cells slots : Nat) (ls : Array Slot), fCur D cA s h0 h H locs → lv_has ls 11 [(0, va_rf a0), (1, .int a1), (2, .int a2), (3, .int a3)] → W p l e { frames := 5, cells := fCB h0 - fZ h0, slots := fLB h0 - fL h0, locals := 132 } s m args below meth c H locs cells slots (MQ below (fQ D cA h0 r.2 (some (.int r.1))) args s (fCB h0 - fZ h0) (fLB h0 - fL h0) (fA h0)) (F0 m 0 ls []) := by
  obtain ⟨hx, hb, hml, hr, hlocks, hts, hown, K, hR⟩ := id M
  intro H locs cells slots ls hC hl
  refine fr_null hx hb dX8_boundNow_0 ?_
  refine fr_astore (lv' := [(4, va_rf none), (0, va_rf a0), (1, .int a1), (2, .int a2), (3, .int a3)]) hx hb dX8_boundNow_1 hl (by decide) (congrArg (List.cons _) (flk rfl (flk rfl (flk rfl (flk rfl fln))))) (fun ls hl => ?_)
  refine lv_iload_n hx hb dX8_boundNow_3 rfl (lv_at hl 3 rfl) ?_
  refine lv_iconst (v := (2 : Int32)) hx hb dX8_boundNow_4 (by decide) ?_
  refine lv_irem hx hb dX8_boundNow_5 (by decide) ?_
  refine lv_istore (lv' := [(5, .int (a2 - a2 / (2 : Int32) * (2 : Int32))), (4, va_rf none), (0, va_rf a0), (1, .int a1), (2, .int a2), (3, .int a3)]) hx hb dX8_boundNow_6 hl (by decide) (congrArg (List.cons _) (flk (adj1 _ _) (flk rfl (flk rfl (flk rfl (flk rfl fln)))))) (fun ls hl => ?_)
  refine lv_iconst (v := (1 : Int32)) hx hb dX8_boundNow_8 (by decide) ?_
  refine lv_istore (lv' := [(6, .int (1 : Int32)), (5, .int (a2 - a2 / (2 : Int32) * (2 : Int32))), (4, va_rf none), (0, va_rf a0), (1, .int a1), (2, .int a2), (3, .int a3)]) hx hb dX8_boundNow_9 hl (by decide) (congrArg (List.cons _) (flk rfl (flk rfl (flk rfl (flk rfl (flk rfl (flk rfl fln))))))) (fun ls hl => ?_)
  exact w_X8_boundNow_L11 M hfl 4096 _ _ _ _ _ _ _ _ hf _ _ _ _ _ hC (lv_sub hl [3, 4, 5, 6, 2, 1, 0] rfl)
set_option maxRecDepth 100000 in
theorem c_X8_boundNow {l : Launch} (hfl : l.stackTraces = false) (D : va_G) (cA : Nat → ClassId) {o : Nat} {p0 : Int32} {p1 : Int32} {p2 : Int32} {h : fSt} {r : (Int32 × fSt)} (hf : f_X8_boundNow o p0 p1 p2 h = some r) : fMet l yX8_boundNow (wsC yX8_boundNow cX8_boundNow 11 (some (.int))) (5) (132) D cA [.ref o, .int p0, .int p1, .int p2] h r.2 (some (.int r.1)) := by
  exact fMet.of (own := RX8) (by decide +kernel) rfl (lva1 rfl (lva1 rfl (lva1 rfl (lva1 rfl lva0)))) (lgl1 rfl (lgl1 rfl (lgl1 rfl (lgl1 rfl lgl0)))) (Nat.le_of_ble_eq_true rfl) (fun p e s m args below meth c ls hnm _ M hC hl => by
    have hl : lv_has ls 11 [(0, va_rf (some o)), (1, .int p0), (2, .int p1), (3, .int p2)] := hl
    exact w_X8_boundNow_L0 M hfl _ _ _ _ _ hf _ _ _ _ _ hC (lv_sub hl [0, 1, 2, 3] rfl))
set_option maxHeartbeats 4000000 in
set_option maxRecDepth 100000 in
theorem w_X8_bound_L43 {p : Program} {l : Launch} {e : Env} {s : State} {m : MethodId} {args : Array Value} {below : List Frame} {meth : Method} {c : Code} {D : va_G} {cA : Nat → ClassId} {h0 : fSt} {r : (Int32 × fSt)} (M : fM p s m args meth c D cA h0 { frames := 6, cells := fCB h0 - fZ h0, slots := fLB h0 - fL h0, locals := 162 } cX8_bound 4 (some (.int)) RX8) (hfl : l.stackTraces = false) (s0 : Int32) (h : fSt) (hf : f_X8_bound_L43 s0 h = some r) : ∀ (H : Heap) (locs : List Loc) (cells slots : Nat) (ls : Array Slot), fCur D cA s h0 h H locs → lv_has ls 4 [] → W p l e { frames := 6, cells := fCB h0 - fZ h0, slots := fLB h0 - fL h0, locals := 162 } s m args below meth c H locs cells slots (MQ below (fQ D cA h0 r.2 (some (.int r.1))) args s (fCB h0 - fZ h0) (fLB h0 - fL h0) (fA h0)) (F0 m 43 ls [.int s0]) := by
  obtain ⟨hx, hb, hml, hr, hlocks, hts, hown, K, hR⟩ := id M
  intro H locs cells slots ls hC hl
  obtain rfl := Option.some.inj hf
  exact fr_iret hx hb hr hlocks hC dX8_bound_43
set_option maxHeartbeats 4000000 in
set_option maxRecDepth 100000 in
theorem w_X8_bound_L0 {p : Program} {l : Launch} {e : Env} {s : State} {m : MethodId} {args : Array Value} {below : List Frame} {meth : Method} {c : Code} {D : va_G} {cA : Nat → ClassId} {h0 : fSt} {r : (Int32 × fSt)} (M : fM p s m args meth c D cA h0 { frames := 6, cells := fCB h0 - fZ h0, slots := fLB h0 - fL h0, locals := 162 } cX8_bound 4 (some (.int)) RX8) (hfl : l.stackTraces = false) (a0 : Option Nat) (a1 : Int32) (a2 : Int32) (a3 : Int32) (h : fSt) (hf : f_X8_bound_L0 a0 a1 a2 a3 h = some r) : ∀ (H : Heap) (locs : List Loc) (cells slots : Nat) (ls : Array Slot), fCur D cA s h0 h H locs → lv_has ls 4 [(0, va_rf a0), (1, .int a1), (2, .int a2), (3, .int a3)] → W p l e { frames := 6, cells := fCB h0 - fZ h0, slots := fLB h0 - fL h0, locals := 162 } s m args below meth c H locs cells slots (MQ below (fQ D cA h0 r.2 (some (.int r.1))) args s (fCB h0 - fZ h0) (fLB h0 - fL h0) (fA h0)) (F0 m 0 ls []) := by
  obtain ⟨hx, hb, hml, hr, hlocks, hts, hown, K, hR⟩ := id M
  intro H locs cells slots ls hC hl
  refine fr_aload_n hx hb dX8_bound_0 rfl (lv_at hl 0 rfl) ?_
  refine lv_iconst (v := (0 : Int32)) hx hb dX8_bound_1 (by decide) ?_
  obtain ⟨h1, g2, hf⟩ := obind hf
  refine fr_put hx hb hts hown K hC ct_8 g2 (by decide) kw971 rfl rfl rfl rfl dX8_bound_2 (fun H locs hC => ?_)
  refine fr_aload_n hx hb dX8_bound_5 rfl (lv_at hl 0 rfl) ?_
  refine lv_iload_n hx hb dX8_bound_6 rfl (lv_at hl 1 rfl) ?_
  obtain ⟨b5, q6, hf⟩ := obind hf
  obtain ⟨r3, g4, hf⟩ := obind hf
  refine fr_callV hx hb hml hts hown K hC hR ct_8 (c_X8_isNode hfl D cA g4) 1 q6 kw1063 kw1060 kw1062 kw20 kw62 (by decide +kernel) ⟨by exact Nat.le_of_ble_eq_true rfl, by exact Nat.le_of_ble_eq_true rfl⟩ rfl hl.1 (cat8 _ (by exact Nat.le_of_ble_eq_true rfl)) dX8_bound_7 rfl (fun H locs _ _ hC => ?_)
  refine lv_if_ne (tgt := 19) hx hb dX8_bound_10 (by decide) (fun c7 => ?_) (fun c7 => ?_)
  · replace hf := oneg c7 hf
    refine lv_iload_n hx hb dX8_bound_19 rfl (lv_at hl 2 rfl) ?_
    refine lv_iconst (v := (0 : Int32)) hx hb dX8_bound_20 (by decide) ?_
    refine lv_iconst (v := (3 : Int32)) hx hb dX8_bound_21 (by decide) ?_
    obtain ⟨r8, g9, hf⟩ := obind hf
    refine fr_callS hx hb hml hts hown K hC hR (c_X8_isIn hfl D cA g9) 3 kw1066 kw1064 kw1065 kw62 (by decide +kernel) ⟨by exact Nat.le_of_ble_eq_true rfl, by exact Nat.le_of_ble_eq_true rfl⟩ rfl hl.1 (cat8 _ (by exact Nat.le_of_ble_eq_true rfl)) dX8_bound_22 rfl (fun H locs _ _ hC => ?_)
    refine lv_if_eq (tgt := 38) hx hb dX8_bound_25 (by decide) (fun c10 => ?_) (fun c10 => ?_)
    · replace hf := opos c10 hf
      refine fr_aload_n hx hb dX8_bound_38 rfl (lv_at hl 0 rfl) ?_
      refine lv_iconst (v := (2 : Int32)) hx hb dX8_bound_39 (by decide) ?_
      obtain ⟨b13, q14, hf⟩ := obind hf
      obtain ⟨r11, g12, hf⟩ := obind hf
      refine fr_callV hx hb hml hts hown K hC hR ct_8 (c_X8_no hfl D cA g12) 1 q14 kw1070 kw1067 kw1069 kw21 kw62 (by decide +kernel) ⟨by exact Nat.le_of_ble_eq_true rfl, by exact Nat.le_of_ble_eq_true rfl⟩ rfl hl.1 (cat8 _ (by exact Nat.le_of_ble_eq_true rfl)) dX8_bound_40 rfl (fun H locs _ _ hC => ?_)
      exact w_X8_bound_L43 M hfl _ _ hf _ _ _ _ _ hC (lv_sub hl [] rfl)
    · replace hf := oneg c10 hf
      refine fr_aload_n hx hb dX8_bound_28 rfl (lv_at hl 0 rfl) ?_
      refine lv_iload_n hx hb dX8_bound_29 rfl (lv_at hl 1 rfl) ?_
      refine lv_iload_n hx hb dX8_bound_30 rfl (lv_at hl 2 rfl) ?_
      refine lv_iload_n hx hb dX8_bound_31 rfl (lv_at hl 3 rfl) ?_
      obtain ⟨b17, q18, hf⟩ := obind hf
      obtain ⟨r15, g16, hf⟩ := obind hf
      refine fr_callV hx hb hml hts hown K hC hR ct_8 (c_X8_boundNow hfl D cA g16) 3 q18 kw1277 kw1274 kw1276 kw44 kw62 (by decide +kernel) ⟨by exact Nat.le_of_ble_eq_true rfl, by exact Nat.le_of_ble_eq_true rfl⟩ rfl hl.1 (cat8 _ (by exact Nat.le_of_ble_eq_true rfl)) dX8_bound_32 rfl (fun H locs _ _ hC => ?_)
      refine lv_goto (tgt := 43) hx hb dX8_bound_35 (by decide) ?_
      exact w_X8_bound_L43 M hfl _ _ hf _ _ _ _ _ hC (lv_sub hl [] rfl)
  · replace hf := opos c7 hf
    refine fr_aload_n hx hb dX8_bound_13 rfl (lv_at hl 0 rfl) ?_
    refine lv_iconst (v := (1 : Int32)) hx hb dX8_bound_14 (by decide) ?_
    obtain ⟨b21, q22, hf⟩ := obind hf
    obtain ⟨r19, g20, hf⟩ := obind hf
    refine fr_callV hx hb hml hts hown K hC hR ct_8 (c_X8_no hfl D cA g20) 1 q22 kw1070 kw1067 kw1069 kw21 kw62 (by decide +kernel) ⟨by exact Nat.le_of_ble_eq_true rfl, by exact Nat.le_of_ble_eq_true rfl⟩ rfl hl.1 (cat8 _ (by exact Nat.le_of_ble_eq_true rfl)) dX8_bound_15 rfl (fun H locs _ _ hC => ?_)
    obtain rfl := Option.some.inj hf
    exact fr_iret hx hb hr hlocks hC dX8_bound_18
set_option maxRecDepth 100000 in
theorem c_X8_bound {l : Launch} (hfl : l.stackTraces = false) (D : va_G) (cA : Nat → ClassId) {o : Nat} {p0 : Int32} {p1 : Int32} {p2 : Int32} {h : fSt} {r : (Int32 × fSt)} (hf : f_X8_bound o p0 p1 p2 h = some r) : fMet l yX8_bound (wsC yX8_bound cX8_bound 4 (some (.int))) (6) (162) D cA [.ref o, .int p0, .int p1, .int p2] h r.2 (some (.int r.1)) := by
  exact fMet.of (own := RX8) (by decide +kernel) rfl (lva1 rfl (lva1 rfl (lva1 rfl (lva1 rfl lva0)))) (lgl1 rfl (lgl1 rfl (lgl1 rfl (lgl1 rfl lgl0)))) (Nat.le_of_ble_eq_true rfl) (fun p e s m args below meth c ls hnm _ M hC hl => by
    have hl : lv_has ls 4 [(0, va_rf (some o)), (1, .int p0), (2, .int p1), (3, .int p2)] := hl
    exact w_X8_bound_L0 M hfl _ _ _ _ _ hf _ _ _ _ _ hC (lv_sub hl [0, 1, 2, 3] rfl))
set_option maxHeartbeats 4000000 in
set_option maxRecDepth 100000 in
theorem w_X8_isOther_L66 {p : Program} {l : Launch} {e : Env} {s : State} {m : MethodId} {args : Array Value} {below : List Frame} {meth : Method} {c : Code} {D : va_G} {cA : Nat → ClassId} {h0 : fSt} {self : Nat → Int32 → Int32 → Int32 → fSt → Option (Int32 × fSt)} {fd ld : Nat} {r : (Int32 × fSt)} (hself : ∀ {o : Nat} {p0 : Int32} {p1 : Int32} {p2 : Int32} {h : fSt} {r : (Int32 × fSt)}, self o p0 p1 p2 h = some r → fMet l yX8_isOther (wsC yX8_isOther cX8_isOther 5 (some (.boolean))) fd ld D cA [.ref o, .int p0, .int p1, .int p2] h r.2 (some (.int r.1))) (M : fM p s m args meth c D cA h0 { frames := fd + 2, cells := fCB h0 - fZ h0, slots := fLB h0 - fL h0, locals := ld + 58 } cX8_isOther 5 (some (.boolean)) RX8) (hfl : l.stackTraces = false) (s0 : Int32) (h : fSt) (hf : f_X8_isOther_L66 self s0 h = some r) : ∀ (H : Heap) (locs : List Loc) (cells slots : Nat) (ls : Array Slot), fCur D cA s h0 h H locs → lv_has ls 5 [] → W p l e { frames := fd + 2, cells := fCB h0 - fZ h0, slots := fLB h0 - fL h0, locals := ld + 58 } s m args below meth c H locs cells slots (MQ below (fQ D cA h0 r.2 (some (.int r.1))) args s (fCB h0 - fZ h0) (fLB h0 - fL h0) (fA h0)) (F0 m 66 ls [.int s0]) := by
  obtain ⟨hx, hb, hml, hr, hlocks, hts, hown, K, hR⟩ := id M
  intro H locs cells slots ls hC hl
  by_cases c1 : s0 = 0 ∨ s0 = 1
  rotate_left
  · exact nomatch (oneg c1 hf)
  obtain rfl := Option.some.inj (opos c1 hf)
  exact fr_zret hx hb hr hlocks hC c1 dX8_isOther_66
set_option maxHeartbeats 4000000 in
set_option maxRecDepth 100000 in
theorem w_X8_isOther_L65 {p : Program} {l : Launch} {e : Env} {s : State} {m : MethodId} {args : Array Value} {below : List Frame} {meth : Method} {c : Code} {D : va_G} {cA : Nat → ClassId} {h0 : fSt} {self : Nat → Int32 → Int32 → Int32 → fSt → Option (Int32 × fSt)} {fd ld : Nat} {r : (Int32 × fSt)} (hself : ∀ {o : Nat} {p0 : Int32} {p1 : Int32} {p2 : Int32} {h : fSt} {r : (Int32 × fSt)}, self o p0 p1 p2 h = some r → fMet l yX8_isOther (wsC yX8_isOther cX8_isOther 5 (some (.boolean))) fd ld D cA [.ref o, .int p0, .int p1, .int p2] h r.2 (some (.int r.1))) (M : fM p s m args meth c D cA h0 { frames := fd + 2, cells := fCB h0 - fZ h0, slots := fLB h0 - fL h0, locals := ld + 58 } cX8_isOther 5 (some (.boolean)) RX8) (hfl : l.stackTraces = false)  (h : fSt) (hf : f_X8_isOther_L65 self  h = some r) : ∀ (H : Heap) (locs : List Loc) (cells slots : Nat) (ls : Array Slot), fCur D cA s h0 h H locs → lv_has ls 5 [] → W p l e { frames := fd + 2, cells := fCB h0 - fZ h0, slots := fLB h0 - fL h0, locals := ld + 58 } s m args below meth c H locs cells slots (MQ below (fQ D cA h0 r.2 (some (.int r.1))) args s (fCB h0 - fZ h0) (fLB h0 - fL h0) (fA h0)) (F0 m 65 ls []) := by
  obtain ⟨hx, hb, hml, hr, hlocks, hts, hown, K, hR⟩ := id M
  intro H locs cells slots ls hC hl
  refine lv_iconst (v := (0 : Int32)) hx hb dX8_isOther_65 (by decide) ?_
  exact w_X8_isOther_L66 @hself M hfl _ _ hf _ _ _ _ _ hC (lv_sub hl [] rfl)
set_option maxHeartbeats 4000000 in
set_option maxRecDepth 100000 in
theorem w_X8_isOther_L3 {p : Program} {l : Launch} {e : Env} {s : State} {m : MethodId} {args : Array Value} {below : List Frame} {meth : Method} {c : Code} {D : va_G} {cA : Nat → ClassId} {h0 : fSt} {self : Nat → Int32 → Int32 → Int32 → fSt → Option (Int32 × fSt)} {fd ld : Nat} {r : (Int32 × fSt)} (hself : ∀ {o : Nat} {p0 : Int32} {p1 : Int32} {p2 : Int32} {h : fSt} {r : (Int32 × fSt)}, self o p0 p1 p2 h = some r → fMet l yX8_isOther (wsC yX8_isOther cX8_isOther 5 (some (.boolean))) fd ld D cA [.ref o, .int p0, .int p1, .int p2] h r.2 (some (.int r.1))) (M : fM p s m args meth c D cA h0 { frames := fd + 2, cells := fCB h0 - fZ h0, slots := fLB h0 - fL h0, locals := ld + 58 } cX8_isOther 5 (some (.boolean)) RX8) (hfl : l.stackTraces = false) : ∀ (n : Nat) (a0 : Option Nat) (a1 : Int32) (a2 : Int32) (a3 : Int32) (a4 : Int32) (h : fSt), f_X8_isOther_L3 self n a0 a1 a2 a3 a4 h = some r → ∀ (H : Heap) (locs : List Loc) (cells slots : Nat) (ls : Array Slot), fCur D cA s h0 h H locs → lv_has ls 5 [(0, va_rf a0), (1, .int a1), (2, .int a2), (3, .int a3), (4, .int a4)] → W p l e { frames := fd + 2, cells := fCB h0 - fZ h0, slots := fLB h0 - fL h0, locals := ld + 58 } s m args below meth c H locs cells slots (MQ below (fQ D cA h0 r.2 (some (.int r.1))) args s (fCB h0 - fZ h0) (fLB h0 - fL h0) (fA h0)) (F0 m 3 ls []) := by
  obtain ⟨hx, hb, hml, hr, hlocks, hts, hown, K, hR⟩ := id M
  intro n
  induction n with
  | zero =>
    intro a0 a1 a2 a3 a4 h hf
    exact nomatch (show (none : Option (Int32 × fSt)) = some r from hf)
  | succ n hk3 =>
    intro a0 a1 a2 a3 a4 h hf H locs cells slots ls hC hl
    refine lv_iload hx hb dX8_isOther_3 (lv_at hl 4 rfl) ?_
    refine lv_iconst (v := (4 : Int32)) hx hb dX8_isOther_5 (by decide) ?_
    refine lv_icmp_ge (tgt := 36) hx hb dX8_isOther_6 (by decide) (fun c2 => ?_) (fun c2 => ?_)
    · replace hf := opos c2 hf
      refine fr_aload_n hx hb dX8_isOther_36 rfl (lv_at hl 0 rfl) ?_
      obtain ⟨x3, g4, hf⟩ := obind hf
      refine fr_get hx hb hts hown K hC ct_8 (fgR_get g4) (by decide) kw977 rfl dX8_isOther_37 ?_
      refine lv_iload_n hx hb dX8_isOther_40 rfl (lv_at hl 1 rfl) ?_
      obtain ⟨x5, g6, hf⟩ := obind hf
      refine fr_iald hx hb K hC (t := 0) rfl g6 dX8_isOther_41 ?_
      refine lv_iconst (v := (-1 : Int32)) hx hb dX8_isOther_42 (by decide) ?_
      refine lv_icmp_eq (tgt := 65) hx hb dX8_isOther_43 (by decide) (fun c7 => ?_) (fun c7 => ?_)
      · replace hf := opos c7 hf
        exact w_X8_isOther_L65 @hself M hfl _ hf _ _ _ _ _ hC (lv_sub hl [] rfl)
      · replace hf := oneg c7 hf
        refine fr_aload_n hx hb dX8_isOther_46 rfl (lv_at hl 0 rfl) ?_
        refine fr_aload_n hx hb dX8_isOther_47 rfl (lv_at hl 0 rfl) ?_
        obtain ⟨x8, g9, hf⟩ := obind hf
        refine fr_get hx hb hts hown K hC ct_8 (fgR_get g9) (by decide) kw977 rfl dX8_isOther_48 ?_
        refine lv_iload_n hx hb dX8_isOther_51 rfl (lv_at hl 1 rfl) ?_
        obtain ⟨x10, g11, hf⟩ := obind hf
        refine fr_iald hx hb K hC (t := 0) rfl g11 dX8_isOther_52 ?_
        refine lv_iload_n hx hb dX8_isOther_53 rfl (lv_at hl 2 rfl) ?_
        refine lv_iload_n hx hb dX8_isOther_54 rfl (lv_at hl 3 rfl) ?_
        obtain ⟨b14, q15, hf⟩ := obind hf
        obtain ⟨r12, g13, hf⟩ := obind hf
        refine fr_callV hx hb hml hts hown K hC hR ct_8 (hself g13) 3 q15 kw1355 kw1352 kw1354 kw53 kw62 (by decide +kernel) ⟨by dsimp only; omega, by dsimp only; omega⟩ rfl hl.1 (cat8 _ (by exact Nat.le_of_ble_eq_true rfl)) dX8_isOther_55 rfl (fun H locs _ _ hC => ?_)
        refine lv_if_eq (tgt := 65) hx hb dX8_isOther_58 (by decide) (fun c16 => ?_) (fun c16 => ?_)
        · replace hf := opos c16 hf
          exact w_X8_isOther_L65 @hself M hfl _ hf _ _ _ _ _ hC (lv_sub hl [] rfl)
        · replace hf := oneg c16 hf
          refine lv_iconst (v := (1 : Int32)) hx hb dX8_isOther_61 (by decide) ?_
          refine lv_goto (tgt := 66) hx hb dX8_isOther_62 (by decide) ?_
          exact w_X8_isOther_L66 @hself M hfl _ _ hf _ _ _ _ _ hC (lv_sub hl [] rfl)
    · replace hf := oneg c2 hf
      refine fr_aload_n hx hb dX8_isOther_9 rfl (lv_at hl 0 rfl) ?_
      refine lv_iload_n hx hb dX8_isOther_10 rfl (lv_at hl 1 rfl) ?_
      refine lv_iload hx hb dX8_isOther_11 (lv_at hl 4 rfl) ?_
      refine lv_iload_n hx hb dX8_isOther_13 rfl (lv_at hl 2 rfl) ?_
      obtain ⟨b19, q20, hf⟩ := obind hf
      obtain ⟨r17, g18, hf⟩ := obind hf
      refine fr_callV hx hb hml hts hown K hC hR ct_8 (c_X8_valueAt hfl D cA g18) 3 q20 kw1205 kw1202 kw1204 kw34 kw62 (by decide +kernel) ⟨by dsimp only; omega, by dsimp only; omega⟩ rfl hl.1 (cat8 _ (by exact Nat.le_of_ble_eq_true rfl)) dX8_isOther_14 rfl (fun H locs _ _ hC => ?_)
      refine fr_aload_n hx hb dX8_isOther_17 rfl (lv_at hl 0 rfl) ?_
      refine lv_iload_n hx hb dX8_isOther_18 rfl (lv_at hl 1 rfl) ?_
      refine lv_iload hx hb dX8_isOther_19 (lv_at hl 4 rfl) ?_
      refine lv_iload_n hx hb dX8_isOther_21 rfl (lv_at hl 3 rfl) ?_
      obtain ⟨b23, q24, hf⟩ := obind hf
      obtain ⟨r21, g22, hf⟩ := obind hf
      refine fr_callV hx hb hml hts hown K hC hR ct_8 (c_X8_valueAt hfl D cA g22) 3 q24 kw1205 kw1202 kw1204 kw34 kw62 (by decide +kernel) ⟨by dsimp only; omega, by dsimp only; omega⟩ rfl hl.1 (cat8 _ (by exact Nat.le_of_ble_eq_true rfl)) dX8_isOther_22 rfl (fun H locs _ _ hC => ?_)
      refine lv_icmp_eq (tgt := 30) hx hb dX8_isOther_25 (by decide) (fun c25 => ?_) (fun c25 => ?_)
      · replace hf := opos c25 hf
        refine lv_iinc (v := (a4 + (1 : Int32))) (lv' := [(4, .int (a4 + (1 : Int32))), (0, va_rf a0), (1, .int a1), (2, .int a2), (3, .int a3)]) hx hb dX8_isOther_30 hl (k := 4) rfl rfl (by decide) (congrArg (List.cons _) (flk rfl (flk rfl (flk rfl (flk rfl (fld rfl fln)))))) (fun ls hl => ?_)
        refine lv_goto (tgt := 3) hx hb dX8_isOther_33 (by decide) ?_
        exact hk3 _ _ _ _ _ _ hf _ _ _ _ _ hC (lv_sub hl [1, 2, 3, 4, 0] rfl)
      · replace hf := oneg c25 hf
        refine lv_iconst (v := (1 : Int32)) hx hb dX8_isOther_28 (by decide) ?_
        obtain rfl := Option.some.inj hf
        exact fr_zret hx hb hr hlocks hC (Or.inr rfl) dX8_isOther_29
set_option maxHeartbeats 4000000 in
set_option maxRecDepth 100000 in
theorem w_X8_isOther_L0 {p : Program} {l : Launch} {e : Env} {s : State} {m : MethodId} {args : Array Value} {below : List Frame} {meth : Method} {c : Code} {D : va_G} {cA : Nat → ClassId} {h0 : fSt} {self : Nat → Int32 → Int32 → Int32 → fSt → Option (Int32 × fSt)} {fd ld : Nat} {r : (Int32 × fSt)} (hself : ∀ {o : Nat} {p0 : Int32} {p1 : Int32} {p2 : Int32} {h : fSt} {r : (Int32 × fSt)}, self o p0 p1 p2 h = some r → fMet l yX8_isOther (wsC yX8_isOther cX8_isOther 5 (some (.boolean))) fd ld D cA [.ref o, .int p0, .int p1, .int p2] h r.2 (some (.int r.1))) (M : fM p s m args meth c D cA h0 { frames := fd + 2, cells := fCB h0 - fZ h0, slots := fLB h0 - fL h0, locals := ld + 58 } cX8_isOther 5 (some (.boolean)) RX8) (hfl : l.stackTraces = false) (a0 : Option Nat) (a1 : Int32) (a2 : Int32) (a3 : Int32) (h : fSt) (hf : f_X8_isOther_L0 self a0 a1 a2 a3 h = some r) : ∀ (H : Heap) (locs : List Loc) (cells slots : Nat) (ls : Array Slot), fCur D cA s h0 h H locs → lv_has ls 5 [(0, va_rf a0), (1, .int a1), (2, .int a2), (3, .int a3)] → W p l e { frames := fd + 2, cells := fCB h0 - fZ h0, slots := fLB h0 - fL h0, locals := ld + 58 } s m args below meth c H locs cells slots (MQ below (fQ D cA h0 r.2 (some (.int r.1))) args s (fCB h0 - fZ h0) (fLB h0 - fL h0) (fA h0)) (F0 m 0 ls []) := by
  obtain ⟨hx, hb, hml, hr, hlocks, hts, hown, K, hR⟩ := id M
  intro H locs cells slots ls hC hl
  refine lv_iconst (v := (0 : Int32)) hx hb dX8_isOther_0 (by decide) ?_
  refine lv_istore (lv' := [(4, .int (0 : Int32)), (0, va_rf a0), (1, .int a1), (2, .int a2), (3, .int a3)]) hx hb dX8_isOther_1 hl (by decide) (congrArg (List.cons _) (flk rfl (flk rfl (flk rfl (flk rfl fln))))) (fun ls hl => ?_)
  exact w_X8_isOther_L3 @hself M hfl 4096 _ _ _ _ _ _ hf _ _ _ _ _ hC (lv_sub hl [1, 2, 3, 4, 0] rfl)
set_option maxRecDepth 100000 in
theorem c_X8_isOther {l : Launch} (hfl : l.stackTraces = false) (D : va_G) (cA : Nat → ClassId) (d : Nat) : ∀ {o : Nat} {p0 : Int32} {p1 : Int32} {p2 : Int32} {h : fSt} {r : (Int32 × fSt)}, f_X8_isOther d o p0 p1 p2 h = some r → fMet l yX8_isOther (wsC yX8_isOther cX8_isOther 5 (some (.boolean))) (2 * d) (58 * d) D cA [.ref o, .int p0, .int p1, .int p2] h r.2 (some (.int r.1)) := by
  induction d with
  | zero =>
    intro o p0 p1 p2 h r hf
    exact nomatch (show (none : Option (Int32 × fSt)) = some r from hf)
  | succ d hself =>
    intro o p0 p1 p2 h r hf
    have hf : f_X8_isOther_L0 (f_X8_isOther d) (some o) p0 p1 p2 h = some r := hf
    exact fMet.of (own := RX8) (by decide +kernel) rfl (lva1 rfl (lva1 rfl (lva1 rfl (lva1 rfl lva0)))) (lgl1 rfl (lgl1 rfl (lgl1 rfl (lgl1 rfl lgl0)))) (Nat.le_of_ble_eq_true rfl) (fun p e s m args below meth c ls hnm _ M hC hl => by
    have hl : lv_has ls 5 [(0, va_rf (some o)), (1, .int p0), (2, .int p1), (3, .int p2)] := hl
    exact w_X8_isOther_L0 @hself M hfl _ _ _ _ _ hf _ _ _ _ _ hC (lv_sub hl [0, 1, 2, 3] rfl))
set_option maxHeartbeats 4000000 in
set_option maxRecDepth 100000 in
theorem w_X8_changesNow_L41 {p : Program} {l : Launch} {e : Env} {s : State} {m : MethodId} {args : Array Value} {below : List Frame} {meth : Method} {c : Code} {D : va_G} {cA : Nat → ClassId} {h0 : fSt} {r : (Int32 × fSt)} (M : fM p s m args meth c D cA h0 { frames := 17, cells := fCB h0 - fZ h0, slots := fLB h0 - fL h0, locals := 488 } cX8_changesNow 5 (some (.int)) RX8) (hfl : l.stackTraces = false) {k5 : Option Nat → Int32 → Int32 → Int32 → Int32 → fSt → Option (Int32 × fSt)} (hk5 : ∀ (a0 : Option Nat) (a1 : Int32) (a2 : Int32) (a3 : Int32) (a4 : Int32) (h : fSt), k5 a0 a1 a2 a3 a4 h = some r → ∀ (H : Heap) (locs : List Loc) (cells slots : Nat) (ls : Array Slot), fCur D cA s h0 h H locs → lv_has ls 5 [(0, va_rf a0), (1, .int a1), (2, .int a2), (3, .int a3), (4, .int a4)] → W p l e { frames := 17, cells := fCB h0 - fZ h0, slots := fLB h0 - fL h0, locals := 488 } s m args below meth c H locs cells slots (MQ below (fQ D cA h0 r.2 (some (.int r.1))) args s (fCB h0 - fZ h0) (fLB h0 - fL h0) (fA h0)) (F0 m 5 ls [])) (a0 : Option Nat) (a1 : Int32) (a2 : Int32) (a4 : Int32) (s1 : Int32) (s0 : Int32) (h : fSt) (hf : f_X8_changesNow_L41 k5 a0 a1 a2 a4 s1 s0 h = some r) : ∀ (H : Heap) (locs : List Loc) (cells slots : Nat) (ls : Array Slot), fCur D cA s h0 h H locs → lv_has ls 5 [(0, va_rf a0), (1, .int a1), (2, .int a2), (4, .int a4)] → W p l e { frames := 17, cells := fCB h0 - fZ h0, slots := fLB h0 - fL h0, locals := 488 } s m args below meth c H locs cells slots (MQ below (fQ D cA h0 r.2 (some (.int r.1))) args s (fCB h0 - fZ h0) (fLB h0 - fL h0) (fA h0)) (F0 m 41 ls [.int s1, .int s0]) := by
  obtain ⟨hx, hb, hml, hr, hlocks, hts, hown, K, hR⟩ := id M
  intro H locs cells slots ls hC hl
  refine lv_iadd hx hb dX8_changesNow_41 ?_
  refine lv_istore_n (lv' := [(3, .int (s0 + s1)), (0, va_rf a0), (1, .int a1), (2, .int a2), (4, .int a4)]) hx hb dX8_changesNow_42 rfl hl (by decide) (congrArg (List.cons _) (flk rfl (flk rfl (flk rfl (flk rfl fln))))) (fun ls hl => ?_)
  refine lv_iinc (v := (a4 + (1 : Int32))) (lv' := [(4, .int (a4 + (1 : Int32))), (3, .int (s0 + s1)), (0, va_rf a0), (1, .int a1), (2, .int a2)]) hx hb dX8_changesNow_43 hl (k := 4) rfl rfl (by decide) (congrArg (List.cons _) (flk rfl (flk rfl (flk rfl (flk rfl (fld rfl fln)))))) (fun ls hl => ?_)
  refine lv_goto (tgt := 5) hx hb dX8_changesNow_46 (by decide) ?_
  exact hk5 _ _ _ _ _ _ hf _ _ _ _ _ hC (lv_sub hl [2, 3, 4, 1, 0] rfl)
set_option maxHeartbeats 4000000 in
set_option maxRecDepth 100000 in
theorem w_X8_changesNow_L40 {p : Program} {l : Launch} {e : Env} {s : State} {m : MethodId} {args : Array Value} {below : List Frame} {meth : Method} {c : Code} {D : va_G} {cA : Nat → ClassId} {h0 : fSt} {r : (Int32 × fSt)} (M : fM p s m args meth c D cA h0 { frames := 17, cells := fCB h0 - fZ h0, slots := fLB h0 - fL h0, locals := 488 } cX8_changesNow 5 (some (.int)) RX8) (hfl : l.stackTraces = false) {k5 : Option Nat → Int32 → Int32 → Int32 → Int32 → fSt → Option (Int32 × fSt)} (hk5 : ∀ (a0 : Option Nat) (a1 : Int32) (a2 : Int32) (a3 : Int32) (a4 : Int32) (h : fSt), k5 a0 a1 a2 a3 a4 h = some r → ∀ (H : Heap) (locs : List Loc) (cells slots : Nat) (ls : Array Slot), fCur D cA s h0 h H locs → lv_has ls 5 [(0, va_rf a0), (1, .int a1), (2, .int a2), (3, .int a3), (4, .int a4)] → W p l e { frames := 17, cells := fCB h0 - fZ h0, slots := fLB h0 - fL h0, locals := 488 } s m args below meth c H locs cells slots (MQ below (fQ D cA h0 r.2 (some (.int r.1))) args s (fCB h0 - fZ h0) (fLB h0 - fL h0) (fA h0)) (F0 m 5 ls [])) (a0 : Option Nat) (a1 : Int32) (a2 : Int32) (a4 : Int32) (s0 : Int32) (h : fSt) (hf : f_X8_changesNow_L40 k5 a0 a1 a2 a4 s0 h = some r) : ∀ (H : Heap) (locs : List Loc) (cells slots : Nat) (ls : Array Slot), fCur D cA s h0 h H locs → lv_has ls 5 [(0, va_rf a0), (1, .int a1), (2, .int a2), (4, .int a4)] → W p l e { frames := 17, cells := fCB h0 - fZ h0, slots := fLB h0 - fL h0, locals := 488 } s m args below meth c H locs cells slots (MQ below (fQ D cA h0 r.2 (some (.int r.1))) args s (fCB h0 - fZ h0) (fLB h0 - fL h0) (fA h0)) (F0 m 40 ls [.int s0]) := by
  obtain ⟨hx, hb, hml, hr, hlocks, hts, hown, K, hR⟩ := id M
  intro H locs cells slots ls hC hl
  refine lv_iconst (v := (0 : Int32)) hx hb dX8_changesNow_40 (by decide) ?_
  exact w_X8_changesNow_L41 M hfl hk5 _ _ _ _ _ _ _ hf _ _ _ _ _ hC (lv_sub hl [0, 1, 2, 3] rfl)
set_option maxHeartbeats 4000000 in
set_option maxRecDepth 100000 in
theorem w_X8_changesNow_L5 {p : Program} {l : Launch} {e : Env} {s : State} {m : MethodId} {args : Array Value} {below : List Frame} {meth : Method} {c : Code} {D : va_G} {cA : Nat → ClassId} {h0 : fSt} {r : (Int32 × fSt)} (M : fM p s m args meth c D cA h0 { frames := 17, cells := fCB h0 - fZ h0, slots := fLB h0 - fL h0, locals := 488 } cX8_changesNow 5 (some (.int)) RX8) (hfl : l.stackTraces = false) : ∀ (n : Nat) (a0 : Option Nat) (a1 : Int32) (a2 : Int32) (a3 : Int32) (a4 : Int32) (h : fSt), f_X8_changesNow_L5 n a0 a1 a2 a3 a4 h = some r → ∀ (H : Heap) (locs : List Loc) (cells slots : Nat) (ls : Array Slot), fCur D cA s h0 h H locs → lv_has ls 5 [(0, va_rf a0), (1, .int a1), (2, .int a2), (3, .int a3), (4, .int a4)] → W p l e { frames := 17, cells := fCB h0 - fZ h0, slots := fLB h0 - fL h0, locals := 488 } s m args below meth c H locs cells slots (MQ below (fQ D cA h0 r.2 (some (.int r.1))) args s (fCB h0 - fZ h0) (fLB h0 - fL h0) (fA h0)) (F0 m 5 ls []) := by
  obtain ⟨hx, hb, hml, hr, hlocks, hts, hown, K, hR⟩ := id M
  intro n
  induction n with
  | zero =>
    intro a0 a1 a2 a3 a4 h hf
    exact nomatch (show (none : Option (Int32 × fSt)) = some r from hf)
  | succ n hk5 =>
    intro a0 a1 a2 a3 a4 h hf H locs cells slots ls hC hl
    refine lv_iload hx hb dX8_changesNow_5 (lv_at hl 4 rfl) ?_
    refine fr_aload_n hx hb dX8_changesNow_7 rfl (lv_at hl 0 rfl) ?_
    obtain ⟨x1, g2, hf⟩ := obind hf
    refine fr_get hx hb hts hown K hC ct_8 (fgI_get g2) (by decide) kw972 rfl dX8_changesNow_8 ?_
    refine lv_icmp_ge (tgt := 49) hx hb dX8_changesNow_11 (by decide) (fun c3 => ?_) (fun c3 => ?_)
    · replace hf := opos c3 hf
      refine lv_iload_n hx hb dX8_changesNow_49 rfl (lv_at hl 3 rfl) ?_
      obtain rfl := Option.some.inj hf
      exact fr_iret hx hb hr hlocks hC dX8_changesNow_50
    · replace hf := oneg c3 hf
      refine lv_iload_n hx hb dX8_changesNow_14 rfl (lv_at hl 3 rfl) ?_
      refine fr_aload_n hx hb dX8_changesNow_15 rfl (lv_at hl 0 rfl) ?_
      obtain ⟨x4, g5, hf⟩ := obind hf
      refine fr_get hx hb hts hown K hC ct_8 (fgR_get g5) (by decide) kw973 rfl dX8_changesNow_16 ?_
      refine lv_iload hx hb dX8_changesNow_19 (lv_at hl 4 rfl) ?_
      obtain ⟨x6, g7, hf⟩ := obind hf
      refine fr_zald hx hb K hC (t := 2) rfl g7 dX8_changesNow_21 ?_
      refine lv_if_ne (tgt := 40) hx hb dX8_changesNow_22 (by decide) (fun c8 => ?_) (fun c8 => ?_)
      · replace hf := oneg c8 hf
        exact w_X8_changesNow_L40 M hfl hk5 _ _ _ _ _ _ hf _ _ _ _ _ hC (lv_sub hl [0, 1, 2, 4] rfl)
      · replace hf := opos c8 hf
        refine fr_aload_n hx hb dX8_changesNow_25 rfl (lv_at hl 0 rfl) ?_
        refine lv_iload hx hb dX8_changesNow_26 (lv_at hl 4 rfl) ?_
        refine lv_iload_n hx hb dX8_changesNow_28 rfl (lv_at hl 1 rfl) ?_
        refine lv_iload_n hx hb dX8_changesNow_29 rfl (lv_at hl 2 rfl) ?_
        obtain ⟨b11, q12, hf⟩ := obind hf
        obtain ⟨r9, g10, hf⟩ := obind hf
        refine fr_callV hx hb hml hts hown K hC hR ct_8 (c_X8_isOther hfl D cA 8 g10) 3 q12 kw1355 kw1352 kw1354 kw53 kw62 (by decide +kernel) ⟨by exact Nat.le_of_ble_eq_true rfl, by exact Nat.le_of_ble_eq_true rfl⟩ rfl hl.1 (cat8 _ (by exact Nat.le_of_ble_eq_true rfl)) dX8_changesNow_30 rfl (fun H locs _ _ hC => ?_)
        refine lv_if_eq (tgt := 40) hx hb dX8_changesNow_33 (by decide) (fun c13 => ?_) (fun c13 => ?_)
        · replace hf := opos c13 hf
          exact w_X8_changesNow_L40 M hfl hk5 _ _ _ _ _ _ hf _ _ _ _ _ hC (lv_sub hl [0, 1, 2, 4] rfl)
        · replace hf := oneg c13 hf
          refine lv_iconst (v := (1 : Int32)) hx hb dX8_changesNow_36 (by decide) ?_
          refine lv_goto (tgt := 41) hx hb dX8_changesNow_37 (by decide) ?_
          exact w_X8_changesNow_L41 M hfl hk5 _ _ _ _ _ _ _ hf _ _ _ _ _ hC (lv_sub hl [0, 1, 2, 4] rfl)
set_option maxHeartbeats 4000000 in
set_option maxRecDepth 100000 in
theorem w_X8_changesNow_L0 {p : Program} {l : Launch} {e : Env} {s : State} {m : MethodId} {args : Array Value} {below : List Frame} {meth : Method} {c : Code} {D : va_G} {cA : Nat → ClassId} {h0 : fSt} {r : (Int32 × fSt)} (M : fM p s m args meth c D cA h0 { frames := 17, cells := fCB h0 - fZ h0, slots := fLB h0 - fL h0, locals := 488 } cX8_changesNow 5 (some (.int)) RX8) (hfl : l.stackTraces = false) (a0 : Option Nat) (a1 : Int32) (a2 : Int32) (h : fSt) (hf : f_X8_changesNow_L0 a0 a1 a2 h = some r) : ∀ (H : Heap) (locs : List Loc) (cells slots : Nat) (ls : Array Slot), fCur D cA s h0 h H locs → lv_has ls 5 [(0, va_rf a0), (1, .int a1), (2, .int a2)] → W p l e { frames := 17, cells := fCB h0 - fZ h0, slots := fLB h0 - fL h0, locals := 488 } s m args below meth c H locs cells slots (MQ below (fQ D cA h0 r.2 (some (.int r.1))) args s (fCB h0 - fZ h0) (fLB h0 - fL h0) (fA h0)) (F0 m 0 ls []) := by
  obtain ⟨hx, hb, hml, hr, hlocks, hts, hown, K, hR⟩ := id M
  intro H locs cells slots ls hC hl
  refine lv_iconst (v := (0 : Int32)) hx hb dX8_changesNow_0 (by decide) ?_
  refine lv_istore_n (lv' := [(3, .int (0 : Int32)), (0, va_rf a0), (1, .int a1), (2, .int a2)]) hx hb dX8_changesNow_1 rfl hl (by decide) (congrArg (List.cons _) (flk rfl (flk rfl (flk rfl fln)))) (fun ls hl => ?_)
  refine lv_iconst (v := (0 : Int32)) hx hb dX8_changesNow_2 (by decide) ?_
  refine lv_istore (lv' := [(4, .int (0 : Int32)), (3, .int (0 : Int32)), (0, va_rf a0), (1, .int a1), (2, .int a2)]) hx hb dX8_changesNow_3 hl (by decide) (congrArg (List.cons _) (flk rfl (flk rfl (flk rfl (flk rfl fln))))) (fun ls hl => ?_)
  exact w_X8_changesNow_L5 M hfl 4096 _ _ _ _ _ _ hf _ _ _ _ _ hC (lv_sub hl [2, 3, 4, 1, 0] rfl)
set_option maxRecDepth 100000 in
theorem c_X8_changesNow {l : Launch} (hfl : l.stackTraces = false) (D : va_G) (cA : Nat → ClassId) {o : Nat} {p0 : Int32} {p1 : Int32} {h : fSt} {r : (Int32 × fSt)} (hf : f_X8_changesNow o p0 p1 h = some r) : fMet l yX8_changesNow (wsC yX8_changesNow cX8_changesNow 5 (some (.int))) (17) (488) D cA [.ref o, .int p0, .int p1] h r.2 (some (.int r.1)) := by
  exact fMet.of (own := RX8) (by decide +kernel) rfl (lva1 rfl (lva1 rfl (lva1 rfl lva0))) (lgl1 rfl (lgl1 rfl (lgl1 rfl lgl0))) (Nat.le_of_ble_eq_true rfl) (fun p e s m args below meth c ls hnm _ M hC hl => by
    have hl : lv_has ls 5 [(0, va_rf (some o)), (1, .int p0), (2, .int p1)] := hl
    exact w_X8_changesNow_L0 M hfl _ _ _ _ hf _ _ _ _ _ hC (lv_sub hl [0, 1, 2] rfl))
set_option maxHeartbeats 4000000 in
set_option maxRecDepth 100000 in
theorem w_X8_changes_L41 {p : Program} {l : Launch} {e : Env} {s : State} {m : MethodId} {args : Array Value} {below : List Frame} {meth : Method} {c : Code} {D : va_G} {cA : Nat → ClassId} {h0 : fSt} {r : (Int32 × fSt)} (M : fM p s m args meth c D cA h0 { frames := 18, cells := fCB h0 - fZ h0, slots := fLB h0 - fL h0, locals := 512 } cX8_changes 3 (some (.int)) RX8) (hfl : l.stackTraces = false) (s0 : Int32) (h : fSt) (hf : f_X8_changes_L41 s0 h = some r) : ∀ (H : Heap) (locs : List Loc) (cells slots : Nat) (ls : Array Slot), fCur D cA s h0 h H locs → lv_has ls 3 [] → W p l e { frames := 18, cells := fCB h0 - fZ h0, slots := fLB h0 - fL h0, locals := 512 } s m args below meth c H locs cells slots (MQ below (fQ D cA h0 r.2 (some (.int r.1))) args s (fCB h0 - fZ h0) (fLB h0 - fL h0) (fA h0)) (F0 m 41 ls [.int s0]) := by
  obtain ⟨hx, hb, hml, hr, hlocks, hts, hown, K, hR⟩ := id M
  intro H locs cells slots ls hC hl
  obtain rfl := Option.some.inj hf
  exact fr_iret hx hb hr hlocks hC dX8_changes_41
set_option maxHeartbeats 4000000 in
set_option maxRecDepth 100000 in
theorem w_X8_changes_L36 {p : Program} {l : Launch} {e : Env} {s : State} {m : MethodId} {args : Array Value} {below : List Frame} {meth : Method} {c : Code} {D : va_G} {cA : Nat → ClassId} {h0 : fSt} {r : (Int32 × fSt)} (M : fM p s m args meth c D cA h0 { frames := 18, cells := fCB h0 - fZ h0, slots := fLB h0 - fL h0, locals := 512 } cX8_changes 3 (some (.int)) RX8) (hfl : l.stackTraces = false) (a0 : Option Nat) (h : fSt) (hf : f_X8_changes_L36 a0 h = some r) : ∀ (H : Heap) (locs : List Loc) (cells slots : Nat) (ls : Array Slot), fCur D cA s h0 h H locs → lv_has ls 3 [(0, va_rf a0)] → W p l e { frames := 18, cells := fCB h0 - fZ h0, slots := fLB h0 - fL h0, locals := 512 } s m args below meth c H locs cells slots (MQ below (fQ D cA h0 r.2 (some (.int r.1))) args s (fCB h0 - fZ h0) (fLB h0 - fL h0) (fA h0)) (F0 m 36 ls []) := by
  obtain ⟨hx, hb, hml, hr, hlocks, hts, hown, K, hR⟩ := id M
  intro H locs cells slots ls hC hl
  refine fr_aload_n hx hb dX8_changes_36 rfl (lv_at hl 0 rfl) ?_
  refine lv_iconst (v := (1 : Int32)) hx hb dX8_changes_37 (by decide) ?_
  obtain ⟨b3, q4, hf⟩ := obind hf
  obtain ⟨r1, g2, hf⟩ := obind hf
  refine fr_callV hx hb hml hts hown K hC hR ct_8 (c_X8_no hfl D cA g2) 1 q4 kw1070 kw1067 kw1069 kw21 kw62 (by decide +kernel) ⟨by exact Nat.le_of_ble_eq_true rfl, by exact Nat.le_of_ble_eq_true rfl⟩ rfl hl.1 (cat8 _ (by exact Nat.le_of_ble_eq_true rfl)) dX8_changes_38 rfl (fun H locs _ _ hC => ?_)
  exact w_X8_changes_L41 M hfl _ _ hf _ _ _ _ _ hC (lv_sub hl [] rfl)
set_option maxHeartbeats 4000000 in
set_option maxRecDepth 100000 in
theorem w_X8_changes_L0 {p : Program} {l : Launch} {e : Env} {s : State} {m : MethodId} {args : Array Value} {below : List Frame} {meth : Method} {c : Code} {D : va_G} {cA : Nat → ClassId} {h0 : fSt} {r : (Int32 × fSt)} (M : fM p s m args meth c D cA h0 { frames := 18, cells := fCB h0 - fZ h0, slots := fLB h0 - fL h0, locals := 512 } cX8_changes 3 (some (.int)) RX8) (hfl : l.stackTraces = false) (a0 : Option Nat) (a1 : Int32) (a2 : Int32) (h : fSt) (hf : f_X8_changes_L0 a0 a1 a2 h = some r) : ∀ (H : Heap) (locs : List Loc) (cells slots : Nat) (ls : Array Slot), fCur D cA s h0 h H locs → lv_has ls 3 [(0, va_rf a0), (1, .int a1), (2, .int a2)] → W p l e { frames := 18, cells := fCB h0 - fZ h0, slots := fLB h0 - fL h0, locals := 512 } s m args below meth c H locs cells slots (MQ below (fQ D cA h0 r.2 (some (.int r.1))) args s (fCB h0 - fZ h0) (fLB h0 - fL h0) (fA h0)) (F0 m 0 ls []) := by
  obtain ⟨hx, hb, hml, hr, hlocks, hts, hown, K, hR⟩ := id M
  intro H locs cells slots ls hC hl
  refine fr_aload_n hx hb dX8_changes_0 rfl (lv_at hl 0 rfl) ?_
  refine lv_iconst (v := (0 : Int32)) hx hb dX8_changes_1 (by decide) ?_
  obtain ⟨h5, g6, hf⟩ := obind hf
  refine fr_put hx hb hts hown K hC ct_8 g6 (by decide) kw971 rfl rfl rfl rfl dX8_changes_2 (fun H locs hC => ?_)
  refine lv_iload_n hx hb dX8_changes_5 rfl (lv_at hl 1 rfl) ?_
  refine lv_iconst (v := (0 : Int32)) hx hb dX8_changes_6 (by decide) ?_
  refine lv_sipush (v := (9999 : Int32)) hx hb dX8_changes_7 (by decide) ?_
  obtain ⟨r7, g8, hf⟩ := obind hf
  refine fr_callS hx hb hml hts hown K hC hR (c_X8_isIn hfl D cA g8) 3 kw1066 kw1064 kw1065 kw62 (by decide +kernel) ⟨by exact Nat.le_of_ble_eq_true rfl, by exact Nat.le_of_ble_eq_true rfl⟩ rfl hl.1 (cat8 _ (by exact Nat.le_of_ble_eq_true rfl)) dX8_changes_10 rfl (fun H locs _ _ hC => ?_)
  refine lv_if_eq (tgt := 36) hx hb dX8_changes_13 (by decide) (fun c9 => ?_) (fun c9 => ?_)
  · replace hf := opos c9 hf
    exact w_X8_changes_L36 M hfl _ _ hf _ _ _ _ _ hC (lv_sub hl [0] rfl)
  · replace hf := oneg c9 hf
    refine lv_iload_n hx hb dX8_changes_16 rfl (lv_at hl 2 rfl) ?_
    refine lv_iconst (v := (0 : Int32)) hx hb dX8_changes_17 (by decide) ?_
    refine lv_sipush (v := (9999 : Int32)) hx hb dX8_changes_18 (by decide) ?_
    obtain ⟨r10, g11, hf⟩ := obind hf
    refine fr_callS hx hb hml hts hown K hC hR (c_X8_isIn hfl D cA g11) 3 kw1066 kw1064 kw1065 kw62 (by decide +kernel) ⟨by exact Nat.le_of_ble_eq_true rfl, by exact Nat.le_of_ble_eq_true rfl⟩ rfl hl.1 (cat8 _ (by exact Nat.le_of_ble_eq_true rfl)) dX8_changes_21 rfl (fun H locs _ _ hC => ?_)
    refine lv_if_eq (tgt := 36) hx hb dX8_changes_24 (by decide) (fun c12 => ?_) (fun c12 => ?_)
    · replace hf := opos c12 hf
      exact w_X8_changes_L36 M hfl _ _ hf _ _ _ _ _ hC (lv_sub hl [0] rfl)
    · replace hf := oneg c12 hf
      refine fr_aload_n hx hb dX8_changes_27 rfl (lv_at hl 0 rfl) ?_
      refine lv_iload_n hx hb dX8_changes_28 rfl (lv_at hl 1 rfl) ?_
      refine lv_iload_n hx hb dX8_changes_29 rfl (lv_at hl 2 rfl) ?_
      obtain ⟨b15, q16, hf⟩ := obind hf
      obtain ⟨r13, g14, hf⟩ := obind hf
      refine fr_callV hx hb hml hts hown K hC hR ct_8 (c_X8_changesNow hfl D cA g14) 2 q16 kw1351 kw1348 kw1350 kw52 kw62 (by decide +kernel) ⟨by exact Nat.le_of_ble_eq_true rfl, by exact Nat.le_of_ble_eq_true rfl⟩ rfl hl.1 (cat8 _ (by exact Nat.le_of_ble_eq_true rfl)) dX8_changes_30 rfl (fun H locs _ _ hC => ?_)
      refine lv_goto (tgt := 41) hx hb dX8_changes_33 (by decide) ?_
      exact w_X8_changes_L41 M hfl _ _ hf _ _ _ _ _ hC (lv_sub hl [] rfl)
set_option maxRecDepth 100000 in
theorem c_X8_changes {l : Launch} (hfl : l.stackTraces = false) (D : va_G) (cA : Nat → ClassId) {o : Nat} {p0 : Int32} {p1 : Int32} {h : fSt} {r : (Int32 × fSt)} (hf : f_X8_changes o p0 p1 h = some r) : fMet l yX8_changes (wsC yX8_changes cX8_changes 3 (some (.int))) (18) (512) D cA [.ref o, .int p0, .int p1] h r.2 (some (.int r.1)) := by
  exact fMet.of (own := RX8) (by decide +kernel) rfl (lva1 rfl (lva1 rfl (lva1 rfl lva0))) (lgl1 rfl (lgl1 rfl (lgl1 rfl lgl0))) (Nat.le_of_ble_eq_true rfl) (fun p e s m args below meth c ls hnm _ M hC hl => by
    have hl : lv_has ls 3 [(0, va_rf (some o)), (1, .int p0), (2, .int p1)] := hl
    exact w_X8_changes_L0 M hfl _ _ _ _ hf _ _ _ _ _ hC (lv_sub hl [0, 1, 2] rfl))
set_option maxHeartbeats 4000000 in
set_option maxRecDepth 100000 in
theorem w_X8_common_L21 {p : Program} {l : Launch} {e : Env} {s : State} {m : MethodId} {args : Array Value} {below : List Frame} {meth : Method} {c : Code} {D : va_G} {cA : Nat → ClassId} {h0 : fSt} {r : (Int32 × fSt)} (M : fM p s m args meth c D cA h0 { frames := 2, cells := fCB h0 - fZ h0, slots := fLB h0 - fL h0, locals := 43 } cX8_common 4 (some (.int)) RX8) (hfl : l.stackTraces = false) (a0 : Option Nat) (h : fSt) (hf : f_X8_common_L21 a0 h = some r) : ∀ (H : Heap) (locs : List Loc) (cells slots : Nat) (ls : Array Slot), fCur D cA s h0 h H locs → lv_has ls 4 [(0, va_rf a0)] → W p l e { frames := 2, cells := fCB h0 - fZ h0, slots := fLB h0 - fL h0, locals := 43 } s m args below meth c H locs cells slots (MQ below (fQ D cA h0 r.2 (some (.int r.1))) args s (fCB h0 - fZ h0) (fLB h0 - fL h0) (fA h0)) (F0 m 21 ls []) := by
  obtain ⟨hx, hb, hml, hr, hlocks, hts, hown, K, hR⟩ := id M
  intro H locs cells slots ls hC hl
  refine fr_aload_n hx hb dX8_common_21 rfl (lv_at hl 0 rfl) ?_
  refine lv_iconst (v := (1 : Int32)) hx hb dX8_common_22 (by decide) ?_
  obtain ⟨b3, q4, hf⟩ := obind hf
  obtain ⟨r1, g2, hf⟩ := obind hf
  refine fr_callV hx hb hml hts hown K hC hR ct_8 (c_X8_no hfl D cA g2) 1 q4 kw1070 kw1067 kw1069 kw21 kw62 (by decide +kernel) ⟨by exact Nat.le_of_ble_eq_true rfl, by exact Nat.le_of_ble_eq_true rfl⟩ rfl hl.1 (cat8 _ (by exact Nat.le_of_ble_eq_true rfl)) dX8_common_23 rfl (fun H locs _ _ hC => ?_)
  obtain rfl := Option.some.inj hf
  exact fr_iret hx hb hr hlocks hC dX8_common_26
set_option maxHeartbeats 4000000 in
set_option maxRecDepth 100000 in
theorem w_X8_common_L29 {p : Program} {l : Launch} {e : Env} {s : State} {m : MethodId} {args : Array Value} {below : List Frame} {meth : Method} {c : Code} {D : va_G} {cA : Nat → ClassId} {h0 : fSt} {r : (Int32 × fSt)} (M : fM p s m args meth c D cA h0 { frames := 2, cells := fCB h0 - fZ h0, slots := fLB h0 - fL h0, locals := 43 } cX8_common 4 (some (.int)) RX8) (hfl : l.stackTraces = false) : ∀ (n : Nat) (a0 : Option Nat) (a2 : Int32) (a3 : Int32) (h : fSt), f_X8_common_L29 n a0 a2 a3 h = some r → ∀ (H : Heap) (locs : List Loc) (cells slots : Nat) (ls : Array Slot), fCur D cA s h0 h H locs → lv_has ls 4 [(0, va_rf a0), (2, .int a2), (3, .int a3)] → W p l e { frames := 2, cells := fCB h0 - fZ h0, slots := fLB h0 - fL h0, locals := 43 } s m args below meth c H locs cells slots (MQ below (fQ D cA h0 r.2 (some (.int r.1))) args s (fCB h0 - fZ h0) (fLB h0 - fL h0) (fA h0)) (F0 m 29 ls []) := by
  obtain ⟨hx, hb, hml, hr, hlocks, hts, hown, K, hR⟩ := id M
  intro n
  induction n with
  | zero =>
    intro a0 a2 a3 h hf
    exact nomatch (show (none : Option (Int32 × fSt)) = some r from hf)
  | succ n hk29 =>
    intro a0 a2 a3 h hf H locs cells slots ls hC hl
    refine fr_aload_n hx hb dX8_common_29 rfl (lv_at hl 0 rfl) ?_
    refine lv_iload_n hx hb dX8_common_30 rfl (lv_at hl 1 rfl) ?_
    refine lv_iload_n hx hb dX8_common_31 rfl (lv_at hl 2 rfl) ?_
    obtain ⟨b7, q8, hf⟩ := obind hf
    obtain ⟨r5, g6, hf⟩ := obind hf
    refine fr_callV hx hb hml hts hown K hC hR ct_8 (c_X8_isWithin hfl D cA g6) 2 q8 kw1082 kw1079 kw1081 kw23 kw62 (by decide +kernel) ⟨by exact Nat.le_of_ble_eq_true rfl, by exact Nat.le_of_ble_eq_true rfl⟩ rfl hl.1 (cat8 _ (by exact Nat.le_of_ble_eq_true rfl)) dX8_common_32 rfl (fun H locs _ _ hC => ?_)
    refine lv_if_ne (tgt := 48) hx hb dX8_common_35 (by decide) (fun c9 => ?_) (fun c9 => ?_)
    · replace hf := oneg c9 hf
      refine lv_iload_n hx hb dX8_common_48 rfl (lv_at hl 2 rfl) ?_
      obtain rfl := Option.some.inj hf
      exact fr_iret hx hb hr hlocks hC dX8_common_49
    · replace hf := opos c9 hf
      refine fr_aload_n hx hb dX8_common_38 rfl (lv_at hl 0 rfl) ?_
      obtain ⟨x10, g11, hf⟩ := obind hf
      refine fr_get hx hb hts hown K hC ct_8 (fgR_get g11) (by decide) kw977 rfl dX8_common_39 ?_
      refine lv_iload_n hx hb dX8_common_42 rfl (lv_at hl 2 rfl) ?_
      obtain ⟨x12, g13, hf⟩ := obind hf
      refine fr_iald hx hb K hC (t := 0) rfl g13 dX8_common_43 ?_
      refine lv_istore_n (lv' := [(3, .int x12), (0, va_rf a0), (2, .int a2)]) hx hb dX8_common_44 rfl hl (by decide) (congrArg (List.cons _) (flk rfl (flk rfl (fld rfl fln)))) (fun ls hl => ?_)
      refine lv_goto (tgt := 29) hx hb dX8_common_45 (by decide) ?_
      exact hk29 _ _ _ _ hf _ _ _ _ _ hC (lv_sub hl [1, 2, 0] rfl)
set_option maxHeartbeats 4000000 in
set_option maxRecDepth 100000 in
theorem w_X8_common_L0 {p : Program} {l : Launch} {e : Env} {s : State} {m : MethodId} {args : Array Value} {below : List Frame} {meth : Method} {c : Code} {D : va_G} {cA : Nat → ClassId} {h0 : fSt} {r : (Int32 × fSt)} (M : fM p s m args meth c D cA h0 { frames := 2, cells := fCB h0 - fZ h0, slots := fLB h0 - fL h0, locals := 43 } cX8_common 4 (some (.int)) RX8) (hfl : l.stackTraces = false) (a0 : Option Nat) (a1 : Int32) (a2 : Int32) (h : fSt) (hf : f_X8_common_L0 a0 a1 a2 h = some r) : ∀ (H : Heap) (locs : List Loc) (cells slots : Nat) (ls : Array Slot), fCur D cA s h0 h H locs → lv_has ls 4 [(0, va_rf a0), (1, .int a1), (2, .int a2)] → W p l e { frames := 2, cells := fCB h0 - fZ h0, slots := fLB h0 - fL h0, locals := 43 } s m args below meth c H locs cells slots (MQ below (fQ D cA h0 r.2 (some (.int r.1))) args s (fCB h0 - fZ h0) (fLB h0 - fL h0) (fA h0)) (F0 m 0 ls []) := by
  obtain ⟨hx, hb, hml, hr, hlocks, hts, hown, K, hR⟩ := id M
  intro H locs cells slots ls hC hl
  refine fr_aload_n hx hb dX8_common_0 rfl (lv_at hl 0 rfl) ?_
  refine lv_iconst (v := (0 : Int32)) hx hb dX8_common_1 (by decide) ?_
  obtain ⟨h14, g15, hf⟩ := obind hf
  refine fr_put hx hb hts hown K hC ct_8 g15 (by decide) kw971 rfl rfl rfl rfl dX8_common_2 (fun H locs hC => ?_)
  refine fr_aload_n hx hb dX8_common_5 rfl (lv_at hl 0 rfl) ?_
  refine lv_iload_n hx hb dX8_common_6 rfl (lv_at hl 1 rfl) ?_
  obtain ⟨b18, q19, hf⟩ := obind hf
  obtain ⟨r16, g17, hf⟩ := obind hf
  refine fr_callV hx hb hml hts hown K hC hR ct_8 (c_X8_isNode hfl D cA g17) 1 q19 kw1063 kw1060 kw1062 kw20 kw62 (by decide +kernel) ⟨by exact Nat.le_of_ble_eq_true rfl, by exact Nat.le_of_ble_eq_true rfl⟩ rfl hl.1 (cat8 _ (by exact Nat.le_of_ble_eq_true rfl)) dX8_common_7 rfl (fun H locs _ _ hC => ?_)
  refine lv_if_eq (tgt := 21) hx hb dX8_common_10 (by decide) (fun c20 => ?_) (fun c20 => ?_)
  · replace hf := opos c20 hf
    exact w_X8_common_L21 M hfl _ _ hf _ _ _ _ _ hC (lv_sub hl [0] rfl)
  · replace hf := oneg c20 hf
    refine fr_aload_n hx hb dX8_common_13 rfl (lv_at hl 0 rfl) ?_
    refine lv_iload_n hx hb dX8_common_14 rfl (lv_at hl 2 rfl) ?_
    obtain ⟨b23, q24, hf⟩ := obind hf
    obtain ⟨r21, g22, hf⟩ := obind hf
    refine fr_callV hx hb hml hts hown K hC hR ct_8 (c_X8_isNode hfl D cA g22) 1 q24 kw1063 kw1060 kw1062 kw20 kw62 (by decide +kernel) ⟨by exact Nat.le_of_ble_eq_true rfl, by exact Nat.le_of_ble_eq_true rfl⟩ rfl hl.1 (cat8 _ (by exact Nat.le_of_ble_eq_true rfl)) dX8_common_15 rfl (fun H locs _ _ hC => ?_)
    refine lv_if_ne (tgt := 27) hx hb dX8_common_18 (by decide) (fun c25 => ?_) (fun c25 => ?_)
    · replace hf := oneg c25 hf
      refine lv_iload_n hx hb dX8_common_27 rfl (lv_at hl 1 rfl) ?_
      refine lv_istore_n (lv' := [(3, .int a1), (0, va_rf a0), (1, .int a1), (2, .int a2)]) hx hb dX8_common_28 rfl hl (by decide) (congrArg (List.cons _) (flk rfl (flk rfl (flk rfl fln)))) (fun ls hl => ?_)
      exact w_X8_common_L29 M hfl 4096 _ _ _ _ hf _ _ _ _ _ hC (lv_sub hl [1, 3, 0] rfl)
    · replace hf := opos c25 hf
      exact w_X8_common_L21 M hfl _ _ hf _ _ _ _ _ hC (lv_sub hl [0] rfl)
set_option maxRecDepth 100000 in
theorem c_X8_common {l : Launch} (hfl : l.stackTraces = false) (D : va_G) (cA : Nat → ClassId) {o : Nat} {p0 : Int32} {p1 : Int32} {h : fSt} {r : (Int32 × fSt)} (hf : f_X8_common o p0 p1 h = some r) : fMet l yX8_common (wsC yX8_common cX8_common 4 (some (.int))) (2) (43) D cA [.ref o, .int p0, .int p1] h r.2 (some (.int r.1)) := by
  exact fMet.of (own := RX8) (by decide +kernel) rfl (lva1 rfl (lva1 rfl (lva1 rfl lva0))) (lgl1 rfl (lgl1 rfl (lgl1 rfl lgl0))) (Nat.le_of_ble_eq_true rfl) (fun p e s m args below meth c ls hnm _ M hC hl => by
    have hl : lv_has ls 4 [(0, va_rf (some o)), (1, .int p0), (2, .int p1)] := hl
    exact w_X8_common_L0 M hfl _ _ _ _ hf _ _ _ _ _ hC (lv_sub hl [0, 1, 2] rfl))
set_option maxHeartbeats 4000000 in
set_option maxRecDepth 100000 in
theorem w_X8_coversNow_L17 {p : Program} {l : Launch} {e : Env} {s : State} {m : MethodId} {args : Array Value} {below : List Frame} {meth : Method} {c : Code} {D : va_G} {cA : Nat → ClassId} {h0 : fSt} {r : (Int32 × fSt)} (M : fM p s m args meth c D cA h0 { frames := 4, cells := fCB h0 - fZ h0, slots := fLB h0 - fL h0, locals := 109 } cX8_coversNow 12 (some (.boolean)) RX8) (hfl : l.stackTraces = false)  (h : fSt) (hf : f_X8_coversNow_L17  h = some r) : ∀ (H : Heap) (locs : List Loc) (cells slots : Nat) (ls : Array Slot), fCur D cA s h0 h H locs → lv_has ls 12 [] → W p l e { frames := 4, cells := fCB h0 - fZ h0, slots := fLB h0 - fL h0, locals := 109 } s m args below meth c H locs cells slots (MQ below (fQ D cA h0 r.2 (some (.int r.1))) args s (fCB h0 - fZ h0) (fLB h0 - fL h0) (fA h0)) (F0 m 17 ls []) := by
  obtain ⟨hx, hb, hml, hr, hlocks, hts, hown, K, hR⟩ := id M
  intro H locs cells slots ls hC hl
  refine lv_iconst (v := (0 : Int32)) hx hb dX8_coversNow_17 (by decide) ?_
  obtain rfl := Option.some.inj hf
  exact fr_zret hx hb hr hlocks hC (Or.inl rfl) dX8_coversNow_18
set_option maxHeartbeats 4000000 in
set_option maxRecDepth 100000 in
theorem w_X8_coversNow_L200 {p : Program} {l : Launch} {e : Env} {s : State} {m : MethodId} {args : Array Value} {below : List Frame} {meth : Method} {c : Code} {D : va_G} {cA : Nat → ClassId} {h0 : fSt} {r : (Int32 × fSt)} (M : fM p s m args meth c D cA h0 { frames := 4, cells := fCB h0 - fZ h0, slots := fLB h0 - fL h0, locals := 109 } cX8_coversNow 12 (some (.boolean)) RX8) (hfl : l.stackTraces = false)  (h : fSt) (hf : f_X8_coversNow_L200  h = some r) : ∀ (H : Heap) (locs : List Loc) (cells slots : Nat) (ls : Array Slot), fCur D cA s h0 h H locs → lv_has ls 12 [] → W p l e { frames := 4, cells := fCB h0 - fZ h0, slots := fLB h0 - fL h0, locals := 109 } s m args below meth c H locs cells slots (MQ below (fQ D cA h0 r.2 (some (.int r.1))) args s (fCB h0 - fZ h0) (fLB h0 - fL h0) (fA h0)) (F0 m 200 ls []) := by
  obtain ⟨hx, hb, hml, hr, hlocks, hts, hown, K, hR⟩ := id M
  intro H locs cells slots ls hC hl
  refine lv_iconst (v := (0 : Int32)) hx hb dX8_coversNow_200 (by decide) ?_
  obtain rfl := Option.some.inj hf
  exact fr_zret hx hb hr hlocks hC (Or.inl rfl) dX8_coversNow_201
set_option maxHeartbeats 4000000 in
set_option maxRecDepth 100000 in
theorem w_X8_coversNow_L202 {p : Program} {l : Launch} {e : Env} {s : State} {m : MethodId} {args : Array Value} {below : List Frame} {meth : Method} {c : Code} {D : va_G} {cA : Nat → ClassId} {h0 : fSt} {r : (Int32 × fSt)} (M : fM p s m args meth c D cA h0 { frames := 4, cells := fCB h0 - fZ h0, slots := fLB h0 - fL h0, locals := 109 } cX8_coversNow 12 (some (.boolean)) RX8) (hfl : l.stackTraces = false) {k69 : Option Nat → Int32 → Option Nat → Int32 → Option Nat → fSt → Option (Int32 × fSt)} (hk69 : ∀ (a0 : Option Nat) (a1 : Int32) (a5 : Option Nat) (a6 : Int32) (a7 : Option Nat) (h : fSt), k69 a0 a1 a5 a6 a7 h = some r → ∀ (H : Heap) (locs : List Loc) (cells slots : Nat) (ls : Array Slot), fCur D cA s h0 h H locs → lv_has ls 12 [(0, va_rf a0), (1, .int a1), (5, va_rf a5), (6, .int a6), (7, va_rf a7)] → W p l e { frames := 4, cells := fCB h0 - fZ h0, slots := fLB h0 - fL h0, locals := 109 } s m args below meth c H locs cells slots (MQ below (fQ D cA h0 r.2 (some (.int r.1))) args s (fCB h0 - fZ h0) (fLB h0 - fL h0) (fA h0)) (F0 m 69 ls [])) (a0 : Option Nat) (a1 : Int32) (a5 : Option Nat) (a6 : Int32) (a7 : Option Nat) (h : fSt) (hf : f_X8_coversNow_L202 k69 a0 a1 a5 a6 a7 h = some r) : ∀ (H : Heap) (locs : List Loc) (cells slots : Nat) (ls : Array Slot), fCur D cA s h0 h H locs → lv_has ls 12 [(0, va_rf a0), (1, .int a1), (5, va_rf a5), (6, .int a6), (7, va_rf a7)] → W p l e { frames := 4, cells := fCB h0 - fZ h0, slots := fLB h0 - fL h0, locals := 109 } s m args below meth c H locs cells slots (MQ below (fQ D cA h0 r.2 (some (.int r.1))) args s (fCB h0 - fZ h0) (fLB h0 - fL h0) (fA h0)) (F0 m 202 ls []) := by
  obtain ⟨hx, hb, hml, hr, hlocks, hts, hown, K, hR⟩ := id M
  intro H locs cells slots ls hC hl
  refine lv_goto (tgt := 69) hx hb dX8_coversNow_202 (by decide) ?_
  exact hk69 _ _ _ _ _ _ hf _ _ _ _ _ hC (lv_sub hl [0, 1, 2, 3, 4] rfl)
set_option maxHeartbeats 4000000 in
set_option maxRecDepth 100000 in
theorem w_X8_coversNow_L271 {p : Program} {l : Launch} {e : Env} {s : State} {m : MethodId} {args : Array Value} {below : List Frame} {meth : Method} {c : Code} {D : va_G} {cA : Nat → ClassId} {h0 : fSt} {r : (Int32 × fSt)} (M : fM p s m args meth c D cA h0 { frames := 4, cells := fCB h0 - fZ h0, slots := fLB h0 - fL h0, locals := 109 } cX8_coversNow 12 (some (.boolean)) RX8) (hfl : l.stackTraces = false)  (h : fSt) (hf : f_X8_coversNow_L271  h = some r) : ∀ (H : Heap) (locs : List Loc) (cells slots : Nat) (ls : Array Slot), fCur D cA s h0 h H locs → lv_has ls 12 [] → W p l e { frames := 4, cells := fCB h0 - fZ h0, slots := fLB h0 - fL h0, locals := 109 } s m args below meth c H locs cells slots (MQ below (fQ D cA h0 r.2 (some (.int r.1))) args s (fCB h0 - fZ h0) (fLB h0 - fL h0) (fA h0)) (F0 m 271 ls []) := by
  obtain ⟨hx, hb, hml, hr, hlocks, hts, hown, K, hR⟩ := id M
  intro H locs cells slots ls hC hl
  refine lv_iconst (v := (0 : Int32)) hx hb dX8_coversNow_271 (by decide) ?_
  obtain rfl := Option.some.inj hf
  exact fr_zret hx hb hr hlocks hC (Or.inl rfl) dX8_coversNow_272
set_option maxHeartbeats 4000000 in
set_option maxRecDepth 100000 in
theorem w_X8_coversNow_L327 {p : Program} {l : Launch} {e : Env} {s : State} {m : MethodId} {args : Array Value} {below : List Frame} {meth : Method} {c : Code} {D : va_G} {cA : Nat → ClassId} {h0 : fSt} {r : (Int32 × fSt)} (M : fM p s m args meth c D cA h0 { frames := 4, cells := fCB h0 - fZ h0, slots := fLB h0 - fL h0, locals := 109 } cX8_coversNow 12 (some (.boolean)) RX8) (hfl : l.stackTraces = false) (s0 : Int32) (h : fSt) (hf : f_X8_coversNow_L327 s0 h = some r) : ∀ (H : Heap) (locs : List Loc) (cells slots : Nat) (ls : Array Slot), fCur D cA s h0 h H locs → lv_has ls 12 [] → W p l e { frames := 4, cells := fCB h0 - fZ h0, slots := fLB h0 - fL h0, locals := 109 } s m args below meth c H locs cells slots (MQ below (fQ D cA h0 r.2 (some (.int r.1))) args s (fCB h0 - fZ h0) (fLB h0 - fL h0) (fA h0)) (F0 m 327 ls [.int s0]) := by
  obtain ⟨hx, hb, hml, hr, hlocks, hts, hown, K, hR⟩ := id M
  intro H locs cells slots ls hC hl
  by_cases c1 : s0 = 0 ∨ s0 = 1
  rotate_left
  · exact nomatch (oneg c1 hf)
  obtain rfl := Option.some.inj (opos c1 hf)
  exact fr_zret hx hb hr hlocks hC c1 dX8_coversNow_327
set_option maxHeartbeats 4000000 in
set_option maxRecDepth 100000 in
theorem w_X8_coversNow_L322 {p : Program} {l : Launch} {e : Env} {s : State} {m : MethodId} {args : Array Value} {below : List Frame} {meth : Method} {c : Code} {D : va_G} {cA : Nat → ClassId} {h0 : fSt} {r : (Int32 × fSt)} (M : fM p s m args meth c D cA h0 { frames := 4, cells := fCB h0 - fZ h0, slots := fLB h0 - fL h0, locals := 109 } cX8_coversNow 12 (some (.boolean)) RX8) (hfl : l.stackTraces = false)  (h : fSt) (hf : f_X8_coversNow_L322  h = some r) : ∀ (H : Heap) (locs : List Loc) (cells slots : Nat) (ls : Array Slot), fCur D cA s h0 h H locs → lv_has ls 12 [] → W p l e { frames := 4, cells := fCB h0 - fZ h0, slots := fLB h0 - fL h0, locals := 109 } s m args below meth c H locs cells slots (MQ below (fQ D cA h0 r.2 (some (.int r.1))) args s (fCB h0 - fZ h0) (fLB h0 - fL h0) (fA h0)) (F0 m 322 ls []) := by
  obtain ⟨hx, hb, hml, hr, hlocks, hts, hown, K, hR⟩ := id M
  intro H locs cells slots ls hC hl
  refine lv_iconst (v := (1 : Int32)) hx hb dX8_coversNow_322 (by decide) ?_
  refine lv_goto (tgt := 327) hx hb dX8_coversNow_323 (by decide) ?_
  exact w_X8_coversNow_L327 M hfl _ _ hf _ _ _ _ _ hC (lv_sub hl [] rfl)
set_option maxHeartbeats 4000000 in
set_option maxRecDepth 100000 in
theorem w_X8_coversNow_L69 {p : Program} {l : Launch} {e : Env} {s : State} {m : MethodId} {args : Array Value} {below : List Frame} {meth : Method} {c : Code} {D : va_G} {cA : Nat → ClassId} {h0 : fSt} {r : (Int32 × fSt)} (M : fM p s m args meth c D cA h0 { frames := 4, cells := fCB h0 - fZ h0, slots := fLB h0 - fL h0, locals := 109 } cX8_coversNow 12 (some (.boolean)) RX8) (hfl : l.stackTraces = false) : ∀ (n : Nat) (a0 : Option Nat) (a1 : Int32) (a5 : Option Nat) (a6 : Int32) (a7 : Option Nat) (h : fSt), f_X8_coversNow_L69 n a0 a1 a5 a6 a7 h = some r → ∀ (H : Heap) (locs : List Loc) (cells slots : Nat) (ls : Array Slot), fCur D cA s h0 h H locs → lv_has ls 12 [(0, va_rf a0), (1, .int a1), (5, va_rf a5), (6, .int a6), (7, va_rf a7)] → W p l e { frames := 4, cells := fCB h0 - fZ h0, slots := fLB h0 - fL h0, locals := 109 } s m args below meth c H locs cells slots (MQ below (fQ D cA h0 r.2 (some (.int r.1))) args s (fCB h0 - fZ h0) (fLB h0 - fL h0) (fA h0)) (F0 m 69 ls []) := by
  obtain ⟨hx, hb, hml, hr, hlocks, hts, hown, K, hR⟩ := id M
  intro n
  induction n with
  | zero =>
    intro a0 a1 a5 a6 a7 h hf
    exact nomatch (show (none : Option (Int32 × fSt)) = some r from hf)
  | succ n hk69 =>
    intro a0 a1 a5 a6 a7 h hf H locs cells slots ls hC hl
    refine lv_iload hx hb dX8_coversNow_69 (lv_at hl 3 rfl) ?_
    refine lv_if_le (tgt := 205) hx hb dX8_coversNow_71 (by decide) (fun c2 => ?_) (fun c2 => ?_)
    · replace hf := opos c2 hf
      refine fr_aload_n hx hb dX8_coversNow_205 rfl (lv_at hl 0 rfl) ?_
      obtain ⟨x3, g4, hf⟩ := obind hf
      refine fr_get hx hb hts hown K hC ct_8 (fgR_get g4) (by decide) kw979 rfl dX8_coversNow_206 ?_
      refine lv_iload_n hx hb dX8_coversNow_209 rfl (lv_at hl 1 rfl) ?_
      obtain ⟨x5, g6, hf⟩ := obind hf
      refine fr_iald hx hb K hC (t := 0) rfl g6 dX8_coversNow_210 ?_
      refine lv_i2l (v := (Int32.toInt64 x5)) hx hb dX8_coversNow_211 rfl ?_
      refine fr_aload hx hb dX8_coversNow_212 (lv_at hl 4 rfl) ?_
      refine lv_iconst (v := (2 : Int32)) hx hb dX8_coversNow_214 (by decide) ?_
      obtain ⟨x7, g8, hf⟩ := obind hf
      refine fr_lald hx hb K hC (t := 1) rfl g8 dX8_coversNow_215 ?_
      refine lv_lmul hx hb dX8_coversNow_216 ?_
      refine lv_lstore (lv' := [(8, .long ((Int32.toInt64 x5) * x7)), (0, va_rf a0), (1, .int a1), (5, va_rf a5), (6, .int a6), (7, va_rf a7)]) hx hb dX8_coversNow_217 hl (by decide) (congrArg (List.cons _) (flk rfl (flk rfl (flk rfl (flk rfl (flk (adj2 _ _) fln)))))) (fun ls hl => ?_)
      refine fr_aload_n hx hb dX8_coversNow_219 rfl (lv_at hl 1 rfl) ?_
      obtain ⟨x9, g10, hf⟩ := obind hf
      refine fr_get hx hb hts hown K hC ct_8 (fgR_get g10) (by decide) kw980 rfl dX8_coversNow_220 ?_
      refine lv_iload_n hx hb dX8_coversNow_223 rfl (lv_at hl 2 rfl) ?_
      obtain ⟨x11, g12, hf⟩ := obind hf
      refine fr_iald hx hb K hC (t := 0) rfl g12 dX8_coversNow_224 ?_
      refine lv_i2l (v := (Int32.toInt64 x11)) hx hb dX8_coversNow_225 rfl ?_
      refine fr_aload hx hb dX8_coversNow_226 (lv_at hl 5 rfl) ?_
      refine lv_iconst (v := (2 : Int32)) hx hb dX8_coversNow_228 (by decide) ?_
      obtain ⟨x13, g14, hf⟩ := obind hf
      refine fr_lald hx hb K hC (t := 1) rfl g14 dX8_coversNow_229 ?_
      refine lv_lmul hx hb dX8_coversNow_230 ?_
      refine lv_lstore (lv' := [(10, .long ((Int32.toInt64 x11) * x13)), (8, .long ((Int32.toInt64 x5) * x7)), (0, va_rf a0), (1, .int a1), (5, va_rf a5), (6, .int a6), (7, va_rf a7)]) hx hb dX8_coversNow_231 hl (by decide) (congrArg (List.cons _) (flk rfl (flk rfl (flk rfl (flk rfl (flk rfl (flk rfl fln))))))) (fun ls hl => ?_)
      refine fr_aload hx hb dX8_coversNow_233 (lv_at hl 6 rfl) ?_
      refine lv_iconst (v := (0 : Int32)) hx hb dX8_coversNow_235 (by decide) ?_
      obtain ⟨x15, g16, hf⟩ := obind hf
      refine fr_lald hx hb K hC (t := 1) rfl g16 dX8_coversNow_236 ?_
      refine lv_lconst (v := (0 : Int64)) hx hb dX8_coversNow_237 (by decide) ?_
      refine fr_lcmp_lt (tgt := 271) hx hb dX8_coversNow_238 dX8_coversNow_239 (by decide) (fun c17 => ?_) (fun c17 => ?_)
      · replace hf := opos c17 hf
        exact w_X8_coversNow_L271 M hfl _ hf _ _ _ _ _ hC (lv_sub hl [] rfl)
      · replace hf := oneg c17 hf
        refine fr_aload hx hb dX8_coversNow_242 (lv_at hl 6 rfl) ?_
        refine lv_iconst (v := (1 : Int32)) hx hb dX8_coversNow_244 (by decide) ?_
        obtain ⟨x18, g19, hf⟩ := obind hf
        refine fr_lald hx hb K hC (t := 1) rfl g19 dX8_coversNow_245 ?_
        refine lv_lconst (v := (0 : Int64)) hx hb dX8_coversNow_246 (by decide) ?_
        refine fr_lcmp_lt (tgt := 271) hx hb dX8_coversNow_247 dX8_coversNow_248 (by decide) (fun c20 => ?_) (fun c20 => ?_)
        · replace hf := opos c20 hf
          exact w_X8_coversNow_L271 M hfl _ hf _ _ _ _ _ hC (lv_sub hl [] rfl)
        · replace hf := oneg c20 hf
          refine fr_aload hx hb dX8_coversNow_251 (lv_at hl 6 rfl) ?_
          refine lv_iconst (v := (0 : Int32)) hx hb dX8_coversNow_253 (by decide) ?_
          obtain ⟨x21, g22, hf⟩ := obind hf
          refine fr_lald hx hb K hC (t := 1) rfl g22 dX8_coversNow_254 ?_
          refine lv_lload hx hb dX8_coversNow_255 (lv_at hl 1 rfl) ?_
          refine fr_lcmp_gt (tgt := 271) hx hb dX8_coversNow_257 dX8_coversNow_258 (by decide) (fun c23 => ?_) (fun c23 => ?_)
          · replace hf := opos c23 hf
            exact w_X8_coversNow_L271 M hfl _ hf _ _ _ _ _ hC (lv_sub hl [] rfl)
          · replace hf := oneg c23 hf
            refine fr_aload hx hb dX8_coversNow_261 (lv_at hl 6 rfl) ?_
            refine lv_iconst (v := (1 : Int32)) hx hb dX8_coversNow_263 (by decide) ?_
            obtain ⟨x24, g25, hf⟩ := obind hf
            refine fr_lald hx hb K hC (t := 1) rfl g25 dX8_coversNow_264 ?_
            refine lv_lload hx hb dX8_coversNow_265 (lv_at hl 0 rfl) ?_
            refine fr_lcmp_le (tgt := 273) hx hb dX8_coversNow_267 dX8_coversNow_268 (by decide) (fun c26 => ?_) (fun c26 => ?_)
            · replace hf := opos c26 hf
              refine fr_aload_n hx hb dX8_coversNow_273 rfl (lv_at hl 2 rfl) ?_
              obtain ⟨x27, g28, hf⟩ := obind hf
              refine fr_get hx hb hts hown K hC ct_8 (fgR_get g28) (by decide) kw978 rfl dX8_coversNow_274 ?_
              refine lv_iload_n hx hb dX8_coversNow_277 rfl (lv_at hl 3 rfl) ?_
              obtain ⟨x29, g30, hf⟩ := obind hf
              refine fr_iald hx hb K hC (t := 0) rfl g30 dX8_coversNow_278 ?_
              refine lv_iconst (v := (2 : Int32)) hx hb dX8_coversNow_279 (by decide) ?_
              refine lv_icmp_ne (tgt := 322) hx hb dX8_coversNow_280 (by decide) (fun c31 => ?_) (fun c31 => ?_)
              · replace hf := oneg c31 hf
                exact w_X8_coversNow_L322 M hfl _ hf _ _ _ _ _ hC (lv_sub hl [] rfl)
              · replace hf := opos c31 hf
                refine fr_aload hx hb dX8_coversNow_283 (lv_at hl 6 rfl) ?_
                refine lv_iconst (v := (0 : Int32)) hx hb dX8_coversNow_285 (by decide) ?_
                obtain ⟨x32, g33, hf⟩ := obind hf
                refine fr_lald hx hb K hC (t := 1) rfl g33 dX8_coversNow_286 ?_
                refine fr_aload_n hx hb dX8_coversNow_287 rfl (lv_at hl 2 rfl) ?_
                obtain ⟨x34, g35, hf⟩ := obind hf
                refine fr_get hx hb hts hown K hC ct_8 (fgR_get g35) (by decide) kw980 rfl dX8_coversNow_288 ?_
                refine lv_iload_n hx hb dX8_coversNow_291 rfl (lv_at hl 3 rfl) ?_
                obtain ⟨x36, g37, hf⟩ := obind hf
                refine fr_iald hx hb K hC (t := 0) rfl g37 dX8_coversNow_292 ?_
                refine lv_i2l (v := (Int32.toInt64 x36)) hx hb dX8_coversNow_293 rfl ?_
                refine lv_lmul hx hb dX8_coversNow_294 ?_
                refine fr_aload hx hb dX8_coversNow_295 (lv_at hl 6 rfl) ?_
                refine lv_iconst (v := (1 : Int32)) hx hb dX8_coversNow_297 (by decide) ?_
                obtain ⟨x38, g39, hf⟩ := obind hf
                refine fr_lald hx hb K hC (t := 1) rfl g39 dX8_coversNow_298 ?_
                refine fr_aload_n hx hb dX8_coversNow_299 rfl (lv_at hl 2 rfl) ?_
                obtain ⟨x40, g41, hf⟩ := obind hf
                refine fr_get hx hb hts hown K hC ct_8 (fgR_get g41) (by decide) kw979 rfl dX8_coversNow_300 ?_
                refine lv_iload_n hx hb dX8_coversNow_303 rfl (lv_at hl 3 rfl) ?_
                obtain ⟨x42, g43, hf⟩ := obind hf
                refine fr_iald hx hb K hC (t := 0) rfl g43 dX8_coversNow_304 ?_
                refine lv_i2l (v := (Int32.toInt64 x42)) hx hb dX8_coversNow_305 rfl ?_
                refine lv_lmul hx hb dX8_coversNow_306 ?_
                refine lv_ladd hx hb dX8_coversNow_307 ?_
                refine fr_aload_n hx hb dX8_coversNow_308 rfl (lv_at hl 2 rfl) ?_
                obtain ⟨x44, g45, hf⟩ := obind hf
                refine fr_get hx hb hts hown K hC ct_8 (fgR_get g45) (by decide) kw979 rfl dX8_coversNow_309 ?_
                refine lv_iload_n hx hb dX8_coversNow_312 rfl (lv_at hl 3 rfl) ?_
                obtain ⟨x46, g47, hf⟩ := obind hf
                refine fr_iald hx hb K hC (t := 0) rfl g47 dX8_coversNow_313 ?_
                refine lv_i2l (v := (Int32.toInt64 x46)) hx hb dX8_coversNow_314 rfl ?_
                refine lv_lload hx hb dX8_coversNow_315 (lv_at hl 0 rfl) ?_
                refine lv_lmul hx hb dX8_coversNow_317 ?_
                refine fr_lcmp_gt (tgt := 326) hx hb dX8_coversNow_318 dX8_coversNow_319 (by decide) (fun c48 => ?_) (fun c48 => ?_)
                · replace hf := opos c48 hf
                  refine lv_iconst (v := (0 : Int32)) hx hb dX8_coversNow_326 (by decide) ?_
                  exact w_X8_coversNow_L327 M hfl _ _ hf _ _ _ _ _ hC (lv_sub hl [] rfl)
                · replace hf := oneg c48 hf
                  exact w_X8_coversNow_L322 M hfl _ hf _ _ _ _ _ hC (lv_sub hl [] rfl)
            · replace hf := oneg c26 hf
              exact w_X8_coversNow_L271 M hfl _ hf _ _ _ _ _ hC (lv_sub hl [] rfl)
    · replace hf := oneg c2 hf
      refine fr_aload hx hb dX8_coversNow_74 (lv_at hl 2 rfl) ?_
      refine lv_iinc (v := (a6 + (-1 : Int32))) (lv' := [(6, .int (a6 + (-1 : Int32))), (0, va_rf a0), (1, .int a1), (5, va_rf a5), (7, va_rf a7)]) hx hb dX8_coversNow_76 hl (k := 3) rfl rfl (by decide) (congrArg (List.cons _) (flk rfl (flk rfl (flk (adj1 _ _) (fld rfl (flk rfl fln)))))) (fun ls hl => ?_)
      refine lv_iload hx hb dX8_coversNow_79 (lv_at hl 0 rfl) ?_
      obtain ⟨x49, g50, hf⟩ := obind hf
      refine fr_iald hx hb K hC (t := 0) rfl g50 dX8_coversNow_81 ?_
      refine lv_istore (lv' := [(8, .int x49), (6, .int (a6 + (-1 : Int32))), (0, va_rf a0), (1, .int a1), (5, va_rf a5), (7, va_rf a7)]) hx hb dX8_coversNow_82 hl (by decide) (congrArg (List.cons _) (flk rfl (flk rfl (flk rfl (flk rfl (flk (adj1 _ _) fln)))))) (fun ls hl => ?_)
      refine fr_aload_n hx hb dX8_coversNow_84 rfl (lv_at hl 2 rfl) ?_
      refine lv_iload hx hb dX8_coversNow_85 (lv_at hl 0 rfl) ?_
      refine fr_aload hx hb dX8_coversNow_87 (lv_at hl 5 rfl) ?_
      obtain ⟨b53, q54, hf⟩ := obind hf
      obtain ⟨r51, g52, hf⟩ := obind hf
      refine fr_callV hx hb hml hts hown K hC hR ct_8 (c_X8_down hfl D cA g52) 2 q54 kw1265 kw1262 kw1264 kw43 kw62 (by decide +kernel) ⟨by exact Nat.le_of_ble_eq_true rfl, by exact Nat.le_of_ble_eq_true rfl⟩ rfl hl.1 (cat8 _ (by exact Nat.le_of_ble_eq_true rfl)) dX8_coversNow_89 rfl (fun H locs _ _ hC => ?_)
      refine fr_aload_n hx hb dX8_coversNow_92 rfl (lv_at hl 2 rfl) ?_
      obtain ⟨x55, g56, hf⟩ := obind hf
      refine fr_get hx hb hts hown K hC ct_8 (fgR_get g56) (by decide) kw976 rfl dX8_coversNow_93 ?_
      refine lv_iload hx hb dX8_coversNow_96 (lv_at hl 0 rfl) ?_
      obtain ⟨x57, g58, hf⟩ := obind hf
      refine fr_zald hx hb K hC (t := 2) rfl g58 dX8_coversNow_98 ?_
      refine lv_if_eq (tgt := 202) hx hb dX8_coversNow_99 (by decide) (fun c59 => ?_) (fun c59 => ?_)
      · replace hf := opos c59 hf
        exact w_X8_coversNow_L202 M hfl hk69 _ _ _ _ _ _ hf _ _ _ _ _ hC (lv_sub hl [2, 3, 4, 1, 5] rfl)
      · replace hf := oneg c59 hf
        refine fr_aload hx hb dX8_coversNow_102 (lv_at hl 5 rfl) ?_
        refine lv_iconst (v := (0 : Int32)) hx hb dX8_coversNow_104 (by decide) ?_
        obtain ⟨x60, g61, hf⟩ := obind hf
        refine fr_lald hx hb K hC (t := 1) rfl g61 dX8_coversNow_105 ?_
        refine fr_aload_n hx hb dX8_coversNow_106 rfl (lv_at hl 2 rfl) ?_
        obtain ⟨x62, g63, hf⟩ := obind hf
        refine fr_get hx hb hts hown K hC ct_8 (fgR_get g63) (by decide) kw986 rfl dX8_coversNow_107 ?_
        refine lv_iload hx hb dX8_coversNow_110 (lv_at hl 0 rfl) ?_
        refine lv_iconst (v := (4 : Int32)) hx hb dX8_coversNow_112 (by decide) ?_
        refine lv_imul hx hb dX8_coversNow_113 ?_
        obtain ⟨x64, g65, hf⟩ := obind hf
        refine fr_iald hx hb K hC (t := 0) rfl g65 dX8_coversNow_114 ?_
        refine lv_i2l (v := (Int32.toInt64 x64)) hx hb dX8_coversNow_115 rfl ?_
        refine fr_aload hx hb dX8_coversNow_116 (lv_at hl 5 rfl) ?_
        refine lv_iconst (v := (2 : Int32)) hx hb dX8_coversNow_118 (by decide) ?_
        obtain ⟨x66, g67, hf⟩ := obind hf
        refine fr_lald hx hb K hC (t := 1) rfl g67 dX8_coversNow_119 ?_
        refine lv_lmul hx hb dX8_coversNow_120 ?_
        refine fr_lcmp_lt (tgt := 200) hx hb dX8_coversNow_121 dX8_coversNow_122 (by decide) (fun c68 => ?_) (fun c68 => ?_)
        · replace hf := opos c68 hf
          exact w_X8_coversNow_L200 M hfl _ hf _ _ _ _ _ hC (lv_sub hl [] rfl)
        · replace hf := oneg c68 hf
          refine fr_aload hx hb dX8_coversNow_125 (lv_at hl 5 rfl) ?_
          refine lv_iconst (v := (1 : Int32)) hx hb dX8_coversNow_127 (by decide) ?_
          obtain ⟨x69, g70, hf⟩ := obind hf
          refine fr_lald hx hb K hC (t := 1) rfl g70 dX8_coversNow_128 ?_
          refine fr_aload_n hx hb dX8_coversNow_129 rfl (lv_at hl 2 rfl) ?_
          obtain ⟨x71, g72, hf⟩ := obind hf
          refine fr_get hx hb hts hown K hC ct_8 (fgR_get g72) (by decide) kw986 rfl dX8_coversNow_130 ?_
          refine lv_iload hx hb dX8_coversNow_133 (lv_at hl 0 rfl) ?_
          refine lv_iconst (v := (4 : Int32)) hx hb dX8_coversNow_135 (by decide) ?_
          refine lv_imul hx hb dX8_coversNow_136 ?_
          refine lv_iconst (v := (1 : Int32)) hx hb dX8_coversNow_137 (by decide) ?_
          refine lv_iadd hx hb dX8_coversNow_138 ?_
          obtain ⟨x73, g74, hf⟩ := obind hf
          refine fr_iald hx hb K hC (t := 0) rfl g74 dX8_coversNow_139 ?_
          refine lv_i2l (v := (Int32.toInt64 x73)) hx hb dX8_coversNow_140 rfl ?_
          refine fr_aload hx hb dX8_coversNow_141 (lv_at hl 5 rfl) ?_
          refine lv_iconst (v := (2 : Int32)) hx hb dX8_coversNow_143 (by decide) ?_
          obtain ⟨x75, g76, hf⟩ := obind hf
          refine fr_lald hx hb K hC (t := 1) rfl g76 dX8_coversNow_144 ?_
          refine lv_lmul hx hb dX8_coversNow_145 ?_
          refine fr_lcmp_lt (tgt := 200) hx hb dX8_coversNow_146 dX8_coversNow_147 (by decide) (fun c77 => ?_) (fun c77 => ?_)
          · replace hf := opos c77 hf
            exact w_X8_coversNow_L200 M hfl _ hf _ _ _ _ _ hC (lv_sub hl [] rfl)
          · replace hf := oneg c77 hf
            refine fr_aload hx hb dX8_coversNow_150 (lv_at hl 5 rfl) ?_
            refine lv_iconst (v := (0 : Int32)) hx hb dX8_coversNow_152 (by decide) ?_
            obtain ⟨x78, g79, hf⟩ := obind hf
            refine fr_lald hx hb K hC (t := 1) rfl g79 dX8_coversNow_153 ?_
            refine fr_aload_n hx hb dX8_coversNow_154 rfl (lv_at hl 2 rfl) ?_
            obtain ⟨x80, g81, hf⟩ := obind hf
            refine fr_get hx hb hts hown K hC ct_8 (fgR_get g81) (by decide) kw986 rfl dX8_coversNow_155 ?_
            refine lv_iload hx hb dX8_coversNow_158 (lv_at hl 0 rfl) ?_
            refine lv_iconst (v := (4 : Int32)) hx hb dX8_coversNow_160 (by decide) ?_
            refine lv_imul hx hb dX8_coversNow_161 ?_
            refine lv_iconst (v := (2 : Int32)) hx hb dX8_coversNow_162 (by decide) ?_
            refine lv_iadd hx hb dX8_coversNow_163 ?_
            obtain ⟨x82, g83, hf⟩ := obind hf
            refine fr_iald hx hb K hC (t := 0) rfl g83 dX8_coversNow_164 ?_
            refine lv_i2l (v := (Int32.toInt64 x82)) hx hb dX8_coversNow_165 rfl ?_
            refine fr_aload hx hb dX8_coversNow_166 (lv_at hl 5 rfl) ?_
            refine lv_iconst (v := (2 : Int32)) hx hb dX8_coversNow_168 (by decide) ?_
            obtain ⟨x84, g85, hf⟩ := obind hf
            refine fr_lald hx hb K hC (t := 1) rfl g85 dX8_coversNow_169 ?_
            refine lv_lmul hx hb dX8_coversNow_170 ?_
            refine fr_lcmp_gt (tgt := 200) hx hb dX8_coversNow_171 dX8_coversNow_172 (by decide) (fun c86 => ?_) (fun c86 => ?_)
            · replace hf := opos c86 hf
              exact w_X8_coversNow_L200 M hfl _ hf _ _ _ _ _ hC (lv_sub hl [] rfl)
            · replace hf := oneg c86 hf
              refine fr_aload hx hb dX8_coversNow_175 (lv_at hl 5 rfl) ?_
              refine lv_iconst (v := (1 : Int32)) hx hb dX8_coversNow_177 (by decide) ?_
              obtain ⟨x87, g88, hf⟩ := obind hf
              refine fr_lald hx hb K hC (t := 1) rfl g88 dX8_coversNow_178 ?_
              refine fr_aload_n hx hb dX8_coversNow_179 rfl (lv_at hl 2 rfl) ?_
              obtain ⟨x89, g90, hf⟩ := obind hf
              refine fr_get hx hb hts hown K hC ct_8 (fgR_get g90) (by decide) kw986 rfl dX8_coversNow_180 ?_
              refine lv_iload hx hb dX8_coversNow_183 (lv_at hl 0 rfl) ?_
              refine lv_iconst (v := (4 : Int32)) hx hb dX8_coversNow_185 (by decide) ?_
              refine lv_imul hx hb dX8_coversNow_186 ?_
              refine lv_iconst (v := (3 : Int32)) hx hb dX8_coversNow_187 (by decide) ?_
              refine lv_iadd hx hb dX8_coversNow_188 ?_
              obtain ⟨x91, g92, hf⟩ := obind hf
              refine fr_iald hx hb K hC (t := 0) rfl g92 dX8_coversNow_189 ?_
              refine lv_i2l (v := (Int32.toInt64 x91)) hx hb dX8_coversNow_190 rfl ?_
              refine fr_aload hx hb dX8_coversNow_191 (lv_at hl 5 rfl) ?_
              refine lv_iconst (v := (2 : Int32)) hx hb dX8_coversNow_193 (by decide) ?_
              obtain ⟨x93, g94, hf⟩ := obind hf
              refine fr_lald hx hb K hC (t := 1) rfl g94 dX8_coversNow_194 ?_
              refine lv_lmul hx hb dX8_coversNow_195 ?_
              refine fr_lcmp_le (tgt := 202) hx hb dX8_coversNow_196 dX8_coversNow_197 (by decide) (fun c95 => ?_) (fun c95 => ?_)
              · replace hf := opos c95 hf
                exact w_X8_coversNow_L202 M hfl hk69 _ _ _ _ _ _ hf _ _ _ _ _ hC (lv_sub hl [2, 3, 4, 1, 5] rfl)
              · replace hf := oneg c95 hf
                exact w_X8_coversNow_L200 M hfl _ hf _ _ _ _ _ hC (lv_sub hl [] rfl)
set_option maxHeartbeats 4000000 in
set_option maxRecDepth 100000 in
theorem w_X8_coversNow_L30 {p : Program} {l : Launch} {e : Env} {s : State} {m : MethodId} {args : Array Value} {below : List Frame} {meth : Method} {c : Code} {D : va_G} {cA : Nat → ClassId} {h0 : fSt} {r : (Int32 × fSt)} (M : fM p s m args meth c D cA h0 { frames := 4, cells := fCB h0 - fZ h0, slots := fLB h0 - fL h0, locals := 109 } cX8_coversNow 12 (some (.boolean)) RX8) (hfl : l.stackTraces = false) : ∀ (n : Nat) (a0 : Option Nat) (a1 : Int32) (a2 : Int32) (a3 : Int32) (a4 : Int32) (a5 : Option Nat) (a6 : Int32) (a7 : Int32) (h : fSt), f_X8_coversNow_L30 n a0 a1 a2 a3 a4 a5 a6 a7 h = some r → ∀ (H : Heap) (locs : List Loc) (cells slots : Nat) (ls : Array Slot), fCur D cA s h0 h H locs → lv_has ls 12 [(0, va_rf a0), (1, .int a1), (2, .int a2), (3, .int a3), (4, .int a4), (5, va_rf a5), (6, .int a6), (7, .int a7)] → W p l e { frames := 4, cells := fCB h0 - fZ h0, slots := fLB h0 - fL h0, locals := 109 } s m args below meth c H locs cells slots (MQ below (fQ D cA h0 r.2 (some (.int r.1))) args s (fCB h0 - fZ h0) (fLB h0 - fL h0) (fA h0)) (F0 m 30 ls []) := by
  obtain ⟨hx, hb, hml, hr, hlocks, hts, hown, K, hR⟩ := id M
  intro n
  induction n with
  | zero =>
    intro a0 a1 a2 a3 a4 a5 a6 a7 h hf
    exact nomatch (show (none : Option (Int32 × fSt)) = some r from hf)
  | succ n hk30 =>
    intro a0 a1 a2 a3 a4 a5 a6 a7 h hf H locs cells slots ls hC hl
    refine lv_iload hx hb dX8_coversNow_30 (lv_at hl 7 rfl) ?_
    refine lv_if_eq (tgt := 57) hx hb dX8_coversNow_32 (by decide) (fun c96 => ?_) (fun c96 => ?_)
    · replace hf := opos c96 hf
      refine lv_iload_n hx hb dX8_coversNow_57 rfl (lv_at hl 2 rfl) ?_
      refine lv_i2l (v := (Int32.toInt64 a2)) hx hb dX8_coversNow_58 rfl ?_
      refine lv_iload_n hx hb dX8_coversNow_59 rfl (lv_at hl 3 rfl) ?_
      refine lv_i2l (v := (Int32.toInt64 a3)) hx hb dX8_coversNow_60 rfl ?_
      refine lv_iload hx hb dX8_coversNow_61 (lv_at hl 4 rfl) ?_
      refine lv_i2l (v := (Int32.toInt64 a4)) hx hb dX8_coversNow_63 rfl ?_
      obtain ⟨r97, g98, hf⟩ := obind hf
      refine fr_callS hx hb hml hts hown K hC hR (c_X8_point hfl D cA g98) 3 kw1234 kw1232 kw1233 kw62 (by decide +kernel) ⟨by exact Nat.le_of_ble_eq_true rfl, by exact Nat.le_of_ble_eq_true rfl⟩ rfl hl.1 (cat8 _ (by exact Nat.le_of_ble_eq_true rfl)) dX8_coversNow_64 rfl (fun H locs _ _ hC => ?_)
      refine fr_astore (lv' := [(7, va_rf r97.1), (0, va_rf a0), (1, .int a1), (2, .int a2), (3, .int a3), (4, .int a4), (5, va_rf a5), (6, .int a6)]) hx hb dX8_coversNow_67 hl (by decide) (congrArg (List.cons _) (flk rfl (flk rfl (flk rfl (flk rfl (flk rfl (flk rfl (flk rfl (fld rfl fln))))))))) (fun ls hl => ?_)
      exact w_X8_coversNow_L69 M hfl 4096 _ _ _ _ _ _ hf _ _ _ _ _ hC (lv_sub hl [1, 2, 6, 7, 0] rfl)
    · replace hf := oneg c96 hf
      refine fr_aload hx hb dX8_coversNow_35 (lv_at hl 5 rfl) ?_
      refine lv_iload hx hb dX8_coversNow_37 (lv_at hl 6 rfl) ?_
      refine lv_iinc (v := (a6 + (1 : Int32))) (lv' := [(6, .int (a6 + (1 : Int32))), (0, va_rf a0), (1, .int a1), (2, .int a2), (3, .int a3), (4, .int a4), (5, va_rf a5), (7, .int a7)]) hx hb dX8_coversNow_39 hl (k := 6) rfl rfl (by decide) (congrArg (List.cons _) (flk rfl (flk rfl (flk rfl (flk rfl (flk rfl (flk (adj1 _ _) (fld rfl (flk rfl fln))))))))) (fun ls hl => ?_)
      refine lv_iload hx hb dX8_coversNow_42 (lv_at hl 7 rfl) ?_
      obtain ⟨h99, g100, hf⟩ := obind hf
      refine fr_iast hx hb K hC (t := 0) rfl g100 dX8_coversNow_44 (fun H locs hC => ?_)
      refine fr_aload_n hx hb dX8_coversNow_45 rfl (lv_at hl 1 rfl) ?_
      obtain ⟨x101, g102, hf⟩ := obind hf
      refine fr_get hx hb hts hown K hC ct_8 (fgR_get g102) (by decide) kw977 rfl dX8_coversNow_46 ?_
      refine lv_iload hx hb dX8_coversNow_49 (lv_at hl 7 rfl) ?_
      obtain ⟨x103, g104, hf⟩ := obind hf
      refine fr_iald hx hb K hC (t := 0) rfl g104 dX8_coversNow_51 ?_
      refine lv_istore (lv' := [(7, .int x103), (6, .int (a6 + (1 : Int32))), (0, va_rf a0), (1, .int a1), (2, .int a2), (3, .int a3), (4, .int a4), (5, va_rf a5)]) hx hb dX8_coversNow_52 hl (by decide) (congrArg (List.cons _) (flk rfl (flk rfl (flk rfl (flk rfl (flk rfl (flk rfl (flk rfl (fld rfl fln))))))))) (fun ls hl => ?_)
      refine lv_goto (tgt := 30) hx hb dX8_coversNow_54 (by decide) ?_
      exact hk30 _ _ _ _ _ _ _ _ _ hf _ _ _ _ _ hC (lv_sub hl [2, 3, 4, 5, 6, 7, 1, 0] rfl)
set_option maxHeartbeats 4000000 in
set_option maxRecDepth 100000 in
theorem w_X8_coversNow_L0 {p : Program} {l : Launch} {e : Env} {s : State} {m : MethodId} {args : Array Value} {below : List Frame} {meth : Method} {c : Code} {D : va_G} {cA : Nat → ClassId} {h0 : fSt} {r : (Int32 × fSt)} (M : fM p s m args meth c D cA h0 { frames := 4, cells := fCB h0 - fZ h0, slots := fLB h0 - fL h0, locals := 109 } cX8_coversNow 12 (some (.boolean)) RX8) (hfl : l.stackTraces = false) (a0 : Option Nat) (a1 : Int32) (a2 : Int32) (a3 : Int32) (a4 : Int32) (h : fSt) (hf : f_X8_coversNow_L0 a0 a1 a2 a3 a4 h = some r) : ∀ (H : Heap) (locs : List Loc) (cells slots : Nat) (ls : Array Slot), fCur D cA s h0 h H locs → lv_has ls 12 [(0, va_rf a0), (1, .int a1), (2, .int a2), (3, .int a3), (4, .int a4)] → W p l e { frames := 4, cells := fCB h0 - fZ h0, slots := fLB h0 - fL h0, locals := 109 } s m args below meth c H locs cells slots (MQ below (fQ D cA h0 r.2 (some (.int r.1))) args s (fCB h0 - fZ h0) (fLB h0 - fL h0) (fA h0)) (F0 m 0 ls []) := by
  obtain ⟨hx, hb, hml, hr, hlocks, hts, hown, K, hR⟩ := id M
  intro H locs cells slots ls hC hl
  refine fr_aload_n hx hb dX8_coversNow_0 rfl (lv_at hl 0 rfl) ?_
  obtain ⟨x105, g106, hf⟩ := obind hf
  refine fr_get hx hb hts hown K hC ct_8 (fgR_get g106) (by decide) kw978 rfl dX8_coversNow_1 ?_
  refine lv_iload_n hx hb dX8_coversNow_4 rfl (lv_at hl 1 rfl) ?_
  obtain ⟨x107, g108, hf⟩ := obind hf
  refine fr_iald hx hb K hC (t := 0) rfl g108 dX8_coversNow_5 ?_
  refine lv_if_eq (tgt := 17) hx hb dX8_coversNow_6 (by decide) (fun c109 => ?_) (fun c109 => ?_)
  · replace hf := opos c109 hf
    exact w_X8_coversNow_L17 M hfl _ hf _ _ _ _ _ hC (lv_sub hl [] rfl)
  · replace hf := oneg c109 hf
    refine fr_aload_n hx hb dX8_coversNow_9 rfl (lv_at hl 0 rfl) ?_
    refine lv_iload_n hx hb dX8_coversNow_10 rfl (lv_at hl 1 rfl) ?_
    obtain ⟨b112, q113, hf⟩ := obind hf
    obtain ⟨r110, g111, hf⟩ := obind hf
    refine fr_callV hx hb hml hts hown K hC hR ct_8 (c_X8_isShownNow hfl D cA g111) 1 q113 kw1281 kw1278 kw1280 kw45 kw62 (by decide +kernel) ⟨by exact Nat.le_of_ble_eq_true rfl, by exact Nat.le_of_ble_eq_true rfl⟩ rfl hl.1 (cat8 _ (by exact Nat.le_of_ble_eq_true rfl)) dX8_coversNow_11 rfl (fun H locs _ _ hC => ?_)
    refine lv_if_ne (tgt := 19) hx hb dX8_coversNow_14 (by decide) (fun c114 => ?_) (fun c114 => ?_)
    · replace hf := oneg c114 hf
      refine lv_iconst (v := (5 : Int32)) hx hb dX8_coversNow_19 (by decide) ?_
      by_cases c115 : (5 : Int32) < 0 ∨ 67000000 < ((5 : Int32)).toNatClampNeg
      · exact nomatch (opos c115 hf)
      obtain ⟨r116, g117, hf⟩ := obind (oneg c115 hf)
      refine fr_newa hx hb hts K hC hR (atype := .int) (t := 0) rfl kw1051 (fun _ => rfl) rfl (fun z => c115 (Or.inl z)) g117 (newa_b (fun z => c115 (Or.inr z)) (Nat.le_of_ble_eq_true rfl)) dX8_coversNow_20 (fun H _ _ hC => ?_)
      refine fr_astore (lv' := [(5, va_rf (some r116.1)), (0, va_rf a0), (1, .int a1), (2, .int a2), (3, .int a3), (4, .int a4)]) hx hb dX8_coversNow_22 hl (by decide) (congrArg (List.cons _) (flk rfl (flk rfl (flk rfl (flk rfl (flk rfl fln)))))) (fun ls hl => ?_)
      refine lv_iconst (v := (0 : Int32)) hx hb dX8_coversNow_24 (by decide) ?_
      refine lv_istore (lv' := [(6, .int (0 : Int32)), (5, va_rf (some r116.1)), (0, va_rf a0), (1, .int a1), (2, .int a2), (3, .int a3), (4, .int a4)]) hx hb dX8_coversNow_25 hl (by decide) (congrArg (List.cons _) (flk (adj1 _ _) (flk rfl (flk rfl (flk rfl (flk rfl (flk rfl fln))))))) (fun ls hl => ?_)
      refine lv_iload_n hx hb dX8_coversNow_27 rfl (lv_at hl 3 rfl) ?_
      refine lv_istore (lv' := [(7, .int a1), (6, .int (0 : Int32)), (5, va_rf (some r116.1)), (0, va_rf a0), (1, .int a1), (2, .int a2), (3, .int a3), (4, .int a4)]) hx hb dX8_coversNow_28 hl (by decide) (congrArg (List.cons _) (flk rfl (flk rfl (flk rfl (flk rfl (flk rfl (flk rfl (flk rfl fln)))))))) (fun ls hl => ?_)
      exact w_X8_coversNow_L30 M hfl 4096 _ _ _ _ _ _ _ _ _ hf _ _ _ _ _ hC (lv_sub hl [3, 4, 5, 6, 7, 2, 1, 0] rfl)
    · replace hf := opos c114 hf
      exact w_X8_coversNow_L17 M hfl _ hf _ _ _ _ _ hC (lv_sub hl [] rfl)
set_option maxRecDepth 100000 in
theorem c_X8_coversNow {l : Launch} (hfl : l.stackTraces = false) (D : va_G) (cA : Nat → ClassId) {o : Nat} {p0 : Int32} {p1 : Int32} {p2 : Int32} {p3 : Int32} {h : fSt} {r : (Int32 × fSt)} (hf : f_X8_coversNow o p0 p1 p2 p3 h = some r) : fMet l yX8_coversNow (wsC yX8_coversNow cX8_coversNow 12 (some (.boolean))) (4) (109) D cA [.ref o, .int p0, .int p1, .int p2, .int p3] h r.2 (some (.int r.1)) := by
  exact fMet.of (own := RX8) (by decide +kernel) rfl (lva1 rfl (lva1 rfl (lva1 rfl (lva1 rfl (lva1 rfl lva0))))) (lgl1 rfl (lgl1 rfl (lgl1 rfl (lgl1 rfl (lgl1 rfl lgl0))))) (Nat.le_of_ble_eq_true rfl) (fun p e s m args below meth c ls hnm _ M hC hl => by
    have hl : lv_has ls 12 [(0, va_rf (some o)), (1, .int p0), (2, .int p1), (3, .int p2), (4, .int p3)] := hl
    exact w_X8_coversNow_L0 M hfl _ _ _ _ _ _ hf _ _ _ _ _ hC (lv_sub hl [0, 1, 2, 3, 4] rfl))
