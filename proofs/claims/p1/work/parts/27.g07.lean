theorem dX8_isPoint_0 : decode cX8_isPoint 0 = .ok (.iload_n 0, 1) := by decide +kernel
theorem dX8_isPoint_1 : decode cX8_isPoint 1 = .ok (.sipush (-10000), 3) := by decide +kernel
theorem dX8_isPoint_4 : decode cX8_isPoint 4 = .ok (.sipush 10000, 3) := by decide +kernel
theorem dX8_isPoint_7 : decode cX8_isPoint 7 = .ok (.invokestatic 84, 3) := by decide +kernel
theorem dX8_isPoint_10 : decode cX8_isPoint 10 = .ok (.ifCond .eq 30, 3) := by decide +kernel
theorem dX8_isPoint_13 : decode cX8_isPoint 13 = .ok (.iload_n 1, 1) := by decide +kernel
theorem dX8_isPoint_14 : decode cX8_isPoint 14 = .ok (.sipush (-10000), 3) := by decide +kernel
theorem dX8_isPoint_17 : decode cX8_isPoint 17 = .ok (.sipush 10000, 3) := by decide +kernel
theorem dX8_isPoint_20 : decode cX8_isPoint 20 = .ok (.invokestatic 84, 3) := by decide +kernel
theorem dX8_isPoint_23 : decode cX8_isPoint 23 = .ok (.ifCond .eq 17, 3) := by decide +kernel
theorem dX8_isPoint_26 : decode cX8_isPoint 26 = .ok (.iload_n 2, 1) := by decide +kernel
theorem dX8_isPoint_27 : decode cX8_isPoint 27 = .ok (.iconst 1, 1) := by decide +kernel
theorem dX8_isPoint_28 : decode cX8_isPoint 28 = .ok (.bipush 60, 2) := by decide +kernel
theorem dX8_isPoint_30 : decode cX8_isPoint 30 = .ok (.invokestatic 84, 3) := by decide +kernel
theorem dX8_isPoint_33 : decode cX8_isPoint 33 = .ok (.ifCond .eq 7, 3) := by decide +kernel
theorem dX8_isPoint_36 : decode cX8_isPoint 36 = .ok (.iconst 1, 1) := by decide +kernel
theorem dX8_isPoint_37 : decode cX8_isPoint 37 = .ok (.goto 4, 3) := by decide +kernel
theorem dX8_isPoint_40 : decode cX8_isPoint 40 = .ok (.iconst 0, 1) := by decide +kernel
theorem dX8_isPoint_41 : decode cX8_isPoint 41 = .ok (.ireturn, 1) := by decide +kernel
theorem dX8_covers_0 : decode cX8_covers 0 = .ok (.aload_n 0, 1) := by decide +kernel
theorem dX8_covers_1 : decode cX8_covers 1 = .ok (.aload_n 0, 1) := by decide +kernel
theorem dX8_covers_2 : decode cX8_covers 2 = .ok (.iload_n 1, 1) := by decide +kernel
theorem dX8_covers_3 : decode cX8_covers 3 = .ok (.invokevirtual 88, 3) := by decide +kernel
theorem dX8_covers_6 : decode cX8_covers 6 = .ok (.ifCond .ne 7, 3) := by decide +kernel
theorem dX8_covers_9 : decode cX8_covers 9 = .ok (.iconst 1, 1) := by decide +kernel
theorem dX8_covers_10 : decode cX8_covers 10 = .ok (.goto 18, 3) := by decide +kernel
theorem dX8_covers_13 : decode cX8_covers 13 = .ok (.iload_n 2, 1) := by decide +kernel
theorem dX8_covers_14 : decode cX8_covers 14 = .ok (.iload_n 3, 1) := by decide +kernel
theorem dX8_covers_15 : decode cX8_covers 15 = .ok (.iload 4, 2) := by decide +kernel
theorem dX8_covers_17 : decode cX8_covers 17 = .ok (.invokestatic 231, 3) := by decide +kernel
theorem dX8_covers_20 : decode cX8_covers 20 = .ok (.ifCond .eq 7, 3) := by decide +kernel
theorem dX8_covers_23 : decode cX8_covers 23 = .ok (.iconst 0, 1) := by decide +kernel
theorem dX8_covers_24 : decode cX8_covers 24 = .ok (.goto 4, 3) := by decide +kernel
theorem dX8_covers_27 : decode cX8_covers 27 = .ok (.iconst 2, 1) := by decide +kernel
theorem dX8_covers_28 : decode cX8_covers 28 = .ok (.putfield 81, 3) := by decide +kernel
theorem dX8_covers_31 : decode cX8_covers 31 = .ok (.aload_n 0, 1) := by decide +kernel
theorem dX8_covers_32 : decode cX8_covers 32 = .ok (.getfield 81, 3) := by decide +kernel
theorem dX8_covers_35 : decode cX8_covers 35 = .ok (.ifCond .ne 19, 3) := by decide +kernel
theorem dX8_covers_38 : decode cX8_covers 38 = .ok (.aload_n 0, 1) := by decide +kernel
theorem dX8_covers_39 : decode cX8_covers 39 = .ok (.iload_n 1, 1) := by decide +kernel
theorem dX8_covers_40 : decode cX8_covers 40 = .ok (.iload_n 2, 1) := by decide +kernel
theorem dX8_covers_41 : decode cX8_covers 41 = .ok (.iload_n 3, 1) := by decide +kernel
theorem dX8_covers_42 : decode cX8_covers 42 = .ok (.iload 4, 2) := by decide +kernel
theorem dX8_covers_44 : decode cX8_covers 44 = .ok (.invokevirtual 234, 3) := by decide +kernel
theorem dX8_covers_47 : decode cX8_covers 47 = .ok (.ifCond .eq 7, 3) := by decide +kernel
theorem dX8_covers_50 : decode cX8_covers 50 = .ok (.iconst 1, 1) := by decide +kernel
theorem dX8_covers_51 : decode cX8_covers 51 = .ok (.goto 4, 3) := by decide +kernel
theorem dX8_covers_54 : decode cX8_covers 54 = .ok (.iconst 0, 1) := by decide +kernel
theorem dX8_covers_55 : decode cX8_covers 55 = .ok (.ireturn, 1) := by decide +kernel
theorem dX8_refusal_0 : decode cX8_refusal 0 = .ok (.aload_n 0, 1) := by decide +kernel
theorem dX8_refusal_1 : decode cX8_refusal 1 = .ok (.iload_n 1, 1) := by decide +kernel
theorem dX8_refusal_2 : decode cX8_refusal 2 = .ok (.invokevirtual 88, 3) := by decide +kernel
theorem dX8_refusal_5 : decode cX8_refusal 5 = .ok (.ifCond .ne 5, 3) := by decide +kernel
theorem dX8_refusal_8 : decode cX8_refusal 8 = .ok (.iconst 1, 1) := by decide +kernel
theorem dX8_refusal_9 : decode cX8_refusal 9 = .ok (.ireturn, 1) := by decide +kernel
theorem dX8_refusal_10 : decode cX8_refusal 10 = .ok (.iload_n 1, 1) := by decide +kernel
theorem dX8_refusal_11 : decode cX8_refusal 11 = .ok (.ifCond .ne 5, 3) := by decide +kernel
theorem dX8_refusal_14 : decode cX8_refusal 14 = .ok (.iconst 2, 1) := by decide +kernel
theorem dX8_refusal_15 : decode cX8_refusal 15 = .ok (.ireturn, 1) := by decide +kernel
theorem dX8_refusal_16 : decode cX8_refusal 16 = .ok (.iload_n 2, 1) := by decide +kernel
theorem dX8_refusal_17 : decode cX8_refusal 17 = .ok (.ifCond .eq 7, 3) := by decide +kernel
theorem dX8_refusal_20 : decode cX8_refusal 20 = .ok (.iconst 0, 1) := by decide +kernel
theorem dX8_refusal_21 : decode cX8_refusal 21 = .ok (.goto 4, 3) := by decide +kernel
theorem dX8_refusal_24 : decode cX8_refusal 24 = .ok (.iconst 3, 1) := by decide +kernel
theorem dX8_refusal_25 : decode cX8_refusal 25 = .ok (.ireturn, 1) := by decide +kernel
theorem dX8_cut_0 : decode cX8_cut 0 = .ok (.aload_n 0, 1) := by decide +kernel
theorem dX8_cut_1 : decode cX8_cut 1 = .ok (.aload_n 0, 1) := by decide +kernel
theorem dX8_cut_2 : decode cX8_cut 2 = .ok (.iload_n 1, 1) := by decide +kernel
theorem dX8_cut_3 : decode cX8_cut 3 = .ok (.iload_n 2, 1) := by decide +kernel
theorem dX8_cut_4 : decode cX8_cut 4 = .ok (.sipush (-200), 3) := by decide +kernel
theorem dX8_cut_7 : decode cX8_cut 7 = .ok (.sipush 200, 3) := by decide +kernel
theorem dX8_cut_10 : decode cX8_cut 10 = .ok (.invokestatic 84, 3) := by decide +kernel
theorem dX8_cut_13 : decode cX8_cut 13 = .ok (.ifCond .eq 44, 3) := by decide +kernel
theorem dX8_cut_16 : decode cX8_cut 16 = .ok (.iload_n 3, 1) := by decide +kernel
theorem dX8_cut_17 : decode cX8_cut 17 = .ok (.sipush (-200), 3) := by decide +kernel
theorem dX8_cut_20 : decode cX8_cut 20 = .ok (.sipush 200, 3) := by decide +kernel
theorem dX8_cut_23 : decode cX8_cut 23 = .ok (.invokestatic 84, 3) := by decide +kernel
theorem dX8_cut_26 : decode cX8_cut 26 = .ok (.ifCond .eq 31, 3) := by decide +kernel
theorem dX8_cut_29 : decode cX8_cut 29 = .ok (.iload 4, 2) := by decide +kernel
theorem dX8_cut_31 : decode cX8_cut 31 = .ok (.iload_n 2, 1) := by decide +kernel
theorem dX8_cut_32 : decode cX8_cut 32 = .ok (.sipush 200, 3) := by decide +kernel
theorem dX8_cut_35 : decode cX8_cut 35 = .ok (.invokestatic 84, 3) := by decide +kernel
theorem dX8_cut_38 : decode cX8_cut 38 = .ok (.ifCond .eq 19, 3) := by decide +kernel
theorem dX8_cut_41 : decode cX8_cut 41 = .ok (.iload 5, 2) := by decide +kernel
theorem dX8_cut_43 : decode cX8_cut 43 = .ok (.iload_n 3, 1) := by decide +kernel
theorem dX8_cut_44 : decode cX8_cut 44 = .ok (.sipush 200, 3) := by decide +kernel
theorem dX8_cut_47 : decode cX8_cut 47 = .ok (.invokestatic 84, 3) := by decide +kernel
theorem dX8_cut_50 : decode cX8_cut 50 = .ok (.ifCond .eq 7, 3) := by decide +kernel
theorem dX8_cut_53 : decode cX8_cut 53 = .ok (.iconst 1, 1) := by decide +kernel
theorem dX8_cut_54 : decode cX8_cut 54 = .ok (.goto 4, 3) := by decide +kernel
theorem dX8_cut_57 : decode cX8_cut 57 = .ok (.iconst 0, 1) := by decide +kernel
theorem dX8_cut_58 : decode cX8_cut 58 = .ok (.invokevirtual 115, 3) := by decide +kernel
theorem dX8_cut_61 : decode cX8_cut 61 = .ok (.putfield 81, 3) := by decide +kernel
theorem dX8_cut_64 : decode cX8_cut 64 = .ok (.aload_n 0, 1) := by decide +kernel
theorem dX8_cut_65 : decode cX8_cut 65 = .ok (.getfield 81, 3) := by decide +kernel
theorem dX8_cut_68 : decode cX8_cut 68 = .ok (.ifCond .eq 5, 3) := by decide +kernel
theorem dX8_cut_71 : decode cX8_cut 71 = .ok (.iconst 0, 1) := by decide +kernel
theorem dX8_cut_72 : decode cX8_cut 72 = .ok (.ireturn, 1) := by decide +kernel
theorem dX8_cut_73 : decode cX8_cut 73 = .ok (.aload_n 0, 1) := by decide +kernel
theorem dX8_cut_74 : decode cX8_cut 74 = .ok (.getfield 23, 3) := by decide +kernel
theorem dX8_cut_77 : decode cX8_cut 77 = .ok (.iload_n 1, 1) := by decide +kernel
theorem dX8_cut_78 : decode cX8_cut 78 = .ok (.baload, 1) := by decide +kernel
theorem dX8_cut_79 : decode cX8_cut 79 = .ok (.istore 6, 2) := by decide +kernel
theorem dX8_cut_81 : decode cX8_cut 81 = .ok (.iconst 4, 1) := by decide +kernel
theorem dX8_cut_82 : decode cX8_cut 82 = .ok (.newarray .int, 2) := by decide +kernel
theorem dX8_cut_84 : decode cX8_cut 84 = .ok (.dup, 1) := by decide +kernel
theorem dX8_cut_85 : decode cX8_cut 85 = .ok (.iconst 0, 1) := by decide +kernel
theorem dX8_cut_86 : decode cX8_cut 86 = .ok (.iload_n 2, 1) := by decide +kernel
theorem dX8_cut_87 : decode cX8_cut 87 = .ok (.iastore, 1) := by decide +kernel
theorem dX8_cut_88 : decode cX8_cut 88 = .ok (.dup, 1) := by decide +kernel
theorem dX8_cut_89 : decode cX8_cut 89 = .ok (.iconst 1, 1) := by decide +kernel
theorem dX8_cut_90 : decode cX8_cut 90 = .ok (.iload_n 3, 1) := by decide +kernel
theorem dX8_cut_91 : decode cX8_cut 91 = .ok (.iastore, 1) := by decide +kernel
theorem dX8_cut_92 : decode cX8_cut 92 = .ok (.dup, 1) := by decide +kernel
theorem dX8_cut_93 : decode cX8_cut 93 = .ok (.iconst 2, 1) := by decide +kernel
theorem dX8_cut_94 : decode cX8_cut 94 = .ok (.iload 4, 2) := by decide +kernel
theorem dX8_cut_96 : decode cX8_cut 96 = .ok (.iastore, 1) := by decide +kernel
theorem dX8_cut_97 : decode cX8_cut 97 = .ok (.dup, 1) := by decide +kernel
theorem dX8_cut_98 : decode cX8_cut 98 = .ok (.iconst 3, 1) := by decide +kernel
theorem dX8_cut_99 : decode cX8_cut 99 = .ok (.iload 5, 2) := by decide +kernel
theorem dX8_cut_101 : decode cX8_cut 101 = .ok (.iastore, 1) := by decide +kernel
theorem dX8_cut_102 : decode cX8_cut 102 = .ok (.astore 7, 2) := by decide +kernel
theorem dX8_cut_104 : decode cX8_cut 104 = .ok (.aload 7, 2) := by decide +kernel
theorem dX8_cut_106 : decode cX8_cut 106 = .ok (.iconst 0, 1) := by decide +kernel
theorem dX8_cut_107 : decode cX8_cut 107 = .ok (.aload_n 0, 1) := by decide +kernel
theorem dX8_cut_108 : decode cX8_cut 108 = .ok (.getfield 54, 3) := by decide +kernel
theorem dX8_cut_111 : decode cX8_cut 111 = .ok (.iload_n 1, 1) := by decide +kernel
theorem dX8_cut_112 : decode cX8_cut 112 = .ok (.iconst 4, 1) := by decide +kernel
theorem dX8_cut_113 : decode cX8_cut 113 = .ok (.imul, 1) := by decide +kernel
theorem dX8_cut_114 : decode cX8_cut 114 = .ok (.iconst 4, 1) := by decide +kernel
theorem dX8_cut_115 : decode cX8_cut 115 = .ok (.invokestatic 119, 3) := by decide +kernel
theorem dX8_cut_118 : decode cX8_cut 118 = .ok (.aload_n 0, 1) := by decide +kernel
theorem dX8_cut_119 : decode cX8_cut 119 = .ok (.getfield 23, 3) := by decide +kernel
theorem dX8_cut_122 : decode cX8_cut 122 = .ok (.iload_n 1, 1) := by decide +kernel
theorem dX8_cut_123 : decode cX8_cut 123 = .ok (.iconst 1, 1) := by decide +kernel
theorem dX8_cut_124 : decode cX8_cut 124 = .ok (.bastore, 1) := by decide +kernel
theorem dX8_cut_125 : decode cX8_cut 125 = .ok (.iload 6, 2) := by decide +kernel
theorem dX8_cut_127 : decode cX8_cut 127 = .ok (.ireturn, 1) := by decide +kernel
theorem dX8_fromWholeNow_0 : decode cX8_fromWholeNow 0 = .ok (.iload_n 2, 1) := by decide +kernel
theorem dX8_fromWholeNow_1 : decode cX8_fromWholeNow 1 = .ok (.i2l, 1) := by decide +kernel
theorem dX8_fromWholeNow_2 : decode cX8_fromWholeNow 2 = .ok (.iload_n 3, 1) := by decide +kernel
theorem dX8_fromWholeNow_3 : decode cX8_fromWholeNow 3 = .ok (.i2l, 1) := by decide +kernel
theorem dX8_fromWholeNow_4 : decode cX8_fromWholeNow 4 = .ok (.lconst 1, 1) := by decide +kernel
theorem dX8_fromWholeNow_5 : decode cX8_fromWholeNow 5 = .ok (.invokestatic 184, 3) := by decide +kernel
theorem dX8_fromWholeNow_8 : decode cX8_fromWholeNow 8 = .ok (.astore 5, 2) := by decide +kernel
theorem dX8_fromWholeNow_10 : decode cX8_fromWholeNow 10 = .ok (.aload_n 0, 1) := by decide +kernel
theorem dX8_fromWholeNow_11 : decode cX8_fromWholeNow 11 = .ok (.iload_n 1, 1) := by decide +kernel
theorem dX8_fromWholeNow_12 : decode cX8_fromWholeNow 12 = .ok (.aload 5, 2) := by decide +kernel
theorem dX8_fromWholeNow_14 : decode cX8_fromWholeNow 14 = .ok (.invokevirtual 174, 3) := by decide +kernel
theorem dX8_fromWholeNow_17 : decode cX8_fromWholeNow 17 = .ok (.aload 5, 2) := by decide +kernel
theorem dX8_fromWholeNow_19 : decode cX8_fromWholeNow 19 = .ok (.iload 4, 2) := by decide +kernel
theorem dX8_fromWholeNow_21 : decode cX8_fromWholeNow 21 = .ok (.invokestatic 191, 3) := by decide +kernel
theorem dX8_fromWholeNow_24 : decode cX8_fromWholeNow 24 = .ok (.ireturn, 1) := by decide +kernel
theorem dX8_nextKeyNow_0 : decode cX8_nextKeyNow 0 = .ok (.iconst (-1), 1) := by decide +kernel
theorem dX8_nextKeyNow_1 : decode cX8_nextKeyNow 1 = .ok (.istore_n 1, 1) := by decide +kernel
theorem dX8_nextKeyNow_2 : decode cX8_nextKeyNow 2 = .ok (.iconst 0, 1) := by decide +kernel
theorem dX8_nextKeyNow_3 : decode cX8_nextKeyNow 3 = .ok (.istore_n 2, 1) := by decide +kernel
theorem dX8_nextKeyNow_4 : decode cX8_nextKeyNow 4 = .ok (.iload_n 2, 1) := by decide +kernel
theorem dX8_nextKeyNow_5 : decode cX8_nextKeyNow 5 = .ok (.aload_n 0, 1) := by decide +kernel
theorem dX8_nextKeyNow_6 : decode cX8_nextKeyNow 6 = .ok (.getfield 103, 3) := by decide +kernel
theorem dX8_nextKeyNow_9 : decode cX8_nextKeyNow 9 = .ok (.if_icmp .ge 70, 3) := by decide +kernel
theorem dX8_nextKeyNow_12 : decode cX8_nextKeyNow 12 = .ok (.iload_n 2, 1) := by decide +kernel
theorem dX8_nextKeyNow_13 : decode cX8_nextKeyNow 13 = .ok (.bipush 8, 2) := by decide +kernel
theorem dX8_nextKeyNow_15 : decode cX8_nextKeyNow 15 = .ok (.imul, 1) := by decide +kernel
theorem dX8_nextKeyNow_16 : decode cX8_nextKeyNow 16 = .ok (.istore_n 3, 1) := by decide +kernel
theorem dX8_nextKeyNow_17 : decode cX8_nextKeyNow 17 = .ok (.iload_n 3, 1) := by decide +kernel
theorem dX8_nextKeyNow_18 : decode cX8_nextKeyNow 18 = .ok (.iload_n 2, 1) := by decide +kernel
theorem dX8_nextKeyNow_19 : decode cX8_nextKeyNow 19 = .ok (.bipush 8, 2) := by decide +kernel
theorem dX8_nextKeyNow_21 : decode cX8_nextKeyNow 21 = .ok (.imul, 1) := by decide +kernel
theorem dX8_nextKeyNow_22 : decode cX8_nextKeyNow 22 = .ok (.aload_n 0, 1) := by decide +kernel
theorem dX8_nextKeyNow_23 : decode cX8_nextKeyNow 23 = .ok (.getfield 72, 3) := by decide +kernel
theorem dX8_nextKeyNow_26 : decode cX8_nextKeyNow 26 = .ok (.iload_n 2, 1) := by decide +kernel
theorem dX8_nextKeyNow_27 : decode cX8_nextKeyNow 27 = .ok (.iaload, 1) := by decide +kernel
theorem dX8_nextKeyNow_28 : decode cX8_nextKeyNow 28 = .ok (.iadd, 1) := by decide +kernel
theorem dX8_nextKeyNow_29 : decode cX8_nextKeyNow 29 = .ok (.if_icmp .ge 44, 3) := by decide +kernel
theorem dX8_nextKeyNow_32 : decode cX8_nextKeyNow 32 = .ok (.aload_n 0, 1) := by decide +kernel
theorem dX8_nextKeyNow_33 : decode cX8_nextKeyNow 33 = .ok (.getfield 75, 3) := by decide +kernel
theorem dX8_nextKeyNow_36 : decode cX8_nextKeyNow 36 = .ok (.iload_n 3, 1) := by decide +kernel
theorem dX8_nextKeyNow_37 : decode cX8_nextKeyNow 37 = .ok (.iaload, 1) := by decide +kernel
theorem dX8_nextKeyNow_38 : decode cX8_nextKeyNow 38 = .ok (.aload_n 0, 1) := by decide +kernel
theorem dX8_nextKeyNow_39 : decode cX8_nextKeyNow 39 = .ok (.getfield 150, 3) := by decide +kernel
theorem dX8_nextKeyNow_42 : decode cX8_nextKeyNow 42 = .ok (.if_icmp .le 25, 3) := by decide +kernel
theorem dX8_nextKeyNow_45 : decode cX8_nextKeyNow 45 = .ok (.iload_n 1, 1) := by decide +kernel
theorem dX8_nextKeyNow_46 : decode cX8_nextKeyNow 46 = .ok (.iconst (-1), 1) := by decide +kernel
theorem dX8_nextKeyNow_47 : decode cX8_nextKeyNow 47 = .ok (.if_icmp .eq 13, 3) := by decide +kernel
theorem dX8_nextKeyNow_50 : decode cX8_nextKeyNow 50 = .ok (.aload_n 0, 1) := by decide +kernel
theorem dX8_nextKeyNow_51 : decode cX8_nextKeyNow 51 = .ok (.getfield 75, 3) := by decide +kernel
theorem dX8_nextKeyNow_54 : decode cX8_nextKeyNow 54 = .ok (.iload_n 3, 1) := by decide +kernel
theorem dX8_nextKeyNow_55 : decode cX8_nextKeyNow 55 = .ok (.iaload, 1) := by decide +kernel
theorem dX8_nextKeyNow_56 : decode cX8_nextKeyNow 56 = .ok (.iload_n 1, 1) := by decide +kernel
theorem dX8_nextKeyNow_57 : decode cX8_nextKeyNow 57 = .ok (.if_icmp .ge 10, 3) := by decide +kernel
theorem dX8_nextKeyNow_60 : decode cX8_nextKeyNow 60 = .ok (.aload_n 0, 1) := by decide +kernel
theorem dX8_nextKeyNow_61 : decode cX8_nextKeyNow 61 = .ok (.getfield 75, 3) := by decide +kernel
theorem dX8_nextKeyNow_64 : decode cX8_nextKeyNow 64 = .ok (.iload_n 3, 1) := by decide +kernel
theorem dX8_nextKeyNow_65 : decode cX8_nextKeyNow 65 = .ok (.iaload, 1) := by decide +kernel
theorem dX8_nextKeyNow_66 : decode cX8_nextKeyNow 66 = .ok (.istore_n 1, 1) := by decide +kernel
theorem dX8_nextKeyNow_67 : decode cX8_nextKeyNow 67 = .ok (.iinc 3 1, 3) := by decide +kernel
theorem dX8_nextKeyNow_70 : decode cX8_nextKeyNow 70 = .ok (.goto (-53), 3) := by decide +kernel
theorem dX8_nextKeyNow_73 : decode cX8_nextKeyNow 73 = .ok (.iinc 2 1, 3) := by decide +kernel
theorem dX8_nextKeyNow_76 : decode cX8_nextKeyNow 76 = .ok (.goto (-72), 3) := by decide +kernel
theorem dX8_nextKeyNow_79 : decode cX8_nextKeyNow 79 = .ok (.iload_n 1, 1) := by decide +kernel
theorem dX8_nextKeyNow_80 : decode cX8_nextKeyNow 80 = .ok (.ireturn, 1) := by decide +kernel
theorem dX8_nodesNow_0 : decode cX8_nodesNow 0 = .ok (.iconst 0, 1) := by decide +kernel
theorem dX8_nodesNow_1 : decode cX8_nodesNow 1 = .ok (.istore_n 1, 1) := by decide +kernel
theorem dX8_nodesNow_2 : decode cX8_nodesNow 2 = .ok (.iconst 0, 1) := by decide +kernel
theorem dX8_nodesNow_3 : decode cX8_nodesNow 3 = .ok (.istore_n 2, 1) := by decide +kernel
theorem dX8_nodesNow_4 : decode cX8_nodesNow 4 = .ok (.iload_n 2, 1) := by decide +kernel
theorem dX8_nodesNow_5 : decode cX8_nodesNow 5 = .ok (.aload_n 0, 1) := by decide +kernel
theorem dX8_nodesNow_6 : decode cX8_nodesNow 6 = .ok (.getfield 7, 3) := by decide +kernel
theorem dX8_nodesNow_9 : decode cX8_nodesNow 9 = .ok (.if_icmp .ge 26, 3) := by decide +kernel
theorem dX8_nodesNow_12 : decode cX8_nodesNow 12 = .ok (.iload_n 1, 1) := by decide +kernel
theorem dX8_nodesNow_13 : decode cX8_nodesNow 13 = .ok (.aload_n 0, 1) := by decide +kernel
theorem dX8_nodesNow_14 : decode cX8_nodesNow 14 = .ok (.getfield 13, 3) := by decide +kernel
theorem dX8_nodesNow_17 : decode cX8_nodesNow 17 = .ok (.iload_n 2, 1) := by decide +kernel
theorem dX8_nodesNow_18 : decode cX8_nodesNow 18 = .ok (.baload, 1) := by decide +kernel
theorem dX8_nodesNow_19 : decode cX8_nodesNow 19 = .ok (.ifCond .eq 7, 3) := by decide +kernel
theorem dX8_nodesNow_22 : decode cX8_nodesNow 22 = .ok (.iconst 0, 1) := by decide +kernel
theorem dX8_nodesNow_23 : decode cX8_nodesNow 23 = .ok (.goto 4, 3) := by decide +kernel
theorem dX8_nodesNow_26 : decode cX8_nodesNow 26 = .ok (.iconst 1, 1) := by decide +kernel
theorem dX8_nodesNow_27 : decode cX8_nodesNow 27 = .ok (.iadd, 1) := by decide +kernel
theorem dX8_nodesNow_28 : decode cX8_nodesNow 28 = .ok (.istore_n 1, 1) := by decide +kernel
theorem dX8_nodesNow_29 : decode cX8_nodesNow 29 = .ok (.iinc 2 1, 3) := by decide +kernel
theorem dX8_nodesNow_32 : decode cX8_nodesNow 32 = .ok (.goto (-28), 3) := by decide +kernel
theorem dX8_nodesNow_35 : decode cX8_nodesNow 35 = .ok (.iload_n 1, 1) := by decide +kernel
theorem dX8_nodesNow_36 : decode cX8_nodesNow 36 = .ok (.ireturn, 1) := by decide +kernel
theorem dX8_hanging_0 : decode cX8_hanging 0 = .ok (.iconst 0, 1) := by decide +kernel
theorem dX8_hanging_1 : decode cX8_hanging 1 = .ok (.istore_n 2, 1) := by decide +kernel
theorem dX8_hanging_2 : decode cX8_hanging 2 = .ok (.iconst 1, 1) := by decide +kernel
theorem dX8_hanging_3 : decode cX8_hanging 3 = .ok (.istore_n 3, 1) := by decide +kernel
theorem dX8_hanging_4 : decode cX8_hanging 4 = .ok (.iload_n 3, 1) := by decide +kernel
theorem dX8_hanging_5 : decode cX8_hanging 5 = .ok (.aload_n 0, 1) := by decide +kernel
theorem dX8_hanging_6 : decode cX8_hanging 6 = .ok (.getfield 7, 3) := by decide +kernel
theorem dX8_hanging_9 : decode cX8_hanging 9 = .ok (.if_icmp .ge 36, 3) := by decide +kernel
theorem dX8_hanging_12 : decode cX8_hanging 12 = .ok (.iload_n 2, 1) := by decide +kernel
theorem dX8_hanging_13 : decode cX8_hanging 13 = .ok (.aload_n 0, 1) := by decide +kernel
theorem dX8_hanging_14 : decode cX8_hanging 14 = .ok (.getfield 13, 3) := by decide +kernel
theorem dX8_hanging_17 : decode cX8_hanging 17 = .ok (.iload_n 3, 1) := by decide +kernel
theorem dX8_hanging_18 : decode cX8_hanging 18 = .ok (.baload, 1) := by decide +kernel
theorem dX8_hanging_19 : decode cX8_hanging 19 = .ok (.ifCond .ne 17, 3) := by decide +kernel
theorem dX8_hanging_22 : decode cX8_hanging 22 = .ok (.aload_n 0, 1) := by decide +kernel
theorem dX8_hanging_23 : decode cX8_hanging 23 = .ok (.getfield 26, 3) := by decide +kernel
theorem dX8_hanging_26 : decode cX8_hanging 26 = .ok (.iload_n 3, 1) := by decide +kernel
theorem dX8_hanging_27 : decode cX8_hanging 27 = .ok (.iaload, 1) := by decide +kernel
theorem dX8_hanging_28 : decode cX8_hanging 28 = .ok (.iload_n 1, 1) := by decide +kernel
theorem dX8_hanging_29 : decode cX8_hanging 29 = .ok (.if_icmp .ne 7, 3) := by decide +kernel
theorem dX8_hanging_32 : decode cX8_hanging 32 = .ok (.iconst 1, 1) := by decide +kernel
theorem dX8_hanging_33 : decode cX8_hanging 33 = .ok (.goto 4, 3) := by decide +kernel
theorem dX8_hanging_36 : decode cX8_hanging 36 = .ok (.iconst 0, 1) := by decide +kernel
theorem dX8_hanging_37 : decode cX8_hanging 37 = .ok (.iadd, 1) := by decide +kernel
theorem dX8_hanging_38 : decode cX8_hanging 38 = .ok (.istore_n 2, 1) := by decide +kernel
theorem dX8_hanging_39 : decode cX8_hanging 39 = .ok (.iinc 3 1, 3) := by decide +kernel
theorem dX8_hanging_42 : decode cX8_hanging 42 = .ok (.goto (-38), 3) := by decide +kernel
theorem dX8_hanging_45 : decode cX8_hanging 45 = .ok (.iload_n 2, 1) := by decide +kernel
theorem dX8_hanging_46 : decode cX8_hanging 46 = .ok (.ireturn, 1) := by decide +kernel
theorem dX8_isAhead_0 : decode cX8_isAhead 0 = .ok (.aload_n 0, 1) := by decide +kernel
theorem dX8_isAhead_1 : decode cX8_isAhead 1 = .ok (.getfield 45, 3) := by decide +kernel
theorem dX8_isAhead_4 : decode cX8_isAhead 4 = .ok (.iload_n 1, 1) := by decide +kernel
theorem dX8_isAhead_5 : decode cX8_isAhead 5 = .ok (.iaload, 1) := by decide +kernel
theorem dX8_isAhead_6 : decode cX8_isAhead 6 = .ok (.aload_n 0, 1) := by decide +kernel
theorem dX8_isAhead_7 : decode cX8_isAhead 7 = .ok (.getfield 45, 3) := by decide +kernel
theorem dX8_isAhead_10 : decode cX8_isAhead 10 = .ok (.iload_n 2, 1) := by decide +kernel
theorem dX8_isAhead_11 : decode cX8_isAhead 11 = .ok (.iaload, 1) := by decide +kernel
theorem dX8_isAhead_12 : decode cX8_isAhead 12 = .ok (.if_icmp .eq 26, 3) := by decide +kernel
theorem dX8_isAhead_15 : decode cX8_isAhead 15 = .ok (.aload_n 0, 1) := by decide +kernel
theorem dX8_isAhead_16 : decode cX8_isAhead 16 = .ok (.getfield 45, 3) := by decide +kernel
theorem dX8_isAhead_19 : decode cX8_isAhead 19 = .ok (.iload_n 1, 1) := by decide +kernel
theorem dX8_isAhead_20 : decode cX8_isAhead 20 = .ok (.iaload, 1) := by decide +kernel
theorem dX8_isAhead_21 : decode cX8_isAhead 21 = .ok (.aload_n 0, 1) := by decide +kernel
theorem dX8_isAhead_22 : decode cX8_isAhead 22 = .ok (.getfield 45, 3) := by decide +kernel
theorem dX8_isAhead_25 : decode cX8_isAhead 25 = .ok (.iload_n 2, 1) := by decide +kernel
theorem dX8_isAhead_26 : decode cX8_isAhead 26 = .ok (.iaload, 1) := by decide +kernel
theorem dX8_isAhead_27 : decode cX8_isAhead 27 = .ok (.if_icmp .ge 7, 3) := by decide +kernel
theorem dX8_isAhead_30 : decode cX8_isAhead 30 = .ok (.iconst 1, 1) := by decide +kernel
theorem dX8_isAhead_31 : decode cX8_isAhead 31 = .ok (.goto 27, 3) := by decide +kernel
theorem dX8_isAhead_34 : decode cX8_isAhead 34 = .ok (.iconst 0, 1) := by decide +kernel
theorem dX8_isAhead_35 : decode cX8_isAhead 35 = .ok (.goto 23, 3) := by decide +kernel
theorem dX8_isAhead_38 : decode cX8_isAhead 38 = .ok (.aload_n 0, 1) := by decide +kernel
theorem dX8_isAhead_39 : decode cX8_isAhead 39 = .ok (.getfield 48, 3) := by decide +kernel
theorem dX8_isAhead_42 : decode cX8_isAhead 42 = .ok (.iload_n 1, 1) := by decide +kernel
theorem dX8_isAhead_43 : decode cX8_isAhead 43 = .ok (.iaload, 1) := by decide +kernel
theorem dX8_isAhead_44 : decode cX8_isAhead 44 = .ok (.aload_n 0, 1) := by decide +kernel
theorem dX8_isAhead_45 : decode cX8_isAhead 45 = .ok (.getfield 48, 3) := by decide +kernel
theorem dX8_isAhead_48 : decode cX8_isAhead 48 = .ok (.iload_n 2, 1) := by decide +kernel
theorem dX8_isAhead_49 : decode cX8_isAhead 49 = .ok (.iaload, 1) := by decide +kernel
theorem dX8_isAhead_50 : decode cX8_isAhead 50 = .ok (.if_icmp .ge 7, 3) := by decide +kernel
theorem dX8_isAhead_53 : decode cX8_isAhead 53 = .ok (.iconst 1, 1) := by decide +kernel
theorem dX8_isAhead_54 : decode cX8_isAhead 54 = .ok (.goto 4, 3) := by decide +kernel
theorem dX8_isAhead_57 : decode cX8_isAhead 57 = .ok (.iconst 0, 1) := by decide +kernel
theorem dX8_isAhead_58 : decode cX8_isAhead 58 = .ok (.ireturn, 1) := by decide +kernel
theorem dX8_order_0 : decode cX8_order 0 = .ok (.aload_n 0, 1) := by decide +kernel
theorem dX8_order_1 : decode cX8_order 1 = .ok (.iload_n 1, 1) := by decide +kernel
theorem dX8_order_2 : decode cX8_order 2 = .ok (.invokevirtual 112, 3) := by decide +kernel
theorem dX8_order_5 : decode cX8_order 5 = .ok (.istore 4, 2) := by decide +kernel
theorem dX8_order_7 : decode cX8_order 7 = .ok (.iload 4, 2) := by decide +kernel
theorem dX8_order_9 : decode cX8_order 9 = .ok (.newarray .int, 2) := by decide +kernel
theorem dX8_order_11 : decode cX8_order 11 = .ok (.astore 5, 2) := by decide +kernel
theorem dX8_order_13 : decode cX8_order 13 = .ok (.iconst 1, 1) := by decide +kernel
theorem dX8_order_14 : decode cX8_order 14 = .ok (.istore 6, 2) := by decide +kernel
theorem dX8_order_16 : decode cX8_order 16 = .ok (.iload 6, 2) := by decide +kernel
theorem dX8_order_18 : decode cX8_order 18 = .ok (.aload_n 0, 1) := by decide +kernel
theorem dX8_order_19 : decode cX8_order 19 = .ok (.getfield 7, 3) := by decide +kernel
theorem dX8_order_22 : decode cX8_order 22 = .ok (.if_icmp .ge 110, 3) := by decide +kernel
theorem dX8_order_25 : decode cX8_order 25 = .ok (.aload_n 0, 1) := by decide +kernel
theorem dX8_order_26 : decode cX8_order 26 = .ok (.getfield 13, 3) := by decide +kernel
theorem dX8_order_29 : decode cX8_order 29 = .ok (.iload 6, 2) := by decide +kernel
theorem dX8_order_31 : decode cX8_order 31 = .ok (.baload, 1) := by decide +kernel
theorem dX8_order_32 : decode cX8_order 32 = .ok (.ifCond .ne 94, 3) := by decide +kernel
theorem dX8_order_35 : decode cX8_order 35 = .ok (.aload_n 0, 1) := by decide +kernel
theorem dX8_order_36 : decode cX8_order 36 = .ok (.getfield 26, 3) := by decide +kernel
theorem dX8_order_39 : decode cX8_order 39 = .ok (.iload 6, 2) := by decide +kernel
theorem dX8_order_41 : decode cX8_order 41 = .ok (.iaload, 1) := by decide +kernel
theorem dX8_order_42 : decode cX8_order 42 = .ok (.iload_n 1, 1) := by decide +kernel
theorem dX8_order_43 : decode cX8_order 43 = .ok (.if_icmp .eq 6, 3) := by decide +kernel
theorem dX8_order_46 : decode cX8_order 46 = .ok (.goto 80, 3) := by decide +kernel
theorem dX8_order_49 : decode cX8_order 49 = .ok (.iconst 0, 1) := by decide +kernel
theorem dX8_order_50 : decode cX8_order 50 = .ok (.istore 7, 2) := by decide +kernel
theorem dX8_order_52 : decode cX8_order 52 = .ok (.iconst 1, 1) := by decide +kernel
theorem dX8_order_53 : decode cX8_order 53 = .ok (.istore 8, 2) := by decide +kernel
theorem dX8_order_55 : decode cX8_order 55 = .ok (.iload 8, 2) := by decide +kernel
theorem dX8_order_57 : decode cX8_order 57 = .ok (.aload_n 0, 1) := by decide +kernel
theorem dX8_order_58 : decode cX8_order 58 = .ok (.getfield 7, 3) := by decide +kernel
theorem dX8_order_61 : decode cX8_order 61 = .ok (.if_icmp .ge 58, 3) := by decide +kernel
theorem dX8_order_64 : decode cX8_order 64 = .ok (.iload 7, 2) := by decide +kernel
theorem dX8_order_66 : decode cX8_order 66 = .ok (.iload 8, 2) := by decide +kernel
theorem dX8_order_68 : decode cX8_order 68 = .ok (.iload 6, 2) := by decide +kernel
theorem dX8_order_70 : decode cX8_order 70 = .ok (.if_icmp .eq 39, 3) := by decide +kernel
theorem dX8_order_73 : decode cX8_order 73 = .ok (.aload_n 0, 1) := by decide +kernel
theorem dX8_order_74 : decode cX8_order 74 = .ok (.getfield 13, 3) := by decide +kernel
theorem dX8_order_77 : decode cX8_order 77 = .ok (.iload 8, 2) := by decide +kernel
theorem dX8_order_79 : decode cX8_order 79 = .ok (.baload, 1) := by decide +kernel
theorem dX8_order_80 : decode cX8_order 80 = .ok (.ifCond .ne 29, 3) := by decide +kernel
theorem dX8_order_83 : decode cX8_order 83 = .ok (.aload_n 0, 1) := by decide +kernel
theorem dX8_order_84 : decode cX8_order 84 = .ok (.getfield 26, 3) := by decide +kernel
theorem dX8_order_87 : decode cX8_order 87 = .ok (.iload 8, 2) := by decide +kernel
theorem dX8_order_89 : decode cX8_order 89 = .ok (.iaload, 1) := by decide +kernel
theorem dX8_order_90 : decode cX8_order 90 = .ok (.iload_n 1, 1) := by decide +kernel
theorem dX8_order_91 : decode cX8_order 91 = .ok (.if_icmp .ne 18, 3) := by decide +kernel
theorem dX8_order_94 : decode cX8_order 94 = .ok (.aload_n 0, 1) := by decide +kernel
theorem dX8_order_95 : decode cX8_order 95 = .ok (.iload 8, 2) := by decide +kernel
theorem dX8_order_97 : decode cX8_order 97 = .ok (.iload 6, 2) := by decide +kernel
theorem dX8_order_99 : decode cX8_order 99 = .ok (.invokevirtual 216, 3) := by decide +kernel
theorem dX8_order_102 : decode cX8_order 102 = .ok (.ifCond .eq 7, 3) := by decide +kernel
theorem dX8_order_105 : decode cX8_order 105 = .ok (.iconst 1, 1) := by decide +kernel
theorem dX8_order_106 : decode cX8_order 106 = .ok (.goto 4, 3) := by decide +kernel
theorem dX8_order_109 : decode cX8_order 109 = .ok (.iconst 0, 1) := by decide +kernel
theorem dX8_order_110 : decode cX8_order 110 = .ok (.iadd, 1) := by decide +kernel
theorem dX8_order_111 : decode cX8_order 111 = .ok (.istore 7, 2) := by decide +kernel
theorem dX8_order_113 : decode cX8_order 113 = .ok (.iinc 8 1, 3) := by decide +kernel
theorem dX8_order_116 : decode cX8_order 116 = .ok (.goto (-61), 3) := by decide +kernel
theorem dX8_order_119 : decode cX8_order 119 = .ok (.aload 5, 2) := by decide +kernel
theorem dX8_order_121 : decode cX8_order 121 = .ok (.iload 7, 2) := by decide +kernel
theorem dX8_order_123 : decode cX8_order 123 = .ok (.iload 6, 2) := by decide +kernel
theorem dX8_order_125 : decode cX8_order 125 = .ok (.iastore, 1) := by decide +kernel
theorem dX8_order_126 : decode cX8_order 126 = .ok (.iinc 6 1, 3) := by decide +kernel
theorem dX8_order_129 : decode cX8_order 129 = .ok (.goto (-113), 3) := by decide +kernel
theorem dX8_order_132 : decode cX8_order 132 = .ok (.iload_n 3, 1) := by decide +kernel
theorem dX8_order_133 : decode cX8_order 133 = .ok (.istore 6, 2) := by decide +kernel
theorem dX8_order_135 : decode cX8_order 135 = .ok (.iconst 0, 1) := by decide +kernel
theorem dX8_order_136 : decode cX8_order 136 = .ok (.istore 7, 2) := by decide +kernel
theorem dX8_order_138 : decode cX8_order 138 = .ok (.iload 7, 2) := by decide +kernel
theorem dX8_order_140 : decode cX8_order 140 = .ok (.iload 4, 2) := by decide +kernel
theorem dX8_order_142 : decode cX8_order 142 = .ok (.if_icmp .ge 36, 3) := by decide +kernel
theorem dX8_order_145 : decode cX8_order 145 = .ok (.aload_n 0, 1) := by decide +kernel
theorem dX8_order_146 : decode cX8_order 146 = .ok (.getfield 45, 3) := by decide +kernel
theorem dX8_order_149 : decode cX8_order 149 = .ok (.aload 5, 2) := by decide +kernel
theorem dX8_order_151 : decode cX8_order 151 = .ok (.iload 7, 2) := by decide +kernel
theorem dX8_order_153 : decode cX8_order 153 = .ok (.iaload, 1) := by decide +kernel
theorem dX8_order_154 : decode cX8_order 154 = .ok (.iaload, 1) := by decide +kernel
theorem dX8_order_155 : decode cX8_order 155 = .ok (.ifCond .ge 23, 3) := by decide +kernel
theorem dX8_order_158 : decode cX8_order 158 = .ok (.aload_n 0, 1) := by decide +kernel
theorem dX8_order_159 : decode cX8_order 159 = .ok (.aload 5, 2) := by decide +kernel
theorem dX8_order_161 : decode cX8_order 161 = .ok (.iload 7, 2) := by decide +kernel
theorem dX8_order_163 : decode cX8_order 163 = .ok (.iinc 7 1, 3) := by decide +kernel
theorem dX8_order_166 : decode cX8_order 166 = .ok (.iaload, 1) := by decide +kernel
theorem dX8_order_167 : decode cX8_order 167 = .ok (.aload_n 2, 1) := by decide +kernel
theorem dX8_order_168 : decode cX8_order 168 = .ok (.iload 6, 2) := by decide +kernel
theorem dX8_order_170 : decode cX8_order 170 = .ok (.invokevirtual 219, 3) := by decide +kernel
theorem dX8_order_173 : decode cX8_order 173 = .ok (.istore 6, 2) := by decide +kernel
theorem dX8_order_175 : decode cX8_order 175 = .ok (.goto (-37), 3) := by decide +kernel
theorem dX8_order_178 : decode cX8_order 178 = .ok (.aload_n 2, 1) := by decide +kernel
theorem dX8_order_179 : decode cX8_order 179 = .ok (.iload 6, 2) := by decide +kernel
theorem dX8_order_181 : decode cX8_order 181 = .ok (.iinc 6 1, 3) := by decide +kernel
theorem dX8_order_184 : decode cX8_order 184 = .ok (.iload_n 1, 1) := by decide +kernel
theorem dX8_order_185 : decode cX8_order 185 = .ok (.iastore, 1) := by decide +kernel
theorem dX8_order_186 : decode cX8_order 186 = .ok (.iload 7, 2) := by decide +kernel
theorem dX8_order_188 : decode cX8_order 188 = .ok (.iload 4, 2) := by decide +kernel
theorem dX8_order_190 : decode cX8_order 190 = .ok (.if_icmp .ge 23, 3) := by decide +kernel
theorem dX8_order_193 : decode cX8_order 193 = .ok (.aload_n 0, 1) := by decide +kernel
theorem dX8_order_194 : decode cX8_order 194 = .ok (.aload 5, 2) := by decide +kernel
theorem dX8_order_196 : decode cX8_order 196 = .ok (.iload 7, 2) := by decide +kernel
theorem dX8_order_198 : decode cX8_order 198 = .ok (.iinc 7 1, 3) := by decide +kernel
theorem dX8_order_201 : decode cX8_order 201 = .ok (.iaload, 1) := by decide +kernel
theorem dX8_order_202 : decode cX8_order 202 = .ok (.aload_n 2, 1) := by decide +kernel
theorem dX8_order_203 : decode cX8_order 203 = .ok (.iload 6, 2) := by decide +kernel
theorem dX8_order_205 : decode cX8_order 205 = .ok (.invokevirtual 219, 3) := by decide +kernel
theorem dX8_order_208 : decode cX8_order 208 = .ok (.istore 6, 2) := by decide +kernel
theorem dX8_order_210 : decode cX8_order 210 = .ok (.goto (-24), 3) := by decide +kernel
theorem dX8_order_213 : decode cX8_order 213 = .ok (.iload 6, 2) := by decide +kernel
theorem dX8_order_215 : decode cX8_order 215 = .ok (.ireturn, 1) := by decide +kernel
theorem dX8_ordered_0 : decode cX8_ordered 0 = .ok (.aload_n 0, 1) := by decide +kernel
theorem dX8_ordered_1 : decode cX8_ordered 1 = .ok (.invokevirtual 131, 3) := by decide +kernel
theorem dX8_ordered_4 : decode cX8_ordered 4 = .ok (.newarray .int, 2) := by decide +kernel
theorem dX8_ordered_6 : decode cX8_ordered 6 = .ok (.astore_n 1, 1) := by decide +kernel
theorem dX8_ordered_7 : decode cX8_ordered 7 = .ok (.aload_n 0, 1) := by decide +kernel
theorem dX8_ordered_8 : decode cX8_ordered 8 = .ok (.iconst 0, 1) := by decide +kernel
theorem dX8_ordered_9 : decode cX8_ordered 9 = .ok (.aload_n 1, 1) := by decide +kernel
theorem dX8_ordered_10 : decode cX8_ordered 10 = .ok (.iconst 0, 1) := by decide +kernel
theorem dX8_ordered_11 : decode cX8_ordered 11 = .ok (.invokevirtual 219, 3) := by decide +kernel
theorem dX8_ordered_14 : decode cX8_ordered 14 = .ok (.pop, 1) := by decide +kernel
theorem dX8_ordered_15 : decode cX8_ordered 15 = .ok (.aload_n 1, 1) := by decide +kernel
theorem dX8_ordered_16 : decode cX8_ordered 16 = .ok (.areturn, 1) := by decide +kernel
theorem dX8_pickNow_0 : decode cX8_pickNow 0 = .ok (.aload_n 0, 1) := by decide +kernel
theorem dX8_pickNow_1 : decode cX8_pickNow 1 = .ok (.invokevirtual 223, 3) := by decide +kernel
theorem dX8_pickNow_4 : decode cX8_pickNow 4 = .ok (.astore 4, 2) := by decide +kernel
theorem dX8_pickNow_6 : decode cX8_pickNow 6 = .ok (.aload 4, 2) := by decide +kernel
theorem dX8_pickNow_8 : decode cX8_pickNow 8 = .ok (.arraylength, 1) := by decide +kernel
theorem dX8_pickNow_9 : decode cX8_pickNow 9 = .ok (.iconst 1, 1) := by decide +kernel
theorem dX8_pickNow_10 : decode cX8_pickNow 10 = .ok (.isub, 1) := by decide +kernel
theorem dX8_pickNow_11 : decode cX8_pickNow 11 = .ok (.istore 5, 2) := by decide +kernel
theorem dX8_pickNow_13 : decode cX8_pickNow 13 = .ok (.iload 5, 2) := by decide +kernel
theorem dX8_pickNow_15 : decode cX8_pickNow 15 = .ok (.ifCond .lt 30, 3) := by decide +kernel
theorem dX8_pickNow_18 : decode cX8_pickNow 18 = .ok (.aload_n 0, 1) := by decide +kernel
theorem dX8_pickNow_19 : decode cX8_pickNow 19 = .ok (.aload 4, 2) := by decide +kernel
theorem dX8_pickNow_21 : decode cX8_pickNow 21 = .ok (.iload 5, 2) := by decide +kernel
theorem dX8_pickNow_23 : decode cX8_pickNow 23 = .ok (.iaload, 1) := by decide +kernel
theorem dX8_pickNow_24 : decode cX8_pickNow 24 = .ok (.iload_n 1, 1) := by decide +kernel
theorem dX8_pickNow_25 : decode cX8_pickNow 25 = .ok (.iload_n 2, 1) := by decide +kernel
theorem dX8_pickNow_26 : decode cX8_pickNow 26 = .ok (.iload_n 3, 1) := by decide +kernel
theorem dX8_pickNow_27 : decode cX8_pickNow 27 = .ok (.invokevirtual 234, 3) := by decide +kernel
theorem dX8_pickNow_30 : decode cX8_pickNow 30 = .ok (.ifCond .eq 9, 3) := by decide +kernel
theorem dX8_pickNow_33 : decode cX8_pickNow 33 = .ok (.aload 4, 2) := by decide +kernel
theorem dX8_pickNow_35 : decode cX8_pickNow 35 = .ok (.iload 5, 2) := by decide +kernel
theorem dX8_pickNow_37 : decode cX8_pickNow 37 = .ok (.iaload, 1) := by decide +kernel
theorem dX8_pickNow_38 : decode cX8_pickNow 38 = .ok (.ireturn, 1) := by decide +kernel
theorem dX8_pickNow_39 : decode cX8_pickNow 39 = .ok (.iinc 5 (-1), 3) := by decide +kernel
theorem dX8_pickNow_42 : decode cX8_pickNow 42 = .ok (.goto (-29), 3) := by decide +kernel
theorem dX8_pickNow_45 : decode cX8_pickNow 45 = .ok (.iconst (-1), 1) := by decide +kernel
theorem dX8_pickNow_46 : decode cX8_pickNow 46 = .ok (.ireturn, 1) := by decide +kernel
theorem dX8_placeIn_0 : decode cX8_placeIn 0 = .ok (.iconst 0, 1) := by decide +kernel
theorem dX8_placeIn_1 : decode cX8_placeIn 1 = .ok (.istore_n 2, 1) := by decide +kernel
theorem dX8_placeIn_2 : decode cX8_placeIn 2 = .ok (.aload_n 0, 1) := by decide +kernel
theorem dX8_placeIn_3 : decode cX8_placeIn 3 = .ok (.iload_n 2, 1) := by decide +kernel
theorem dX8_placeIn_4 : decode cX8_placeIn 4 = .ok (.iaload, 1) := by decide +kernel
theorem dX8_placeIn_5 : decode cX8_placeIn 5 = .ok (.iload_n 1, 1) := by decide +kernel
theorem dX8_placeIn_6 : decode cX8_placeIn 6 = .ok (.if_icmp .eq 9, 3) := by decide +kernel
theorem dX8_placeIn_9 : decode cX8_placeIn 9 = .ok (.iinc 2 1, 3) := by decide +kernel
theorem dX8_placeIn_12 : decode cX8_placeIn 12 = .ok (.goto (-10), 3) := by decide +kernel
theorem dX8_placeIn_15 : decode cX8_placeIn 15 = .ok (.iload_n 2, 1) := by decide +kernel
theorem dX8_placeIn_16 : decode cX8_placeIn 16 = .ok (.ireturn, 1) := by decide +kernel
theorem dX8_strengthNow_0 : decode cX8_strengthNow 0 = .ok (.iload_n 1, 1) := by decide +kernel
theorem dX8_strengthNow_1 : decode cX8_strengthNow 1 = .ok (.ifCond .ne 8, 3) := by decide +kernel
theorem dX8_strengthNow_4 : decode cX8_strengthNow 4 = .ok (.bipush 100, 2) := by decide +kernel
theorem dX8_strengthNow_6 : decode cX8_strengthNow 6 = .ok (.goto 23, 3) := by decide +kernel
theorem dX8_strengthNow_9 : decode cX8_strengthNow 9 = .ok (.aload_n 0, 1) := by decide +kernel
theorem dX8_strengthNow_10 : decode cX8_strengthNow 10 = .ok (.aload_n 0, 1) := by decide +kernel
theorem dX8_strengthNow_11 : decode cX8_strengthNow 11 = .ok (.getfield 26, 3) := by decide +kernel
theorem dX8_strengthNow_14 : decode cX8_strengthNow 14 = .ok (.iload_n 1, 1) := by decide +kernel
theorem dX8_strengthNow_15 : decode cX8_strengthNow 15 = .ok (.iaload, 1) := by decide +kernel
theorem dX8_strengthNow_16 : decode cX8_strengthNow 16 = .ok (.invokevirtual 213, 3) := by decide +kernel
theorem dX8_strengthNow_19 : decode cX8_strengthNow 19 = .ok (.aload_n 0, 1) := by decide +kernel
theorem dX8_strengthNow_20 : decode cX8_strengthNow 20 = .ok (.iload_n 1, 1) := by decide +kernel
theorem dX8_strengthNow_21 : decode cX8_strengthNow 21 = .ok (.iconst 3, 1) := by decide +kernel
theorem dX8_strengthNow_22 : decode cX8_strengthNow 22 = .ok (.invokevirtual 164, 3) := by decide +kernel
theorem dX8_strengthNow_25 : decode cX8_strengthNow 25 = .ok (.imul, 1) := by decide +kernel
theorem dX8_strengthNow_26 : decode cX8_strengthNow 26 = .ok (.bipush 100, 2) := by decide +kernel
theorem dX8_strengthNow_28 : decode cX8_strengthNow 28 = .ok (.idiv, 1) := by decide +kernel
theorem dX8_strengthNow_29 : decode cX8_strengthNow 29 = .ok (.ireturn, 1) := by decide +kernel
theorem dX8_toWholeNow_0 : decode cX8_toWholeNow 0 = .ok (.iload_n 2, 1) := by decide +kernel
theorem dX8_toWholeNow_1 : decode cX8_toWholeNow 1 = .ok (.i2l, 1) := by decide +kernel
theorem dX8_toWholeNow_2 : decode cX8_toWholeNow 2 = .ok (.iload_n 3, 1) := by decide +kernel
theorem dX8_toWholeNow_3 : decode cX8_toWholeNow 3 = .ok (.i2l, 1) := by decide +kernel
theorem dX8_toWholeNow_4 : decode cX8_toWholeNow 4 = .ok (.lconst 1, 1) := by decide +kernel
theorem dX8_toWholeNow_5 : decode cX8_toWholeNow 5 = .ok (.invokestatic 184, 3) := by decide +kernel
theorem dX8_toWholeNow_8 : decode cX8_toWholeNow 8 = .ok (.astore 5, 2) := by decide +kernel
theorem dX8_toWholeNow_10 : decode cX8_toWholeNow 10 = .ok (.aload_n 0, 1) := by decide +kernel
theorem dX8_toWholeNow_11 : decode cX8_toWholeNow 11 = .ok (.iload_n 1, 1) := by decide +kernel
theorem dX8_toWholeNow_12 : decode cX8_toWholeNow 12 = .ok (.aload 5, 2) := by decide +kernel
theorem dX8_toWholeNow_14 : decode cX8_toWholeNow 14 = .ok (.invokevirtual 188, 3) := by decide +kernel
theorem dX8_toWholeNow_17 : decode cX8_toWholeNow 17 = .ok (.aload 5, 2) := by decide +kernel
theorem dX8_toWholeNow_19 : decode cX8_toWholeNow 19 = .ok (.iload 4, 2) := by decide +kernel
theorem dX8_toWholeNow_21 : decode cX8_toWholeNow 21 = .ok (.invokestatic 191, 3) := by decide +kernel
theorem dX8_toWholeNow_24 : decode cX8_toWholeNow 24 = .ok (.ireturn, 1) := by decide +kernel
theorem dX8_digest_0 : decode cX8_digest 0 = .ok (.aload_n 0, 1) := by decide +kernel
theorem dX8_digest_1 : decode cX8_digest 1 = .ok (.iconst 0, 1) := by decide +kernel
theorem dX8_digest_2 : decode cX8_digest 2 = .ok (.putfield 81, 3) := by decide +kernel
theorem dX8_digest_5 : decode cX8_digest 5 = .ok (.ldc2_w 247, 3) := by decide +kernel
theorem dX8_digest_8 : decode cX8_digest 8 = .ok (.aload_n 0, 1) := by decide +kernel
theorem dX8_digest_9 : decode cX8_digest 9 = .ok (.getfield 7, 3) := by decide +kernel
theorem dX8_digest_12 : decode cX8_digest 12 = .ok (.i2l, 1) := by decide +kernel
theorem dX8_digest_13 : decode cX8_digest 13 = .ok (.ladd, 1) := by decide +kernel
theorem dX8_digest_14 : decode cX8_digest 14 = .ok (.ldc2_w 249, 3) := by decide +kernel
theorem dX8_digest_17 : decode cX8_digest 17 = .ok (.lmul, 1) := by decide +kernel
theorem dX8_digest_18 : decode cX8_digest 18 = .ok (.aload_n 0, 1) := by decide +kernel
theorem dX8_digest_19 : decode cX8_digest 19 = .ok (.invokevirtual 131, 3) := by decide +kernel
theorem dX8_digest_22 : decode cX8_digest 22 = .ok (.i2l, 1) := by decide +kernel
theorem dX8_digest_23 : decode cX8_digest 23 = .ok (.ladd, 1) := by decide +kernel
theorem dX8_digest_24 : decode cX8_digest 24 = .ok (.ldc2_w 249, 3) := by decide +kernel
theorem dX8_digest_27 : decode cX8_digest 27 = .ok (.lmul, 1) := by decide +kernel
theorem dX8_digest_28 : decode cX8_digest 28 = .ok (.aload_n 0, 1) := by decide +kernel
theorem dX8_digest_29 : decode cX8_digest 29 = .ok (.getfield 103, 3) := by decide +kernel
theorem dX8_digest_32 : decode cX8_digest 32 = .ok (.i2l, 1) := by decide +kernel
theorem dX8_digest_33 : decode cX8_digest 33 = .ok (.ladd, 1) := by decide +kernel
theorem dX8_digest_34 : decode cX8_digest 34 = .ok (.ldc2_w 249, 3) := by decide +kernel
theorem dX8_digest_37 : decode cX8_digest 37 = .ok (.lmul, 1) := by decide +kernel
theorem dX8_digest_38 : decode cX8_digest 38 = .ok (.aload_n 0, 1) := by decide +kernel
theorem dX8_digest_39 : decode cX8_digest 39 = .ok (.invokevirtual 167, 3) := by decide +kernel
theorem dX8_digest_42 : decode cX8_digest 42 = .ok (.i2l, 1) := by decide +kernel
theorem dX8_digest_43 : decode cX8_digest 43 = .ok (.ladd, 1) := by decide +kernel
theorem dX8_digest_44 : decode cX8_digest 44 = .ok (.lstore_n 1, 1) := by decide +kernel
theorem dX8_digest_45 : decode cX8_digest 45 = .ok (.aload_n 0, 1) := by decide +kernel
theorem dX8_digest_46 : decode cX8_digest 46 = .ok (.invokevirtual 223, 3) := by decide +kernel
theorem dX8_digest_49 : decode cX8_digest 49 = .ok (.astore_n 3, 1) := by decide +kernel
theorem dX8_digest_50 : decode cX8_digest 50 = .ok (.iconst 0, 1) := by decide +kernel
theorem dX8_digest_51 : decode cX8_digest 51 = .ok (.istore 4, 2) := by decide +kernel
theorem dX8_digest_53 : decode cX8_digest 53 = .ok (.iload 4, 2) := by decide +kernel
theorem dX8_digest_55 : decode cX8_digest 55 = .ok (.aload_n 0, 1) := by decide +kernel
theorem dX8_digest_56 : decode cX8_digest 56 = .ok (.getfield 7, 3) := by decide +kernel
theorem dX8_digest_59 : decode cX8_digest 59 = .ok (.if_icmp .ge 247, 3) := by decide +kernel
theorem dX8_digest_62 : decode cX8_digest 62 = .ok (.aload_n 0, 1) := by decide +kernel
theorem dX8_digest_63 : decode cX8_digest 63 = .ok (.getfield 13, 3) := by decide +kernel
theorem dX8_digest_66 : decode cX8_digest 66 = .ok (.iload 4, 2) := by decide +kernel
theorem dX8_digest_68 : decode cX8_digest 68 = .ok (.baload, 1) := by decide +kernel
theorem dX8_digest_69 : decode cX8_digest 69 = .ok (.ifCond .eq 6, 3) := by decide +kernel
theorem dX8_digest_72 : decode cX8_digest 72 = .ok (.goto 228, 3) := by decide +kernel
theorem dX8_digest_75 : decode cX8_digest 75 = .ok (.lload_n 1, 1) := by decide +kernel
theorem dX8_digest_76 : decode cX8_digest 76 = .ok (.ldc2_w 249, 3) := by decide +kernel
theorem dX8_digest_79 : decode cX8_digest 79 = .ok (.lmul, 1) := by decide +kernel
theorem dX8_digest_80 : decode cX8_digest 80 = .ok (.iload 4, 2) := by decide +kernel
theorem dX8_digest_82 : decode cX8_digest 82 = .ok (.i2l, 1) := by decide +kernel
theorem dX8_digest_83 : decode cX8_digest 83 = .ok (.ladd, 1) := by decide +kernel
theorem dX8_digest_84 : decode cX8_digest 84 = .ok (.ldc2_w 249, 3) := by decide +kernel
theorem dX8_digest_87 : decode cX8_digest 87 = .ok (.lmul, 1) := by decide +kernel
theorem dX8_digest_88 : decode cX8_digest 88 = .ok (.aload_n 0, 1) := by decide +kernel
theorem dX8_digest_89 : decode cX8_digest 89 = .ok (.getfield 26, 3) := by decide +kernel
theorem dX8_digest_92 : decode cX8_digest 92 = .ok (.iload 4, 2) := by decide +kernel
theorem dX8_digest_94 : decode cX8_digest 94 = .ok (.iaload, 1) := by decide +kernel
theorem dX8_digest_95 : decode cX8_digest 95 = .ok (.i2l, 1) := by decide +kernel
theorem dX8_digest_96 : decode cX8_digest 96 = .ok (.ladd, 1) := by decide +kernel
theorem dX8_digest_97 : decode cX8_digest 97 = .ok (.ldc2_w 249, 3) := by decide +kernel
theorem dX8_digest_100 : decode cX8_digest 100 = .ok (.lmul, 1) := by decide +kernel
theorem dX8_digest_101 : decode cX8_digest 101 = .ok (.aload_n 0, 1) := by decide +kernel
theorem dX8_digest_102 : decode cX8_digest 102 = .ok (.iload 4, 2) := by decide +kernel
theorem dX8_digest_104 : decode cX8_digest 104 = .ok (.invokevirtual 96, 3) := by decide +kernel
theorem dX8_digest_107 : decode cX8_digest 107 = .ok (.i2l, 1) := by decide +kernel
theorem dX8_digest_108 : decode cX8_digest 108 = .ok (.ladd, 1) := by decide +kernel
theorem dX8_digest_109 : decode cX8_digest 109 = .ok (.lstore_n 1, 1) := by decide +kernel
theorem dX8_digest_110 : decode cX8_digest 110 = .ok (.iconst 0, 1) := by decide +kernel
theorem dX8_digest_111 : decode cX8_digest 111 = .ok (.istore 5, 2) := by decide +kernel
theorem dX8_digest_113 : decode cX8_digest 113 = .ok (.iload 5, 2) := by decide +kernel
theorem dX8_digest_115 : decode cX8_digest 115 = .ok (.iconst 4, 1) := by decide +kernel
theorem dX8_digest_116 : decode cX8_digest 116 = .ok (.if_icmp .ge 25, 3) := by decide +kernel
theorem dX8_digest_119 : decode cX8_digest 119 = .ok (.lload_n 1, 1) := by decide +kernel
theorem dX8_digest_120 : decode cX8_digest 120 = .ok (.ldc2_w 249, 3) := by decide +kernel
theorem dX8_digest_123 : decode cX8_digest 123 = .ok (.lmul, 1) := by decide +kernel
theorem dX8_digest_124 : decode cX8_digest 124 = .ok (.aload_n 0, 1) := by decide +kernel
theorem dX8_digest_125 : decode cX8_digest 125 = .ok (.iload 4, 2) := by decide +kernel
theorem dX8_digest_127 : decode cX8_digest 127 = .ok (.iload 5, 2) := by decide +kernel
theorem dX8_digest_129 : decode cX8_digest 129 = .ok (.invokevirtual 164, 3) := by decide +kernel
theorem dX8_digest_132 : decode cX8_digest 132 = .ok (.i2l, 1) := by decide +kernel
theorem dX8_digest_133 : decode cX8_digest 133 = .ok (.ladd, 1) := by decide +kernel
theorem dX8_digest_134 : decode cX8_digest 134 = .ok (.lstore_n 1, 1) := by decide +kernel
theorem dX8_digest_135 : decode cX8_digest 135 = .ok (.iinc 5 1, 3) := by decide +kernel
theorem dX8_digest_138 : decode cX8_digest 138 = .ok (.goto (-25), 3) := by decide +kernel
theorem dX8_digest_141 : decode cX8_digest 141 = .ok (.lload_n 1, 1) := by decide +kernel
theorem dX8_digest_142 : decode cX8_digest 142 = .ok (.ldc2_w 249, 3) := by decide +kernel
theorem dX8_digest_145 : decode cX8_digest 145 = .ok (.lmul, 1) := by decide +kernel
theorem dX8_digest_146 : decode cX8_digest 146 = .ok (.aload_n 0, 1) := by decide +kernel
theorem dX8_digest_147 : decode cX8_digest 147 = .ok (.iload 4, 2) := by decide +kernel
theorem dX8_digest_149 : decode cX8_digest 149 = .ok (.invokevirtual 206, 3) := by decide +kernel
theorem dX8_digest_152 : decode cX8_digest 152 = .ok (.ifCond .eq 7, 3) := by decide +kernel
theorem dX8_digest_155 : decode cX8_digest 155 = .ok (.iconst 1, 1) := by decide +kernel
theorem dX8_digest_156 : decode cX8_digest 156 = .ok (.goto 4, 3) := by decide +kernel
theorem dX8_digest_159 : decode cX8_digest 159 = .ok (.iconst 0, 1) := by decide +kernel
theorem dX8_digest_160 : decode cX8_digest 160 = .ok (.i2l, 1) := by decide +kernel
theorem dX8_digest_161 : decode cX8_digest 161 = .ok (.ladd, 1) := by decide +kernel
theorem dX8_digest_162 : decode cX8_digest 162 = .ok (.ldc2_w 249, 3) := by decide +kernel
theorem dX8_digest_165 : decode cX8_digest 165 = .ok (.lmul, 1) := by decide +kernel
theorem dX8_digest_166 : decode cX8_digest 166 = .ok (.aload_n 0, 1) := by decide +kernel
theorem dX8_digest_167 : decode cX8_digest 167 = .ok (.iload 4, 2) := by decide +kernel
theorem dX8_digest_169 : decode cX8_digest 169 = .ok (.invokevirtual 213, 3) := by decide +kernel
theorem dX8_digest_172 : decode cX8_digest 172 = .ok (.i2l, 1) := by decide +kernel
theorem dX8_digest_173 : decode cX8_digest 173 = .ok (.ladd, 1) := by decide +kernel
theorem dX8_digest_174 : decode cX8_digest 174 = .ok (.ldc2_w 249, 3) := by decide +kernel
theorem dX8_digest_177 : decode cX8_digest 177 = .ok (.lmul, 1) := by decide +kernel
theorem dX8_digest_178 : decode cX8_digest 178 = .ok (.aload_n 3, 1) := by decide +kernel
theorem dX8_digest_179 : decode cX8_digest 179 = .ok (.iload 4, 2) := by decide +kernel
theorem dX8_digest_181 : decode cX8_digest 181 = .ok (.invokestatic 227, 3) := by decide +kernel
theorem dX8_digest_184 : decode cX8_digest 184 = .ok (.i2l, 1) := by decide +kernel
theorem dX8_digest_185 : decode cX8_digest 185 = .ok (.ladd, 1) := by decide +kernel
theorem dX8_digest_186 : decode cX8_digest 186 = .ok (.lstore_n 1, 1) := by decide +kernel
theorem dX8_digest_187 : decode cX8_digest 187 = .ok (.iconst 0, 1) := by decide +kernel
theorem dX8_digest_188 : decode cX8_digest 188 = .ok (.istore 5, 2) := by decide +kernel
theorem dX8_digest_190 : decode cX8_digest 190 = .ok (.iload 5, 2) := by decide +kernel
theorem dX8_digest_192 : decode cX8_digest 192 = .ok (.iconst 4, 1) := by decide +kernel
theorem dX8_digest_193 : decode cX8_digest 193 = .ok (.if_icmp .ge 27, 3) := by decide +kernel
theorem dX8_digest_196 : decode cX8_digest 196 = .ok (.lload_n 1, 1) := by decide +kernel
theorem dX8_digest_197 : decode cX8_digest 197 = .ok (.ldc2_w 249, 3) := by decide +kernel
theorem dX8_digest_200 : decode cX8_digest 200 = .ok (.lmul, 1) := by decide +kernel
theorem dX8_digest_201 : decode cX8_digest 201 = .ok (.aload_n 0, 1) := by decide +kernel
theorem dX8_digest_202 : decode cX8_digest 202 = .ok (.iload 4, 2) := by decide +kernel
theorem dX8_digest_204 : decode cX8_digest 204 = .ok (.iconst 1, 1) := by decide +kernel
theorem dX8_digest_205 : decode cX8_digest 205 = .ok (.iconst 2, 1) := by decide +kernel
theorem dX8_digest_206 : decode cX8_digest 206 = .ok (.iload 5, 2) := by decide +kernel
theorem dX8_digest_208 : decode cX8_digest 208 = .ok (.invokevirtual 199, 3) := by decide +kernel
theorem dX8_digest_211 : decode cX8_digest 211 = .ok (.i2l, 1) := by decide +kernel
theorem dX8_digest_212 : decode cX8_digest 212 = .ok (.ladd, 1) := by decide +kernel
theorem dX8_digest_213 : decode cX8_digest 213 = .ok (.lstore_n 1, 1) := by decide +kernel
theorem dX8_digest_214 : decode cX8_digest 214 = .ok (.iinc 5 1, 3) := by decide +kernel
theorem dX8_digest_217 : decode cX8_digest 217 = .ok (.goto (-27), 3) := by decide +kernel
theorem dX8_digest_220 : decode cX8_digest 220 = .ok (.iconst 0, 1) := by decide +kernel
theorem dX8_digest_221 : decode cX8_digest 221 = .ok (.istore 5, 2) := by decide +kernel
theorem dX8_digest_223 : decode cX8_digest 223 = .ok (.iload 5, 2) := by decide +kernel
theorem dX8_digest_225 : decode cX8_digest 225 = .ok (.iconst 4, 1) := by decide +kernel
theorem dX8_digest_226 : decode cX8_digest 226 = .ok (.if_icmp .ge 27, 3) := by decide +kernel
theorem dX8_digest_229 : decode cX8_digest 229 = .ok (.lload_n 1, 1) := by decide +kernel
theorem dX8_digest_230 : decode cX8_digest 230 = .ok (.ldc2_w 249, 3) := by decide +kernel
theorem dX8_digest_233 : decode cX8_digest 233 = .ok (.lmul, 1) := by decide +kernel
theorem dX8_digest_234 : decode cX8_digest 234 = .ok (.aload_n 0, 1) := by decide +kernel
theorem dX8_digest_235 : decode cX8_digest 235 = .ok (.iload 4, 2) := by decide +kernel
theorem dX8_digest_237 : decode cX8_digest 237 = .ok (.iconst 1, 1) := by decide +kernel
theorem dX8_digest_238 : decode cX8_digest 238 = .ok (.iconst 2, 1) := by decide +kernel
theorem dX8_digest_239 : decode cX8_digest 239 = .ok (.iload 5, 2) := by decide +kernel
theorem dX8_digest_241 : decode cX8_digest 241 = .ok (.invokevirtual 203, 3) := by decide +kernel
theorem dX8_digest_244 : decode cX8_digest 244 = .ok (.i2l, 1) := by decide +kernel
theorem dX8_digest_245 : decode cX8_digest 245 = .ok (.ladd, 1) := by decide +kernel
theorem dX8_digest_246 : decode cX8_digest 246 = .ok (.lstore_n 1, 1) := by decide +kernel
theorem dX8_digest_247 : decode cX8_digest 247 = .ok (.iinc 5 1, 3) := by decide +kernel
theorem dX8_digest_250 : decode cX8_digest 250 = .ok (.goto (-27), 3) := by decide +kernel
theorem dX8_digest_253 : decode cX8_digest 253 = .ok (.iconst 0, 1) := by decide +kernel
theorem dX8_digest_254 : decode cX8_digest 254 = .ok (.istore 5, 2) := by decide +kernel
theorem dX8_digest_256 : decode cX8_digest 256 = .ok (.iload 5, 2) := by decide +kernel
theorem dX8_digest_258 : decode cX8_digest 258 = .ok (.iconst 4, 1) := by decide +kernel
theorem dX8_digest_259 : decode cX8_digest 259 = .ok (.if_icmp .ge 41, 3) := by decide +kernel
theorem dX8_digest_262 : decode cX8_digest 262 = .ok (.lload_n 1, 1) := by decide +kernel
theorem dX8_digest_263 : decode cX8_digest 263 = .ok (.ldc2_w 249, 3) := by decide +kernel
theorem dX8_digest_266 : decode cX8_digest 266 = .ok (.lmul, 1) := by decide +kernel
theorem dX8_digest_267 : decode cX8_digest 267 = .ok (.aload_n 0, 1) := by decide +kernel
theorem dX8_digest_268 : decode cX8_digest 268 = .ok (.iload 4, 2) := by decide +kernel
theorem dX8_digest_270 : decode cX8_digest 270 = .ok (.iload 5, 2) := by decide +kernel
theorem dX8_digest_272 : decode cX8_digest 272 = .ok (.iconst 0, 1) := by decide +kernel
theorem dX8_digest_273 : decode cX8_digest 273 = .ok (.invokevirtual 209, 3) := by decide +kernel
theorem dX8_digest_276 : decode cX8_digest 276 = .ok (.i2l, 1) := by decide +kernel
theorem dX8_digest_277 : decode cX8_digest 277 = .ok (.ladd, 1) := by decide +kernel
theorem dX8_digest_278 : decode cX8_digest 278 = .ok (.ldc2_w 249, 3) := by decide +kernel
theorem dX8_digest_281 : decode cX8_digest 281 = .ok (.lmul, 1) := by decide +kernel
theorem dX8_digest_282 : decode cX8_digest 282 = .ok (.aload_n 0, 1) := by decide +kernel
theorem dX8_digest_283 : decode cX8_digest 283 = .ok (.iload 4, 2) := by decide +kernel
theorem dX8_digest_285 : decode cX8_digest 285 = .ok (.iload 5, 2) := by decide +kernel
theorem dX8_digest_287 : decode cX8_digest 287 = .ok (.iconst 1, 1) := by decide +kernel
theorem dX8_digest_288 : decode cX8_digest 288 = .ok (.invokevirtual 209, 3) := by decide +kernel
theorem dX8_digest_291 : decode cX8_digest 291 = .ok (.i2l, 1) := by decide +kernel
theorem dX8_digest_292 : decode cX8_digest 292 = .ok (.ladd, 1) := by decide +kernel
theorem dX8_digest_293 : decode cX8_digest 293 = .ok (.lstore_n 1, 1) := by decide +kernel
theorem dX8_digest_294 : decode cX8_digest 294 = .ok (.iinc 5 1, 3) := by decide +kernel
theorem dX8_digest_297 : decode cX8_digest 297 = .ok (.goto (-41), 3) := by decide +kernel
theorem dX8_digest_300 : decode cX8_digest 300 = .ok (.iinc 4 1, 3) := by decide +kernel
theorem dX8_digest_303 : decode cX8_digest 303 = .ok (.goto (-250), 3) := by decide +kernel
theorem dX8_digest_306 : decode cX8_digest 306 = .ok (.iconst 0, 1) := by decide +kernel
theorem dX8_digest_307 : decode cX8_digest 307 = .ok (.istore 4, 2) := by decide +kernel
theorem dX8_digest_309 : decode cX8_digest 309 = .ok (.iload 4, 2) := by decide +kernel
theorem dX8_digest_311 : decode cX8_digest 311 = .ok (.bipush 100, 2) := by decide +kernel
theorem dX8_digest_313 : decode cX8_digest 313 = .ok (.if_icmp .ge 26, 3) := by decide +kernel
theorem dX8_digest_316 : decode cX8_digest 316 = .ok (.lload_n 1, 1) := by decide +kernel
theorem dX8_digest_317 : decode cX8_digest 317 = .ok (.ldc2_w 249, 3) := by decide +kernel
theorem dX8_digest_320 : decode cX8_digest 320 = .ok (.lmul, 1) := by decide +kernel
theorem dX8_digest_321 : decode cX8_digest 321 = .ok (.aload_n 0, 1) := by decide +kernel
theorem dX8_digest_322 : decode cX8_digest 322 = .ok (.iload 4, 2) := by decide +kernel
theorem dX8_digest_324 : decode cX8_digest 324 = .ok (.iload 4, 2) := by decide +kernel
theorem dX8_digest_326 : decode cX8_digest 326 = .ok (.iconst 1, 1) := by decide +kernel
theorem dX8_digest_327 : decode cX8_digest 327 = .ok (.invokevirtual 238, 3) := by decide +kernel
theorem dX8_digest_330 : decode cX8_digest 330 = .ok (.i2l, 1) := by decide +kernel
theorem dX8_digest_331 : decode cX8_digest 331 = .ok (.ladd, 1) := by decide +kernel
theorem dX8_digest_332 : decode cX8_digest 332 = .ok (.lstore_n 1, 1) := by decide +kernel
theorem dX8_digest_333 : decode cX8_digest 333 = .ok (.iinc 4 10, 3) := by decide +kernel
theorem dX8_digest_336 : decode cX8_digest 336 = .ok (.goto (-27), 3) := by decide +kernel
theorem dX8_digest_339 : decode cX8_digest 339 = .ok (.lload_n 1, 1) := by decide +kernel
theorem dX8_digest_340 : decode cX8_digest 340 = .ok (.ldc2_w 249, 3) := by decide +kernel
theorem dX8_digest_343 : decode cX8_digest 343 = .ok (.lmul, 1) := by decide +kernel
theorem dX8_digest_344 : decode cX8_digest 344 = .ok (.aload_n 0, 1) := by decide +kernel
theorem dX8_digest_345 : decode cX8_digest 345 = .ok (.iconst 0, 1) := by decide +kernel
theorem dX8_digest_346 : decode cX8_digest 346 = .ok (.bipush 7, 2) := by decide +kernel
theorem dX8_digest_348 : decode cX8_digest 348 = .ok (.invokevirtual 244, 3) := by decide +kernel
theorem dX8_digest_351 : decode cX8_digest 351 = .ok (.i2l, 1) := by decide +kernel
theorem dX8_digest_352 : decode cX8_digest 352 = .ok (.ladd, 1) := by decide +kernel
theorem dX8_digest_353 : decode cX8_digest 353 = .ok (.lreturn, 1) := by decide +kernel
noncomputable def f_X8_isPoint_L41 (s0 : Int32) (h : fSt) : Option (Int32 × fSt) := if s0 = 0 ∨ s0 = 1 then some (s0, h) else none
noncomputable def f_X8_isPoint_L40  (h : fSt) : Option (Int32 × fSt) := f_X8_isPoint_L41 (0 : Int32) h
noncomputable def f_X8_isPoint_L0 (a0 : Int32) (a1 : Int32) (a2 : Int32) (h : fSt) : Option (Int32 × fSt) := (f_X8_isIn a0 (-10000 : Int32) (10000 : Int32) h).bind fun r2 => (if r2.1 = 0 then f_X8_isPoint_L40 r2.2 else (f_X8_isIn a1 (-10000 : Int32) (10000 : Int32) r2.2).bind fun r5 => (if r5.1 = 0 then f_X8_isPoint_L40 r5.2 else (f_X8_isIn a2 (1 : Int32) (60 : Int32) r5.2).bind fun r8 => (if r8.1 = 0 then f_X8_isPoint_L40 r8.2 else f_X8_isPoint_L41 (1 : Int32) r8.2)))
noncomputable def f_X8_isPoint (p0 : Int32) (p1 : Int32) (p2 : Int32) (h : fSt) : Option (Int32 × fSt) := f_X8_isPoint_L0 p0 p1 p2 h
noncomputable def f_X8_covers_L55 (s0 : Int32) (h : fSt) : Option (Int32 × fSt) := if s0 = 0 ∨ s0 = 1 then some (s0, h) else none
noncomputable def f_X8_covers_L54  (h : fSt) : Option (Int32 × fSt) := f_X8_covers_L55 (0 : Int32) h
noncomputable def f_X8_covers_L28 (a0 : Option Nat) (a1 : Int32) (a2 : Int32) (a3 : Int32) (a4 : Int32) (s1 : Int32) (s0 : Option Nat) (h : fSt) : Option (Int32 × fSt) := (fput h s0 8 0 (.int s1)).bind fun h2 => (fgI h2 a0 8 0).bind fun x4 => (if x4 = 0 then (fobj h2 a0 8).bind fun b9 => (f_X8_coversNow b9 a1 a2 a3 a4 h2).bind fun r7 => (if r7.1 = 0 then f_X8_covers_L54 r7.2 else f_X8_covers_L55 (1 : Int32) r7.2) else f_X8_covers_L54 h2)
noncomputable def f_X8_covers_L0 (a0 : Option Nat) (a1 : Int32) (a2 : Int32) (a3 : Int32) (a4 : Int32) (h : fSt) : Option (Int32 × fSt) := (fobj h a0 8).bind fun b14 => (f_X8_isNode b14 a1 h).bind fun r12 => (if r12.1 = 0 then f_X8_covers_L28 a0 a1 a2 a3 a4 (1 : Int32) a0 r12.2 else (f_X8_isPoint a2 a3 a4 r12.2).bind fun r17 => (if r17.1 = 0 then f_X8_covers_L28 a0 a1 a2 a3 a4 (2 : Int32) a0 r17.2 else f_X8_covers_L28 a0 a1 a2 a3 a4 (0 : Int32) a0 r17.2))
noncomputable def f_X8_covers (o : Nat) (p0 : Int32) (p1 : Int32) (p2 : Int32) (p3 : Int32) (h : fSt) : Option (Int32 × fSt) := f_X8_covers_L0 (some o) p0 p1 p2 p3 h
noncomputable def f_X8_refusal_L25 (s0 : Int32) (h : fSt) : Option (Int32 × fSt) := some (s0, h)
noncomputable def f_X8_refusal_L0 (a0 : Option Nat) (a1 : Int32) (a2 : Int32) (h : fSt) : Option (Int32 × fSt) := (fobj h a0 8).bind fun b3 => (f_X8_isNode b3 a1 h).bind fun r1 => (if r1.1 = 0 then some ((1 : Int32), r1.2) else (if a1 = 0 then some ((2 : Int32), r1.2) else (if a2 = 0 then f_X8_refusal_L25 (3 : Int32) r1.2 else f_X8_refusal_L25 (0 : Int32) r1.2)))
noncomputable def f_X8_refusal (o : Nat) (p0 : Int32) (p1 : Int32) (h : fSt) : Option (Int32 × fSt) := f_X8_refusal_L0 (some o) p0 p1 h
noncomputable def f_X8_cut_L58 (a0 : Option Nat) (a1 : Int32) (a2 : Int32) (a3 : Int32) (a4 : Int32) (a5 : Int32) (s3 : Int32) (s2 : Int32) (s1 : Option Nat) (s0 : Option Nat) (h : fSt) : Option (Int32 × fSt) := (fobj h s1 8).bind fun b3 => (f_X8_refusal b3 s2 s3 h).bind fun r1 => (fput r1.2 s0 8 0 (.int r1.1)).bind fun h5 => (fgI h5 a0 8 0).bind fun x7 => (if x7 = 0 then (fgR h5 a0 8 5).bind fun x10 => (faI h5 x10 2 a1).bind fun x12 => (if (4 : Int32) < 0 ∨ 67000000 < ((4 : Int32)).toNatClampNeg then none else (fnew h5 (.inr (0, ((4 : Int32)).toNatClampNeg, .inl (fun _ => 0))) ((4 : Int32)).toNatClampNeg).bind fun r15 => (fsI r15.2 (some r15.1) 0 (0 : Int32) a2).bind fun h17 => (fsI h17 (some r15.1) 0 (1 : Int32) a3).bind fun h19 => (fsI h19 (some r15.1) 0 (2 : Int32) a4).bind fun h21 => (fsI h21 (some r15.1) 0 (3 : Int32) a5).bind fun h23 => (fgR h23 a0 8 15).bind fun x25 => (fcpy h23 (some r15.1) (0 : Int32) x25 (a1 * (4 : Int32)) (4 : Int32) 0).bind fun h27 => (fgR h27 a0 8 5).bind fun x29 => (fsI h27 x29 2 a1 (vp_nar .boolean (1 : Int32))).bind fun h31 => if x12 = 0 ∨ x12 = 1 then some (x12, h31) else none) else some ((0 : Int32), h5))
noncomputable def f_X8_cut_L57 (a0 : Option Nat) (a1 : Int32) (a2 : Int32) (a3 : Int32) (a4 : Int32) (a5 : Int32) (s2 : Int32) (s1 : Option Nat) (s0 : Option Nat) (h : fSt) : Option (Int32 × fSt) := f_X8_cut_L58 a0 a1 a2 a3 a4 a5 (0 : Int32) s2 s1 s0 h
noncomputable def f_X8_cut_L0 (a0 : Option Nat) (a1 : Int32) (a2 : Int32) (a3 : Int32) (a4 : Int32) (a5 : Int32) (h : fSt) : Option (Int32 × fSt) := (f_X8_isIn a2 (-200 : Int32) (200 : Int32) h).bind fun r34 => (if r34.1 = 0 then f_X8_cut_L57 a0 a1 a2 a3 a4 a5 a1 a0 a0 r34.2 else (f_X8_isIn a3 (-200 : Int32) (200 : Int32) r34.2).bind fun r37 => (if r37.1 = 0 then f_X8_cut_L57 a0 a1 a2 a3 a4 a5 a1 a0 a0 r37.2 else (f_X8_isIn a4 a2 (200 : Int32) r37.2).bind fun r40 => (if r40.1 = 0 then f_X8_cut_L57 a0 a1 a2 a3 a4 a5 a1 a0 a0 r40.2 else (f_X8_isIn a5 a3 (200 : Int32) r40.2).bind fun r43 => (if r43.1 = 0 then f_X8_cut_L57 a0 a1 a2 a3 a4 a5 a1 a0 a0 r43.2 else f_X8_cut_L58 a0 a1 a2 a3 a4 a5 (1 : Int32) a1 a0 a0 r43.2))))
noncomputable def f_X8_cut (o : Nat) (p0 : Int32) (p1 : Int32) (p2 : Int32) (p3 : Int32) (p4 : Int32) (h : fSt) : Option (Int32 × fSt) := f_X8_cut_L0 (some o) p0 p1 p2 p3 p4 h
noncomputable def f_X8_fromWholeNow_L0 (a0 : Option Nat) (a1 : Int32) (a2 : Int32) (a3 : Int32) (a4 : Int32) (h : fSt) : Option (Int32 × fSt) := (f_X8_point (Int32.toInt64 a2) (Int32.toInt64 a3) (1 : Int64) h).bind fun r1 => (fobj r1.2 a0 8).bind fun b5 => (f_X8_downAll 8 b5 a1 r1.1 r1.2).bind fun r3 => (f_X8_part r1.1 a4 r3.2).bind fun r7 => some (r7.1, r7.2)
noncomputable def f_X8_fromWholeNow (o : Nat) (p0 : Int32) (p1 : Int32) (p2 : Int32) (p3 : Int32) (h : fSt) : Option (Int32 × fSt) := f_X8_fromWholeNow_L0 (some o) p0 p1 p2 p3 h
noncomputable def f_X8_nextKeyNow_L67 (k4 : Option Nat → Int32 → Int32 → fSt → Option (Int32 × fSt)) (k17 : Option Nat → Int32 → Int32 → Int32 → fSt → Option (Int32 × fSt)) (a0 : Option Nat) (a1 : Int32) (a2 : Int32) (a3 : Int32) (h : fSt) : Option (Int32 × fSt) := k17 a0 a1 a2 (a3 + (1 : Int32)) h
noncomputable def f_X8_nextKeyNow_L60 (k4 : Option Nat → Int32 → Int32 → fSt → Option (Int32 × fSt)) (k17 : Option Nat → Int32 → Int32 → Int32 → fSt → Option (Int32 × fSt)) (a0 : Option Nat) (a2 : Int32) (a3 : Int32) (h : fSt) : Option (Int32 × fSt) := (fgR h a0 8 23).bind fun x1 => (faI h x1 0 a3).bind fun x3 => f_X8_nextKeyNow_L67 k4 k17 a0 x3 a2 a3 h
noncomputable def f_X8_nextKeyNow_L17 (k4 : Option Nat → Int32 → Int32 → fSt → Option (Int32 × fSt)) (n : Nat) : Option Nat → Int32 → Int32 → Int32 → fSt → Option (Int32 × fSt) := Nat.rec (motive := fun _ => Option Nat → Int32 → Int32 → Int32 → fSt → Option (Int32 × fSt)) (fun _ _ _ _ _ => none) (fun _ k17 (a0 : Option Nat) (a1 : Int32) (a2 : Int32) (a3 : Int32) (h : fSt) => (fgR h a0 8 22).bind fun x5 => (faI h x5 0 a2).bind fun x7 => (if ((a2 * (8 : Int32)) + x7) ≤ a3 then k4 a0 a1 (a2 + (1 : Int32)) h else (fgR h a0 8 23).bind fun x10 => (faI h x10 0 a3).bind fun x12 => (fgI h a0 8 25).bind fun x14 => (if x12 ≤ x14 then f_X8_nextKeyNow_L67 k4 k17 a0 a1 a2 a3 h else (if a1 = (-1 : Int32) then f_X8_nextKeyNow_L60 k4 k17 a0 a2 a3 h else (fgR h a0 8 23).bind fun x18 => (faI h x18 0 a3).bind fun x20 => (if a1 ≤ x20 then f_X8_nextKeyNow_L67 k4 k17 a0 a1 a2 a3 h else f_X8_nextKeyNow_L60 k4 k17 a0 a2 a3 h))))) n
noncomputable def f_X8_nextKeyNow_L4 (n : Nat) : Option Nat → Int32 → Int32 → fSt → Option (Int32 × fSt) := Nat.rec (motive := fun _ => Option Nat → Int32 → Int32 → fSt → Option (Int32 × fSt)) (fun _ _ _ _ => none) (fun _ k4 (a0 : Option Nat) (a1 : Int32) (a2 : Int32) (h : fSt) => (fgI h a0 8 17).bind fun x23 => (if x23 ≤ a2 then some (a1, h) else f_X8_nextKeyNow_L17 k4 4096 a0 a1 a2 (a2 * (8 : Int32)) h)) n
noncomputable def f_X8_nextKeyNow_L0 (a0 : Option Nat) (h : fSt) : Option (Int32 × fSt) := f_X8_nextKeyNow_L4 4096 a0 (-1 : Int32) (0 : Int32) h
noncomputable def f_X8_nextKeyNow (o : Nat) (h : fSt) : Option (Int32 × fSt) := f_X8_nextKeyNow_L0 (some o) h
noncomputable def f_X8_nodesNow_L27 (k4 : Option Nat → Int32 → Int32 → fSt → Option (Int32 × fSt)) (a0 : Option Nat) (a2 : Int32) (s1 : Int32) (s0 : Int32) (h : fSt) : Option (Int32 × fSt) := k4 a0 (s0 + s1) (a2 + (1 : Int32)) h
noncomputable def f_X8_nodesNow_L4 (n : Nat) : Option Nat → Int32 → Int32 → fSt → Option (Int32 × fSt) := Nat.rec (motive := fun _ => Option Nat → Int32 → Int32 → fSt → Option (Int32 × fSt)) (fun _ _ _ _ => none) (fun _ k4 (a0 : Option Nat) (a1 : Int32) (a2 : Int32) (h : fSt) => (fgI h a0 8 1).bind fun x1 => (if x1 ≤ a2 then some (a1, h) else (fgR h a0 8 2).bind fun x4 => (faI h x4 2 a2).bind fun x6 => (if x6 = 0 then f_X8_nodesNow_L27 k4 a0 a2 (1 : Int32) a1 h else f_X8_nodesNow_L27 k4 a0 a2 (0 : Int32) a1 h))) n
noncomputable def f_X8_nodesNow_L0 (a0 : Option Nat) (h : fSt) : Option (Int32 × fSt) := f_X8_nodesNow_L4 4096 a0 (0 : Int32) (0 : Int32) h
noncomputable def f_X8_nodesNow (o : Nat) (h : fSt) : Option (Int32 × fSt) := f_X8_nodesNow_L0 (some o) h
noncomputable def f_X8_hanging_L37 (k4 : Option Nat → Int32 → Int32 → Int32 → fSt → Option (Int32 × fSt)) (a0 : Option Nat) (a1 : Int32) (a3 : Int32) (s1 : Int32) (s0 : Int32) (h : fSt) : Option (Int32 × fSt) := k4 a0 a1 (s0 + s1) (a3 + (1 : Int32)) h
noncomputable def f_X8_hanging_L36 (k4 : Option Nat → Int32 → Int32 → Int32 → fSt → Option (Int32 × fSt)) (a0 : Option Nat) (a1 : Int32) (a3 : Int32) (s0 : Int32) (h : fSt) : Option (Int32 × fSt) := f_X8_hanging_L37 k4 a0 a1 a3 (0 : Int32) s0 h
noncomputable def f_X8_hanging_L4 (n : Nat) : Option Nat → Int32 → Int32 → Int32 → fSt → Option (Int32 × fSt) := Nat.rec (motive := fun _ => Option Nat → Int32 → Int32 → Int32 → fSt → Option (Int32 × fSt)) (fun _ _ _ _ _ => none) (fun _ k4 (a0 : Option Nat) (a1 : Int32) (a2 : Int32) (a3 : Int32) (h : fSt) => (fgI h a0 8 1).bind fun x1 => (if x1 ≤ a3 then some (a2, h) else (fgR h a0 8 2).bind fun x4 => (faI h x4 2 a3).bind fun x6 => (if x6 = 0 then (fgR h a0 8 6).bind fun x9 => (faI h x9 0 a3).bind fun x11 => (if x11 = a1 then f_X8_hanging_L37 k4 a0 a1 a3 (1 : Int32) a2 h else f_X8_hanging_L36 k4 a0 a1 a3 a2 h) else f_X8_hanging_L36 k4 a0 a1 a3 a2 h))) n
noncomputable def f_X8_hanging_L0 (a0 : Option Nat) (a1 : Int32) (h : fSt) : Option (Int32 × fSt) := f_X8_hanging_L4 4096 a0 a1 (0 : Int32) (1 : Int32) h
noncomputable def f_X8_hanging (o : Nat) (p0 : Int32) (h : fSt) : Option (Int32 × fSt) := f_X8_hanging_L0 (some o) p0 h
noncomputable def f_X8_isAhead_L58 (s0 : Int32) (h : fSt) : Option (Int32 × fSt) := if s0 = 0 ∨ s0 = 1 then some (s0, h) else none
noncomputable def f_X8_isAhead_L0 (a0 : Option Nat) (a1 : Int32) (a2 : Int32) (h : fSt) : Option (Int32 × fSt) := (fgR h a0 8 12).bind fun x2 => (faI h x2 0 a1).bind fun x4 => (fgR h a0 8 12).bind fun x6 => (faI h x6 0 a2).bind fun x8 => (if x4 = x8 then (fgR h a0 8 13).bind fun x11 => (faI h x11 0 a1).bind fun x13 => (fgR h a0 8 13).bind fun x15 => (faI h x15 0 a2).bind fun x17 => (if x17 ≤ x13 then f_X8_isAhead_L58 (0 : Int32) h else f_X8_isAhead_L58 (1 : Int32) h) else (fgR h a0 8 12).bind fun x20 => (faI h x20 0 a1).bind fun x22 => (fgR h a0 8 12).bind fun x24 => (faI h x24 0 a2).bind fun x26 => (if x26 ≤ x22 then f_X8_isAhead_L58 (0 : Int32) h else f_X8_isAhead_L58 (1 : Int32) h))
noncomputable def f_X8_isAhead (o : Nat) (p0 : Int32) (p1 : Int32) (h : fSt) : Option (Int32 × fSt) := f_X8_isAhead_L0 (some o) p0 p1 h
noncomputable def f_X8_order_L126 (self : Nat → Int32 → Option Nat → Int32 → fSt → Option (Int32 × fSt)) (k16 : Option Nat → Int32 → Option Nat → Int32 → Int32 → Option Nat → Int32 → fSt → Option (Int32 × fSt)) (a0 : Option Nat) (a1 : Int32) (a2 : Option Nat) (a3 : Int32) (a4 : Int32) (a5 : Option Nat) (a6 : Int32) (h : fSt) : Option (Int32 × fSt) := k16 a0 a1 a2 a3 a4 a5 (a6 + (1 : Int32)) h
noncomputable def f_X8_order_L110 (self : Nat → Int32 → Option Nat → Int32 → fSt → Option (Int32 × fSt)) (k16 : Option Nat → Int32 → Option Nat → Int32 → Int32 → Option Nat → Int32 → fSt → Option (Int32 × fSt)) (k55 : Option Nat → Int32 → Option Nat → Int32 → Int32 → Option Nat → Int32 → Int32 → Int32 → fSt → Option (Int32 × fSt)) (a0 : Option Nat) (a1 : Int32) (a2 : Option Nat) (a3 : Int32) (a4 : Int32) (a5 : Option Nat) (a6 : Int32) (a8 : Int32) (s1 : Int32) (s0 : Int32) (h : fSt) : Option (Int32 × fSt) := k55 a0 a1 a2 a3 a4 a5 a6 (s0 + s1) (a8 + (1 : Int32)) h
noncomputable def f_X8_order_L109 (self : Nat → Int32 → Option Nat → Int32 → fSt → Option (Int32 × fSt)) (k16 : Option Nat → Int32 → Option Nat → Int32 → Int32 → Option Nat → Int32 → fSt → Option (Int32 × fSt)) (k55 : Option Nat → Int32 → Option Nat → Int32 → Int32 → Option Nat → Int32 → Int32 → Int32 → fSt → Option (Int32 × fSt)) (a0 : Option Nat) (a1 : Int32) (a2 : Option Nat) (a3 : Int32) (a4 : Int32) (a5 : Option Nat) (a6 : Int32) (a8 : Int32) (s0 : Int32) (h : fSt) : Option (Int32 × fSt) := f_X8_order_L110 self k16 k55 a0 a1 a2 a3 a4 a5 a6 a8 (0 : Int32) s0 h
noncomputable def f_X8_order_L55 (self : Nat → Int32 → Option Nat → Int32 → fSt → Option (Int32 × fSt)) (k16 : Option Nat → Int32 → Option Nat → Int32 → Int32 → Option Nat → Int32 → fSt → Option (Int32 × fSt)) (n : Nat) : Option Nat → Int32 → Option Nat → Int32 → Int32 → Option Nat → Int32 → Int32 → Int32 → fSt → Option (Int32 × fSt) := Nat.rec (motive := fun _ => Option Nat → Int32 → Option Nat → Int32 → Int32 → Option Nat → Int32 → Int32 → Int32 → fSt → Option (Int32 × fSt)) (fun _ _ _ _ _ _ _ _ _ _ => none) (fun _ k55 (a0 : Option Nat) (a1 : Int32) (a2 : Option Nat) (a3 : Int32) (a4 : Int32) (a5 : Option Nat) (a6 : Int32) (a7 : Int32) (a8 : Int32) (h : fSt) => (fgI h a0 8 1).bind fun x1 => (if x1 ≤ a8 then (fsI h a5 0 a7 a6).bind fun h4 => f_X8_order_L126 self k16 a0 a1 a2 a3 a4 a5 a6 h4 else (if a8 = a6 then f_X8_order_L109 self k16 k55 a0 a1 a2 a3 a4 a5 a6 a8 a7 h else (fgR h a0 8 2).bind fun x7 => (faI h x7 2 a8).bind fun x9 => (if x9 = 0 then (fgR h a0 8 6).bind fun x12 => (faI h x12 0 a8).bind fun x14 => (if x14 = a1 then (fobj h a0 8).bind fun b19 => (f_X8_isAhead b19 a8 a6 h).bind fun r17 => (if r17.1 = 0 then f_X8_order_L109 self k16 k55 a0 a1 a2 a3 a4 a5 a6 a8 a7 r17.2 else f_X8_order_L110 self k16 k55 a0 a1 a2 a3 a4 a5 a6 a8 (1 : Int32) a7 r17.2) else f_X8_order_L109 self k16 k55 a0 a1 a2 a3 a4 a5 a6 a8 a7 h) else f_X8_order_L109 self k16 k55 a0 a1 a2 a3 a4 a5 a6 a8 a7 h)))) n
noncomputable def f_X8_order_L186 (self : Nat → Int32 → Option Nat → Int32 → fSt → Option (Int32 × fSt)) (n : Nat) : Option Nat → Option Nat → Int32 → Option Nat → Int32 → Int32 → fSt → Option (Int32 × fSt) := Nat.rec (motive := fun _ => Option Nat → Option Nat → Int32 → Option Nat → Int32 → Int32 → fSt → Option (Int32 × fSt)) (fun _ _ _ _ _ _ _ => none) (fun _ k186 (a0 : Option Nat) (a2 : Option Nat) (a4 : Int32) (a5 : Option Nat) (a6 : Int32) (a7 : Int32) (h : fSt) => (if a4 ≤ a7 then some (a6, h) else (faI h a5 0 a7).bind fun x23 => (fobj h a0 8).bind fun b27 => (self b27 x23 a2 a6 h).bind fun r25 => k186 a0 a2 a4 a5 r25.1 (a7 + (1 : Int32)) r25.2)) n
noncomputable def f_X8_order_L178 (self : Nat → Int32 → Option Nat → Int32 → fSt → Option (Int32 × fSt)) (a0 : Option Nat) (a1 : Int32) (a2 : Option Nat) (a4 : Int32) (a5 : Option Nat) (a6 : Int32) (a7 : Int32) (h : fSt) : Option (Int32 × fSt) := (fsI h a2 0 a6 a1).bind fun h29 => f_X8_order_L186 self 4096 a0 a2 a4 a5 (a6 + (1 : Int32)) a7 h29
noncomputable def f_X8_order_L138 (self : Nat → Int32 → Option Nat → Int32 → fSt → Option (Int32 × fSt)) (n : Nat) : Option Nat → Int32 → Option Nat → Int32 → Option Nat → Int32 → Int32 → fSt → Option (Int32 × fSt) := Nat.rec (motive := fun _ => Option Nat → Int32 → Option Nat → Int32 → Option Nat → Int32 → Int32 → fSt → Option (Int32 × fSt)) (fun _ _ _ _ _ _ _ _ => none) (fun _ k138 (a0 : Option Nat) (a1 : Int32) (a2 : Option Nat) (a4 : Int32) (a5 : Option Nat) (a6 : Int32) (a7 : Int32) (h : fSt) => (if a4 ≤ a7 then f_X8_order_L178 self a0 a1 a2 a4 a5 a6 a7 h else (fgR h a0 8 12).bind fun x32 => (faI h a5 0 a7).bind fun x34 => (faI h x32 0 x34).bind fun x36 => (if 0 ≤ x36 then f_X8_order_L178 self a0 a1 a2 a4 a5 a6 a7 h else (faI h a5 0 a7).bind fun x39 => (fobj h a0 8).bind fun b43 => (self b43 x39 a2 a6 h).bind fun r41 => k138 a0 a1 a2 a4 a5 r41.1 (a7 + (1 : Int32)) r41.2))) n
noncomputable def f_X8_order_L16 (self : Nat → Int32 → Option Nat → Int32 → fSt → Option (Int32 × fSt)) (n : Nat) : Option Nat → Int32 → Option Nat → Int32 → Int32 → Option Nat → Int32 → fSt → Option (Int32 × fSt) := Nat.rec (motive := fun _ => Option Nat → Int32 → Option Nat → Int32 → Int32 → Option Nat → Int32 → fSt → Option (Int32 × fSt)) (fun _ _ _ _ _ _ _ _ => none) (fun _ k16 (a0 : Option Nat) (a1 : Int32) (a2 : Option Nat) (a3 : Int32) (a4 : Int32) (a5 : Option Nat) (a6 : Int32) (h : fSt) => (fgI h a0 8 1).bind fun x45 => (if x45 ≤ a6 then f_X8_order_L138 self 4096 a0 a1 a2 a4 a5 a3 (0 : Int32) h else (fgR h a0 8 2).bind fun x48 => (faI h x48 2 a6).bind fun x50 => (if x50 = 0 then (fgR h a0 8 6).bind fun x53 => (faI h x53 0 a6).bind fun x55 => (if x55 = a1 then f_X8_order_L55 self k16 4096 a0 a1 a2 a3 a4 a5 a6 (0 : Int32) (1 : Int32) h else f_X8_order_L126 self k16 a0 a1 a2 a3 a4 a5 a6 h) else f_X8_order_L126 self k16 a0 a1 a2 a3 a4 a5 a6 h))) n
noncomputable def f_X8_order_L0 (self : Nat → Int32 → Option Nat → Int32 → fSt → Option (Int32 × fSt)) (a0 : Option Nat) (a1 : Int32) (a2 : Option Nat) (a3 : Int32) (h : fSt) : Option (Int32 × fSt) := (fobj h a0 8).bind fun b60 => (f_X8_hanging b60 a1 h).bind fun r58 => (if r58.1 < 0 ∨ 67000000 < (r58.1).toNatClampNeg then none else (fnew r58.2 (.inr (0, (r58.1).toNatClampNeg, .inl (fun _ => 0))) (r58.1).toNatClampNeg).bind fun r63 => f_X8_order_L16 self 4096 a0 a1 a2 a3 r58.1 (some r63.1) (1 : Int32) r63.2)
noncomputable def f_X8_order (d : Nat) : Nat → Int32 → Option Nat → Int32 → fSt → Option (Int32 × fSt) := Nat.rec (motive := fun _ => Nat → Int32 → Option Nat → Int32 → fSt → Option (Int32 × fSt)) (fun _ _ _ _ _ => none) (fun _ self (o : Nat) (p0 : Int32) (p1 : Option Nat) (p2 : Int32) (h : fSt) => f_X8_order_L0 self (some o) p0 p1 p2 h) d
noncomputable def f_X8_ordered_L0 (a0 : Option Nat) (h : fSt) : Option (Option Nat × fSt) := (fobj h a0 8).bind fun b3 => (f_X8_nodesNow b3 h).bind fun r1 => (if r1.1 < 0 ∨ 67000000 < (r1.1).toNatClampNeg then none else (fnew r1.2 (.inr (0, (r1.1).toNatClampNeg, .inl (fun _ => 0))) (r1.1).toNatClampNeg).bind fun r6 => (fobj r6.2 a0 8).bind fun b10 => (f_X8_order 8 b10 (0 : Int32) (some r6.1) (0 : Int32) r6.2).bind fun r8 => some ((some r6.1), r8.2))
noncomputable def f_X8_ordered (o : Nat) (h : fSt) : Option (Option Nat × fSt) := f_X8_ordered_L0 (some o) h
noncomputable def f_X8_pickNow_L13 (n : Nat) : Option Nat → Int32 → Int32 → Int32 → Option Nat → Int32 → fSt → Option (Int32 × fSt) := Nat.rec (motive := fun _ => Option Nat → Int32 → Int32 → Int32 → Option Nat → Int32 → fSt → Option (Int32 × fSt)) (fun _ _ _ _ _ _ _ => none) (fun _ k13 (a0 : Option Nat) (a1 : Int32) (a2 : Int32) (a3 : Int32) (a4 : Option Nat) (a5 : Int32) (h : fSt) => (if a5 < 0 then some ((-1 : Int32), h) else (faI h a4 0 a5).bind fun x2 => (fobj h a0 8).bind fun b6 => (f_X8_coversNow b6 x2 a1 a2 a3 h).bind fun r4 => (if r4.1 = 0 then k13 a0 a1 a2 a3 a4 (a5 + (-1 : Int32)) r4.2 else (faI r4.2 a4 0 a5).bind fun x9 => some (x9, r4.2)))) n
noncomputable def f_X8_pickNow_L0 (a0 : Option Nat) (a1 : Int32) (a2 : Int32) (a3 : Int32) (h : fSt) : Option (Int32 × fSt) := (fobj h a0 8).bind fun b13 => (f_X8_ordered b13 h).bind fun r11 => (flen r11.2 r11.1 0).bind fun x15 => f_X8_pickNow_L13 4096 a0 a1 a2 a3 r11.1 (x15 - (1 : Int32)) r11.2
noncomputable def f_X8_pickNow (o : Nat) (p0 : Int32) (p1 : Int32) (p2 : Int32) (h : fSt) : Option (Int32 × fSt) := f_X8_pickNow_L0 (some o) p0 p1 p2 h
noncomputable def f_X8_placeIn_L2 (n : Nat) : Option Nat → Int32 → Int32 → fSt → Option (Int32 × fSt) := Nat.rec (motive := fun _ => Option Nat → Int32 → Int32 → fSt → Option (Int32 × fSt)) (fun _ _ _ _ => none) (fun _ k2 (a0 : Option Nat) (a1 : Int32) (a2 : Int32) (h : fSt) => (faI h a0 0 a2).bind fun x1 => (if x1 = a1 then some (a2, h) else k2 a0 a1 (a2 + (1 : Int32)) h)) n
noncomputable def f_X8_placeIn_L0 (a0 : Option Nat) (a1 : Int32) (h : fSt) : Option (Int32 × fSt) := f_X8_placeIn_L2 4096 a0 a1 (0 : Int32) h
noncomputable def f_X8_placeIn (p0 : Option Nat) (p1 : Int32) (h : fSt) : Option (Int32 × fSt) := f_X8_placeIn_L0 p0 p1 h
noncomputable def f_X8_strengthNow_L29 (self : Nat → Int32 → fSt → Option (Int32 × fSt)) (s0 : Int32) (h : fSt) : Option (Int32 × fSt) := some (s0, h)
noncomputable def f_X8_strengthNow_L0 (self : Nat → Int32 → fSt → Option (Int32 × fSt)) (a0 : Option Nat) (a1 : Int32) (h : fSt) : Option (Int32 × fSt) := (if a1 = 0 then f_X8_strengthNow_L29 self (100 : Int32) h else (fgR h a0 8 6).bind fun x2 => (faI h x2 0 a1).bind fun x4 => (fobj h a0 8).bind fun b8 => (self b8 x4 h).bind fun r6 => (fobj r6.2 a0 8).bind fun b12 => (f_X8_has b12 a1 (3 : Int32) r6.2).bind fun r10 => f_X8_strengthNow_L29 self ((r6.1 * r10.1) / (100 : Int32)) r10.2)
noncomputable def f_X8_strengthNow (d : Nat) : Nat → Int32 → fSt → Option (Int32 × fSt) := Nat.rec (motive := fun _ => Nat → Int32 → fSt → Option (Int32 × fSt)) (fun _ _ _ => none) (fun _ self (o : Nat) (p0 : Int32) (h : fSt) => f_X8_strengthNow_L0 self (some o) p0 h) d
noncomputable def f_X8_toWholeNow_L0 (a0 : Option Nat) (a1 : Int32) (a2 : Int32) (a3 : Int32) (a4 : Int32) (h : fSt) : Option (Int32 × fSt) := (f_X8_point (Int32.toInt64 a2) (Int32.toInt64 a3) (1 : Int64) h).bind fun r1 => (fobj r1.2 a0 8).bind fun b5 => (f_X8_upAll b5 a1 r1.1 r1.2).bind fun r3 => (f_X8_part r1.1 a4 r3.2).bind fun r7 => some (r7.1, r7.2)
noncomputable def f_X8_toWholeNow (o : Nat) (p0 : Int32) (p1 : Int32) (p2 : Int32) (p3 : Int32) (h : fSt) : Option (Int32 × fSt) := f_X8_toWholeNow_L0 (some o) p0 p1 p2 p3 h
noncomputable def f_X8_digest_L300 (k53 : Option Nat → Int64 → Option Nat → Int32 → fSt → Option (Int64 × fSt)) (a0 : Option Nat) (a1 : Int64) (a3 : Option Nat) (a4 : Int32) (h : fSt) : Option (Int64 × fSt) := k53 a0 a1 a3 (a4 + (1 : Int32)) h
noncomputable def f_X8_digest_L256 (k53 : Option Nat → Int64 → Option Nat → Int32 → fSt → Option (Int64 × fSt)) (n : Nat) : Option Nat → Int64 → Option Nat → Int32 → Int32 → fSt → Option (Int64 × fSt) := Nat.rec (motive := fun _ => Option Nat → Int64 → Option Nat → Int32 → Int32 → fSt → Option (Int64 × fSt)) (fun _ _ _ _ _ _ => none) (fun _ k256 (a0 : Option Nat) (a1 : Int64) (a3 : Option Nat) (a4 : Int32) (a5 : Int32) (h : fSt) => (if (4 : Int32) ≤ a5 then f_X8_digest_L300 k53 a0 a1 a3 a4 h else (fobj h a0 8).bind fun b4 => (f_X8_boundNow b4 a4 a5 (0 : Int32) h).bind fun r2 => (fobj r2.2 a0 8).bind fun b8 => (f_X8_boundNow b8 a4 a5 (1 : Int32) r2.2).bind fun r6 => k256 a0 ((((a1 * (31 : Int64)) + (Int32.toInt64 r2.1)) * (31 : Int64)) + (Int32.toInt64 r6.1)) a3 a4 (a5 + (1 : Int32)) r6.2)) n
noncomputable def f_X8_digest_L223 (k53 : Option Nat → Int64 → Option Nat → Int32 → fSt → Option (Int64 × fSt)) (n : Nat) : Option Nat → Int64 → Option Nat → Int32 → Int32 → fSt → Option (Int64 × fSt) := Nat.rec (motive := fun _ => Option Nat → Int64 → Option Nat → Int32 → Int32 → fSt → Option (Int64 × fSt)) (fun _ _ _ _ _ _ => none) (fun _ k223 (a0 : Option Nat) (a1 : Int64) (a3 : Option Nat) (a4 : Int32) (a5 : Int32) (h : fSt) => (if (4 : Int32) ≤ a5 then f_X8_digest_L256 k53 4096 a0 a1 a3 a4 (0 : Int32) h else (fobj h a0 8).bind fun b13 => (f_X8_fromWholeNow b13 a4 (1 : Int32) (2 : Int32) a5 h).bind fun r11 => k223 a0 ((a1 * (31 : Int64)) + (Int32.toInt64 r11.1)) a3 a4 (a5 + (1 : Int32)) r11.2)) n
noncomputable def f_X8_digest_L190 (k53 : Option Nat → Int64 → Option Nat → Int32 → fSt → Option (Int64 × fSt)) (n : Nat) : Option Nat → Int64 → Option Nat → Int32 → Int32 → fSt → Option (Int64 × fSt) := Nat.rec (motive := fun _ => Option Nat → Int64 → Option Nat → Int32 → Int32 → fSt → Option (Int64 × fSt)) (fun _ _ _ _ _ _ => none) (fun _ k190 (a0 : Option Nat) (a1 : Int64) (a3 : Option Nat) (a4 : Int32) (a5 : Int32) (h : fSt) => (if (4 : Int32) ≤ a5 then f_X8_digest_L223 k53 4096 a0 a1 a3 a4 (0 : Int32) h else (fobj h a0 8).bind fun b18 => (f_X8_toWholeNow b18 a4 (1 : Int32) (2 : Int32) a5 h).bind fun r16 => k190 a0 ((a1 * (31 : Int64)) + (Int32.toInt64 r16.1)) a3 a4 (a5 + (1 : Int32)) r16.2)) n
noncomputable def f_X8_digest_L160 (k53 : Option Nat → Int64 → Option Nat → Int32 → fSt → Option (Int64 × fSt)) (a0 : Option Nat) (a3 : Option Nat) (a4 : Int32) (s1 : Int32) (s0 : Int64) (h : fSt) : Option (Int64 × fSt) := (fobj h a0 8).bind fun b22 => (f_X8_strengthNow 8 b22 a4 h).bind fun r20 => (f_X8_placeIn a3 a4 r20.2).bind fun r24 => f_X8_digest_L190 k53 4096 a0 (((((s0 + (Int32.toInt64 s1)) * (31 : Int64)) + (Int32.toInt64 r20.1)) * (31 : Int64)) + (Int32.toInt64 r24.1)) a3 a4 (0 : Int32) r24.2
noncomputable def f_X8_digest_L113 (k53 : Option Nat → Int64 → Option Nat → Int32 → fSt → Option (Int64 × fSt)) (n : Nat) : Option Nat → Int64 → Option Nat → Int32 → Int32 → fSt → Option (Int64 × fSt) := Nat.rec (motive := fun _ => Option Nat → Int64 → Option Nat → Int32 → Int32 → fSt → Option (Int64 × fSt)) (fun _ _ _ _ _ _ => none) (fun _ k113 (a0 : Option Nat) (a1 : Int64) (a3 : Option Nat) (a4 : Int32) (a5 : Int32) (h : fSt) => (if (4 : Int32) ≤ a5 then (fobj h a0 8).bind fun b29 => (f_X8_isShownNow b29 a4 h).bind fun r27 => (if r27.1 = 0 then f_X8_digest_L160 k53 a0 a3 a4 (0 : Int32) (a1 * (31 : Int64)) r27.2 else f_X8_digest_L160 k53 a0 a3 a4 (1 : Int32) (a1 * (31 : Int64)) r27.2) else (fobj h a0 8).bind fun b34 => (f_X8_has b34 a4 a5 h).bind fun r32 => k113 a0 ((a1 * (31 : Int64)) + (Int32.toInt64 r32.1)) a3 a4 (a5 + (1 : Int32)) r32.2)) n
noncomputable def f_X8_digest_L309 (n : Nat) : Option Nat → Int64 → Int32 → fSt → Option (Int64 × fSt) := Nat.rec (motive := fun _ => Option Nat → Int64 → Int32 → fSt → Option (Int64 × fSt)) (fun _ _ _ _ => none) (fun _ k309 (a0 : Option Nat) (a1 : Int64) (a4 : Int32) (h : fSt) => (if (100 : Int32) ≤ a4 then (fobj h a0 8).bind fun b39 => (f_X8_changesNow b39 (0 : Int32) (7 : Int32) h).bind fun r37 => some (((a1 * (31 : Int64)) + (Int32.toInt64 r37.1)), r37.2) else (fobj h a0 8).bind fun b43 => (f_X8_pickNow b43 a4 a4 (1 : Int32) h).bind fun r41 => k309 a0 ((a1 * (31 : Int64)) + (Int32.toInt64 r41.1)) (a4 + (10 : Int32)) r41.2)) n
noncomputable def f_X8_digest_L53 (n : Nat) : Option Nat → Int64 → Option Nat → Int32 → fSt → Option (Int64 × fSt) := Nat.rec (motive := fun _ => Option Nat → Int64 → Option Nat → Int32 → fSt → Option (Int64 × fSt)) (fun _ _ _ _ _ => none) (fun _ k53 (a0 : Option Nat) (a1 : Int64) (a3 : Option Nat) (a4 : Int32) (h : fSt) => (fgI h a0 8 1).bind fun x45 => (if x45 ≤ a4 then f_X8_digest_L309 4096 a0 a1 (0 : Int32) h else (fgR h a0 8 2).bind fun x48 => (faI h x48 2 a4).bind fun x50 => (if x50 = 0 then (fgR h a0 8 6).bind fun x53 => (faI h x53 0 a4).bind fun x55 => (fobj h a0 8).bind fun b59 => (f_X8_levelNow b59 a4 h).bind fun r57 => f_X8_digest_L113 k53 4096 a0 ((((((a1 * (31 : Int64)) + (Int32.toInt64 a4)) * (31 : Int64)) + (Int32.toInt64 x55)) * (31 : Int64)) + (Int32.toInt64 r57.1)) a3 a4 (0 : Int32) r57.2 else f_X8_digest_L300 k53 a0 a1 a3 a4 h))) n
noncomputable def f_X8_digest_L0 (a0 : Option Nat) (h : fSt) : Option (Int64 × fSt) := (fput h a0 8 0 (.int (0 : Int32))).bind fun h61 => (fgI h61 a0 8 1).bind fun x63 => (fobj h61 a0 8).bind fun b67 => (f_X8_nodesNow b67 h61).bind fun r65 => (fgI r65.2 a0 8 17).bind fun x69 => (fobj r65.2 a0 8).bind fun b73 => (f_X8_nextKeyNow b73 r65.2).bind fun r71 => (fobj r71.2 a0 8).bind fun b77 => (f_X8_ordered b77 r71.2).bind fun r75 => f_X8_digest_L53 4096 a0 ((((((((82057 : Int64) + (Int32.toInt64 x63)) * (31 : Int64)) + (Int32.toInt64 r65.1)) * (31 : Int64)) + (Int32.toInt64 x69)) * (31 : Int64)) + (Int32.toInt64 r71.1)) r75.1 (0 : Int32) r75.2
noncomputable def f_X8_digest (o : Nat) (h : fSt) : Option (Int64 × fSt) := f_X8_digest_L0 (some o) h
set_option maxHeartbeats 4000000 in
set_option maxRecDepth 100000 in
theorem w_X8_isPoint_L41 {p : Program} {l : Launch} {e : Env} {s : State} {m : MethodId} {args : Array Value} {below : List Frame} {meth : Method} {c : Code} {D : va_G} {cA : Nat → ClassId} {h0 : fSt} {r : (Int32 × fSt)} (M : fM p s m args meth c D cA h0 { frames := 1, cells := fCB h0 - fZ h0, slots := fLB h0 - fL h0, locals := 22 } cX8_isPoint 3 (some (.boolean)) RX8) (hfl : l.stackTraces = false) (s0 : Int32) (h : fSt) (hf : f_X8_isPoint_L41 s0 h = some r) : ∀ (H : Heap) (locs : List Loc) (cells slots : Nat) (ls : Array Slot), fCur D cA s h0 h H locs → lv_has ls 3 [] → W p l e { frames := 1, cells := fCB h0 - fZ h0, slots := fLB h0 - fL h0, locals := 22 } s m args below meth c H locs cells slots (MQ below (fQ D cA h0 r.2 (some (.int r.1))) args s (fCB h0 - fZ h0) (fLB h0 - fL h0) (fA h0)) (F0 m 41 ls [.int s0]) := by
  obtain ⟨hx, hb, hml, hr, hlocks, hts, hown, K, hR⟩ := id M
  intro H locs cells slots ls hC hl
  by_cases c1 : s0 = 0 ∨ s0 = 1
  rotate_left
  · exact nomatch (oneg c1 hf)
  obtain rfl := Option.some.inj (opos c1 hf)
  exact fr_zret hx hb hr hlocks hC c1 dX8_isPoint_41
set_option maxHeartbeats 4000000 in
set_option maxRecDepth 100000 in
theorem w_X8_isPoint_L40 {p : Program} {l : Launch} {e : Env} {s : State} {m : MethodId} {args : Array Value} {below : List Frame} {meth : Method} {c : Code} {D : va_G} {cA : Nat → ClassId} {h0 : fSt} {r : (Int32 × fSt)} (M : fM p s m args meth c D cA h0 { frames := 1, cells := fCB h0 - fZ h0, slots := fLB h0 - fL h0, locals := 22 } cX8_isPoint 3 (some (.boolean)) RX8) (hfl : l.stackTraces = false)  (h : fSt) (hf : f_X8_isPoint_L40  h = some r) : ∀ (H : Heap) (locs : List Loc) (cells slots : Nat) (ls : Array Slot), fCur D cA s h0 h H locs → lv_has ls 3 [] → W p l e { frames := 1, cells := fCB h0 - fZ h0, slots := fLB h0 - fL h0, locals := 22 } s m args below meth c H locs cells slots (MQ below (fQ D cA h0 r.2 (some (.int r.1))) args s (fCB h0 - fZ h0) (fLB h0 - fL h0) (fA h0)) (F0 m 40 ls []) := by
  obtain ⟨hx, hb, hml, hr, hlocks, hts, hown, K, hR⟩ := id M
  intro H locs cells slots ls hC hl
  refine lv_iconst (v := (0 : Int32)) hx hb dX8_isPoint_40 (by decide) ?_
  exact w_X8_isPoint_L41 M hfl _ _ hf _ _ _ _ _ hC (lv_sub hl [] rfl)
set_option maxHeartbeats 4000000 in
set_option maxRecDepth 100000 in
theorem w_X8_isPoint_L0 {p : Program} {l : Launch} {e : Env} {s : State} {m : MethodId} {args : Array Value} {below : List Frame} {meth : Method} {c : Code} {D : va_G} {cA : Nat → ClassId} {h0 : fSt} {r : (Int32 × fSt)} (M : fM p s m args meth c D cA h0 { frames := 1, cells := fCB h0 - fZ h0, slots := fLB h0 - fL h0, locals := 22 } cX8_isPoint 3 (some (.boolean)) RX8) (hfl : l.stackTraces = false) (a0 : Int32) (a1 : Int32) (a2 : Int32) (h : fSt) (hf : f_X8_isPoint_L0 a0 a1 a2 h = some r) : ∀ (H : Heap) (locs : List Loc) (cells slots : Nat) (ls : Array Slot), fCur D cA s h0 h H locs → lv_has ls 3 [(0, .int a0), (1, .int a1), (2, .int a2)] → W p l e { frames := 1, cells := fCB h0 - fZ h0, slots := fLB h0 - fL h0, locals := 22 } s m args below meth c H locs cells slots (MQ below (fQ D cA h0 r.2 (some (.int r.1))) args s (fCB h0 - fZ h0) (fLB h0 - fL h0) (fA h0)) (F0 m 0 ls []) := by
  obtain ⟨hx, hb, hml, hr, hlocks, hts, hown, K, hR⟩ := id M
  intro H locs cells slots ls hC hl
  refine lv_iload_n hx hb dX8_isPoint_0 rfl (lv_at hl 0 rfl) ?_
  refine lv_sipush (v := (-10000 : Int32)) hx hb dX8_isPoint_1 (by decide) ?_
  refine lv_sipush (v := (10000 : Int32)) hx hb dX8_isPoint_4 (by decide) ?_
  obtain ⟨r2, g3, hf⟩ := obind hf
  refine fr_callS hx hb hml hts hown K hC hR (c_X8_isIn hfl D cA g3) 3 kw1066 kw1064 kw1065 kw62 (by decide +kernel) ⟨by exact Nat.le_of_ble_eq_true rfl, by exact Nat.le_of_ble_eq_true rfl⟩ rfl hl.1 (cat8 _ (by exact Nat.le_of_ble_eq_true rfl)) dX8_isPoint_7 rfl (fun H locs _ _ hC => ?_)
  refine lv_if_eq (tgt := 40) hx hb dX8_isPoint_10 (by decide) (fun c4 => ?_) (fun c4 => ?_)
  · replace hf := opos c4 hf
    exact w_X8_isPoint_L40 M hfl _ hf _ _ _ _ _ hC (lv_sub hl [] rfl)
  · replace hf := oneg c4 hf
    refine lv_iload_n hx hb dX8_isPoint_13 rfl (lv_at hl 1 rfl) ?_
    refine lv_sipush (v := (-10000 : Int32)) hx hb dX8_isPoint_14 (by decide) ?_
    refine lv_sipush (v := (10000 : Int32)) hx hb dX8_isPoint_17 (by decide) ?_
    obtain ⟨r5, g6, hf⟩ := obind hf
    refine fr_callS hx hb hml hts hown K hC hR (c_X8_isIn hfl D cA g6) 3 kw1066 kw1064 kw1065 kw62 (by decide +kernel) ⟨by exact Nat.le_of_ble_eq_true rfl, by exact Nat.le_of_ble_eq_true rfl⟩ rfl hl.1 (cat8 _ (by exact Nat.le_of_ble_eq_true rfl)) dX8_isPoint_20 rfl (fun H locs _ _ hC => ?_)
    refine lv_if_eq (tgt := 40) hx hb dX8_isPoint_23 (by decide) (fun c7 => ?_) (fun c7 => ?_)
    · replace hf := opos c7 hf
      exact w_X8_isPoint_L40 M hfl _ hf _ _ _ _ _ hC (lv_sub hl [] rfl)
    · replace hf := oneg c7 hf
      refine lv_iload_n hx hb dX8_isPoint_26 rfl (lv_at hl 2 rfl) ?_
      refine lv_iconst (v := (1 : Int32)) hx hb dX8_isPoint_27 (by decide) ?_
      refine lv_bipush (v := (60 : Int32)) hx hb dX8_isPoint_28 (by decide) ?_
      obtain ⟨r8, g9, hf⟩ := obind hf
      refine fr_callS hx hb hml hts hown K hC hR (c_X8_isIn hfl D cA g9) 3 kw1066 kw1064 kw1065 kw62 (by decide +kernel) ⟨by exact Nat.le_of_ble_eq_true rfl, by exact Nat.le_of_ble_eq_true rfl⟩ rfl hl.1 (cat8 _ (by exact Nat.le_of_ble_eq_true rfl)) dX8_isPoint_30 rfl (fun H locs _ _ hC => ?_)
      refine lv_if_eq (tgt := 40) hx hb dX8_isPoint_33 (by decide) (fun c10 => ?_) (fun c10 => ?_)
      · replace hf := opos c10 hf
        exact w_X8_isPoint_L40 M hfl _ hf _ _ _ _ _ hC (lv_sub hl [] rfl)
      · replace hf := oneg c10 hf
        refine lv_iconst (v := (1 : Int32)) hx hb dX8_isPoint_36 (by decide) ?_
        refine lv_goto (tgt := 41) hx hb dX8_isPoint_37 (by decide) ?_
        exact w_X8_isPoint_L41 M hfl _ _ hf _ _ _ _ _ hC (lv_sub hl [] rfl)
set_option maxRecDepth 100000 in
theorem c_X8_isPoint {l : Launch} (hfl : l.stackTraces = false) (D : va_G) (cA : Nat → ClassId) {p0 : Int32} {p1 : Int32} {p2 : Int32} {h : fSt} {r : (Int32 × fSt)} (hf : f_X8_isPoint p0 p1 p2 h = some r) : fMet l yX8_isPoint (wsC yX8_isPoint cX8_isPoint 3 (some (.boolean))) (1) (22) D cA [.int p0, .int p1, .int p2] h r.2 (some (.int r.1)) := by
  exact fMet.of (own := RX8) (by decide +kernel) rfl (lva1 rfl (lva1 rfl (lva1 rfl lva0))) (lgl1 rfl (lgl1 rfl (lgl1 rfl lgl0))) (Nat.le_of_ble_eq_true rfl) (fun p e s m args below meth c ls hnm _ M hC hl => by
    have hl : lv_has ls 3 [(0, .int p0), (1, .int p1), (2, .int p2)] := hl
    exact w_X8_isPoint_L0 M hfl _ _ _ _ hf _ _ _ _ _ hC (lv_sub hl [0, 1, 2] rfl))
set_option maxHeartbeats 4000000 in
set_option maxRecDepth 100000 in
theorem w_X8_covers_L55 {p : Program} {l : Launch} {e : Env} {s : State} {m : MethodId} {args : Array Value} {below : List Frame} {meth : Method} {c : Code} {D : va_G} {cA : Nat → ClassId} {h0 : fSt} {r : (Int32 × fSt)} (M : fM p s m args meth c D cA h0 { frames := 5, cells := fCB h0 - fZ h0, slots := fLB h0 - fL h0, locals := 140 } cX8_covers 5 (some (.boolean)) RX8) (hfl : l.stackTraces = false) (s0 : Int32) (h : fSt) (hf : f_X8_covers_L55 s0 h = some r) : ∀ (H : Heap) (locs : List Loc) (cells slots : Nat) (ls : Array Slot), fCur D cA s h0 h H locs → lv_has ls 5 [] → W p l e { frames := 5, cells := fCB h0 - fZ h0, slots := fLB h0 - fL h0, locals := 140 } s m args below meth c H locs cells slots (MQ below (fQ D cA h0 r.2 (some (.int r.1))) args s (fCB h0 - fZ h0) (fLB h0 - fL h0) (fA h0)) (F0 m 55 ls [.int s0]) := by
  obtain ⟨hx, hb, hml, hr, hlocks, hts, hown, K, hR⟩ := id M
  intro H locs cells slots ls hC hl
  by_cases c1 : s0 = 0 ∨ s0 = 1
  rotate_left
  · exact nomatch (oneg c1 hf)
  obtain rfl := Option.some.inj (opos c1 hf)
  exact fr_zret hx hb hr hlocks hC c1 dX8_covers_55
set_option maxHeartbeats 4000000 in
set_option maxRecDepth 100000 in
theorem w_X8_covers_L54 {p : Program} {l : Launch} {e : Env} {s : State} {m : MethodId} {args : Array Value} {below : List Frame} {meth : Method} {c : Code} {D : va_G} {cA : Nat → ClassId} {h0 : fSt} {r : (Int32 × fSt)} (M : fM p s m args meth c D cA h0 { frames := 5, cells := fCB h0 - fZ h0, slots := fLB h0 - fL h0, locals := 140 } cX8_covers 5 (some (.boolean)) RX8) (hfl : l.stackTraces = false)  (h : fSt) (hf : f_X8_covers_L54  h = some r) : ∀ (H : Heap) (locs : List Loc) (cells slots : Nat) (ls : Array Slot), fCur D cA s h0 h H locs → lv_has ls 5 [] → W p l e { frames := 5, cells := fCB h0 - fZ h0, slots := fLB h0 - fL h0, locals := 140 } s m args below meth c H locs cells slots (MQ below (fQ D cA h0 r.2 (some (.int r.1))) args s (fCB h0 - fZ h0) (fLB h0 - fL h0) (fA h0)) (F0 m 54 ls []) := by
  obtain ⟨hx, hb, hml, hr, hlocks, hts, hown, K, hR⟩ := id M
  intro H locs cells slots ls hC hl
  refine lv_iconst (v := (0 : Int32)) hx hb dX8_covers_54 (by decide) ?_
  exact w_X8_covers_L55 M hfl _ _ hf _ _ _ _ _ hC (lv_sub hl [] rfl)
set_option maxHeartbeats 4000000 in
set_option maxRecDepth 100000 in
theorem w_X8_covers_L28 {p : Program} {l : Launch} {e : Env} {s : State} {m : MethodId} {args : Array Value} {below : List Frame} {meth : Method} {c : Code} {D : va_G} {cA : Nat → ClassId} {h0 : fSt} {r : (Int32 × fSt)} (M : fM p s m args meth c D cA h0 { frames := 5, cells := fCB h0 - fZ h0, slots := fLB h0 - fL h0, locals := 140 } cX8_covers 5 (some (.boolean)) RX8) (hfl : l.stackTraces = false) (a0 : Option Nat) (a1 : Int32) (a2 : Int32) (a3 : Int32) (a4 : Int32) (s1 : Int32) (s0 : Option Nat) (h : fSt) (hf : f_X8_covers_L28 a0 a1 a2 a3 a4 s1 s0 h = some r) : ∀ (H : Heap) (locs : List Loc) (cells slots : Nat) (ls : Array Slot), fCur D cA s h0 h H locs → lv_has ls 5 [(0, va_rf a0), (1, .int a1), (2, .int a2), (3, .int a3), (4, .int a4)] → W p l e { frames := 5, cells := fCB h0 - fZ h0, slots := fLB h0 - fL h0, locals := 140 } s m args below meth c H locs cells slots (MQ below (fQ D cA h0 r.2 (some (.int r.1))) args s (fCB h0 - fZ h0) (fLB h0 - fL h0) (fA h0)) (F0 m 28 ls [.int s1, va_rf s0]) := by
  obtain ⟨hx, hb, hml, hr, hlocks, hts, hown, K, hR⟩ := id M
  intro H locs cells slots ls hC hl
  obtain ⟨h2, g3, hf⟩ := obind hf
  refine fr_put hx hb hts hown K hC ct_8 g3 (by decide) kw971 rfl rfl rfl rfl dX8_covers_28 (fun H locs hC => ?_)
  refine fr_aload_n hx hb dX8_covers_31 rfl (lv_at hl 0 rfl) ?_
  obtain ⟨x4, g5, hf⟩ := obind hf
  refine fr_get hx hb hts hown K hC ct_8 (fgI_get g5) (by decide) kw971 rfl dX8_covers_32 ?_
  refine lv_if_ne (tgt := 54) hx hb dX8_covers_35 (by decide) (fun c6 => ?_) (fun c6 => ?_)
  · replace hf := oneg c6 hf
    exact w_X8_covers_L54 M hfl _ hf _ _ _ _ _ hC (lv_sub hl [] rfl)
  · replace hf := opos c6 hf
    refine fr_aload_n hx hb dX8_covers_38 rfl (lv_at hl 0 rfl) ?_
    refine lv_iload_n hx hb dX8_covers_39 rfl (lv_at hl 1 rfl) ?_
    refine lv_iload_n hx hb dX8_covers_40 rfl (lv_at hl 2 rfl) ?_
    refine lv_iload_n hx hb dX8_covers_41 rfl (lv_at hl 3 rfl) ?_
    refine lv_iload hx hb dX8_covers_42 (lv_at hl 4 rfl) ?_
    obtain ⟨b9, q10, hf⟩ := obind hf
    obtain ⟨r7, g8, hf⟩ := obind hf
    refine fr_callV hx hb hml hts hown K hC hR ct_8 (c_X8_coversNow hfl D cA g8) 4 q10 kw1327 kw1324 kw1326 kw50 kw62 (by decide +kernel) ⟨by exact Nat.le_of_ble_eq_true rfl, by exact Nat.le_of_ble_eq_true rfl⟩ rfl hl.1 (cat8 _ (by exact Nat.le_of_ble_eq_true rfl)) dX8_covers_44 rfl (fun H locs _ _ hC => ?_)
    refine lv_if_eq (tgt := 54) hx hb dX8_covers_47 (by decide) (fun c11 => ?_) (fun c11 => ?_)
    · replace hf := opos c11 hf
      exact w_X8_covers_L54 M hfl _ hf _ _ _ _ _ hC (lv_sub hl [] rfl)
    · replace hf := oneg c11 hf
      refine lv_iconst (v := (1 : Int32)) hx hb dX8_covers_50 (by decide) ?_
      refine lv_goto (tgt := 55) hx hb dX8_covers_51 (by decide) ?_
      exact w_X8_covers_L55 M hfl _ _ hf _ _ _ _ _ hC (lv_sub hl [] rfl)
set_option maxHeartbeats 4000000 in
set_option maxRecDepth 100000 in
theorem w_X8_covers_L0 {p : Program} {l : Launch} {e : Env} {s : State} {m : MethodId} {args : Array Value} {below : List Frame} {meth : Method} {c : Code} {D : va_G} {cA : Nat → ClassId} {h0 : fSt} {r : (Int32 × fSt)} (M : fM p s m args meth c D cA h0 { frames := 5, cells := fCB h0 - fZ h0, slots := fLB h0 - fL h0, locals := 140 } cX8_covers 5 (some (.boolean)) RX8) (hfl : l.stackTraces = false) (a0 : Option Nat) (a1 : Int32) (a2 : Int32) (a3 : Int32) (a4 : Int32) (h : fSt) (hf : f_X8_covers_L0 a0 a1 a2 a3 a4 h = some r) : ∀ (H : Heap) (locs : List Loc) (cells slots : Nat) (ls : Array Slot), fCur D cA s h0 h H locs → lv_has ls 5 [(0, va_rf a0), (1, .int a1), (2, .int a2), (3, .int a3), (4, .int a4)] → W p l e { frames := 5, cells := fCB h0 - fZ h0, slots := fLB h0 - fL h0, locals := 140 } s m args below meth c H locs cells slots (MQ below (fQ D cA h0 r.2 (some (.int r.1))) args s (fCB h0 - fZ h0) (fLB h0 - fL h0) (fA h0)) (F0 m 0 ls []) := by
  obtain ⟨hx, hb, hml, hr, hlocks, hts, hown, K, hR⟩ := id M
  intro H locs cells slots ls hC hl
  refine fr_aload_n hx hb dX8_covers_0 rfl (lv_at hl 0 rfl) ?_
  refine fr_aload_n hx hb dX8_covers_1 rfl (lv_at hl 0 rfl) ?_
  refine lv_iload_n hx hb dX8_covers_2 rfl (lv_at hl 1 rfl) ?_
  obtain ⟨b14, q15, hf⟩ := obind hf
  obtain ⟨r12, g13, hf⟩ := obind hf
  refine fr_callV hx hb hml hts hown K hC hR ct_8 (c_X8_isNode hfl D cA g13) 1 q15 kw1063 kw1060 kw1062 kw20 kw62 (by decide +kernel) ⟨by exact Nat.le_of_ble_eq_true rfl, by exact Nat.le_of_ble_eq_true rfl⟩ rfl hl.1 (cat8 _ (by exact Nat.le_of_ble_eq_true rfl)) dX8_covers_3 rfl (fun H locs _ _ hC => ?_)
  refine lv_if_ne (tgt := 13) hx hb dX8_covers_6 (by decide) (fun c16 => ?_) (fun c16 => ?_)
  · replace hf := oneg c16 hf
    refine lv_iload_n hx hb dX8_covers_13 rfl (lv_at hl 2 rfl) ?_
    refine lv_iload_n hx hb dX8_covers_14 rfl (lv_at hl 3 rfl) ?_
    refine lv_iload hx hb dX8_covers_15 (lv_at hl 4 rfl) ?_
    obtain ⟨r17, g18, hf⟩ := obind hf
    refine fr_callS hx hb hml hts hown K hC hR (c_X8_isPoint hfl D cA g18) 3 kw1323 kw1321 kw1322 kw62 (by decide +kernel) ⟨by exact Nat.le_of_ble_eq_true rfl, by exact Nat.le_of_ble_eq_true rfl⟩ rfl hl.1 (cat8 _ (by exact Nat.le_of_ble_eq_true rfl)) dX8_covers_17 rfl (fun H locs _ _ hC => ?_)
    refine lv_if_eq (tgt := 27) hx hb dX8_covers_20 (by decide) (fun c19 => ?_) (fun c19 => ?_)
    · replace hf := opos c19 hf
      refine lv_iconst (v := (2 : Int32)) hx hb dX8_covers_27 (by decide) ?_
      exact w_X8_covers_L28 M hfl _ _ _ _ _ _ _ _ hf _ _ _ _ _ hC (lv_sub hl [0, 1, 2, 3, 4] rfl)
    · replace hf := oneg c19 hf
      refine lv_iconst (v := (0 : Int32)) hx hb dX8_covers_23 (by decide) ?_
      refine lv_goto (tgt := 28) hx hb dX8_covers_24 (by decide) ?_
      exact w_X8_covers_L28 M hfl _ _ _ _ _ _ _ _ hf _ _ _ _ _ hC (lv_sub hl [0, 1, 2, 3, 4] rfl)
  · replace hf := opos c16 hf
    refine lv_iconst (v := (1 : Int32)) hx hb dX8_covers_9 (by decide) ?_
    refine lv_goto (tgt := 28) hx hb dX8_covers_10 (by decide) ?_
    exact w_X8_covers_L28 M hfl _ _ _ _ _ _ _ _ hf _ _ _ _ _ hC (lv_sub hl [0, 1, 2, 3, 4] rfl)
set_option maxRecDepth 100000 in
theorem c_X8_covers {l : Launch} (hfl : l.stackTraces = false) (D : va_G) (cA : Nat → ClassId) {o : Nat} {p0 : Int32} {p1 : Int32} {p2 : Int32} {p3 : Int32} {h : fSt} {r : (Int32 × fSt)} (hf : f_X8_covers o p0 p1 p2 p3 h = some r) : fMet l yX8_covers (wsC yX8_covers cX8_covers 5 (some (.boolean))) (5) (140) D cA [.ref o, .int p0, .int p1, .int p2, .int p3] h r.2 (some (.int r.1)) := by
  exact fMet.of (own := RX8) (by decide +kernel) rfl (lva1 rfl (lva1 rfl (lva1 rfl (lva1 rfl (lva1 rfl lva0))))) (lgl1 rfl (lgl1 rfl (lgl1 rfl (lgl1 rfl (lgl1 rfl lgl0))))) (Nat.le_of_ble_eq_true rfl) (fun p e s m args below meth c ls hnm _ M hC hl => by
    have hl : lv_has ls 5 [(0, va_rf (some o)), (1, .int p0), (2, .int p1), (3, .int p2), (4, .int p3)] := hl
    exact w_X8_covers_L0 M hfl _ _ _ _ _ _ hf _ _ _ _ _ hC (lv_sub hl [0, 1, 2, 3, 4] rfl))
set_option maxHeartbeats 4000000 in
set_option maxRecDepth 100000 in
theorem w_X8_refusal_L25 {p : Program} {l : Launch} {e : Env} {s : State} {m : MethodId} {args : Array Value} {below : List Frame} {meth : Method} {c : Code} {D : va_G} {cA : Nat → ClassId} {h0 : fSt} {r : (Int32 × fSt)} (M : fM p s m args meth c D cA h0 { frames := 2, cells := fCB h0 - fZ h0, slots := fLB h0 - fL h0, locals := 43 } cX8_refusal 3 (some (.int)) RX8) (hfl : l.stackTraces = false) (s0 : Int32) (h : fSt) (hf : f_X8_refusal_L25 s0 h = some r) : ∀ (H : Heap) (locs : List Loc) (cells slots : Nat) (ls : Array Slot), fCur D cA s h0 h H locs → lv_has ls 3 [] → W p l e { frames := 2, cells := fCB h0 - fZ h0, slots := fLB h0 - fL h0, locals := 43 } s m args below meth c H locs cells slots (MQ below (fQ D cA h0 r.2 (some (.int r.1))) args s (fCB h0 - fZ h0) (fLB h0 - fL h0) (fA h0)) (F0 m 25 ls [.int s0]) := by
  obtain ⟨hx, hb, hml, hr, hlocks, hts, hown, K, hR⟩ := id M
  intro H locs cells slots ls hC hl
  obtain rfl := Option.some.inj hf
  exact fr_iret hx hb hr hlocks hC dX8_refusal_25
set_option maxHeartbeats 4000000 in
set_option maxRecDepth 100000 in
theorem w_X8_refusal_L0 {p : Program} {l : Launch} {e : Env} {s : State} {m : MethodId} {args : Array Value} {below : List Frame} {meth : Method} {c : Code} {D : va_G} {cA : Nat → ClassId} {h0 : fSt} {r : (Int32 × fSt)} (M : fM p s m args meth c D cA h0 { frames := 2, cells := fCB h0 - fZ h0, slots := fLB h0 - fL h0, locals := 43 } cX8_refusal 3 (some (.int)) RX8) (hfl : l.stackTraces = false) (a0 : Option Nat) (a1 : Int32) (a2 : Int32) (h : fSt) (hf : f_X8_refusal_L0 a0 a1 a2 h = some r) : ∀ (H : Heap) (locs : List Loc) (cells slots : Nat) (ls : Array Slot), fCur D cA s h0 h H locs → lv_has ls 3 [(0, va_rf a0), (1, .int a1), (2, .int a2)] → W p l e { frames := 2, cells := fCB h0 - fZ h0, slots := fLB h0 - fL h0, locals := 43 } s m args below meth c H locs cells slots (MQ below (fQ D cA h0 r.2 (some (.int r.1))) args s (fCB h0 - fZ h0) (fLB h0 - fL h0) (fA h0)) (F0 m 0 ls []) := by
  obtain ⟨hx, hb, hml, hr, hlocks, hts, hown, K, hR⟩ := id M
  intro H locs cells slots ls hC hl
  refine fr_aload_n hx hb dX8_refusal_0 rfl (lv_at hl 0 rfl) ?_
  refine lv_iload_n hx hb dX8_refusal_1 rfl (lv_at hl 1 rfl) ?_
  obtain ⟨b3, q4, hf⟩ := obind hf
  obtain ⟨r1, g2, hf⟩ := obind hf
  refine fr_callV hx hb hml hts hown K hC hR ct_8 (c_X8_isNode hfl D cA g2) 1 q4 kw1063 kw1060 kw1062 kw20 kw62 (by decide +kernel) ⟨by exact Nat.le_of_ble_eq_true rfl, by exact Nat.le_of_ble_eq_true rfl⟩ rfl hl.1 (cat8 _ (by exact Nat.le_of_ble_eq_true rfl)) dX8_refusal_2 rfl (fun H locs _ _ hC => ?_)
  refine lv_if_ne (tgt := 10) hx hb dX8_refusal_5 (by decide) (fun c5 => ?_) (fun c5 => ?_)
  · replace hf := oneg c5 hf
    refine lv_iload_n hx hb dX8_refusal_10 rfl (lv_at hl 1 rfl) ?_
    refine lv_if_ne (tgt := 16) hx hb dX8_refusal_11 (by decide) (fun c6 => ?_) (fun c6 => ?_)
    · replace hf := oneg c6 hf
      refine lv_iload_n hx hb dX8_refusal_16 rfl (lv_at hl 2 rfl) ?_
      refine lv_if_eq (tgt := 24) hx hb dX8_refusal_17 (by decide) (fun c7 => ?_) (fun c7 => ?_)
      · replace hf := opos c7 hf
        refine lv_iconst (v := (3 : Int32)) hx hb dX8_refusal_24 (by decide) ?_
        exact w_X8_refusal_L25 M hfl _ _ hf _ _ _ _ _ hC (lv_sub hl [] rfl)
      · replace hf := oneg c7 hf
        refine lv_iconst (v := (0 : Int32)) hx hb dX8_refusal_20 (by decide) ?_
        refine lv_goto (tgt := 25) hx hb dX8_refusal_21 (by decide) ?_
        exact w_X8_refusal_L25 M hfl _ _ hf _ _ _ _ _ hC (lv_sub hl [] rfl)
    · replace hf := opos c6 hf
      refine lv_iconst (v := (2 : Int32)) hx hb dX8_refusal_14 (by decide) ?_
      obtain rfl := Option.some.inj hf
      exact fr_iret hx hb hr hlocks hC dX8_refusal_15
  · replace hf := opos c5 hf
    refine lv_iconst (v := (1 : Int32)) hx hb dX8_refusal_8 (by decide) ?_
    obtain rfl := Option.some.inj hf
    exact fr_iret hx hb hr hlocks hC dX8_refusal_9
set_option maxRecDepth 100000 in
theorem c_X8_refusal {l : Launch} (hfl : l.stackTraces = false) (D : va_G) (cA : Nat → ClassId) {o : Nat} {p0 : Int32} {p1 : Int32} {h : fSt} {r : (Int32 × fSt)} (hf : f_X8_refusal o p0 p1 h = some r) : fMet l yX8_refusal (wsC yX8_refusal cX8_refusal 3 (some (.int))) (2) (43) D cA [.ref o, .int p0, .int p1] h r.2 (some (.int r.1)) := by
  exact fMet.of (own := RX8) (by decide +kernel) rfl (lva1 rfl (lva1 rfl (lva1 rfl lva0))) (lgl1 rfl (lgl1 rfl (lgl1 rfl lgl0))) (Nat.le_of_ble_eq_true rfl) (fun p e s m args below meth c ls hnm _ M hC hl => by
    have hl : lv_has ls 3 [(0, va_rf (some o)), (1, .int p0), (2, .int p1)] := hl
    exact w_X8_refusal_L0 M hfl _ _ _ _ hf _ _ _ _ _ hC (lv_sub hl [0, 1, 2] rfl))
set_option maxHeartbeats 4000000 in
set_option maxRecDepth 100000 in
theorem w_X8_cut_L58 {p : Program} {l : Launch} {e : Env} {s : State} {m : MethodId} {args : Array Value} {below : List Frame} {meth : Method} {c : Code} {D : va_G} {cA : Nat → ClassId} {h0 : fSt} {r : (Int32 × fSt)} (M : fM p s m args meth c D cA h0 { frames := 3, cells := fCB h0 - fZ h0, slots := fLB h0 - fL h0, locals := 65 } cX8_cut 8 (some (.boolean)) RX8) (hfl : l.stackTraces = false) (a0 : Option Nat) (a1 : Int32) (a2 : Int32) (a3 : Int32) (a4 : Int32) (a5 : Int32) (s3 : Int32) (s2 : Int32) (s1 : Option Nat) (s0 : Option Nat) (h : fSt) (hf : f_X8_cut_L58 a0 a1 a2 a3 a4 a5 s3 s2 s1 s0 h = some r) : ∀ (H : Heap) (locs : List Loc) (cells slots : Nat) (ls : Array Slot), fCur D cA s h0 h H locs → lv_has ls 8 [(0, va_rf a0), (1, .int a1), (2, .int a2), (3, .int a3), (4, .int a4), (5, .int a5)] → W p l e { frames := 3, cells := fCB h0 - fZ h0, slots := fLB h0 - fL h0, locals := 65 } s m args below meth c H locs cells slots (MQ below (fQ D cA h0 r.2 (some (.int r.1))) args s (fCB h0 - fZ h0) (fLB h0 - fL h0) (fA h0)) (F0 m 58 ls [.int s3, .int s2, va_rf s1, va_rf s0]) := by
  obtain ⟨hx, hb, hml, hr, hlocks, hts, hown, K, hR⟩ := id M
  intro H locs cells slots ls hC hl
  obtain ⟨b3, q4, hf⟩ := obind hf
  obtain ⟨r1, g2, hf⟩ := obind hf
  refine fr_callV hx hb hml hts hown K hC hR ct_8 (c_X8_refusal hfl D cA g2) 2 q4 kw1099 kw1096 kw1098 kw25 kw62 (by decide +kernel) ⟨by exact Nat.le_of_ble_eq_true rfl, by exact Nat.le_of_ble_eq_true rfl⟩ rfl hl.1 (cat8 _ (by exact Nat.le_of_ble_eq_true rfl)) dX8_cut_58 rfl (fun H locs _ _ hC => ?_)
  obtain ⟨h5, g6, hf⟩ := obind hf
  refine fr_put hx hb hts hown K hC ct_8 g6 (by decide) kw971 rfl rfl rfl rfl dX8_cut_61 (fun H locs hC => ?_)
  refine fr_aload_n hx hb dX8_cut_64 rfl (lv_at hl 0 rfl) ?_
  obtain ⟨x7, g8, hf⟩ := obind hf
  refine fr_get hx hb hts hown K hC ct_8 (fgI_get g8) (by decide) kw971 rfl dX8_cut_65 ?_
  refine lv_if_eq (tgt := 73) hx hb dX8_cut_68 (by decide) (fun c9 => ?_) (fun c9 => ?_)
  · replace hf := opos c9 hf
    refine fr_aload_n hx hb dX8_cut_73 rfl (lv_at hl 0 rfl) ?_
    obtain ⟨x10, g11, hf⟩ := obind hf
    refine fr_get hx hb hts hown K hC ct_8 (fgR_get g11) (by decide) kw976 rfl dX8_cut_74 ?_
    refine lv_iload_n hx hb dX8_cut_77 rfl (lv_at hl 1 rfl) ?_
    obtain ⟨x12, g13, hf⟩ := obind hf
    refine fr_zald hx hb K hC (t := 2) rfl g13 dX8_cut_78 ?_
    refine lv_istore (lv' := [(6, .int x12), (0, va_rf a0), (1, .int a1), (2, .int a2), (3, .int a3), (4, .int a4), (5, .int a5)]) hx hb dX8_cut_79 hl (by decide) (congrArg (List.cons _) (flk rfl (flk rfl (flk rfl (flk rfl (flk rfl (flk rfl fln))))))) (fun ls hl => ?_)
    refine lv_iconst (v := (4 : Int32)) hx hb dX8_cut_81 (by decide) ?_
    by_cases c14 : (4 : Int32) < 0 ∨ 67000000 < ((4 : Int32)).toNatClampNeg
    · exact nomatch (opos c14 hf)
    obtain ⟨r15, g16, hf⟩ := obind (oneg c14 hf)
    refine fr_newa hx hb hts K hC hR (atype := .int) (t := 0) rfl kw1051 (fun _ => rfl) rfl (fun z => c14 (Or.inl z)) g16 (newa_b (fun z => c14 (Or.inr z)) (Nat.le_of_ble_eq_true rfl)) dX8_cut_82 (fun H _ _ hC => ?_)
    refine lv_dup hx hb dX8_cut_84 (va_rf_cat _) ?_
    refine lv_iconst (v := (0 : Int32)) hx hb dX8_cut_85 (by decide) ?_
    refine lv_iload_n hx hb dX8_cut_86 rfl (lv_at hl 3 rfl) ?_
    obtain ⟨h17, g18, hf⟩ := obind hf
    refine fr_iast hx hb K hC (t := 0) rfl g18 dX8_cut_87 (fun H locs hC => ?_)
    refine lv_dup hx hb dX8_cut_88 (va_rf_cat _) ?_
    refine lv_iconst (v := (1 : Int32)) hx hb dX8_cut_89 (by decide) ?_
    refine lv_iload_n hx hb dX8_cut_90 rfl (lv_at hl 4 rfl) ?_
    obtain ⟨h19, g20, hf⟩ := obind hf
    refine fr_iast hx hb K hC (t := 0) rfl g20 dX8_cut_91 (fun H locs hC => ?_)
    refine lv_dup hx hb dX8_cut_92 (va_rf_cat _) ?_
    refine lv_iconst (v := (2 : Int32)) hx hb dX8_cut_93 (by decide) ?_
    refine lv_iload hx hb dX8_cut_94 (lv_at hl 5 rfl) ?_
    obtain ⟨h21, g22, hf⟩ := obind hf
    refine fr_iast hx hb K hC (t := 0) rfl g22 dX8_cut_96 (fun H locs hC => ?_)
    refine lv_dup hx hb dX8_cut_97 (va_rf_cat _) ?_
    refine lv_iconst (v := (3 : Int32)) hx hb dX8_cut_98 (by decide) ?_
    refine lv_iload hx hb dX8_cut_99 (lv_at hl 6 rfl) ?_
    obtain ⟨h23, g24, hf⟩ := obind hf
    refine fr_iast hx hb K hC (t := 0) rfl g24 dX8_cut_101 (fun H locs hC => ?_)
    refine fr_astore (lv' := [(7, va_rf (some r15.1)), (6, .int x12), (0, va_rf a0), (1, .int a1), (2, .int a2), (3, .int a3), (4, .int a4), (5, .int a5)]) hx hb dX8_cut_102 hl (by decide) (congrArg (List.cons _) (flk rfl (flk rfl (flk rfl (flk rfl (flk rfl (flk rfl (flk rfl fln)))))))) (fun ls hl => ?_)
    refine fr_aload hx hb dX8_cut_104 (lv_at hl 0 rfl) ?_
    refine lv_iconst (v := (0 : Int32)) hx hb dX8_cut_106 (by decide) ?_
    refine fr_aload_n hx hb dX8_cut_107 rfl (lv_at hl 2 rfl) ?_
    obtain ⟨x25, g26, hf⟩ := obind hf
    refine fr_get hx hb hts hown K hC ct_8 (fgR_get g26) (by decide) kw986 rfl dX8_cut_108 ?_
    refine lv_iload_n hx hb dX8_cut_111 rfl (lv_at hl 3 rfl) ?_
    refine lv_iconst (v := (4 : Int32)) hx hb dX8_cut_112 (by decide) ?_
    refine lv_imul hx hb dX8_cut_113 ?_
    refine lv_iconst (v := (4 : Int32)) hx hb dX8_cut_114 (by decide) ?_
    obtain ⟨h27, g28, hf⟩ := obind hf
    refine fr_copyi hx hb hml hts hown K hC kw1116 kw1118 kw1117 kw70 (t := 0) rfl g28 hl.1 (by exact Nat.le_of_ble_eq_true rfl) (catL _ _ (by exact Nat.le_of_ble_eq_true rfl) (by exact Nat.le_of_ble_eq_true rfl)) dX8_cut_115 (fun H locs hC => ?_)
    refine fr_aload_n hx hb dX8_cut_118 rfl (lv_at hl 2 rfl) ?_
    obtain ⟨x29, g30, hf⟩ := obind hf
    refine fr_get hx hb hts hown K hC ct_8 (fgR_get g30) (by decide) kw976 rfl dX8_cut_119 ?_
    refine lv_iload_n hx hb dX8_cut_122 rfl (lv_at hl 3 rfl) ?_
    refine lv_iconst (v := (1 : Int32)) hx hb dX8_cut_123 (by decide) ?_
    obtain ⟨h31, g32, hf⟩ := obind hf
    refine fr_zast hx hb K hC (t := 2) rfl g32 dX8_cut_124 (fun H locs hC => ?_)
    refine lv_iload hx hb dX8_cut_125 (lv_at hl 1 rfl) ?_
    by_cases c33 : x12 = 0 ∨ x12 = 1
    rotate_left
    · exact nomatch (oneg c33 hf)
    obtain rfl := Option.some.inj (opos c33 hf)
    exact fr_zret hx hb hr hlocks hC c33 dX8_cut_127
  · replace hf := oneg c9 hf
    refine lv_iconst (v := (0 : Int32)) hx hb dX8_cut_71 (by decide) ?_
    obtain rfl := Option.some.inj hf
    exact fr_zret hx hb hr hlocks hC (Or.inl rfl) dX8_cut_72
set_option maxHeartbeats 4000000 in
set_option maxRecDepth 100000 in
theorem w_X8_cut_L57 {p : Program} {l : Launch} {e : Env} {s : State} {m : MethodId} {args : Array Value} {below : List Frame} {meth : Method} {c : Code} {D : va_G} {cA : Nat → ClassId} {h0 : fSt} {r : (Int32 × fSt)} (M : fM p s m args meth c D cA h0 { frames := 3, cells := fCB h0 - fZ h0, slots := fLB h0 - fL h0, locals := 65 } cX8_cut 8 (some (.boolean)) RX8) (hfl : l.stackTraces = false) (a0 : Option Nat) (a1 : Int32) (a2 : Int32) (a3 : Int32) (a4 : Int32) (a5 : Int32) (s2 : Int32) (s1 : Option Nat) (s0 : Option Nat) (h : fSt) (hf : f_X8_cut_L57 a0 a1 a2 a3 a4 a5 s2 s1 s0 h = some r) : ∀ (H : Heap) (locs : List Loc) (cells slots : Nat) (ls : Array Slot), fCur D cA s h0 h H locs → lv_has ls 8 [(0, va_rf a0), (1, .int a1), (2, .int a2), (3, .int a3), (4, .int a4), (5, .int a5)] → W p l e { frames := 3, cells := fCB h0 - fZ h0, slots := fLB h0 - fL h0, locals := 65 } s m args below meth c H locs cells slots (MQ below (fQ D cA h0 r.2 (some (.int r.1))) args s (fCB h0 - fZ h0) (fLB h0 - fL h0) (fA h0)) (F0 m 57 ls [.int s2, va_rf s1, va_rf s0]) := by
  obtain ⟨hx, hb, hml, hr, hlocks, hts, hown, K, hR⟩ := id M
  intro H locs cells slots ls hC hl
  refine lv_iconst (v := (0 : Int32)) hx hb dX8_cut_57 (by decide) ?_
  exact w_X8_cut_L58 M hfl _ _ _ _ _ _ _ _ _ _ _ hf _ _ _ _ _ hC (lv_sub hl [0, 1, 2, 3, 4, 5] rfl)
set_option maxHeartbeats 4000000 in
set_option maxRecDepth 100000 in
theorem w_X8_cut_L0 {p : Program} {l : Launch} {e : Env} {s : State} {m : MethodId} {args : Array Value} {below : List Frame} {meth : Method} {c : Code} {D : va_G} {cA : Nat → ClassId} {h0 : fSt} {r : (Int32 × fSt)} (M : fM p s m args meth c D cA h0 { frames := 3, cells := fCB h0 - fZ h0, slots := fLB h0 - fL h0, locals := 65 } cX8_cut 8 (some (.boolean)) RX8) (hfl : l.stackTraces = false) (a0 : Option Nat) (a1 : Int32) (a2 : Int32) (a3 : Int32) (a4 : Int32) (a5 : Int32) (h : fSt) (hf : f_X8_cut_L0 a0 a1 a2 a3 a4 a5 h = some r) : ∀ (H : Heap) (locs : List Loc) (cells slots : Nat) (ls : Array Slot), fCur D cA s h0 h H locs → lv_has ls 8 [(0, va_rf a0), (1, .int a1), (2, .int a2), (3, .int a3), (4, .int a4), (5, .int a5)] → W p l e { frames := 3, cells := fCB h0 - fZ h0, slots := fLB h0 - fL h0, locals := 65 } s m args below meth c H locs cells slots (MQ below (fQ D cA h0 r.2 (some (.int r.1))) args s (fCB h0 - fZ h0) (fLB h0 - fL h0) (fA h0)) (F0 m 0 ls []) := by
  obtain ⟨hx, hb, hml, hr, hlocks, hts, hown, K, hR⟩ := id M
  intro H locs cells slots ls hC hl
  refine fr_aload_n hx hb dX8_cut_0 rfl (lv_at hl 0 rfl) ?_
  refine fr_aload_n hx hb dX8_cut_1 rfl (lv_at hl 0 rfl) ?_
  refine lv_iload_n hx hb dX8_cut_2 rfl (lv_at hl 1 rfl) ?_
  refine lv_iload_n hx hb dX8_cut_3 rfl (lv_at hl 2 rfl) ?_
  refine lv_sipush (v := (-200 : Int32)) hx hb dX8_cut_4 (by decide) ?_
  refine lv_sipush (v := (200 : Int32)) hx hb dX8_cut_7 (by decide) ?_
  obtain ⟨r34, g35, hf⟩ := obind hf
  refine fr_callS hx hb hml hts hown K hC hR (c_X8_isIn hfl D cA g35) 3 kw1066 kw1064 kw1065 kw62 (by decide +kernel) ⟨by exact Nat.le_of_ble_eq_true rfl, by exact Nat.le_of_ble_eq_true rfl⟩ rfl hl.1 (cat8 _ (by exact Nat.le_of_ble_eq_true rfl)) dX8_cut_10 rfl (fun H locs _ _ hC => ?_)
  refine lv_if_eq (tgt := 57) hx hb dX8_cut_13 (by decide) (fun c36 => ?_) (fun c36 => ?_)
  · replace hf := opos c36 hf
    exact w_X8_cut_L57 M hfl _ _ _ _ _ _ _ _ _ _ hf _ _ _ _ _ hC (lv_sub hl [0, 1, 2, 3, 4, 5] rfl)
  · replace hf := oneg c36 hf
    refine lv_iload_n hx hb dX8_cut_16 rfl (lv_at hl 3 rfl) ?_
    refine lv_sipush (v := (-200 : Int32)) hx hb dX8_cut_17 (by decide) ?_
    refine lv_sipush (v := (200 : Int32)) hx hb dX8_cut_20 (by decide) ?_
    obtain ⟨r37, g38, hf⟩ := obind hf
    refine fr_callS hx hb hml hts hown K hC hR (c_X8_isIn hfl D cA g38) 3 kw1066 kw1064 kw1065 kw62 (by decide +kernel) ⟨by exact Nat.le_of_ble_eq_true rfl, by exact Nat.le_of_ble_eq_true rfl⟩ rfl hl.1 (cat8 _ (by exact Nat.le_of_ble_eq_true rfl)) dX8_cut_23 rfl (fun H locs _ _ hC => ?_)
    refine lv_if_eq (tgt := 57) hx hb dX8_cut_26 (by decide) (fun c39 => ?_) (fun c39 => ?_)
    · replace hf := opos c39 hf
      exact w_X8_cut_L57 M hfl _ _ _ _ _ _ _ _ _ _ hf _ _ _ _ _ hC (lv_sub hl [0, 1, 2, 3, 4, 5] rfl)
    · replace hf := oneg c39 hf
      refine lv_iload hx hb dX8_cut_29 (lv_at hl 4 rfl) ?_
      refine lv_iload_n hx hb dX8_cut_31 rfl (lv_at hl 2 rfl) ?_
      refine lv_sipush (v := (200 : Int32)) hx hb dX8_cut_32 (by decide) ?_
      obtain ⟨r40, g41, hf⟩ := obind hf
      refine fr_callS hx hb hml hts hown K hC hR (c_X8_isIn hfl D cA g41) 3 kw1066 kw1064 kw1065 kw62 (by decide +kernel) ⟨by exact Nat.le_of_ble_eq_true rfl, by exact Nat.le_of_ble_eq_true rfl⟩ rfl hl.1 (cat8 _ (by exact Nat.le_of_ble_eq_true rfl)) dX8_cut_35 rfl (fun H locs _ _ hC => ?_)
      refine lv_if_eq (tgt := 57) hx hb dX8_cut_38 (by decide) (fun c42 => ?_) (fun c42 => ?_)
      · replace hf := opos c42 hf
        exact w_X8_cut_L57 M hfl _ _ _ _ _ _ _ _ _ _ hf _ _ _ _ _ hC (lv_sub hl [0, 1, 2, 3, 4, 5] rfl)
      · replace hf := oneg c42 hf
        refine lv_iload hx hb dX8_cut_41 (lv_at hl 5 rfl) ?_
        refine lv_iload_n hx hb dX8_cut_43 rfl (lv_at hl 3 rfl) ?_
        refine lv_sipush (v := (200 : Int32)) hx hb dX8_cut_44 (by decide) ?_
        obtain ⟨r43, g44, hf⟩ := obind hf
        refine fr_callS hx hb hml hts hown K hC hR (c_X8_isIn hfl D cA g44) 3 kw1066 kw1064 kw1065 kw62 (by decide +kernel) ⟨by exact Nat.le_of_ble_eq_true rfl, by exact Nat.le_of_ble_eq_true rfl⟩ rfl hl.1 (cat8 _ (by exact Nat.le_of_ble_eq_true rfl)) dX8_cut_47 rfl (fun H locs _ _ hC => ?_)
        refine lv_if_eq (tgt := 57) hx hb dX8_cut_50 (by decide) (fun c45 => ?_) (fun c45 => ?_)
        · replace hf := opos c45 hf
          exact w_X8_cut_L57 M hfl _ _ _ _ _ _ _ _ _ _ hf _ _ _ _ _ hC (lv_sub hl [0, 1, 2, 3, 4, 5] rfl)
        · replace hf := oneg c45 hf
          refine lv_iconst (v := (1 : Int32)) hx hb dX8_cut_53 (by decide) ?_
          refine lv_goto (tgt := 58) hx hb dX8_cut_54 (by decide) ?_
          exact w_X8_cut_L58 M hfl _ _ _ _ _ _ _ _ _ _ _ hf _ _ _ _ _ hC (lv_sub hl [0, 1, 2, 3, 4, 5] rfl)
set_option maxRecDepth 100000 in
theorem c_X8_cut {l : Launch} (hfl : l.stackTraces = false) (D : va_G) (cA : Nat → ClassId) {o : Nat} {p0 : Int32} {p1 : Int32} {p2 : Int32} {p3 : Int32} {p4 : Int32} {h : fSt} {r : (Int32 × fSt)} (hf : f_X8_cut o p0 p1 p2 p3 p4 h = some r) : fMet l yX8_cut (wsC yX8_cut cX8_cut 8 (some (.boolean))) (3) (65) D cA [.ref o, .int p0, .int p1, .int p2, .int p3, .int p4] h r.2 (some (.int r.1)) := by
  exact fMet.of (own := RX8) (by decide +kernel) rfl (lva1 rfl (lva1 rfl (lva1 rfl (lva1 rfl (lva1 rfl (lva1 rfl lva0)))))) (lgl1 rfl (lgl1 rfl (lgl1 rfl (lgl1 rfl (lgl1 rfl (lgl1 rfl lgl0)))))) (Nat.le_of_ble_eq_true rfl) (fun p e s m args below meth c ls hnm _ M hC hl => by
    have hl : lv_has ls 8 [(0, va_rf (some o)), (1, .int p0), (2, .int p1), (3, .int p2), (4, .int p3), (5, .int p4)] := hl
    exact w_X8_cut_L0 M hfl _ _ _ _ _ _ _ hf _ _ _ _ _ hC (lv_sub hl [0, 1, 2, 3, 4, 5] rfl))
set_option maxHeartbeats 4000000 in
set_option maxRecDepth 100000 in
theorem w_X8_fromWholeNow_L0 {p : Program} {l : Launch} {e : Env} {s : State} {m : MethodId} {args : Array Value} {below : List Frame} {meth : Method} {c : Code} {D : va_G} {cA : Nat → ClassId} {h0 : fSt} {r : (Int32 × fSt)} (M : fM p s m args meth c D cA h0 { frames := 33, cells := fCB h0 - fZ h0, slots := fLB h0 - fL h0, locals := 894 } cX8_fromWholeNow 6 (some (.int)) RX8) (hfl : l.stackTraces = false) (a0 : Option Nat) (a1 : Int32) (a2 : Int32) (a3 : Int32) (a4 : Int32) (h : fSt) (hf : f_X8_fromWholeNow_L0 a0 a1 a2 a3 a4 h = some r) : ∀ (H : Heap) (locs : List Loc) (cells slots : Nat) (ls : Array Slot), fCur D cA s h0 h H locs → lv_has ls 6 [(0, va_rf a0), (1, .int a1), (2, .int a2), (3, .int a3), (4, .int a4)] → W p l e { frames := 33, cells := fCB h0 - fZ h0, slots := fLB h0 - fL h0, locals := 894 } s m args below meth c H locs cells slots (MQ below (fQ D cA h0 r.2 (some (.int r.1))) args s (fCB h0 - fZ h0) (fLB h0 - fL h0) (fA h0)) (F0 m 0 ls []) := by
  obtain ⟨hx, hb, hml, hr, hlocks, hts, hown, K, hR⟩ := id M
  intro H locs cells slots ls hC hl
  refine lv_iload_n hx hb dX8_fromWholeNow_0 rfl (lv_at hl 2 rfl) ?_
  refine lv_i2l (v := (Int32.toInt64 a2)) hx hb dX8_fromWholeNow_1 rfl ?_
  refine lv_iload_n hx hb dX8_fromWholeNow_2 rfl (lv_at hl 3 rfl) ?_
  refine lv_i2l (v := (Int32.toInt64 a3)) hx hb dX8_fromWholeNow_3 rfl ?_
  refine lv_lconst (v := (1 : Int64)) hx hb dX8_fromWholeNow_4 (by decide) ?_
  obtain ⟨r1, g2, hf⟩ := obind hf
  refine fr_callS hx hb hml hts hown K hC hR (c_X8_point hfl D cA g2) 3 kw1234 kw1232 kw1233 kw62 (by decide +kernel) ⟨by exact Nat.le_of_ble_eq_true rfl, by exact Nat.le_of_ble_eq_true rfl⟩ rfl hl.1 (cat8 _ (by exact Nat.le_of_ble_eq_true rfl)) dX8_fromWholeNow_5 rfl (fun H locs _ _ hC => ?_)
  refine fr_astore (lv' := [(5, va_rf r1.1), (0, va_rf a0), (1, .int a1), (2, .int a2), (3, .int a3), (4, .int a4)]) hx hb dX8_fromWholeNow_8 hl (by decide) (congrArg (List.cons _) (flk rfl (flk rfl (flk rfl (flk rfl (flk rfl fln)))))) (fun ls hl => ?_)
  refine fr_aload_n hx hb dX8_fromWholeNow_10 rfl (lv_at hl 1 rfl) ?_
  refine lv_iload_n hx hb dX8_fromWholeNow_11 rfl (lv_at hl 2 rfl) ?_
  refine fr_aload hx hb dX8_fromWholeNow_12 (lv_at hl 0 rfl) ?_
  obtain ⟨b5, q6, hf⟩ := obind hf
  obtain ⟨r3, g4, hf⟩ := obind hf
  refine fr_callV hx hb hml hts hown K hC hR ct_8 (c_X8_downAll hfl D cA 8 g4) 2 q6 kw1261 kw1258 kw1260 kw42 kw62 (by decide +kernel) ⟨by exact Nat.le_of_ble_eq_true rfl, by exact Nat.le_of_ble_eq_true rfl⟩ rfl hl.1 (cat8 _ (by exact Nat.le_of_ble_eq_true rfl)) dX8_fromWholeNow_14 rfl (fun H locs _ _ hC => ?_)
  refine fr_aload hx hb dX8_fromWholeNow_17 (lv_at hl 0 rfl) ?_
  refine lv_iload hx hb dX8_fromWholeNow_19 (lv_at hl 5 rfl) ?_
  obtain ⟨r7, g8, hf⟩ := obind hf
  refine fr_callS hx hb hml hts hown K hC hR (c_X8_part hfl D cA g8) 2 kw1245 kw1243 kw1244 kw62 (by decide +kernel) ⟨by exact Nat.le_of_ble_eq_true rfl, by exact Nat.le_of_ble_eq_true rfl⟩ rfl hl.1 (cat8 _ (by exact Nat.le_of_ble_eq_true rfl)) dX8_fromWholeNow_21 rfl (fun H locs _ _ hC => ?_)
  obtain rfl := Option.some.inj hf
  exact fr_iret hx hb hr hlocks hC dX8_fromWholeNow_24
set_option maxRecDepth 100000 in
theorem c_X8_fromWholeNow {l : Launch} (hfl : l.stackTraces = false) (D : va_G) (cA : Nat → ClassId) {o : Nat} {p0 : Int32} {p1 : Int32} {p2 : Int32} {p3 : Int32} {h : fSt} {r : (Int32 × fSt)} (hf : f_X8_fromWholeNow o p0 p1 p2 p3 h = some r) : fMet l yX8_fromWholeNow (wsC yX8_fromWholeNow cX8_fromWholeNow 6 (some (.int))) (33) (894) D cA [.ref o, .int p0, .int p1, .int p2, .int p3] h r.2 (some (.int r.1)) := by
  exact fMet.of (own := RX8) (by decide +kernel) rfl (lva1 rfl (lva1 rfl (lva1 rfl (lva1 rfl (lva1 rfl lva0))))) (lgl1 rfl (lgl1 rfl (lgl1 rfl (lgl1 rfl (lgl1 rfl lgl0))))) (Nat.le_of_ble_eq_true rfl) (fun p e s m args below meth c ls hnm _ M hC hl => by
    have hl : lv_has ls 6 [(0, va_rf (some o)), (1, .int p0), (2, .int p1), (3, .int p2), (4, .int p3)] := hl
    exact w_X8_fromWholeNow_L0 M hfl _ _ _ _ _ _ hf _ _ _ _ _ hC (lv_sub hl [0, 1, 2, 3, 4] rfl))
set_option maxHeartbeats 4000000 in
set_option maxRecDepth 100000 in
theorem w_X8_nextKeyNow_L67 {p : Program} {l : Launch} {e : Env} {s : State} {m : MethodId} {args : Array Value} {below : List Frame} {meth : Method} {c : Code} {D : va_G} {cA : Nat → ClassId} {h0 : fSt} {r : (Int32 × fSt)} (M : fM p s m args meth c D cA h0 { frames := 0, cells := fCB h0 - fZ h0, slots := fLB h0 - fL h0, locals := 0 } cX8_nextKeyNow 4 (some (.int)) RX8) (hfl : l.stackTraces = false) {k4 : Option Nat → Int32 → Int32 → fSt → Option (Int32 × fSt)} (hk4 : ∀ (a0 : Option Nat) (a1 : Int32) (a2 : Int32) (h : fSt), k4 a0 a1 a2 h = some r → ∀ (H : Heap) (locs : List Loc) (cells slots : Nat) (ls : Array Slot), fCur D cA s h0 h H locs → lv_has ls 4 [(0, va_rf a0), (1, .int a1), (2, .int a2)] → W p l e { frames := 0, cells := fCB h0 - fZ h0, slots := fLB h0 - fL h0, locals := 0 } s m args below meth c H locs cells slots (MQ below (fQ D cA h0 r.2 (some (.int r.1))) args s (fCB h0 - fZ h0) (fLB h0 - fL h0) (fA h0)) (F0 m 4 ls [])) {k17 : Option Nat → Int32 → Int32 → Int32 → fSt → Option (Int32 × fSt)} (hk17 : ∀ (a0 : Option Nat) (a1 : Int32) (a2 : Int32) (a3 : Int32) (h : fSt), k17 a0 a1 a2 a3 h = some r → ∀ (H : Heap) (locs : List Loc) (cells slots : Nat) (ls : Array Slot), fCur D cA s h0 h H locs → lv_has ls 4 [(0, va_rf a0), (1, .int a1), (2, .int a2), (3, .int a3)] → W p l e { frames := 0, cells := fCB h0 - fZ h0, slots := fLB h0 - fL h0, locals := 0 } s m args below meth c H locs cells slots (MQ below (fQ D cA h0 r.2 (some (.int r.1))) args s (fCB h0 - fZ h0) (fLB h0 - fL h0) (fA h0)) (F0 m 17 ls [])) (a0 : Option Nat) (a1 : Int32) (a2 : Int32) (a3 : Int32) (h : fSt) (hf : f_X8_nextKeyNow_L67 k4 k17 a0 a1 a2 a3 h = some r) : ∀ (H : Heap) (locs : List Loc) (cells slots : Nat) (ls : Array Slot), fCur D cA s h0 h H locs → lv_has ls 4 [(0, va_rf a0), (1, .int a1), (2, .int a2), (3, .int a3)] → W p l e { frames := 0, cells := fCB h0 - fZ h0, slots := fLB h0 - fL h0, locals := 0 } s m args below meth c H locs cells slots (MQ below (fQ D cA h0 r.2 (some (.int r.1))) args s (fCB h0 - fZ h0) (fLB h0 - fL h0) (fA h0)) (F0 m 67 ls []) := by
  obtain ⟨hx, hb, hml, hr, hlocks, hts, hown, K, hR⟩ := id M
  intro H locs cells slots ls hC hl
  refine lv_iinc (v := (a3 + (1 : Int32))) (lv' := [(3, .int (a3 + (1 : Int32))), (0, va_rf a0), (1, .int a1), (2, .int a2)]) hx hb dX8_nextKeyNow_67 hl (k := 3) rfl rfl (by decide) (congrArg (List.cons _) (flk rfl (flk rfl (flk rfl (fld rfl fln))))) (fun ls hl => ?_)
  refine lv_goto (tgt := 17) hx hb dX8_nextKeyNow_70 (by decide) ?_
  exact hk17 _ _ _ _ _ hf _ _ _ _ _ hC (lv_sub hl [1, 2, 3, 0] rfl)
set_option maxHeartbeats 4000000 in
set_option maxRecDepth 100000 in
theorem w_X8_nextKeyNow_L60 {p : Program} {l : Launch} {e : Env} {s : State} {m : MethodId} {args : Array Value} {below : List Frame} {meth : Method} {c : Code} {D : va_G} {cA : Nat → ClassId} {h0 : fSt} {r : (Int32 × fSt)} (M : fM p s m args meth c D cA h0 { frames := 0, cells := fCB h0 - fZ h0, slots := fLB h0 - fL h0, locals := 0 } cX8_nextKeyNow 4 (some (.int)) RX8) (hfl : l.stackTraces = false) {k4 : Option Nat → Int32 → Int32 → fSt → Option (Int32 × fSt)} (hk4 : ∀ (a0 : Option Nat) (a1 : Int32) (a2 : Int32) (h : fSt), k4 a0 a1 a2 h = some r → ∀ (H : Heap) (locs : List Loc) (cells slots : Nat) (ls : Array Slot), fCur D cA s h0 h H locs → lv_has ls 4 [(0, va_rf a0), (1, .int a1), (2, .int a2)] → W p l e { frames := 0, cells := fCB h0 - fZ h0, slots := fLB h0 - fL h0, locals := 0 } s m args below meth c H locs cells slots (MQ below (fQ D cA h0 r.2 (some (.int r.1))) args s (fCB h0 - fZ h0) (fLB h0 - fL h0) (fA h0)) (F0 m 4 ls [])) {k17 : Option Nat → Int32 → Int32 → Int32 → fSt → Option (Int32 × fSt)} (hk17 : ∀ (a0 : Option Nat) (a1 : Int32) (a2 : Int32) (a3 : Int32) (h : fSt), k17 a0 a1 a2 a3 h = some r → ∀ (H : Heap) (locs : List Loc) (cells slots : Nat) (ls : Array Slot), fCur D cA s h0 h H locs → lv_has ls 4 [(0, va_rf a0), (1, .int a1), (2, .int a2), (3, .int a3)] → W p l e { frames := 0, cells := fCB h0 - fZ h0, slots := fLB h0 - fL h0, locals := 0 } s m args below meth c H locs cells slots (MQ below (fQ D cA h0 r.2 (some (.int r.1))) args s (fCB h0 - fZ h0) (fLB h0 - fL h0) (fA h0)) (F0 m 17 ls [])) (a0 : Option Nat) (a2 : Int32) (a3 : Int32) (h : fSt) (hf : f_X8_nextKeyNow_L60 k4 k17 a0 a2 a3 h = some r) : ∀ (H : Heap) (locs : List Loc) (cells slots : Nat) (ls : Array Slot), fCur D cA s h0 h H locs → lv_has ls 4 [(0, va_rf a0), (2, .int a2), (3, .int a3)] → W p l e { frames := 0, cells := fCB h0 - fZ h0, slots := fLB h0 - fL h0, locals := 0 } s m args below meth c H locs cells slots (MQ below (fQ D cA h0 r.2 (some (.int r.1))) args s (fCB h0 - fZ h0) (fLB h0 - fL h0) (fA h0)) (F0 m 60 ls []) := by
  obtain ⟨hx, hb, hml, hr, hlocks, hts, hown, K, hR⟩ := id M
  intro H locs cells slots ls hC hl
  refine fr_aload_n hx hb dX8_nextKeyNow_60 rfl (lv_at hl 0 rfl) ?_
  obtain ⟨x1, g2, hf⟩ := obind hf
  refine fr_get hx hb hts hown K hC ct_8 (fgR_get g2) (by decide) kw994 rfl dX8_nextKeyNow_61 ?_
  refine lv_iload_n hx hb dX8_nextKeyNow_64 rfl (lv_at hl 2 rfl) ?_
  obtain ⟨x3, g4, hf⟩ := obind hf
  refine fr_iald hx hb K hC (t := 0) rfl g4 dX8_nextKeyNow_65 ?_
  refine lv_istore_n (lv' := [(1, .int x3), (0, va_rf a0), (2, .int a2), (3, .int a3)]) hx hb dX8_nextKeyNow_66 rfl hl (by decide) (congrArg (List.cons _) (flk (adj1 _ _) (flk rfl (flk rfl fln)))) (fun ls hl => ?_)
  exact w_X8_nextKeyNow_L67 M hfl hk4 hk17 _ _ _ _ _ hf _ _ _ _ _ hC (lv_sub hl [1, 0, 2, 3] rfl)
set_option maxHeartbeats 4000000 in
set_option maxRecDepth 100000 in
theorem w_X8_nextKeyNow_L17 {p : Program} {l : Launch} {e : Env} {s : State} {m : MethodId} {args : Array Value} {below : List Frame} {meth : Method} {c : Code} {D : va_G} {cA : Nat → ClassId} {h0 : fSt} {r : (Int32 × fSt)} (M : fM p s m args meth c D cA h0 { frames := 0, cells := fCB h0 - fZ h0, slots := fLB h0 - fL h0, locals := 0 } cX8_nextKeyNow 4 (some (.int)) RX8) (hfl : l.stackTraces = false) {k4 : Option Nat → Int32 → Int32 → fSt → Option (Int32 × fSt)} (hk4 : ∀ (a0 : Option Nat) (a1 : Int32) (a2 : Int32) (h : fSt), k4 a0 a1 a2 h = some r → ∀ (H : Heap) (locs : List Loc) (cells slots : Nat) (ls : Array Slot), fCur D cA s h0 h H locs → lv_has ls 4 [(0, va_rf a0), (1, .int a1), (2, .int a2)] → W p l e { frames := 0, cells := fCB h0 - fZ h0, slots := fLB h0 - fL h0, locals := 0 } s m args below meth c H locs cells slots (MQ below (fQ D cA h0 r.2 (some (.int r.1))) args s (fCB h0 - fZ h0) (fLB h0 - fL h0) (fA h0)) (F0 m 4 ls [])) : ∀ (n : Nat) (a0 : Option Nat) (a1 : Int32) (a2 : Int32) (a3 : Int32) (h : fSt), f_X8_nextKeyNow_L17 k4 n a0 a1 a2 a3 h = some r → ∀ (H : Heap) (locs : List Loc) (cells slots : Nat) (ls : Array Slot), fCur D cA s h0 h H locs → lv_has ls 4 [(0, va_rf a0), (1, .int a1), (2, .int a2), (3, .int a3)] → W p l e { frames := 0, cells := fCB h0 - fZ h0, slots := fLB h0 - fL h0, locals := 0 } s m args below meth c H locs cells slots (MQ below (fQ D cA h0 r.2 (some (.int r.1))) args s (fCB h0 - fZ h0) (fLB h0 - fL h0) (fA h0)) (F0 m 17 ls []) := by
  obtain ⟨hx, hb, hml, hr, hlocks, hts, hown, K, hR⟩ := id M
  intro n
  induction n with
  | zero =>
    intro a0 a1 a2 a3 h hf
    exact nomatch (show (none : Option (Int32 × fSt)) = some r from hf)
  | succ n hk17 =>
    intro a0 a1 a2 a3 h hf H locs cells slots ls hC hl
    refine lv_iload_n hx hb dX8_nextKeyNow_17 rfl (lv_at hl 3 rfl) ?_
    refine lv_iload_n hx hb dX8_nextKeyNow_18 rfl (lv_at hl 2 rfl) ?_
    refine lv_bipush (v := (8 : Int32)) hx hb dX8_nextKeyNow_19 (by decide) ?_
    refine lv_imul hx hb dX8_nextKeyNow_21 ?_
    refine fr_aload_n hx hb dX8_nextKeyNow_22 rfl (lv_at hl 0 rfl) ?_
    obtain ⟨x5, g6, hf⟩ := obind hf
    refine fr_get hx hb hts hown K hC ct_8 (fgR_get g6) (by decide) kw993 rfl dX8_nextKeyNow_23 ?_
    refine lv_iload_n hx hb dX8_nextKeyNow_26 rfl (lv_at hl 2 rfl) ?_
    obtain ⟨x7, g8, hf⟩ := obind hf
    refine fr_iald hx hb K hC (t := 0) rfl g8 dX8_nextKeyNow_27 ?_
    refine lv_iadd hx hb dX8_nextKeyNow_28 ?_
    refine lv_icmp_ge (tgt := 73) hx hb dX8_nextKeyNow_29 (by decide) (fun c9 => ?_) (fun c9 => ?_)
    · replace hf := opos c9 hf
      refine lv_iinc (v := (a2 + (1 : Int32))) (lv' := [(2, .int (a2 + (1 : Int32))), (0, va_rf a0), (1, .int a1), (3, .int a3)]) hx hb dX8_nextKeyNow_73 hl (k := 2) rfl rfl (by decide) (congrArg (List.cons _) (flk rfl (flk rfl (fld rfl (flk rfl fln))))) (fun ls hl => ?_)
      refine lv_goto (tgt := 4) hx hb dX8_nextKeyNow_76 (by decide) ?_
      exact hk4 _ _ _ _ hf _ _ _ _ _ hC (lv_sub hl [1, 2, 0] rfl)
    · replace hf := oneg c9 hf
      refine fr_aload_n hx hb dX8_nextKeyNow_32 rfl (lv_at hl 0 rfl) ?_
      obtain ⟨x10, g11, hf⟩ := obind hf
      refine fr_get hx hb hts hown K hC ct_8 (fgR_get g11) (by decide) kw994 rfl dX8_nextKeyNow_33 ?_
      refine lv_iload_n hx hb dX8_nextKeyNow_36 rfl (lv_at hl 3 rfl) ?_
      obtain ⟨x12, g13, hf⟩ := obind hf
      refine fr_iald hx hb K hC (t := 0) rfl g13 dX8_nextKeyNow_37 ?_
      refine fr_aload_n hx hb dX8_nextKeyNow_38 rfl (lv_at hl 0 rfl) ?_
      obtain ⟨x14, g15, hf⟩ := obind hf
      refine fr_get hx hb hts hown K hC ct_8 (fgI_get g15) (by decide) kw996 rfl dX8_nextKeyNow_39 ?_
      refine lv_icmp_le (tgt := 67) hx hb dX8_nextKeyNow_42 (by decide) (fun c16 => ?_) (fun c16 => ?_)
      · replace hf := opos c16 hf
        exact w_X8_nextKeyNow_L67 M hfl hk4 hk17 _ _ _ _ _ hf _ _ _ _ _ hC (lv_sub hl [0, 1, 2, 3] rfl)
      · replace hf := oneg c16 hf
        refine lv_iload_n hx hb dX8_nextKeyNow_45 rfl (lv_at hl 1 rfl) ?_
        refine lv_iconst (v := (-1 : Int32)) hx hb dX8_nextKeyNow_46 (by decide) ?_
        refine lv_icmp_eq (tgt := 60) hx hb dX8_nextKeyNow_47 (by decide) (fun c17 => ?_) (fun c17 => ?_)
        · replace hf := opos c17 hf
          exact w_X8_nextKeyNow_L60 M hfl hk4 hk17 _ _ _ _ hf _ _ _ _ _ hC (lv_sub hl [0, 2, 3] rfl)
        · replace hf := oneg c17 hf
          refine fr_aload_n hx hb dX8_nextKeyNow_50 rfl (lv_at hl 0 rfl) ?_
          obtain ⟨x18, g19, hf⟩ := obind hf
          refine fr_get hx hb hts hown K hC ct_8 (fgR_get g19) (by decide) kw994 rfl dX8_nextKeyNow_51 ?_
          refine lv_iload_n hx hb dX8_nextKeyNow_54 rfl (lv_at hl 3 rfl) ?_
          obtain ⟨x20, g21, hf⟩ := obind hf
          refine fr_iald hx hb K hC (t := 0) rfl g21 dX8_nextKeyNow_55 ?_
          refine lv_iload_n hx hb dX8_nextKeyNow_56 rfl (lv_at hl 1 rfl) ?_
          refine lv_icmp_ge (tgt := 67) hx hb dX8_nextKeyNow_57 (by decide) (fun c22 => ?_) (fun c22 => ?_)
          · replace hf := opos c22 hf
            exact w_X8_nextKeyNow_L67 M hfl hk4 hk17 _ _ _ _ _ hf _ _ _ _ _ hC (lv_sub hl [0, 1, 2, 3] rfl)
          · replace hf := oneg c22 hf
            exact w_X8_nextKeyNow_L60 M hfl hk4 hk17 _ _ _ _ hf _ _ _ _ _ hC (lv_sub hl [0, 2, 3] rfl)
set_option maxHeartbeats 4000000 in
set_option maxRecDepth 100000 in
theorem w_X8_nextKeyNow_L4 {p : Program} {l : Launch} {e : Env} {s : State} {m : MethodId} {args : Array Value} {below : List Frame} {meth : Method} {c : Code} {D : va_G} {cA : Nat → ClassId} {h0 : fSt} {r : (Int32 × fSt)} (M : fM p s m args meth c D cA h0 { frames := 0, cells := fCB h0 - fZ h0, slots := fLB h0 - fL h0, locals := 0 } cX8_nextKeyNow 4 (some (.int)) RX8) (hfl : l.stackTraces = false) : ∀ (n : Nat) (a0 : Option Nat) (a1 : Int32) (a2 : Int32) (h : fSt), f_X8_nextKeyNow_L4 n a0 a1 a2 h = some r → ∀ (H : Heap) (locs : List Loc) (cells slots : Nat) (ls : Array Slot), fCur D cA s h0 h H locs → lv_has ls 4 [(0, va_rf a0), (1, .int a1), (2, .int a2)] → W p l e { frames := 0, cells := fCB h0 - fZ h0, slots := fLB h0 - fL h0, locals := 0 } s m args below meth c H locs cells slots (MQ below (fQ D cA h0 r.2 (some (.int r.1))) args s (fCB h0 - fZ h0) (fLB h0 - fL h0) (fA h0)) (F0 m 4 ls []) := by
  obtain ⟨hx, hb, hml, hr, hlocks, hts, hown, K, hR⟩ := id M
  intro n
  induction n with
  | zero =>
    intro a0 a1 a2 h hf
    exact nomatch (show (none : Option (Int32 × fSt)) = some r from hf)
  | succ n hk4 =>
    intro a0 a1 a2 h hf H locs cells slots ls hC hl
    refine lv_iload_n hx hb dX8_nextKeyNow_4 rfl (lv_at hl 2 rfl) ?_
    refine fr_aload_n hx hb dX8_nextKeyNow_5 rfl (lv_at hl 0 rfl) ?_
    obtain ⟨x23, g24, hf⟩ := obind hf
    refine fr_get hx hb hts hown K hC ct_8 (fgI_get g24) (by decide) kw988 rfl dX8_nextKeyNow_6 ?_
    refine lv_icmp_ge (tgt := 79) hx hb dX8_nextKeyNow_9 (by decide) (fun c25 => ?_) (fun c25 => ?_)
    · replace hf := opos c25 hf
      refine lv_iload_n hx hb dX8_nextKeyNow_79 rfl (lv_at hl 1 rfl) ?_
      obtain rfl := Option.some.inj hf
      exact fr_iret hx hb hr hlocks hC dX8_nextKeyNow_80
    · replace hf := oneg c25 hf
      refine lv_iload_n hx hb dX8_nextKeyNow_12 rfl (lv_at hl 2 rfl) ?_
      refine lv_bipush (v := (8 : Int32)) hx hb dX8_nextKeyNow_13 (by decide) ?_
      refine lv_imul hx hb dX8_nextKeyNow_15 ?_
      refine lv_istore_n (lv' := [(3, .int (a2 * (8 : Int32))), (0, va_rf a0), (1, .int a1), (2, .int a2)]) hx hb dX8_nextKeyNow_16 rfl hl (by decide) (congrArg (List.cons _) (flk rfl (flk rfl (flk rfl fln)))) (fun ls hl => ?_)
      exact w_X8_nextKeyNow_L17 M hfl hk4 4096 _ _ _ _ _ hf _ _ _ _ _ hC (lv_sub hl [1, 2, 3, 0] rfl)
set_option maxHeartbeats 4000000 in
set_option maxRecDepth 100000 in
theorem w_X8_nextKeyNow_L0 {p : Program} {l : Launch} {e : Env} {s : State} {m : MethodId} {args : Array Value} {below : List Frame} {meth : Method} {c : Code} {D : va_G} {cA : Nat → ClassId} {h0 : fSt} {r : (Int32 × fSt)} (M : fM p s m args meth c D cA h0 { frames := 0, cells := fCB h0 - fZ h0, slots := fLB h0 - fL h0, locals := 0 } cX8_nextKeyNow 4 (some (.int)) RX8) (hfl : l.stackTraces = false) (a0 : Option Nat) (h : fSt) (hf : f_X8_nextKeyNow_L0 a0 h = some r) : ∀ (H : Heap) (locs : List Loc) (cells slots : Nat) (ls : Array Slot), fCur D cA s h0 h H locs → lv_has ls 4 [(0, va_rf a0)] → W p l e { frames := 0, cells := fCB h0 - fZ h0, slots := fLB h0 - fL h0, locals := 0 } s m args below meth c H locs cells slots (MQ below (fQ D cA h0 r.2 (some (.int r.1))) args s (fCB h0 - fZ h0) (fLB h0 - fL h0) (fA h0)) (F0 m 0 ls []) := by
  obtain ⟨hx, hb, hml, hr, hlocks, hts, hown, K, hR⟩ := id M
  intro H locs cells slots ls hC hl
  refine lv_iconst (v := (-1 : Int32)) hx hb dX8_nextKeyNow_0 (by decide) ?_
  refine lv_istore_n (lv' := [(1, .int (-1 : Int32)), (0, va_rf a0)]) hx hb dX8_nextKeyNow_1 rfl hl (by decide) (congrArg (List.cons _) (flk (adj1 _ _) fln)) (fun ls hl => ?_)
  refine lv_iconst (v := (0 : Int32)) hx hb dX8_nextKeyNow_2 (by decide) ?_
  refine lv_istore_n (lv' := [(2, .int (0 : Int32)), (1, .int (-1 : Int32)), (0, va_rf a0)]) hx hb dX8_nextKeyNow_3 rfl hl (by decide) (congrArg (List.cons _) (flk rfl (flk rfl fln))) (fun ls hl => ?_)
  exact w_X8_nextKeyNow_L4 M hfl 4096 _ _ _ _ hf _ _ _ _ _ hC (lv_sub hl [2, 1, 0] rfl)
set_option maxRecDepth 100000 in
theorem c_X8_nextKeyNow {l : Launch} (hfl : l.stackTraces = false) (D : va_G) (cA : Nat → ClassId) {o : Nat} {h : fSt} {r : (Int32 × fSt)} (hf : f_X8_nextKeyNow o h = some r) : fMet l yX8_nextKeyNow (wsC yX8_nextKeyNow cX8_nextKeyNow 4 (some (.int))) (0) (0) D cA [.ref o] h r.2 (some (.int r.1)) := by
  exact fMet.of (own := RX8) (by decide +kernel) rfl (lva1 rfl lva0) (lgl1 rfl lgl0) (Nat.le_of_ble_eq_true rfl) (fun p e s m args below meth c ls hnm _ M hC hl => by
    have hl : lv_has ls 4 [(0, va_rf (some o))] := hl
    exact w_X8_nextKeyNow_L0 M hfl _ _ hf _ _ _ _ _ hC (lv_sub hl [0] rfl))
set_option maxHeartbeats 4000000 in
set_option maxRecDepth 100000 in
theorem w_X8_nodesNow_L27 {p : Program} {l : Launch} {e : Env} {s : State} {m : MethodId} {args : Array Value} {below : List Frame} {meth : Method} {c : Code} {D : va_G} {cA : Nat → ClassId} {h0 : fSt} {r : (Int32 × fSt)} (M : fM p s m args meth c D cA h0 { frames := 0, cells := fCB h0 - fZ h0, slots := fLB h0 - fL h0, locals := 0 } cX8_nodesNow 3 (some (.int)) RX8) (hfl : l.stackTraces = false) {k4 : Option Nat → Int32 → Int32 → fSt → Option (Int32 × fSt)} (hk4 : ∀ (a0 : Option Nat) (a1 : Int32) (a2 : Int32) (h : fSt), k4 a0 a1 a2 h = some r → ∀ (H : Heap) (locs : List Loc) (cells slots : Nat) (ls : Array Slot), fCur D cA s h0 h H locs → lv_has ls 3 [(0, va_rf a0), (1, .int a1), (2, .int a2)] → W p l e { frames := 0, cells := fCB h0 - fZ h0, slots := fLB h0 - fL h0, locals := 0 } s m args below meth c H locs cells slots (MQ below (fQ D cA h0 r.2 (some (.int r.1))) args s (fCB h0 - fZ h0) (fLB h0 - fL h0) (fA h0)) (F0 m 4 ls [])) (a0 : Option Nat) (a2 : Int32) (s1 : Int32) (s0 : Int32) (h : fSt) (hf : f_X8_nodesNow_L27 k4 a0 a2 s1 s0 h = some r) : ∀ (H : Heap) (locs : List Loc) (cells slots : Nat) (ls : Array Slot), fCur D cA s h0 h H locs → lv_has ls 3 [(0, va_rf a0), (2, .int a2)] → W p l e { frames := 0, cells := fCB h0 - fZ h0, slots := fLB h0 - fL h0, locals := 0 } s m args below meth c H locs cells slots (MQ below (fQ D cA h0 r.2 (some (.int r.1))) args s (fCB h0 - fZ h0) (fLB h0 - fL h0) (fA h0)) (F0 m 27 ls [.int s1, .int s0]) := by
  obtain ⟨hx, hb, hml, hr, hlocks, hts, hown, K, hR⟩ := id M
  intro H locs cells slots ls hC hl
  refine lv_iadd hx hb dX8_nodesNow_27 ?_
  refine lv_istore_n (lv' := [(1, .int (s0 + s1)), (0, va_rf a0), (2, .int a2)]) hx hb dX8_nodesNow_28 rfl hl (by decide) (congrArg (List.cons _) (flk (adj1 _ _) (flk rfl fln))) (fun ls hl => ?_)
  refine lv_iinc (v := (a2 + (1 : Int32))) (lv' := [(2, .int (a2 + (1 : Int32))), (1, .int (s0 + s1)), (0, va_rf a0)]) hx hb dX8_nodesNow_29 hl (k := 2) rfl rfl (by decide) (congrArg (List.cons _) (flk rfl (flk rfl (fld rfl fln)))) (fun ls hl => ?_)
  refine lv_goto (tgt := 4) hx hb dX8_nodesNow_32 (by decide) ?_
  exact hk4 _ _ _ _ hf _ _ _ _ _ hC (lv_sub hl [2, 1, 0] rfl)
set_option maxHeartbeats 4000000 in
set_option maxRecDepth 100000 in
theorem w_X8_nodesNow_L4 {p : Program} {l : Launch} {e : Env} {s : State} {m : MethodId} {args : Array Value} {below : List Frame} {meth : Method} {c : Code} {D : va_G} {cA : Nat → ClassId} {h0 : fSt} {r : (Int32 × fSt)} (M : fM p s m args meth c D cA h0 { frames := 0, cells := fCB h0 - fZ h0, slots := fLB h0 - fL h0, locals := 0 } cX8_nodesNow 3 (some (.int)) RX8) (hfl : l.stackTraces = false) : ∀ (n : Nat) (a0 : Option Nat) (a1 : Int32) (a2 : Int32) (h : fSt), f_X8_nodesNow_L4 n a0 a1 a2 h = some r → ∀ (H : Heap) (locs : List Loc) (cells slots : Nat) (ls : Array Slot), fCur D cA s h0 h H locs → lv_has ls 3 [(0, va_rf a0), (1, .int a1), (2, .int a2)] → W p l e { frames := 0, cells := fCB h0 - fZ h0, slots := fLB h0 - fL h0, locals := 0 } s m args below meth c H locs cells slots (MQ below (fQ D cA h0 r.2 (some (.int r.1))) args s (fCB h0 - fZ h0) (fLB h0 - fL h0) (fA h0)) (F0 m 4 ls []) := by
  obtain ⟨hx, hb, hml, hr, hlocks, hts, hown, K, hR⟩ := id M
  intro n
  induction n with
  | zero =>
    intro a0 a1 a2 h hf
    exact nomatch (show (none : Option (Int32 × fSt)) = some r from hf)
  | succ n hk4 =>
    intro a0 a1 a2 h hf H locs cells slots ls hC hl
    refine lv_iload_n hx hb dX8_nodesNow_4 rfl (lv_at hl 2 rfl) ?_
    refine fr_aload_n hx hb dX8_nodesNow_5 rfl (lv_at hl 0 rfl) ?_
    obtain ⟨x1, g2, hf⟩ := obind hf
    refine fr_get hx hb hts hown K hC ct_8 (fgI_get g2) (by decide) kw972 rfl dX8_nodesNow_6 ?_
    refine lv_icmp_ge (tgt := 35) hx hb dX8_nodesNow_9 (by decide) (fun c3 => ?_) (fun c3 => ?_)
    · replace hf := opos c3 hf
      refine lv_iload_n hx hb dX8_nodesNow_35 rfl (lv_at hl 1 rfl) ?_
      obtain rfl := Option.some.inj hf
      exact fr_iret hx hb hr hlocks hC dX8_nodesNow_36
    · replace hf := oneg c3 hf
      refine lv_iload_n hx hb dX8_nodesNow_12 rfl (lv_at hl 1 rfl) ?_
      refine fr_aload_n hx hb dX8_nodesNow_13 rfl (lv_at hl 0 rfl) ?_
      obtain ⟨x4, g5, hf⟩ := obind hf
      refine fr_get hx hb hts hown K hC ct_8 (fgR_get g5) (by decide) kw973 rfl dX8_nodesNow_14 ?_
      refine lv_iload_n hx hb dX8_nodesNow_17 rfl (lv_at hl 2 rfl) ?_
      obtain ⟨x6, g7, hf⟩ := obind hf
      refine fr_zald hx hb K hC (t := 2) rfl g7 dX8_nodesNow_18 ?_
      refine lv_if_eq (tgt := 26) hx hb dX8_nodesNow_19 (by decide) (fun c8 => ?_) (fun c8 => ?_)
      · replace hf := opos c8 hf
        refine lv_iconst (v := (1 : Int32)) hx hb dX8_nodesNow_26 (by decide) ?_
        exact w_X8_nodesNow_L27 M hfl hk4 _ _ _ _ _ hf _ _ _ _ _ hC (lv_sub hl [0, 2] rfl)
      · replace hf := oneg c8 hf
        refine lv_iconst (v := (0 : Int32)) hx hb dX8_nodesNow_22 (by decide) ?_
        refine lv_goto (tgt := 27) hx hb dX8_nodesNow_23 (by decide) ?_
        exact w_X8_nodesNow_L27 M hfl hk4 _ _ _ _ _ hf _ _ _ _ _ hC (lv_sub hl [0, 2] rfl)
set_option maxHeartbeats 4000000 in
set_option maxRecDepth 100000 in
theorem w_X8_nodesNow_L0 {p : Program} {l : Launch} {e : Env} {s : State} {m : MethodId} {args : Array Value} {below : List Frame} {meth : Method} {c : Code} {D : va_G} {cA : Nat → ClassId} {h0 : fSt} {r : (Int32 × fSt)} (M : fM p s m args meth c D cA h0 { frames := 0, cells := fCB h0 - fZ h0, slots := fLB h0 - fL h0, locals := 0 } cX8_nodesNow 3 (some (.int)) RX8) (hfl : l.stackTraces = false) (a0 : Option Nat) (h : fSt) (hf : f_X8_nodesNow_L0 a0 h = some r) : ∀ (H : Heap) (locs : List Loc) (cells slots : Nat) (ls : Array Slot), fCur D cA s h0 h H locs → lv_has ls 3 [(0, va_rf a0)] → W p l e { frames := 0, cells := fCB h0 - fZ h0, slots := fLB h0 - fL h0, locals := 0 } s m args below meth c H locs cells slots (MQ below (fQ D cA h0 r.2 (some (.int r.1))) args s (fCB h0 - fZ h0) (fLB h0 - fL h0) (fA h0)) (F0 m 0 ls []) := by
  obtain ⟨hx, hb, hml, hr, hlocks, hts, hown, K, hR⟩ := id M
  intro H locs cells slots ls hC hl
  refine lv_iconst (v := (0 : Int32)) hx hb dX8_nodesNow_0 (by decide) ?_
  refine lv_istore_n (lv' := [(1, .int (0 : Int32)), (0, va_rf a0)]) hx hb dX8_nodesNow_1 rfl hl (by decide) (congrArg (List.cons _) (flk (adj1 _ _) fln)) (fun ls hl => ?_)
  refine lv_iconst (v := (0 : Int32)) hx hb dX8_nodesNow_2 (by decide) ?_
  refine lv_istore_n (lv' := [(2, .int (0 : Int32)), (1, .int (0 : Int32)), (0, va_rf a0)]) hx hb dX8_nodesNow_3 rfl hl (by decide) (congrArg (List.cons _) (flk rfl (flk rfl fln))) (fun ls hl => ?_)
  exact w_X8_nodesNow_L4 M hfl 4096 _ _ _ _ hf _ _ _ _ _ hC (lv_sub hl [2, 1, 0] rfl)
set_option maxRecDepth 100000 in
theorem c_X8_nodesNow {l : Launch} (hfl : l.stackTraces = false) (D : va_G) (cA : Nat → ClassId) {o : Nat} {h : fSt} {r : (Int32 × fSt)} (hf : f_X8_nodesNow o h = some r) : fMet l yX8_nodesNow (wsC yX8_nodesNow cX8_nodesNow 3 (some (.int))) (0) (0) D cA [.ref o] h r.2 (some (.int r.1)) := by
  exact fMet.of (own := RX8) (by decide +kernel) rfl (lva1 rfl lva0) (lgl1 rfl lgl0) (Nat.le_of_ble_eq_true rfl) (fun p e s m args below meth c ls hnm _ M hC hl => by
    have hl : lv_has ls 3 [(0, va_rf (some o))] := hl
    exact w_X8_nodesNow_L0 M hfl _ _ hf _ _ _ _ _ hC (lv_sub hl [0] rfl))
set_option maxHeartbeats 4000000 in
set_option maxRecDepth 100000 in
theorem w_X8_hanging_L37 {p : Program} {l : Launch} {e : Env} {s : State} {m : MethodId} {args : Array Value} {below : List Frame} {meth : Method} {c : Code} {D : va_G} {cA : Nat → ClassId} {h0 : fSt} {r : (Int32 × fSt)} (M : fM p s m args meth c D cA h0 { frames := 0, cells := fCB h0 - fZ h0, slots := fLB h0 - fL h0, locals := 0 } cX8_hanging 4 (some (.int)) RX8) (hfl : l.stackTraces = false) {k4 : Option Nat → Int32 → Int32 → Int32 → fSt → Option (Int32 × fSt)} (hk4 : ∀ (a0 : Option Nat) (a1 : Int32) (a2 : Int32) (a3 : Int32) (h : fSt), k4 a0 a1 a2 a3 h = some r → ∀ (H : Heap) (locs : List Loc) (cells slots : Nat) (ls : Array Slot), fCur D cA s h0 h H locs → lv_has ls 4 [(0, va_rf a0), (1, .int a1), (2, .int a2), (3, .int a3)] → W p l e { frames := 0, cells := fCB h0 - fZ h0, slots := fLB h0 - fL h0, locals := 0 } s m args below meth c H locs cells slots (MQ below (fQ D cA h0 r.2 (some (.int r.1))) args s (fCB h0 - fZ h0) (fLB h0 - fL h0) (fA h0)) (F0 m 4 ls [])) (a0 : Option Nat) (a1 : Int32) (a3 : Int32) (s1 : Int32) (s0 : Int32) (h : fSt) (hf : f_X8_hanging_L37 k4 a0 a1 a3 s1 s0 h = some r) : ∀ (H : Heap) (locs : List Loc) (cells slots : Nat) (ls : Array Slot), fCur D cA s h0 h H locs → lv_has ls 4 [(0, va_rf a0), (1, .int a1), (3, .int a3)] → W p l e { frames := 0, cells := fCB h0 - fZ h0, slots := fLB h0 - fL h0, locals := 0 } s m args below meth c H locs cells slots (MQ below (fQ D cA h0 r.2 (some (.int r.1))) args s (fCB h0 - fZ h0) (fLB h0 - fL h0) (fA h0)) (F0 m 37 ls [.int s1, .int s0]) := by
  obtain ⟨hx, hb, hml, hr, hlocks, hts, hown, K, hR⟩ := id M
  intro H locs cells slots ls hC hl
  refine lv_iadd hx hb dX8_hanging_37 ?_
  refine lv_istore_n (lv' := [(2, .int (s0 + s1)), (0, va_rf a0), (1, .int a1), (3, .int a3)]) hx hb dX8_hanging_38 rfl hl (by decide) (congrArg (List.cons _) (flk rfl (flk rfl (flk rfl fln)))) (fun ls hl => ?_)
  refine lv_iinc (v := (a3 + (1 : Int32))) (lv' := [(3, .int (a3 + (1 : Int32))), (2, .int (s0 + s1)), (0, va_rf a0), (1, .int a1)]) hx hb dX8_hanging_39 hl (k := 3) rfl rfl (by decide) (congrArg (List.cons _) (flk rfl (flk rfl (flk rfl (fld rfl fln))))) (fun ls hl => ?_)
  refine lv_goto (tgt := 4) hx hb dX8_hanging_42 (by decide) ?_
  exact hk4 _ _ _ _ _ hf _ _ _ _ _ hC (lv_sub hl [2, 3, 1, 0] rfl)
set_option maxHeartbeats 4000000 in
set_option maxRecDepth 100000 in
theorem w_X8_hanging_L36 {p : Program} {l : Launch} {e : Env} {s : State} {m : MethodId} {args : Array Value} {below : List Frame} {meth : Method} {c : Code} {D : va_G} {cA : Nat → ClassId} {h0 : fSt} {r : (Int32 × fSt)} (M : fM p s m args meth c D cA h0 { frames := 0, cells := fCB h0 - fZ h0, slots := fLB h0 - fL h0, locals := 0 } cX8_hanging 4 (some (.int)) RX8) (hfl : l.stackTraces = false) {k4 : Option Nat → Int32 → Int32 → Int32 → fSt → Option (Int32 × fSt)} (hk4 : ∀ (a0 : Option Nat) (a1 : Int32) (a2 : Int32) (a3 : Int32) (h : fSt), k4 a0 a1 a2 a3 h = some r → ∀ (H : Heap) (locs : List Loc) (cells slots : Nat) (ls : Array Slot), fCur D cA s h0 h H locs → lv_has ls 4 [(0, va_rf a0), (1, .int a1), (2, .int a2), (3, .int a3)] → W p l e { frames := 0, cells := fCB h0 - fZ h0, slots := fLB h0 - fL h0, locals := 0 } s m args below meth c H locs cells slots (MQ below (fQ D cA h0 r.2 (some (.int r.1))) args s (fCB h0 - fZ h0) (fLB h0 - fL h0) (fA h0)) (F0 m 4 ls [])) (a0 : Option Nat) (a1 : Int32) (a3 : Int32) (s0 : Int32) (h : fSt) (hf : f_X8_hanging_L36 k4 a0 a1 a3 s0 h = some r) : ∀ (H : Heap) (locs : List Loc) (cells slots : Nat) (ls : Array Slot), fCur D cA s h0 h H locs → lv_has ls 4 [(0, va_rf a0), (1, .int a1), (3, .int a3)] → W p l e { frames := 0, cells := fCB h0 - fZ h0, slots := fLB h0 - fL h0, locals := 0 } s m args below meth c H locs cells slots (MQ below (fQ D cA h0 r.2 (some (.int r.1))) args s (fCB h0 - fZ h0) (fLB h0 - fL h0) (fA h0)) (F0 m 36 ls [.int s0]) := by
  obtain ⟨hx, hb, hml, hr, hlocks, hts, hown, K, hR⟩ := id M
  intro H locs cells slots ls hC hl
  refine lv_iconst (v := (0 : Int32)) hx hb dX8_hanging_36 (by decide) ?_
  exact w_X8_hanging_L37 M hfl hk4 _ _ _ _ _ _ hf _ _ _ _ _ hC (lv_sub hl [0, 1, 2] rfl)
set_option maxHeartbeats 4000000 in
set_option maxRecDepth 100000 in
theorem w_X8_hanging_L4 {p : Program} {l : Launch} {e : Env} {s : State} {m : MethodId} {args : Array Value} {below : List Frame} {meth : Method} {c : Code} {D : va_G} {cA : Nat → ClassId} {h0 : fSt} {r : (Int32 × fSt)} (M : fM p s m args meth c D cA h0 { frames := 0, cells := fCB h0 - fZ h0, slots := fLB h0 - fL h0, locals := 0 } cX8_hanging 4 (some (.int)) RX8) (hfl : l.stackTraces = false) : ∀ (n : Nat) (a0 : Option Nat) (a1 : Int32) (a2 : Int32) (a3 : Int32) (h : fSt), f_X8_hanging_L4 n a0 a1 a2 a3 h = some r → ∀ (H : Heap) (locs : List Loc) (cells slots : Nat) (ls : Array Slot), fCur D cA s h0 h H locs → lv_has ls 4 [(0, va_rf a0), (1, .int a1), (2, .int a2), (3, .int a3)] → W p l e { frames := 0, cells := fCB h0 - fZ h0, slots := fLB h0 - fL h0, locals := 0 } s m args below meth c H locs cells slots (MQ below (fQ D cA h0 r.2 (some (.int r.1))) args s (fCB h0 - fZ h0) (fLB h0 - fL h0) (fA h0)) (F0 m 4 ls []) := by
  obtain ⟨hx, hb, hml, hr, hlocks, hts, hown, K, hR⟩ := id M
  intro n
  induction n with
  | zero =>
    intro a0 a1 a2 a3 h hf
    exact nomatch (show (none : Option (Int32 × fSt)) = some r from hf)
  | succ n hk4 =>
    intro a0 a1 a2 a3 h hf H locs cells slots ls hC hl
    refine lv_iload_n hx hb dX8_hanging_4 rfl (lv_at hl 3 rfl) ?_
    refine fr_aload_n hx hb dX8_hanging_5 rfl (lv_at hl 0 rfl) ?_
    obtain ⟨x1, g2, hf⟩ := obind hf
    refine fr_get hx hb hts hown K hC ct_8 (fgI_get g2) (by decide) kw972 rfl dX8_hanging_6 ?_
    refine lv_icmp_ge (tgt := 45) hx hb dX8_hanging_9 (by decide) (fun c3 => ?_) (fun c3 => ?_)
    · replace hf := opos c3 hf
      refine lv_iload_n hx hb dX8_hanging_45 rfl (lv_at hl 2 rfl) ?_
      obtain rfl := Option.some.inj hf
      exact fr_iret hx hb hr hlocks hC dX8_hanging_46
    · replace hf := oneg c3 hf
      refine lv_iload_n hx hb dX8_hanging_12 rfl (lv_at hl 2 rfl) ?_
      refine fr_aload_n hx hb dX8_hanging_13 rfl (lv_at hl 0 rfl) ?_
      obtain ⟨x4, g5, hf⟩ := obind hf
      refine fr_get hx hb hts hown K hC ct_8 (fgR_get g5) (by decide) kw973 rfl dX8_hanging_14 ?_
      refine lv_iload_n hx hb dX8_hanging_17 rfl (lv_at hl 3 rfl) ?_
      obtain ⟨x6, g7, hf⟩ := obind hf
      refine fr_zald hx hb K hC (t := 2) rfl g7 dX8_hanging_18 ?_
      refine lv_if_ne (tgt := 36) hx hb dX8_hanging_19 (by decide) (fun c8 => ?_) (fun c8 => ?_)
      · replace hf := oneg c8 hf
        exact w_X8_hanging_L36 M hfl hk4 _ _ _ _ _ hf _ _ _ _ _ hC (lv_sub hl [0, 1, 3] rfl)
      · replace hf := opos c8 hf
        refine fr_aload_n hx hb dX8_hanging_22 rfl (lv_at hl 0 rfl) ?_
        obtain ⟨x9, g10, hf⟩ := obind hf
        refine fr_get hx hb hts hown K hC ct_8 (fgR_get g10) (by decide) kw977 rfl dX8_hanging_23 ?_
        refine lv_iload_n hx hb dX8_hanging_26 rfl (lv_at hl 3 rfl) ?_
        obtain ⟨x11, g12, hf⟩ := obind hf
        refine fr_iald hx hb K hC (t := 0) rfl g12 dX8_hanging_27 ?_
        refine lv_iload_n hx hb dX8_hanging_28 rfl (lv_at hl 1 rfl) ?_
        refine lv_icmp_ne (tgt := 36) hx hb dX8_hanging_29 (by decide) (fun c13 => ?_) (fun c13 => ?_)
        · replace hf := oneg c13 hf
          exact w_X8_hanging_L36 M hfl hk4 _ _ _ _ _ hf _ _ _ _ _ hC (lv_sub hl [0, 1, 3] rfl)
        · replace hf := opos c13 hf
          refine lv_iconst (v := (1 : Int32)) hx hb dX8_hanging_32 (by decide) ?_
          refine lv_goto (tgt := 37) hx hb dX8_hanging_33 (by decide) ?_
          exact w_X8_hanging_L37 M hfl hk4 _ _ _ _ _ _ hf _ _ _ _ _ hC (lv_sub hl [0, 1, 3] rfl)
set_option maxHeartbeats 4000000 in
set_option maxRecDepth 100000 in
theorem w_X8_hanging_L0 {p : Program} {l : Launch} {e : Env} {s : State} {m : MethodId} {args : Array Value} {below : List Frame} {meth : Method} {c : Code} {D : va_G} {cA : Nat → ClassId} {h0 : fSt} {r : (Int32 × fSt)} (M : fM p s m args meth c D cA h0 { frames := 0, cells := fCB h0 - fZ h0, slots := fLB h0 - fL h0, locals := 0 } cX8_hanging 4 (some (.int)) RX8) (hfl : l.stackTraces = false) (a0 : Option Nat) (a1 : Int32) (h : fSt) (hf : f_X8_hanging_L0 a0 a1 h = some r) : ∀ (H : Heap) (locs : List Loc) (cells slots : Nat) (ls : Array Slot), fCur D cA s h0 h H locs → lv_has ls 4 [(0, va_rf a0), (1, .int a1)] → W p l e { frames := 0, cells := fCB h0 - fZ h0, slots := fLB h0 - fL h0, locals := 0 } s m args below meth c H locs cells slots (MQ below (fQ D cA h0 r.2 (some (.int r.1))) args s (fCB h0 - fZ h0) (fLB h0 - fL h0) (fA h0)) (F0 m 0 ls []) := by
  obtain ⟨hx, hb, hml, hr, hlocks, hts, hown, K, hR⟩ := id M
  intro H locs cells slots ls hC hl
  refine lv_iconst (v := (0 : Int32)) hx hb dX8_hanging_0 (by decide) ?_
  refine lv_istore_n (lv' := [(2, .int (0 : Int32)), (0, va_rf a0), (1, .int a1)]) hx hb dX8_hanging_1 rfl hl (by decide) (congrArg (List.cons _) (flk rfl (flk rfl fln))) (fun ls hl => ?_)
  refine lv_iconst (v := (1 : Int32)) hx hb dX8_hanging_2 (by decide) ?_
  refine lv_istore_n (lv' := [(3, .int (1 : Int32)), (2, .int (0 : Int32)), (0, va_rf a0), (1, .int a1)]) hx hb dX8_hanging_3 rfl hl (by decide) (congrArg (List.cons _) (flk rfl (flk rfl (flk rfl fln)))) (fun ls hl => ?_)
  exact w_X8_hanging_L4 M hfl 4096 _ _ _ _ _ hf _ _ _ _ _ hC (lv_sub hl [2, 3, 1, 0] rfl)
set_option maxRecDepth 100000 in
theorem c_X8_hanging {l : Launch} (hfl : l.stackTraces = false) (D : va_G) (cA : Nat → ClassId) {o : Nat} {p0 : Int32} {h : fSt} {r : (Int32 × fSt)} (hf : f_X8_hanging o p0 h = some r) : fMet l yX8_hanging (wsC yX8_hanging cX8_hanging 4 (some (.int))) (0) (0) D cA [.ref o, .int p0] h r.2 (some (.int r.1)) := by
  exact fMet.of (own := RX8) (by decide +kernel) rfl (lva1 rfl (lva1 rfl lva0)) (lgl1 rfl (lgl1 rfl lgl0)) (Nat.le_of_ble_eq_true rfl) (fun p e s m args below meth c ls hnm _ M hC hl => by
    have hl : lv_has ls 4 [(0, va_rf (some o)), (1, .int p0)] := hl
    exact w_X8_hanging_L0 M hfl _ _ _ hf _ _ _ _ _ hC (lv_sub hl [0, 1] rfl))
set_option maxHeartbeats 4000000 in
set_option maxRecDepth 100000 in
theorem w_X8_isAhead_L58 {p : Program} {l : Launch} {e : Env} {s : State} {m : MethodId} {args : Array Value} {below : List Frame} {meth : Method} {c : Code} {D : va_G} {cA : Nat → ClassId} {h0 : fSt} {r : (Int32 × fSt)} (M : fM p s m args meth c D cA h0 { frames := 0, cells := fCB h0 - fZ h0, slots := fLB h0 - fL h0, locals := 0 } cX8_isAhead 3 (some (.boolean)) RX8) (hfl : l.stackTraces = false) (s0 : Int32) (h : fSt) (hf : f_X8_isAhead_L58 s0 h = some r) : ∀ (H : Heap) (locs : List Loc) (cells slots : Nat) (ls : Array Slot), fCur D cA s h0 h H locs → lv_has ls 3 [] → W p l e { frames := 0, cells := fCB h0 - fZ h0, slots := fLB h0 - fL h0, locals := 0 } s m args below meth c H locs cells slots (MQ below (fQ D cA h0 r.2 (some (.int r.1))) args s (fCB h0 - fZ h0) (fLB h0 - fL h0) (fA h0)) (F0 m 58 ls [.int s0]) := by
  obtain ⟨hx, hb, hml, hr, hlocks, hts, hown, K, hR⟩ := id M
  intro H locs cells slots ls hC hl
  by_cases c1 : s0 = 0 ∨ s0 = 1
  rotate_left
  · exact nomatch (oneg c1 hf)
  obtain rfl := Option.some.inj (opos c1 hf)
  exact fr_zret hx hb hr hlocks hC c1 dX8_isAhead_58
set_option maxHeartbeats 4000000 in
set_option maxRecDepth 100000 in
theorem w_X8_isAhead_L0 {p : Program} {l : Launch} {e : Env} {s : State} {m : MethodId} {args : Array Value} {below : List Frame} {meth : Method} {c : Code} {D : va_G} {cA : Nat → ClassId} {h0 : fSt} {r : (Int32 × fSt)} (M : fM p s m args meth c D cA h0 { frames := 0, cells := fCB h0 - fZ h0, slots := fLB h0 - fL h0, locals := 0 } cX8_isAhead 3 (some (.boolean)) RX8) (hfl : l.stackTraces = false) (a0 : Option Nat) (a1 : Int32) (a2 : Int32) (h : fSt) (hf : f_X8_isAhead_L0 a0 a1 a2 h = some r) : ∀ (H : Heap) (locs : List Loc) (cells slots : Nat) (ls : Array Slot), fCur D cA s h0 h H locs → lv_has ls 3 [(0, va_rf a0), (1, .int a1), (2, .int a2)] → W p l e { frames := 0, cells := fCB h0 - fZ h0, slots := fLB h0 - fL h0, locals := 0 } s m args below meth c H locs cells slots (MQ below (fQ D cA h0 r.2 (some (.int r.1))) args s (fCB h0 - fZ h0) (fLB h0 - fL h0) (fA h0)) (F0 m 0 ls []) := by
  obtain ⟨hx, hb, hml, hr, hlocks, hts, hown, K, hR⟩ := id M
  intro H locs cells slots ls hC hl
  refine fr_aload_n hx hb dX8_isAhead_0 rfl (lv_at hl 0 rfl) ?_
  obtain ⟨x2, g3, hf⟩ := obind hf
  refine fr_get hx hb hts hown K hC ct_8 (fgR_get g3) (by decide) kw983 rfl dX8_isAhead_1 ?_
  refine lv_iload_n hx hb dX8_isAhead_4 rfl (lv_at hl 1 rfl) ?_
  obtain ⟨x4, g5, hf⟩ := obind hf
  refine fr_iald hx hb K hC (t := 0) rfl g5 dX8_isAhead_5 ?_
  refine fr_aload_n hx hb dX8_isAhead_6 rfl (lv_at hl 0 rfl) ?_
  obtain ⟨x6, g7, hf⟩ := obind hf
  refine fr_get hx hb hts hown K hC ct_8 (fgR_get g7) (by decide) kw983 rfl dX8_isAhead_7 ?_
  refine lv_iload_n hx hb dX8_isAhead_10 rfl (lv_at hl 2 rfl) ?_
  obtain ⟨x8, g9, hf⟩ := obind hf
  refine fr_iald hx hb K hC (t := 0) rfl g9 dX8_isAhead_11 ?_
  refine lv_icmp_eq (tgt := 38) hx hb dX8_isAhead_12 (by decide) (fun c10 => ?_) (fun c10 => ?_)
  · replace hf := opos c10 hf
    refine fr_aload_n hx hb dX8_isAhead_38 rfl (lv_at hl 0 rfl) ?_
    obtain ⟨x11, g12, hf⟩ := obind hf
    refine fr_get hx hb hts hown K hC ct_8 (fgR_get g12) (by decide) kw984 rfl dX8_isAhead_39 ?_
    refine lv_iload_n hx hb dX8_isAhead_42 rfl (lv_at hl 1 rfl) ?_
    obtain ⟨x13, g14, hf⟩ := obind hf
    refine fr_iald hx hb K hC (t := 0) rfl g14 dX8_isAhead_43 ?_
    refine fr_aload_n hx hb dX8_isAhead_44 rfl (lv_at hl 0 rfl) ?_
    obtain ⟨x15, g16, hf⟩ := obind hf
    refine fr_get hx hb hts hown K hC ct_8 (fgR_get g16) (by decide) kw984 rfl dX8_isAhead_45 ?_
    refine lv_iload_n hx hb dX8_isAhead_48 rfl (lv_at hl 2 rfl) ?_
    obtain ⟨x17, g18, hf⟩ := obind hf
    refine fr_iald hx hb K hC (t := 0) rfl g18 dX8_isAhead_49 ?_
    refine lv_icmp_ge (tgt := 57) hx hb dX8_isAhead_50 (by decide) (fun c19 => ?_) (fun c19 => ?_)
    · replace hf := opos c19 hf
      refine lv_iconst (v := (0 : Int32)) hx hb dX8_isAhead_57 (by decide) ?_
      exact w_X8_isAhead_L58 M hfl _ _ hf _ _ _ _ _ hC (lv_sub hl [] rfl)
    · replace hf := oneg c19 hf
      refine lv_iconst (v := (1 : Int32)) hx hb dX8_isAhead_53 (by decide) ?_
      refine lv_goto (tgt := 58) hx hb dX8_isAhead_54 (by decide) ?_
      exact w_X8_isAhead_L58 M hfl _ _ hf _ _ _ _ _ hC (lv_sub hl [] rfl)
  · replace hf := oneg c10 hf
    refine fr_aload_n hx hb dX8_isAhead_15 rfl (lv_at hl 0 rfl) ?_
    obtain ⟨x20, g21, hf⟩ := obind hf
    refine fr_get hx hb hts hown K hC ct_8 (fgR_get g21) (by decide) kw983 rfl dX8_isAhead_16 ?_
    refine lv_iload_n hx hb dX8_isAhead_19 rfl (lv_at hl 1 rfl) ?_
    obtain ⟨x22, g23, hf⟩ := obind hf
    refine fr_iald hx hb K hC (t := 0) rfl g23 dX8_isAhead_20 ?_
    refine fr_aload_n hx hb dX8_isAhead_21 rfl (lv_at hl 0 rfl) ?_
    obtain ⟨x24, g25, hf⟩ := obind hf
    refine fr_get hx hb hts hown K hC ct_8 (fgR_get g25) (by decide) kw983 rfl dX8_isAhead_22 ?_
    refine lv_iload_n hx hb dX8_isAhead_25 rfl (lv_at hl 2 rfl) ?_
    obtain ⟨x26, g27, hf⟩ := obind hf
    refine fr_iald hx hb K hC (t := 0) rfl g27 dX8_isAhead_26 ?_
    refine lv_icmp_ge (tgt := 34) hx hb dX8_isAhead_27 (by decide) (fun c28 => ?_) (fun c28 => ?_)
    · replace hf := opos c28 hf
      refine lv_iconst (v := (0 : Int32)) hx hb dX8_isAhead_34 (by decide) ?_
      refine lv_goto (tgt := 58) hx hb dX8_isAhead_35 (by decide) ?_
      exact w_X8_isAhead_L58 M hfl _ _ hf _ _ _ _ _ hC (lv_sub hl [] rfl)
    · replace hf := oneg c28 hf
      refine lv_iconst (v := (1 : Int32)) hx hb dX8_isAhead_30 (by decide) ?_
      refine lv_goto (tgt := 58) hx hb dX8_isAhead_31 (by decide) ?_
      exact w_X8_isAhead_L58 M hfl _ _ hf _ _ _ _ _ hC (lv_sub hl [] rfl)
set_option maxRecDepth 100000 in
theorem c_X8_isAhead {l : Launch} (hfl : l.stackTraces = false) (D : va_G) (cA : Nat → ClassId) {o : Nat} {p0 : Int32} {p1 : Int32} {h : fSt} {r : (Int32 × fSt)} (hf : f_X8_isAhead o p0 p1 h = some r) : fMet l yX8_isAhead (wsC yX8_isAhead cX8_isAhead 3 (some (.boolean))) (0) (0) D cA [.ref o, .int p0, .int p1] h r.2 (some (.int r.1)) := by
  exact fMet.of (own := RX8) (by decide +kernel) rfl (lva1 rfl (lva1 rfl (lva1 rfl lva0))) (lgl1 rfl (lgl1 rfl (lgl1 rfl lgl0))) (Nat.le_of_ble_eq_true rfl) (fun p e s m args below meth c ls hnm _ M hC hl => by
    have hl : lv_has ls 3 [(0, va_rf (some o)), (1, .int p0), (2, .int p1)] := hl
    exact w_X8_isAhead_L0 M hfl _ _ _ _ hf _ _ _ _ _ hC (lv_sub hl [0, 1, 2] rfl))
set_option maxHeartbeats 4000000 in
set_option maxRecDepth 100000 in
theorem w_X8_order_L126 {p : Program} {l : Launch} {e : Env} {s : State} {m : MethodId} {args : Array Value} {below : List Frame} {meth : Method} {c : Code} {D : va_G} {cA : Nat → ClassId} {h0 : fSt} {self : Nat → Int32 → Option Nat → Int32 → fSt → Option (Int32 × fSt)} {fd ld : Nat} {r : (Int32 × fSt)} (hself : ∀ {o : Nat} {p0 : Int32} {p1 : Option Nat} {p2 : Int32} {h : fSt} {r : (Int32 × fSt)}, self o p0 p1 p2 h = some r → fMet l yX8_order (wsC yX8_order cX8_order 9 (some (.int))) fd ld D cA [.ref o, .int p0, va_rf p1, .int p2] h r.2 (some (.int r.1))) (M : fM p s m args meth c D cA h0 { frames := fd + 1, cells := fCB h0 - fZ h0, slots := fLB h0 - fL h0, locals := ld + 28 } cX8_order 9 (some (.int)) RX8) (hfl : l.stackTraces = false) {k16 : Option Nat → Int32 → Option Nat → Int32 → Int32 → Option Nat → Int32 → fSt → Option (Int32 × fSt)} (hk16 : ∀ (a0 : Option Nat) (a1 : Int32) (a2 : Option Nat) (a3 : Int32) (a4 : Int32) (a5 : Option Nat) (a6 : Int32) (h : fSt), k16 a0 a1 a2 a3 a4 a5 a6 h = some r → ∀ (H : Heap) (locs : List Loc) (cells slots : Nat) (ls : Array Slot), fCur D cA s h0 h H locs → lv_has ls 9 [(0, va_rf a0), (1, .int a1), (2, va_rf a2), (3, .int a3), (4, .int a4), (5, va_rf a5), (6, .int a6)] → W p l e { frames := fd + 1, cells := fCB h0 - fZ h0, slots := fLB h0 - fL h0, locals := ld + 28 } s m args below meth c H locs cells slots (MQ below (fQ D cA h0 r.2 (some (.int r.1))) args s (fCB h0 - fZ h0) (fLB h0 - fL h0) (fA h0)) (F0 m 16 ls [])) (a0 : Option Nat) (a1 : Int32) (a2 : Option Nat) (a3 : Int32) (a4 : Int32) (a5 : Option Nat) (a6 : Int32) (h : fSt) (hf : f_X8_order_L126 self k16 a0 a1 a2 a3 a4 a5 a6 h = some r) : ∀ (H : Heap) (locs : List Loc) (cells slots : Nat) (ls : Array Slot), fCur D cA s h0 h H locs → lv_has ls 9 [(0, va_rf a0), (1, .int a1), (2, va_rf a2), (3, .int a3), (4, .int a4), (5, va_rf a5), (6, .int a6)] → W p l e { frames := fd + 1, cells := fCB h0 - fZ h0, slots := fLB h0 - fL h0, locals := ld + 28 } s m args below meth c H locs cells slots (MQ below (fQ D cA h0 r.2 (some (.int r.1))) args s (fCB h0 - fZ h0) (fLB h0 - fL h0) (fA h0)) (F0 m 126 ls []) := by
  obtain ⟨hx, hb, hml, hr, hlocks, hts, hown, K, hR⟩ := id M
  intro H locs cells slots ls hC hl
  refine lv_iinc (v := (a6 + (1 : Int32))) (lv' := [(6, .int (a6 + (1 : Int32))), (0, va_rf a0), (1, .int a1), (2, va_rf a2), (3, .int a3), (4, .int a4), (5, va_rf a5)]) hx hb dX8_order_126 hl (k := 6) rfl rfl (by decide) (congrArg (List.cons _) (flk rfl (flk rfl (flk rfl (flk rfl (flk rfl (flk (adj1 _ _) (fld rfl fln)))))))) (fun ls hl => ?_)
  refine lv_goto (tgt := 16) hx hb dX8_order_129 (by decide) ?_
  exact hk16 _ _ _ _ _ _ _ _ hf _ _ _ _ _ hC (lv_sub hl [1, 2, 3, 4, 5, 6, 0] rfl)
set_option maxHeartbeats 4000000 in
set_option maxRecDepth 100000 in
theorem w_X8_order_L110 {p : Program} {l : Launch} {e : Env} {s : State} {m : MethodId} {args : Array Value} {below : List Frame} {meth : Method} {c : Code} {D : va_G} {cA : Nat → ClassId} {h0 : fSt} {self : Nat → Int32 → Option Nat → Int32 → fSt → Option (Int32 × fSt)} {fd ld : Nat} {r : (Int32 × fSt)} (hself : ∀ {o : Nat} {p0 : Int32} {p1 : Option Nat} {p2 : Int32} {h : fSt} {r : (Int32 × fSt)}, self o p0 p1 p2 h = some r → fMet l yX8_order (wsC yX8_order cX8_order 9 (some (.int))) fd ld D cA [.ref o, .int p0, va_rf p1, .int p2] h r.2 (some (.int r.1))) (M : fM p s m args meth c D cA h0 { frames := fd + 1, cells := fCB h0 - fZ h0, slots := fLB h0 - fL h0, locals := ld + 28 } cX8_order 9 (some (.int)) RX8) (hfl : l.stackTraces = false) {k16 : Option Nat → Int32 → Option Nat → Int32 → Int32 → Option Nat → Int32 → fSt → Option (Int32 × fSt)} (hk16 : ∀ (a0 : Option Nat) (a1 : Int32) (a2 : Option Nat) (a3 : Int32) (a4 : Int32) (a5 : Option Nat) (a6 : Int32) (h : fSt), k16 a0 a1 a2 a3 a4 a5 a6 h = some r → ∀ (H : Heap) (locs : List Loc) (cells slots : Nat) (ls : Array Slot), fCur D cA s h0 h H locs → lv_has ls 9 [(0, va_rf a0), (1, .int a1), (2, va_rf a2), (3, .int a3), (4, .int a4), (5, va_rf a5), (6, .int a6)] → W p l e { frames := fd + 1, cells := fCB h0 - fZ h0, slots := fLB h0 - fL h0, locals := ld + 28 } s m args below meth c H locs cells slots (MQ below (fQ D cA h0 r.2 (some (.int r.1))) args s (fCB h0 - fZ h0) (fLB h0 - fL h0) (fA h0)) (F0 m 16 ls [])) {k55 : Option Nat → Int32 → Option Nat → Int32 → Int32 → Option Nat → Int32 → Int32 → Int32 → fSt → Option (Int32 × fSt)} (hk55 : ∀ (a0 : Option Nat) (a1 : Int32) (a2 : Option Nat) (a3 : Int32) (a4 : Int32) (a5 : Option Nat) (a6 : Int32) (a7 : Int32) (a8 : Int32) (h : fSt), k55 a0 a1 a2 a3 a4 a5 a6 a7 a8 h = some r → ∀ (H : Heap) (locs : List Loc) (cells slots : Nat) (ls : Array Slot), fCur D cA s h0 h H locs → lv_has ls 9 [(0, va_rf a0), (1, .int a1), (2, va_rf a2), (3, .int a3), (4, .int a4), (5, va_rf a5), (6, .int a6), (7, .int a7), (8, .int a8)] → W p l e { frames := fd + 1, cells := fCB h0 - fZ h0, slots := fLB h0 - fL h0, locals := ld + 28 } s m args below meth c H locs cells slots (MQ below (fQ D cA h0 r.2 (some (.int r.1))) args s (fCB h0 - fZ h0) (fLB h0 - fL h0) (fA h0)) (F0 m 55 ls [])) (a0 : Option Nat) (a1 : Int32) (a2 : Option Nat) (a3 : Int32) (a4 : Int32) (a5 : Option Nat) (a6 : Int32) (a8 : Int32) (s1 : Int32) (s0 : Int32) (h : fSt) (hf : f_X8_order_L110 self k16 k55 a0 a1 a2 a3 a4 a5 a6 a8 s1 s0 h = some r) : ∀ (H : Heap) (locs : List Loc) (cells slots : Nat) (ls : Array Slot), fCur D cA s h0 h H locs → lv_has ls 9 [(0, va_rf a0), (1, .int a1), (2, va_rf a2), (3, .int a3), (4, .int a4), (5, va_rf a5), (6, .int a6), (8, .int a8)] → W p l e { frames := fd + 1, cells := fCB h0 - fZ h0, slots := fLB h0 - fL h0, locals := ld + 28 } s m args below meth c H locs cells slots (MQ below (fQ D cA h0 r.2 (some (.int r.1))) args s (fCB h0 - fZ h0) (fLB h0 - fL h0) (fA h0)) (F0 m 110 ls [.int s1, .int s0]) := by
  obtain ⟨hx, hb, hml, hr, hlocks, hts, hown, K, hR⟩ := id M
  intro H locs cells slots ls hC hl
  refine lv_iadd hx hb dX8_order_110 ?_
  refine lv_istore (lv' := [(7, .int (s0 + s1)), (0, va_rf a0), (1, .int a1), (2, va_rf a2), (3, .int a3), (4, .int a4), (5, va_rf a5), (6, .int a6), (8, .int a8)]) hx hb dX8_order_111 hl (by decide) (congrArg (List.cons _) (flk rfl (flk rfl (flk rfl (flk rfl (flk rfl (flk rfl (flk rfl (flk rfl fln))))))))) (fun ls hl => ?_)
  refine lv_iinc (v := (a8 + (1 : Int32))) (lv' := [(8, .int (a8 + (1 : Int32))), (7, .int (s0 + s1)), (0, va_rf a0), (1, .int a1), (2, va_rf a2), (3, .int a3), (4, .int a4), (5, va_rf a5), (6, .int a6)]) hx hb dX8_order_113 hl (k := 8) rfl rfl (by decide) (congrArg (List.cons _) (flk rfl (flk rfl (flk rfl (flk rfl (flk rfl (flk rfl (flk rfl (flk rfl (fld rfl fln)))))))))) (fun ls hl => ?_)
  refine lv_goto (tgt := 55) hx hb dX8_order_116 (by decide) ?_
  exact hk55 _ _ _ _ _ _ _ _ _ _ hf _ _ _ _ _ hC (lv_sub hl [2, 3, 4, 5, 6, 7, 8, 1, 0] rfl)
set_option maxHeartbeats 4000000 in
set_option maxRecDepth 100000 in
theorem w_X8_order_L109 {p : Program} {l : Launch} {e : Env} {s : State} {m : MethodId} {args : Array Value} {below : List Frame} {meth : Method} {c : Code} {D : va_G} {cA : Nat → ClassId} {h0 : fSt} {self : Nat → Int32 → Option Nat → Int32 → fSt → Option (Int32 × fSt)} {fd ld : Nat} {r : (Int32 × fSt)} (hself : ∀ {o : Nat} {p0 : Int32} {p1 : Option Nat} {p2 : Int32} {h : fSt} {r : (Int32 × fSt)}, self o p0 p1 p2 h = some r → fMet l yX8_order (wsC yX8_order cX8_order 9 (some (.int))) fd ld D cA [.ref o, .int p0, va_rf p1, .int p2] h r.2 (some (.int r.1))) (M : fM p s m args meth c D cA h0 { frames := fd + 1, cells := fCB h0 - fZ h0, slots := fLB h0 - fL h0, locals := ld + 28 } cX8_order 9 (some (.int)) RX8) (hfl : l.stackTraces = false) {k16 : Option Nat → Int32 → Option Nat → Int32 → Int32 → Option Nat → Int32 → fSt → Option (Int32 × fSt)} (hk16 : ∀ (a0 : Option Nat) (a1 : Int32) (a2 : Option Nat) (a3 : Int32) (a4 : Int32) (a5 : Option Nat) (a6 : Int32) (h : fSt), k16 a0 a1 a2 a3 a4 a5 a6 h = some r → ∀ (H : Heap) (locs : List Loc) (cells slots : Nat) (ls : Array Slot), fCur D cA s h0 h H locs → lv_has ls 9 [(0, va_rf a0), (1, .int a1), (2, va_rf a2), (3, .int a3), (4, .int a4), (5, va_rf a5), (6, .int a6)] → W p l e { frames := fd + 1, cells := fCB h0 - fZ h0, slots := fLB h0 - fL h0, locals := ld + 28 } s m args below meth c H locs cells slots (MQ below (fQ D cA h0 r.2 (some (.int r.1))) args s (fCB h0 - fZ h0) (fLB h0 - fL h0) (fA h0)) (F0 m 16 ls [])) {k55 : Option Nat → Int32 → Option Nat → Int32 → Int32 → Option Nat → Int32 → Int32 → Int32 → fSt → Option (Int32 × fSt)} (hk55 : ∀ (a0 : Option Nat) (a1 : Int32) (a2 : Option Nat) (a3 : Int32) (a4 : Int32) (a5 : Option Nat) (a6 : Int32) (a7 : Int32) (a8 : Int32) (h : fSt), k55 a0 a1 a2 a3 a4 a5 a6 a7 a8 h = some r → ∀ (H : Heap) (locs : List Loc) (cells slots : Nat) (ls : Array Slot), fCur D cA s h0 h H locs → lv_has ls 9 [(0, va_rf a0), (1, .int a1), (2, va_rf a2), (3, .int a3), (4, .int a4), (5, va_rf a5), (6, .int a6), (7, .int a7), (8, .int a8)] → W p l e { frames := fd + 1, cells := fCB h0 - fZ h0, slots := fLB h0 - fL h0, locals := ld + 28 } s m args below meth c H locs cells slots (MQ below (fQ D cA h0 r.2 (some (.int r.1))) args s (fCB h0 - fZ h0) (fLB h0 - fL h0) (fA h0)) (F0 m 55 ls [])) (a0 : Option Nat) (a1 : Int32) (a2 : Option Nat) (a3 : Int32) (a4 : Int32) (a5 : Option Nat) (a6 : Int32) (a8 : Int32) (s0 : Int32) (h : fSt) (hf : f_X8_order_L109 self k16 k55 a0 a1 a2 a3 a4 a5 a6 a8 s0 h = some r) : ∀ (H : Heap) (locs : List Loc) (cells slots : Nat) (ls : Array Slot), fCur D cA s h0 h H locs → lv_has ls 9 [(0, va_rf a0), (1, .int a1), (2, va_rf a2), (3, .int a3), (4, .int a4), (5, va_rf a5), (6, .int a6), (8, .int a8)] → W p l e { frames := fd + 1, cells := fCB h0 - fZ h0, slots := fLB h0 - fL h0, locals := ld + 28 } s m args below meth c H locs cells slots (MQ below (fQ D cA h0 r.2 (some (.int r.1))) args s (fCB h0 - fZ h0) (fLB h0 - fL h0) (fA h0)) (F0 m 109 ls [.int s0]) := by
  obtain ⟨hx, hb, hml, hr, hlocks, hts, hown, K, hR⟩ := id M
  intro H locs cells slots ls hC hl
  refine lv_iconst (v := (0 : Int32)) hx hb dX8_order_109 (by decide) ?_
  exact w_X8_order_L110 @hself M hfl hk16 hk55 _ _ _ _ _ _ _ _ _ _ _ hf _ _ _ _ _ hC (lv_sub hl [0, 1, 2, 3, 4, 5, 6, 7] rfl)
set_option maxHeartbeats 4000000 in
set_option maxRecDepth 100000 in
theorem w_X8_order_L55 {p : Program} {l : Launch} {e : Env} {s : State} {m : MethodId} {args : Array Value} {below : List Frame} {meth : Method} {c : Code} {D : va_G} {cA : Nat → ClassId} {h0 : fSt} {self : Nat → Int32 → Option Nat → Int32 → fSt → Option (Int32 × fSt)} {fd ld : Nat} {r : (Int32 × fSt)} (hself : ∀ {o : Nat} {p0 : Int32} {p1 : Option Nat} {p2 : Int32} {h : fSt} {r : (Int32 × fSt)}, self o p0 p1 p2 h = some r → fMet l yX8_order (wsC yX8_order cX8_order 9 (some (.int))) fd ld D cA [.ref o, .int p0, va_rf p1, .int p2] h r.2 (some (.int r.1))) (M : fM p s m args meth c D cA h0 { frames := fd + 1, cells := fCB h0 - fZ h0, slots := fLB h0 - fL h0, locals := ld + 28 } cX8_order 9 (some (.int)) RX8) (hfl : l.stackTraces = false) {k16 : Option Nat → Int32 → Option Nat → Int32 → Int32 → Option Nat → Int32 → fSt → Option (Int32 × fSt)} (hk16 : ∀ (a0 : Option Nat) (a1 : Int32) (a2 : Option Nat) (a3 : Int32) (a4 : Int32) (a5 : Option Nat) (a6 : Int32) (h : fSt), k16 a0 a1 a2 a3 a4 a5 a6 h = some r → ∀ (H : Heap) (locs : List Loc) (cells slots : Nat) (ls : Array Slot), fCur D cA s h0 h H locs → lv_has ls 9 [(0, va_rf a0), (1, .int a1), (2, va_rf a2), (3, .int a3), (4, .int a4), (5, va_rf a5), (6, .int a6)] → W p l e { frames := fd + 1, cells := fCB h0 - fZ h0, slots := fLB h0 - fL h0, locals := ld + 28 } s m args below meth c H locs cells slots (MQ below (fQ D cA h0 r.2 (some (.int r.1))) args s (fCB h0 - fZ h0) (fLB h0 - fL h0) (fA h0)) (F0 m 16 ls [])) : ∀ (n : Nat) (a0 : Option Nat) (a1 : Int32) (a2 : Option Nat) (a3 : Int32) (a4 : Int32) (a5 : Option Nat) (a6 : Int32) (a7 : Int32) (a8 : Int32) (h : fSt), f_X8_order_L55 self k16 n a0 a1 a2 a3 a4 a5 a6 a7 a8 h = some r → ∀ (H : Heap) (locs : List Loc) (cells slots : Nat) (ls : Array Slot), fCur D cA s h0 h H locs → lv_has ls 9 [(0, va_rf a0), (1, .int a1), (2, va_rf a2), (3, .int a3), (4, .int a4), (5, va_rf a5), (6, .int a6), (7, .int a7), (8, .int a8)] → W p l e { frames := fd + 1, cells := fCB h0 - fZ h0, slots := fLB h0 - fL h0, locals := ld + 28 } s m args below meth c H locs cells slots (MQ below (fQ D cA h0 r.2 (some (.int r.1))) args s (fCB h0 - fZ h0) (fLB h0 - fL h0) (fA h0)) (F0 m 55 ls []) := by
  obtain ⟨hx, hb, hml, hr, hlocks, hts, hown, K, hR⟩ := id M
  intro n
  induction n with
  | zero =>
    intro a0 a1 a2 a3 a4 a5 a6 a7 a8 h hf
    exact nomatch (show (none : Option (Int32 × fSt)) = some r from hf)
  | succ n hk55 =>
    intro a0 a1 a2 a3 a4 a5 a6 a7 a8 h hf H locs cells slots ls hC hl
    refine lv_iload hx hb dX8_order_55 (lv_at hl 8 rfl) ?_
    refine fr_aload_n hx hb dX8_order_57 rfl (lv_at hl 0 rfl) ?_
    obtain ⟨x1, g2, hf⟩ := obind hf
    refine fr_get hx hb hts hown K hC ct_8 (fgI_get g2) (by decide) kw972 rfl dX8_order_58 ?_
    refine lv_icmp_ge (tgt := 119) hx hb dX8_order_61 (by decide) (fun c3 => ?_) (fun c3 => ?_)
    · replace hf := opos c3 hf
      refine fr_aload hx hb dX8_order_119 (lv_at hl 5 rfl) ?_
      refine lv_iload hx hb dX8_order_121 (lv_at hl 7 rfl) ?_
      refine lv_iload hx hb dX8_order_123 (lv_at hl 6 rfl) ?_
      obtain ⟨h4, g5, hf⟩ := obind hf
      refine fr_iast hx hb K hC (t := 0) rfl g5 dX8_order_125 (fun H locs hC => ?_)
      exact w_X8_order_L126 @hself M hfl hk16 _ _ _ _ _ _ _ _ hf _ _ _ _ _ hC (lv_sub hl [0, 1, 2, 3, 4, 5, 6] rfl)
    · replace hf := oneg c3 hf
      refine lv_iload hx hb dX8_order_64 (lv_at hl 7 rfl) ?_
      refine lv_iload hx hb dX8_order_66 (lv_at hl 8 rfl) ?_
      refine lv_iload hx hb dX8_order_68 (lv_at hl 6 rfl) ?_
      refine lv_icmp_eq (tgt := 109) hx hb dX8_order_70 (by decide) (fun c6 => ?_) (fun c6 => ?_)
      · replace hf := opos c6 hf
        exact w_X8_order_L109 @hself M hfl hk16 hk55 _ _ _ _ _ _ _ _ _ _ hf _ _ _ _ _ hC (lv_sub hl [0, 1, 2, 3, 4, 5, 6, 8] rfl)
      · replace hf := oneg c6 hf
        refine fr_aload_n hx hb dX8_order_73 rfl (lv_at hl 0 rfl) ?_
        obtain ⟨x7, g8, hf⟩ := obind hf
        refine fr_get hx hb hts hown K hC ct_8 (fgR_get g8) (by decide) kw973 rfl dX8_order_74 ?_
        refine lv_iload hx hb dX8_order_77 (lv_at hl 8 rfl) ?_
        obtain ⟨x9, g10, hf⟩ := obind hf
        refine fr_zald hx hb K hC (t := 2) rfl g10 dX8_order_79 ?_
        refine lv_if_ne (tgt := 109) hx hb dX8_order_80 (by decide) (fun c11 => ?_) (fun c11 => ?_)
        · replace hf := oneg c11 hf
          exact w_X8_order_L109 @hself M hfl hk16 hk55 _ _ _ _ _ _ _ _ _ _ hf _ _ _ _ _ hC (lv_sub hl [0, 1, 2, 3, 4, 5, 6, 8] rfl)
        · replace hf := opos c11 hf
          refine fr_aload_n hx hb dX8_order_83 rfl (lv_at hl 0 rfl) ?_
          obtain ⟨x12, g13, hf⟩ := obind hf
          refine fr_get hx hb hts hown K hC ct_8 (fgR_get g13) (by decide) kw977 rfl dX8_order_84 ?_
          refine lv_iload hx hb dX8_order_87 (lv_at hl 8 rfl) ?_
          obtain ⟨x14, g15, hf⟩ := obind hf
          refine fr_iald hx hb K hC (t := 0) rfl g15 dX8_order_89 ?_
          refine lv_iload_n hx hb dX8_order_90 rfl (lv_at hl 1 rfl) ?_
          refine lv_icmp_ne (tgt := 109) hx hb dX8_order_91 (by decide) (fun c16 => ?_) (fun c16 => ?_)
          · replace hf := oneg c16 hf
            exact w_X8_order_L109 @hself M hfl hk16 hk55 _ _ _ _ _ _ _ _ _ _ hf _ _ _ _ _ hC (lv_sub hl [0, 1, 2, 3, 4, 5, 6, 8] rfl)
          · replace hf := opos c16 hf
            refine fr_aload_n hx hb dX8_order_94 rfl (lv_at hl 0 rfl) ?_
            refine lv_iload hx hb dX8_order_95 (lv_at hl 8 rfl) ?_
            refine lv_iload hx hb dX8_order_97 (lv_at hl 6 rfl) ?_
            obtain ⟨b19, q20, hf⟩ := obind hf
            obtain ⟨r17, g18, hf⟩ := obind hf
            refine fr_callV hx hb hml hts hown K hC hR ct_8 (c_X8_isAhead hfl D cA g18) 2 q20 kw1309 kw1306 kw1308 kw49 kw62 (by decide +kernel) ⟨by dsimp only; omega, by dsimp only; omega⟩ rfl hl.1 (cat8 _ (by exact Nat.le_of_ble_eq_true rfl)) dX8_order_99 rfl (fun H locs _ _ hC => ?_)
            refine lv_if_eq (tgt := 109) hx hb dX8_order_102 (by decide) (fun c21 => ?_) (fun c21 => ?_)
            · replace hf := opos c21 hf
              exact w_X8_order_L109 @hself M hfl hk16 hk55 _ _ _ _ _ _ _ _ _ _ hf _ _ _ _ _ hC (lv_sub hl [0, 1, 2, 3, 4, 5, 6, 8] rfl)
            · replace hf := oneg c21 hf
              refine lv_iconst (v := (1 : Int32)) hx hb dX8_order_105 (by decide) ?_
              refine lv_goto (tgt := 110) hx hb dX8_order_106 (by decide) ?_
              exact w_X8_order_L110 @hself M hfl hk16 hk55 _ _ _ _ _ _ _ _ _ _ _ hf _ _ _ _ _ hC (lv_sub hl [0, 1, 2, 3, 4, 5, 6, 8] rfl)
set_option maxHeartbeats 4000000 in
set_option maxRecDepth 100000 in
theorem w_X8_order_L186 {p : Program} {l : Launch} {e : Env} {s : State} {m : MethodId} {args : Array Value} {below : List Frame} {meth : Method} {c : Code} {D : va_G} {cA : Nat → ClassId} {h0 : fSt} {self : Nat → Int32 → Option Nat → Int32 → fSt → Option (Int32 × fSt)} {fd ld : Nat} {r : (Int32 × fSt)} (hself : ∀ {o : Nat} {p0 : Int32} {p1 : Option Nat} {p2 : Int32} {h : fSt} {r : (Int32 × fSt)}, self o p0 p1 p2 h = some r → fMet l yX8_order (wsC yX8_order cX8_order 9 (some (.int))) fd ld D cA [.ref o, .int p0, va_rf p1, .int p2] h r.2 (some (.int r.1))) (M : fM p s m args meth c D cA h0 { frames := fd + 1, cells := fCB h0 - fZ h0, slots := fLB h0 - fL h0, locals := ld + 28 } cX8_order 9 (some (.int)) RX8) (hfl : l.stackTraces = false) : ∀ (n : Nat) (a0 : Option Nat) (a2 : Option Nat) (a4 : Int32) (a5 : Option Nat) (a6 : Int32) (a7 : Int32) (h : fSt), f_X8_order_L186 self n a0 a2 a4 a5 a6 a7 h = some r → ∀ (H : Heap) (locs : List Loc) (cells slots : Nat) (ls : Array Slot), fCur D cA s h0 h H locs → lv_has ls 9 [(0, va_rf a0), (2, va_rf a2), (4, .int a4), (5, va_rf a5), (6, .int a6), (7, .int a7)] → W p l e { frames := fd + 1, cells := fCB h0 - fZ h0, slots := fLB h0 - fL h0, locals := ld + 28 } s m args below meth c H locs cells slots (MQ below (fQ D cA h0 r.2 (some (.int r.1))) args s (fCB h0 - fZ h0) (fLB h0 - fL h0) (fA h0)) (F0 m 186 ls []) := by
  obtain ⟨hx, hb, hml, hr, hlocks, hts, hown, K, hR⟩ := id M
  intro n
  induction n with
  | zero =>
    intro a0 a2 a4 a5 a6 a7 h hf
    exact nomatch (show (none : Option (Int32 × fSt)) = some r from hf)
  | succ n hk186 =>
    intro a0 a2 a4 a5 a6 a7 h hf H locs cells slots ls hC hl
    refine lv_iload hx hb dX8_order_186 (lv_at hl 5 rfl) ?_
    refine lv_iload hx hb dX8_order_188 (lv_at hl 2 rfl) ?_
    refine lv_icmp_ge (tgt := 213) hx hb dX8_order_190 (by decide) (fun c22 => ?_) (fun c22 => ?_)
    · replace hf := opos c22 hf
      refine lv_iload hx hb dX8_order_213 (lv_at hl 4 rfl) ?_
      obtain rfl := Option.some.inj hf
      exact fr_iret hx hb hr hlocks hC dX8_order_215
    · replace hf := oneg c22 hf
      refine fr_aload_n hx hb dX8_order_193 rfl (lv_at hl 0 rfl) ?_
      refine fr_aload hx hb dX8_order_194 (lv_at hl 3 rfl) ?_
      refine lv_iload hx hb dX8_order_196 (lv_at hl 5 rfl) ?_
      refine lv_iinc (v := (a7 + (1 : Int32))) (lv' := [(7, .int (a7 + (1 : Int32))), (0, va_rf a0), (2, va_rf a2), (4, .int a4), (5, va_rf a5), (6, .int a6)]) hx hb dX8_order_198 hl (k := 5) rfl rfl (by decide) (congrArg (List.cons _) (flk rfl (flk rfl (flk rfl (flk rfl (flk rfl (fld rfl fln))))))) (fun ls hl => ?_)
      obtain ⟨x23, g24, hf⟩ := obind hf
      refine fr_iald hx hb K hC (t := 0) rfl g24 dX8_order_201 ?_
      refine fr_aload_n hx hb dX8_order_202 rfl (lv_at hl 2 rfl) ?_
      refine lv_iload hx hb dX8_order_203 (lv_at hl 5 rfl) ?_
      obtain ⟨b27, q28, hf⟩ := obind hf
      obtain ⟨r25, g26, hf⟩ := obind hf
      refine fr_callV hx hb hml hts hown K hC hR ct_8 (hself g26) 3 q28 kw1305 kw1302 kw1304 kw48 kw62 (by decide +kernel) ⟨by dsimp only; omega, by dsimp only; omega⟩ rfl hl.1 (cat8 _ (by exact Nat.le_of_ble_eq_true rfl)) dX8_order_205 rfl (fun H locs _ _ hC => ?_)
      refine lv_istore (lv' := [(6, .int r25.1), (7, .int (a7 + (1 : Int32))), (0, va_rf a0), (2, va_rf a2), (4, .int a4), (5, va_rf a5)]) hx hb dX8_order_208 hl (by decide) (congrArg (List.cons _) (flk rfl (flk rfl (flk rfl (flk rfl (flk (adj1 _ _) (fld rfl fln))))))) (fun ls hl => ?_)
      refine lv_goto (tgt := 186) hx hb dX8_order_210 (by decide) ?_
      exact hk186 _ _ _ _ _ _ _ hf _ _ _ _ _ hC (lv_sub hl [2, 3, 4, 5, 0, 1] rfl)
set_option maxHeartbeats 4000000 in
set_option maxRecDepth 100000 in
theorem w_X8_order_L178 {p : Program} {l : Launch} {e : Env} {s : State} {m : MethodId} {args : Array Value} {below : List Frame} {meth : Method} {c : Code} {D : va_G} {cA : Nat → ClassId} {h0 : fSt} {self : Nat → Int32 → Option Nat → Int32 → fSt → Option (Int32 × fSt)} {fd ld : Nat} {r : (Int32 × fSt)} (hself : ∀ {o : Nat} {p0 : Int32} {p1 : Option Nat} {p2 : Int32} {h : fSt} {r : (Int32 × fSt)}, self o p0 p1 p2 h = some r → fMet l yX8_order (wsC yX8_order cX8_order 9 (some (.int))) fd ld D cA [.ref o, .int p0, va_rf p1, .int p2] h r.2 (some (.int r.1))) (M : fM p s m args meth c D cA h0 { frames := fd + 1, cells := fCB h0 - fZ h0, slots := fLB h0 - fL h0, locals := ld + 28 } cX8_order 9 (some (.int)) RX8) (hfl : l.stackTraces = false) (a0 : Option Nat) (a1 : Int32) (a2 : Option Nat) (a4 : Int32) (a5 : Option Nat) (a6 : Int32) (a7 : Int32) (h : fSt) (hf : f_X8_order_L178 self a0 a1 a2 a4 a5 a6 a7 h = some r) : ∀ (H : Heap) (locs : List Loc) (cells slots : Nat) (ls : Array Slot), fCur D cA s h0 h H locs → lv_has ls 9 [(0, va_rf a0), (1, .int a1), (2, va_rf a2), (4, .int a4), (5, va_rf a5), (6, .int a6), (7, .int a7)] → W p l e { frames := fd + 1, cells := fCB h0 - fZ h0, slots := fLB h0 - fL h0, locals := ld + 28 } s m args below meth c H locs cells slots (MQ below (fQ D cA h0 r.2 (some (.int r.1))) args s (fCB h0 - fZ h0) (fLB h0 - fL h0) (fA h0)) (F0 m 178 ls []) := by
  obtain ⟨hx, hb, hml, hr, hlocks, hts, hown, K, hR⟩ := id M
  intro H locs cells slots ls hC hl
  refine fr_aload_n hx hb dX8_order_178 rfl (lv_at hl 2 rfl) ?_
  refine lv_iload hx hb dX8_order_179 (lv_at hl 5 rfl) ?_
  refine lv_iinc (v := (a6 + (1 : Int32))) (lv' := [(6, .int (a6 + (1 : Int32))), (0, va_rf a0), (1, .int a1), (2, va_rf a2), (4, .int a4), (5, va_rf a5), (7, .int a7)]) hx hb dX8_order_181 hl (k := 5) rfl rfl (by decide) (congrArg (List.cons _) (flk rfl (flk rfl (flk rfl (flk rfl (flk (adj1 _ _) (fld rfl (flk rfl fln)))))))) (fun ls hl => ?_)
  refine lv_iload_n hx hb dX8_order_184 rfl (lv_at hl 2 rfl) ?_
  obtain ⟨h29, g30, hf⟩ := obind hf
  refine fr_iast hx hb K hC (t := 0) rfl g30 dX8_order_185 (fun H locs hC => ?_)
  exact w_X8_order_L186 @hself M hfl 4096 _ _ _ _ _ _ _ hf _ _ _ _ _ hC (lv_sub hl [1, 3, 4, 5, 0, 6] rfl)
set_option maxHeartbeats 4000000 in
set_option maxRecDepth 100000 in
theorem w_X8_order_L138 {p : Program} {l : Launch} {e : Env} {s : State} {m : MethodId} {args : Array Value} {below : List Frame} {meth : Method} {c : Code} {D : va_G} {cA : Nat → ClassId} {h0 : fSt} {self : Nat → Int32 → Option Nat → Int32 → fSt → Option (Int32 × fSt)} {fd ld : Nat} {r : (Int32 × fSt)} (hself : ∀ {o : Nat} {p0 : Int32} {p1 : Option Nat} {p2 : Int32} {h : fSt} {r : (Int32 × fSt)}, self o p0 p1 p2 h = some r → fMet l yX8_order (wsC yX8_order cX8_order 9 (some (.int))) fd ld D cA [.ref o, .int p0, va_rf p1, .int p2] h r.2 (some (.int r.1))) (M : fM p s m args meth c D cA h0 { frames := fd + 1, cells := fCB h0 - fZ h0, slots := fLB h0 - fL h0, locals := ld + 28 } cX8_order 9 (some (.int)) RX8) (hfl : l.stackTraces = false) : ∀ (n : Nat) (a0 : Option Nat) (a1 : Int32) (a2 : Option Nat) (a4 : Int32) (a5 : Option Nat) (a6 : Int32) (a7 : Int32) (h : fSt), f_X8_order_L138 self n a0 a1 a2 a4 a5 a6 a7 h = some r → ∀ (H : Heap) (locs : List Loc) (cells slots : Nat) (ls : Array Slot), fCur D cA s h0 h H locs → lv_has ls 9 [(0, va_rf a0), (1, .int a1), (2, va_rf a2), (4, .int a4), (5, va_rf a5), (6, .int a6), (7, .int a7)] → W p l e { frames := fd + 1, cells := fCB h0 - fZ h0, slots := fLB h0 - fL h0, locals := ld + 28 } s m args below meth c H locs cells slots (MQ below (fQ D cA h0 r.2 (some (.int r.1))) args s (fCB h0 - fZ h0) (fLB h0 - fL h0) (fA h0)) (F0 m 138 ls []) := by
  obtain ⟨hx, hb, hml, hr, hlocks, hts, hown, K, hR⟩ := id M
  intro n
  induction n with
  | zero =>
    intro a0 a1 a2 a4 a5 a6 a7 h hf
    exact nomatch (show (none : Option (Int32 × fSt)) = some r from hf)
  | succ n hk138 =>
    intro a0 a1 a2 a4 a5 a6 a7 h hf H locs cells slots ls hC hl
    refine lv_iload hx hb dX8_order_138 (lv_at hl 6 rfl) ?_
    refine lv_iload hx hb dX8_order_140 (lv_at hl 3 rfl) ?_
    refine lv_icmp_ge (tgt := 178) hx hb dX8_order_142 (by decide) (fun c31 => ?_) (fun c31 => ?_)
    · replace hf := opos c31 hf
      exact w_X8_order_L178 @hself M hfl _ _ _ _ _ _ _ _ hf _ _ _ _ _ hC (lv_sub hl [0, 1, 2, 3, 4, 5, 6] rfl)
    · replace hf := oneg c31 hf
      refine fr_aload_n hx hb dX8_order_145 rfl (lv_at hl 0 rfl) ?_
      obtain ⟨x32, g33, hf⟩ := obind hf
      refine fr_get hx hb hts hown K hC ct_8 (fgR_get g33) (by decide) kw983 rfl dX8_order_146 ?_
      refine fr_aload hx hb dX8_order_149 (lv_at hl 4 rfl) ?_
      refine lv_iload hx hb dX8_order_151 (lv_at hl 6 rfl) ?_
      obtain ⟨x34, g35, hf⟩ := obind hf
      refine fr_iald hx hb K hC (t := 0) rfl g35 dX8_order_153 ?_
      obtain ⟨x36, g37, hf⟩ := obind hf
      refine fr_iald hx hb K hC (t := 0) rfl g37 dX8_order_154 ?_
      refine lv_if_ge (tgt := 178) hx hb dX8_order_155 (by decide) (fun c38 => ?_) (fun c38 => ?_)
      · replace hf := opos c38 hf
        exact w_X8_order_L178 @hself M hfl _ _ _ _ _ _ _ _ hf _ _ _ _ _ hC (lv_sub hl [0, 1, 2, 3, 4, 5, 6] rfl)
      · replace hf := oneg c38 hf
        refine fr_aload_n hx hb dX8_order_158 rfl (lv_at hl 0 rfl) ?_
        refine fr_aload hx hb dX8_order_159 (lv_at hl 4 rfl) ?_
        refine lv_iload hx hb dX8_order_161 (lv_at hl 6 rfl) ?_
        refine lv_iinc (v := (a7 + (1 : Int32))) (lv' := [(7, .int (a7 + (1 : Int32))), (0, va_rf a0), (1, .int a1), (2, va_rf a2), (4, .int a4), (5, va_rf a5), (6, .int a6)]) hx hb dX8_order_163 hl (k := 6) rfl rfl (by decide) (congrArg (List.cons _) (flk rfl (flk rfl (flk rfl (flk rfl (flk rfl (flk rfl (fld rfl fln)))))))) (fun ls hl => ?_)
        obtain ⟨x39, g40, hf⟩ := obind hf
        refine fr_iald hx hb K hC (t := 0) rfl g40 dX8_order_166 ?_
        refine fr_aload_n hx hb dX8_order_167 rfl (lv_at hl 3 rfl) ?_
        refine lv_iload hx hb dX8_order_168 (lv_at hl 6 rfl) ?_
        obtain ⟨b43, q44, hf⟩ := obind hf
        obtain ⟨r41, g42, hf⟩ := obind hf
        refine fr_callV hx hb hml hts hown K hC hR ct_8 (hself g42) 3 q44 kw1305 kw1302 kw1304 kw48 kw62 (by decide +kernel) ⟨by dsimp only; omega, by dsimp only; omega⟩ rfl hl.1 (cat8 _ (by exact Nat.le_of_ble_eq_true rfl)) dX8_order_170 rfl (fun H locs _ _ hC => ?_)
        refine lv_istore (lv' := [(6, .int r41.1), (7, .int (a7 + (1 : Int32))), (0, va_rf a0), (1, .int a1), (2, va_rf a2), (4, .int a4), (5, va_rf a5)]) hx hb dX8_order_173 hl (by decide) (congrArg (List.cons _) (flk rfl (flk rfl (flk rfl (flk rfl (flk rfl (flk (adj1 _ _) (fld rfl fln)))))))) (fun ls hl => ?_)
        refine lv_goto (tgt := 138) hx hb dX8_order_175 (by decide) ?_
        exact hk138 _ _ _ _ _ _ _ _ hf _ _ _ _ _ hC (lv_sub hl [2, 3, 4, 5, 6, 0, 1] rfl)
set_option maxHeartbeats 4000000 in
set_option maxRecDepth 100000 in
theorem w_X8_order_L16 {p : Program} {l : Launch} {e : Env} {s : State} {m : MethodId} {args : Array Value} {below : List Frame} {meth : Method} {c : Code} {D : va_G} {cA : Nat → ClassId} {h0 : fSt} {self : Nat → Int32 → Option Nat → Int32 → fSt → Option (Int32 × fSt)} {fd ld : Nat} {r : (Int32 × fSt)} (hself : ∀ {o : Nat} {p0 : Int32} {p1 : Option Nat} {p2 : Int32} {h : fSt} {r : (Int32 × fSt)}, self o p0 p1 p2 h = some r → fMet l yX8_order (wsC yX8_order cX8_order 9 (some (.int))) fd ld D cA [.ref o, .int p0, va_rf p1, .int p2] h r.2 (some (.int r.1))) (M : fM p s m args meth c D cA h0 { frames := fd + 1, cells := fCB h0 - fZ h0, slots := fLB h0 - fL h0, locals := ld + 28 } cX8_order 9 (some (.int)) RX8) (hfl : l.stackTraces = false) : ∀ (n : Nat) (a0 : Option Nat) (a1 : Int32) (a2 : Option Nat) (a3 : Int32) (a4 : Int32) (a5 : Option Nat) (a6 : Int32) (h : fSt), f_X8_order_L16 self n a0 a1 a2 a3 a4 a5 a6 h = some r → ∀ (H : Heap) (locs : List Loc) (cells slots : Nat) (ls : Array Slot), fCur D cA s h0 h H locs → lv_has ls 9 [(0, va_rf a0), (1, .int a1), (2, va_rf a2), (3, .int a3), (4, .int a4), (5, va_rf a5), (6, .int a6)] → W p l e { frames := fd + 1, cells := fCB h0 - fZ h0, slots := fLB h0 - fL h0, locals := ld + 28 } s m args below meth c H locs cells slots (MQ below (fQ D cA h0 r.2 (some (.int r.1))) args s (fCB h0 - fZ h0) (fLB h0 - fL h0) (fA h0)) (F0 m 16 ls []) := by
  obtain ⟨hx, hb, hml, hr, hlocks, hts, hown, K, hR⟩ := id M
  intro n
  induction n with
  | zero =>
    intro a0 a1 a2 a3 a4 a5 a6 h hf
    exact nomatch (show (none : Option (Int32 × fSt)) = some r from hf)
  | succ n hk16 =>
    intro a0 a1 a2 a3 a4 a5 a6 h hf H locs cells slots ls hC hl
    refine lv_iload hx hb dX8_order_16 (lv_at hl 6 rfl) ?_
    refine fr_aload_n hx hb dX8_order_18 rfl (lv_at hl 0 rfl) ?_
    obtain ⟨x45, g46, hf⟩ := obind hf
    refine fr_get hx hb hts hown K hC ct_8 (fgI_get g46) (by decide) kw972 rfl dX8_order_19 ?_
    refine lv_icmp_ge (tgt := 132) hx hb dX8_order_22 (by decide) (fun c47 => ?_) (fun c47 => ?_)
    · replace hf := opos c47 hf
      refine lv_iload_n hx hb dX8_order_132 rfl (lv_at hl 3 rfl) ?_
      refine lv_istore (lv' := [(6, .int a3), (0, va_rf a0), (1, .int a1), (2, va_rf a2), (3, .int a3), (4, .int a4), (5, va_rf a5)]) hx hb dX8_order_133 hl (by decide) (congrArg (List.cons _) (flk rfl (flk rfl (flk rfl (flk rfl (flk rfl (flk (adj1 _ _) (fld rfl fln)))))))) (fun ls hl => ?_)
      refine lv_iconst (v := (0 : Int32)) hx hb dX8_order_135 (by decide) ?_
      refine lv_istore (lv' := [(7, .int (0 : Int32)), (6, .int a3), (0, va_rf a0), (1, .int a1), (2, va_rf a2), (3, .int a3), (4, .int a4), (5, va_rf a5)]) hx hb dX8_order_136 hl (by decide) (congrArg (List.cons _) (flk rfl (flk rfl (flk rfl (flk rfl (flk rfl (flk rfl (flk rfl fln)))))))) (fun ls hl => ?_)
      exact w_X8_order_L138 @hself M hfl 4096 _ _ _ _ _ _ _ _ hf _ _ _ _ _ hC (lv_sub hl [2, 3, 4, 6, 7, 1, 0] rfl)
    · replace hf := oneg c47 hf
      refine fr_aload_n hx hb dX8_order_25 rfl (lv_at hl 0 rfl) ?_
      obtain ⟨x48, g49, hf⟩ := obind hf
      refine fr_get hx hb hts hown K hC ct_8 (fgR_get g49) (by decide) kw973 rfl dX8_order_26 ?_
      refine lv_iload hx hb dX8_order_29 (lv_at hl 6 rfl) ?_
      obtain ⟨x50, g51, hf⟩ := obind hf
      refine fr_zald hx hb K hC (t := 2) rfl g51 dX8_order_31 ?_
      refine lv_if_ne (tgt := 126) hx hb dX8_order_32 (by decide) (fun c52 => ?_) (fun c52 => ?_)
      · replace hf := oneg c52 hf
        exact w_X8_order_L126 @hself M hfl hk16 _ _ _ _ _ _ _ _ hf _ _ _ _ _ hC (lv_sub hl [0, 1, 2, 3, 4, 5, 6] rfl)
      · replace hf := opos c52 hf
        refine fr_aload_n hx hb dX8_order_35 rfl (lv_at hl 0 rfl) ?_
        obtain ⟨x53, g54, hf⟩ := obind hf
        refine fr_get hx hb hts hown K hC ct_8 (fgR_get g54) (by decide) kw977 rfl dX8_order_36 ?_
        refine lv_iload hx hb dX8_order_39 (lv_at hl 6 rfl) ?_
        obtain ⟨x55, g56, hf⟩ := obind hf
        refine fr_iald hx hb K hC (t := 0) rfl g56 dX8_order_41 ?_
        refine lv_iload_n hx hb dX8_order_42 rfl (lv_at hl 1 rfl) ?_
        refine lv_icmp_eq (tgt := 49) hx hb dX8_order_43 (by decide) (fun c57 => ?_) (fun c57 => ?_)
        · replace hf := opos c57 hf
          refine lv_iconst (v := (0 : Int32)) hx hb dX8_order_49 (by decide) ?_
          refine lv_istore (lv' := [(7, .int (0 : Int32)), (0, va_rf a0), (1, .int a1), (2, va_rf a2), (3, .int a3), (4, .int a4), (5, va_rf a5), (6, .int a6)]) hx hb dX8_order_50 hl (by decide) (congrArg (List.cons _) (flk rfl (flk rfl (flk rfl (flk rfl (flk rfl (flk rfl (flk rfl fln)))))))) (fun ls hl => ?_)
          refine lv_iconst (v := (1 : Int32)) hx hb dX8_order_52 (by decide) ?_
          refine lv_istore (lv' := [(8, .int (1 : Int32)), (7, .int (0 : Int32)), (0, va_rf a0), (1, .int a1), (2, va_rf a2), (3, .int a3), (4, .int a4), (5, va_rf a5), (6, .int a6)]) hx hb dX8_order_53 hl (by decide) (congrArg (List.cons _) (flk rfl (flk rfl (flk rfl (flk rfl (flk rfl (flk rfl (flk rfl (flk rfl fln))))))))) (fun ls hl => ?_)
          exact w_X8_order_L55 @hself M hfl hk16 4096 _ _ _ _ _ _ _ _ _ _ hf _ _ _ _ _ hC (lv_sub hl [2, 3, 4, 5, 6, 7, 8, 1, 0] rfl)
        · replace hf := oneg c57 hf
          refine lv_goto (tgt := 126) hx hb dX8_order_46 (by decide) ?_
          exact w_X8_order_L126 @hself M hfl hk16 _ _ _ _ _ _ _ _ hf _ _ _ _ _ hC (lv_sub hl [0, 1, 2, 3, 4, 5, 6] rfl)
set_option maxHeartbeats 4000000 in
set_option maxRecDepth 100000 in
theorem w_X8_order_L0 {p : Program} {l : Launch} {e : Env} {s : State} {m : MethodId} {args : Array Value} {below : List Frame} {meth : Method} {c : Code} {D : va_G} {cA : Nat → ClassId} {h0 : fSt} {self : Nat → Int32 → Option Nat → Int32 → fSt → Option (Int32 × fSt)} {fd ld : Nat} {r : (Int32 × fSt)} (hself : ∀ {o : Nat} {p0 : Int32} {p1 : Option Nat} {p2 : Int32} {h : fSt} {r : (Int32 × fSt)}, self o p0 p1 p2 h = some r → fMet l yX8_order (wsC yX8_order cX8_order 9 (some (.int))) fd ld D cA [.ref o, .int p0, va_rf p1, .int p2] h r.2 (some (.int r.1))) (M : fM p s m args meth c D cA h0 { frames := fd + 1, cells := fCB h0 - fZ h0, slots := fLB h0 - fL h0, locals := ld + 28 } cX8_order 9 (some (.int)) RX8) (hfl : l.stackTraces = false) (a0 : Option Nat) (a1 : Int32) (a2 : Option Nat) (a3 : Int32) (h : fSt) (hf : f_X8_order_L0 self a0 a1 a2 a3 h = some r) : ∀ (H : Heap) (locs : List Loc) (cells slots : Nat) (ls : Array Slot), fCur D cA s h0 h H locs → lv_has ls 9 [(0, va_rf a0), (1, .int a1), (2, va_rf a2), (3, .int a3)] → W p l e { frames := fd + 1, cells := fCB h0 - fZ h0, slots := fLB h0 - fL h0, locals := ld + 28 } s m args below meth c H locs cells slots (MQ below (fQ D cA h0 r.2 (some (.int r.1))) args s (fCB h0 - fZ h0) (fLB h0 - fL h0) (fA h0)) (F0 m 0 ls []) := by
  obtain ⟨hx, hb, hml, hr, hlocks, hts, hown, K, hR⟩ := id M
  intro H locs cells slots ls hC hl
  refine fr_aload_n hx hb dX8_order_0 rfl (lv_at hl 0 rfl) ?_
  refine lv_iload_n hx hb dX8_order_1 rfl (lv_at hl 1 rfl) ?_
  obtain ⟨b60, q61, hf⟩ := obind hf
  obtain ⟨r58, g59, hf⟩ := obind hf
  refine fr_callV hx hb hml hts hown K hC hR ct_8 (c_X8_hanging hfl D cA g59) 1 q61 kw1091 kw1088 kw1090 kw24 kw62 (by decide +kernel) ⟨by dsimp only; omega, by dsimp only; omega⟩ rfl hl.1 (cat8 _ (by exact Nat.le_of_ble_eq_true rfl)) dX8_order_2 rfl (fun H locs _ _ hC => ?_)
  refine lv_istore (lv' := [(4, .int r58.1), (0, va_rf a0), (1, .int a1), (2, va_rf a2), (3, .int a3)]) hx hb dX8_order_5 hl (by decide) (congrArg (List.cons _) (flk rfl (flk rfl (flk rfl (flk rfl fln))))) (fun ls hl => ?_)
  refine lv_iload hx hb dX8_order_7 (lv_at hl 0 rfl) ?_
  by_cases c62 : r58.1 < 0 ∨ 67000000 < (r58.1).toNatClampNeg
  · exact nomatch (opos c62 hf)
  obtain ⟨r63, g64, hf⟩ := obind (oneg c62 hf)
  refine fr_newa hx hb hts K hC hR (atype := .int) (t := 0) rfl kw1051 (fun _ => rfl) rfl (fun z => c62 (Or.inl z)) g64 (newa_b (fun z => c62 (Or.inr z)) (Nat.le_of_ble_eq_true rfl)) dX8_order_9 (fun H _ _ hC => ?_)
  refine fr_astore (lv' := [(5, va_rf (some r63.1)), (4, .int r58.1), (0, va_rf a0), (1, .int a1), (2, va_rf a2), (3, .int a3)]) hx hb dX8_order_11 hl (by decide) (congrArg (List.cons _) (flk rfl (flk rfl (flk rfl (flk rfl (flk rfl fln)))))) (fun ls hl => ?_)
  refine lv_iconst (v := (1 : Int32)) hx hb dX8_order_13 (by decide) ?_
  refine lv_istore (lv' := [(6, .int (1 : Int32)), (5, va_rf (some r63.1)), (4, .int r58.1), (0, va_rf a0), (1, .int a1), (2, va_rf a2), (3, .int a3)]) hx hb dX8_order_14 hl (by decide) (congrArg (List.cons _) (flk (adj1 _ _) (flk rfl (flk rfl (flk rfl (flk rfl (flk rfl fln))))))) (fun ls hl => ?_)
  exact w_X8_order_L16 @hself M hfl 4096 _ _ _ _ _ _ _ _ hf _ _ _ _ _ hC (lv_sub hl [3, 4, 5, 6, 2, 1, 0] rfl)
set_option maxRecDepth 100000 in
theorem c_X8_order {l : Launch} (hfl : l.stackTraces = false) (D : va_G) (cA : Nat → ClassId) (d : Nat) : ∀ {o : Nat} {p0 : Int32} {p1 : Option Nat} {p2 : Int32} {h : fSt} {r : (Int32 × fSt)}, f_X8_order d o p0 p1 p2 h = some r → fMet l yX8_order (wsC yX8_order cX8_order 9 (some (.int))) (1 * d) (28 * d) D cA [.ref o, .int p0, va_rf p1, .int p2] h r.2 (some (.int r.1)) := by
  induction d with
  | zero =>
    intro o p0 p1 p2 h r hf
    exact nomatch (show (none : Option (Int32 × fSt)) = some r from hf)
  | succ d hself =>
    intro o p0 p1 p2 h r hf
    have hf : f_X8_order_L0 (f_X8_order d) (some o) p0 p1 p2 h = some r := hf
    exact fMet.of (own := RX8) (by decide +kernel) rfl (lva1 rfl (lva1 rfl (lva1 (va_rf_cat _) (lva1 rfl lva0)))) (lgl1 rfl (lgl1 rfl (lgl1 (va_rf_cat _) (lgl1 rfl lgl0)))) (Nat.le_of_ble_eq_true rfl) (fun p e s m args below meth c ls hnm _ M hC hl => by
    have hl : lv_has ls 9 [(0, va_rf (some o)), (1, .int p0), (2, va_rf p1), (3, .int p2)] := hl
    exact w_X8_order_L0 @hself M hfl _ _ _ _ _ hf _ _ _ _ _ hC (lv_sub hl [0, 1, 2, 3] rfl))
set_option maxHeartbeats 4000000 in
set_option maxRecDepth 100000 in
theorem w_X8_ordered_L0 {p : Program} {l : Launch} {e : Env} {s : State} {m : MethodId} {args : Array Value} {below : List Frame} {meth : Method} {c : Code} {D : va_G} {cA : Nat → ClassId} {h0 : fSt} {r : (Option Nat × fSt)} (M : fM p s m args meth c D cA h0 { frames := 9, cells := fCB h0 - fZ h0, slots := fLB h0 - fL h0, locals := 252 } cX8_ordered 2 (some (.array (.int))) RX8) (hfl : l.stackTraces = false) (a0 : Option Nat) (h : fSt) (hf : f_X8_ordered_L0 a0 h = some r) : ∀ (H : Heap) (locs : List Loc) (cells slots : Nat) (ls : Array Slot), fCur D cA s h0 h H locs → lv_has ls 2 [(0, va_rf a0)] → W p l e { frames := 9, cells := fCB h0 - fZ h0, slots := fLB h0 - fL h0, locals := 252 } s m args below meth c H locs cells slots (MQ below (fQ D cA h0 r.2 (some (va_rf r.1))) args s (fCB h0 - fZ h0) (fLB h0 - fL h0) (fA h0)) (F0 m 0 ls []) := by
  obtain ⟨hx, hb, hml, hr, hlocks, hts, hown, K, hR⟩ := id M
  intro H locs cells slots ls hC hl
  refine fr_aload_n hx hb dX8_ordered_0 rfl (lv_at hl 0 rfl) ?_
  obtain ⟨b3, q4, hf⟩ := obind hf
  obtain ⟨r1, g2, hf⟩ := obind hf
  refine fr_callV hx hb hml hts hown K hC hR ct_8 (c_X8_nodesNow hfl D cA g2) 0 q4 kw1142 kw1139 kw1141 kw28 kw62 (by decide +kernel) ⟨by exact Nat.le_of_ble_eq_true rfl, by exact Nat.le_of_ble_eq_true rfl⟩ rfl hl.1 (cat8 _ (by exact Nat.le_of_ble_eq_true rfl)) dX8_ordered_1 rfl (fun H locs _ _ hC => ?_)
  by_cases c5 : r1.1 < 0 ∨ 67000000 < (r1.1).toNatClampNeg
  · exact nomatch (opos c5 hf)
  obtain ⟨r6, g7, hf⟩ := obind (oneg c5 hf)
  refine fr_newa hx hb hts K hC hR (atype := .int) (t := 0) rfl kw1051 (fun _ => rfl) rfl (fun z => c5 (Or.inl z)) g7 (newa_b (fun z => c5 (Or.inr z)) (Nat.le_of_ble_eq_true rfl)) dX8_ordered_4 (fun H _ _ hC => ?_)
  refine fr_astore_n (lv' := [(1, va_rf (some r6.1)), (0, va_rf a0)]) hx hb dX8_ordered_6 rfl hl (by decide) (congrArg (List.cons _) (flk (adj1 _ _) fln)) (fun ls hl => ?_)
  refine fr_aload_n hx hb dX8_ordered_7 rfl (lv_at hl 1 rfl) ?_
  refine lv_iconst (v := (0 : Int32)) hx hb dX8_ordered_8 (by decide) ?_
  refine fr_aload_n hx hb dX8_ordered_9 rfl (lv_at hl 0 rfl) ?_
  refine lv_iconst (v := (0 : Int32)) hx hb dX8_ordered_10 (by decide) ?_
  obtain ⟨b10, q11, hf⟩ := obind hf
  obtain ⟨r8, g9, hf⟩ := obind hf
  refine fr_callV hx hb hml hts hown K hC hR ct_8 (c_X8_order hfl D cA 8 g9) 3 q11 kw1305 kw1302 kw1304 kw48 kw62 (by decide +kernel) ⟨by exact Nat.le_of_ble_eq_true rfl, by exact Nat.le_of_ble_eq_true rfl⟩ rfl hl.1 (cat8 _ (by exact Nat.le_of_ble_eq_true rfl)) dX8_ordered_11 rfl (fun H locs _ _ hC => ?_)
  refine lv_pop hx hb dX8_ordered_14 rfl ?_
  refine fr_aload_n hx hb dX8_ordered_15 rfl (lv_at hl 0 rfl) ?_
  obtain rfl := Option.some.inj hf
  exact fr_aret hx hb hr (Or.inr ⟨_, rfl⟩) hlocks hC dX8_ordered_16
set_option maxRecDepth 100000 in
theorem c_X8_ordered {l : Launch} (hfl : l.stackTraces = false) (D : va_G) (cA : Nat → ClassId) {o : Nat} {h : fSt} {r : (Option Nat × fSt)} (hf : f_X8_ordered o h = some r) : fMet l yX8_ordered (wsC yX8_ordered cX8_ordered 2 (some (.array (.int)))) (9) (252) D cA [.ref o] h r.2 (some (va_rf r.1)) := by
  exact fMet.of (own := RX8) (by decide +kernel) rfl (lva1 rfl lva0) (lgl1 rfl lgl0) (Nat.le_of_ble_eq_true rfl) (fun p e s m args below meth c ls hnm _ M hC hl => by
    have hl : lv_has ls 2 [(0, va_rf (some o))] := hl
    exact w_X8_ordered_L0 M hfl _ _ hf _ _ _ _ _ hC (lv_sub hl [0] rfl))
set_option maxHeartbeats 4000000 in
set_option maxRecDepth 100000 in
theorem w_X8_pickNow_L13 {p : Program} {l : Launch} {e : Env} {s : State} {m : MethodId} {args : Array Value} {below : List Frame} {meth : Method} {c : Code} {D : va_G} {cA : Nat → ClassId} {h0 : fSt} {r : (Int32 × fSt)} (M : fM p s m args meth c D cA h0 { frames := 10, cells := fCB h0 - fZ h0, slots := fLB h0 - fL h0, locals := 273 } cX8_pickNow 6 (some (.int)) RX8) (hfl : l.stackTraces = false) : ∀ (n : Nat) (a0 : Option Nat) (a1 : Int32) (a2 : Int32) (a3 : Int32) (a4 : Option Nat) (a5 : Int32) (h : fSt), f_X8_pickNow_L13 n a0 a1 a2 a3 a4 a5 h = some r → ∀ (H : Heap) (locs : List Loc) (cells slots : Nat) (ls : Array Slot), fCur D cA s h0 h H locs → lv_has ls 6 [(0, va_rf a0), (1, .int a1), (2, .int a2), (3, .int a3), (4, va_rf a4), (5, .int a5)] → W p l e { frames := 10, cells := fCB h0 - fZ h0, slots := fLB h0 - fL h0, locals := 273 } s m args below meth c H locs cells slots (MQ below (fQ D cA h0 r.2 (some (.int r.1))) args s (fCB h0 - fZ h0) (fLB h0 - fL h0) (fA h0)) (F0 m 13 ls []) := by
  obtain ⟨hx, hb, hml, hr, hlocks, hts, hown, K, hR⟩ := id M
  intro n
  induction n with
  | zero =>
    intro a0 a1 a2 a3 a4 a5 h hf
    exact nomatch (show (none : Option (Int32 × fSt)) = some r from hf)
  | succ n hk13 =>
    intro a0 a1 a2 a3 a4 a5 h hf H locs cells slots ls hC hl
    refine lv_iload hx hb dX8_pickNow_13 (lv_at hl 5 rfl) ?_
    refine lv_if_lt (tgt := 45) hx hb dX8_pickNow_15 (by decide) (fun c1 => ?_) (fun c1 => ?_)
    · replace hf := opos c1 hf
      refine lv_iconst (v := (-1 : Int32)) hx hb dX8_pickNow_45 (by decide) ?_
      obtain rfl := Option.some.inj hf
      exact fr_iret hx hb hr hlocks hC dX8_pickNow_46
    · replace hf := oneg c1 hf
      refine fr_aload_n hx hb dX8_pickNow_18 rfl (lv_at hl 0 rfl) ?_
      refine fr_aload hx hb dX8_pickNow_19 (lv_at hl 4 rfl) ?_
      refine lv_iload hx hb dX8_pickNow_21 (lv_at hl 5 rfl) ?_
      obtain ⟨x2, g3, hf⟩ := obind hf
      refine fr_iald hx hb K hC (t := 0) rfl g3 dX8_pickNow_23 ?_
      refine lv_iload_n hx hb dX8_pickNow_24 rfl (lv_at hl 1 rfl) ?_
      refine lv_iload_n hx hb dX8_pickNow_25 rfl (lv_at hl 2 rfl) ?_
      refine lv_iload_n hx hb dX8_pickNow_26 rfl (lv_at hl 3 rfl) ?_
      obtain ⟨b6, q7, hf⟩ := obind hf
      obtain ⟨r4, g5, hf⟩ := obind hf
      refine fr_callV hx hb hml hts hown K hC hR ct_8 (c_X8_coversNow hfl D cA g5) 4 q7 kw1327 kw1324 kw1326 kw50 kw62 (by decide +kernel) ⟨by exact Nat.le_of_ble_eq_true rfl, by exact Nat.le_of_ble_eq_true rfl⟩ rfl hl.1 (cat8 _ (by exact Nat.le_of_ble_eq_true rfl)) dX8_pickNow_27 rfl (fun H locs _ _ hC => ?_)
      refine lv_if_eq (tgt := 39) hx hb dX8_pickNow_30 (by decide) (fun c8 => ?_) (fun c8 => ?_)
      · replace hf := opos c8 hf
        refine lv_iinc (v := (a5 + (-1 : Int32))) (lv' := [(5, .int (a5 + (-1 : Int32))), (0, va_rf a0), (1, .int a1), (2, .int a2), (3, .int a3), (4, va_rf a4)]) hx hb dX8_pickNow_39 hl (k := 5) rfl rfl (by decide) (congrArg (List.cons _) (flk rfl (flk rfl (flk rfl (flk rfl (flk (adj1 _ _) (fld rfl fln))))))) (fun ls hl => ?_)
        refine lv_goto (tgt := 13) hx hb dX8_pickNow_42 (by decide) ?_
        exact hk13 _ _ _ _ _ _ _ hf _ _ _ _ _ hC (lv_sub hl [1, 2, 3, 4, 5, 0] rfl)
      · replace hf := oneg c8 hf
        refine fr_aload hx hb dX8_pickNow_33 (lv_at hl 4 rfl) ?_
        refine lv_iload hx hb dX8_pickNow_35 (lv_at hl 5 rfl) ?_
        obtain ⟨x9, g10, hf⟩ := obind hf
        refine fr_iald hx hb K hC (t := 0) rfl g10 dX8_pickNow_37 ?_
        obtain rfl := Option.some.inj hf
        exact fr_iret hx hb hr hlocks hC dX8_pickNow_38
set_option maxHeartbeats 4000000 in
set_option maxRecDepth 100000 in
theorem w_X8_pickNow_L0 {p : Program} {l : Launch} {e : Env} {s : State} {m : MethodId} {args : Array Value} {below : List Frame} {meth : Method} {c : Code} {D : va_G} {cA : Nat → ClassId} {h0 : fSt} {r : (Int32 × fSt)} (M : fM p s m args meth c D cA h0 { frames := 10, cells := fCB h0 - fZ h0, slots := fLB h0 - fL h0, locals := 273 } cX8_pickNow 6 (some (.int)) RX8) (hfl : l.stackTraces = false) (a0 : Option Nat) (a1 : Int32) (a2 : Int32) (a3 : Int32) (h : fSt) (hf : f_X8_pickNow_L0 a0 a1 a2 a3 h = some r) : ∀ (H : Heap) (locs : List Loc) (cells slots : Nat) (ls : Array Slot), fCur D cA s h0 h H locs → lv_has ls 6 [(0, va_rf a0), (1, .int a1), (2, .int a2), (3, .int a3)] → W p l e { frames := 10, cells := fCB h0 - fZ h0, slots := fLB h0 - fL h0, locals := 273 } s m args below meth c H locs cells slots (MQ below (fQ D cA h0 r.2 (some (.int r.1))) args s (fCB h0 - fZ h0) (fLB h0 - fL h0) (fA h0)) (F0 m 0 ls []) := by
  obtain ⟨hx, hb, hml, hr, hlocks, hts, hown, K, hR⟩ := id M
  intro H locs cells slots ls hC hl
  refine fr_aload_n hx hb dX8_pickNow_0 rfl (lv_at hl 0 rfl) ?_
  obtain ⟨b13, q14, hf⟩ := obind hf
  obtain ⟨r11, g12, hf⟩ := obind hf
  refine fr_callV hx hb hml hts hown K hC hR ct_8 (c_X8_ordered hfl D cA g12) 0 q14 kw1301 kw1298 kw1300 kw47 kw62 (by decide +kernel) ⟨by exact Nat.le_of_ble_eq_true rfl, by exact Nat.le_of_ble_eq_true rfl⟩ rfl hl.1 (cat8 _ (by exact Nat.le_of_ble_eq_true rfl)) dX8_pickNow_1 rfl (fun H locs _ _ hC => ?_)
  refine fr_astore (lv' := [(4, va_rf r11.1), (0, va_rf a0), (1, .int a1), (2, .int a2), (3, .int a3)]) hx hb dX8_pickNow_4 hl (by decide) (congrArg (List.cons _) (flk rfl (flk rfl (flk rfl (flk rfl fln))))) (fun ls hl => ?_)
  refine fr_aload hx hb dX8_pickNow_6 (lv_at hl 0 rfl) ?_
  obtain ⟨x15, g16, hf⟩ := obind hf
  refine fr_alen hx hb K hC (t := 0) rfl g16 dX8_pickNow_8 ?_
  refine lv_iconst (v := (1 : Int32)) hx hb dX8_pickNow_9 (by decide) ?_
  refine lv_isub hx hb dX8_pickNow_10 ?_
  refine lv_istore (lv' := [(5, .int (x15 - (1 : Int32))), (4, va_rf r11.1), (0, va_rf a0), (1, .int a1), (2, .int a2), (3, .int a3)]) hx hb dX8_pickNow_11 hl (by decide) (congrArg (List.cons _) (flk (adj1 _ _) (flk rfl (flk rfl (flk rfl (flk rfl fln)))))) (fun ls hl => ?_)
  exact w_X8_pickNow_L13 M hfl 4096 _ _ _ _ _ _ _ hf _ _ _ _ _ hC (lv_sub hl [2, 3, 4, 5, 1, 0] rfl)
set_option maxRecDepth 100000 in
theorem c_X8_pickNow {l : Launch} (hfl : l.stackTraces = false) (D : va_G) (cA : Nat → ClassId) {o : Nat} {p0 : Int32} {p1 : Int32} {p2 : Int32} {h : fSt} {r : (Int32 × fSt)} (hf : f_X8_pickNow o p0 p1 p2 h = some r) : fMet l yX8_pickNow (wsC yX8_pickNow cX8_pickNow 6 (some (.int))) (10) (273) D cA [.ref o, .int p0, .int p1, .int p2] h r.2 (some (.int r.1)) := by
  exact fMet.of (own := RX8) (by decide +kernel) rfl (lva1 rfl (lva1 rfl (lva1 rfl (lva1 rfl lva0)))) (lgl1 rfl (lgl1 rfl (lgl1 rfl (lgl1 rfl lgl0)))) (Nat.le_of_ble_eq_true rfl) (fun p e s m args below meth c ls hnm _ M hC hl => by
    have hl : lv_has ls 6 [(0, va_rf (some o)), (1, .int p0), (2, .int p1), (3, .int p2)] := hl
    exact w_X8_pickNow_L0 M hfl _ _ _ _ _ hf _ _ _ _ _ hC (lv_sub hl [0, 1, 2, 3] rfl))
set_option maxHeartbeats 4000000 in
set_option maxRecDepth 100000 in
theorem w_X8_placeIn_L2 {p : Program} {l : Launch} {e : Env} {s : State} {m : MethodId} {args : Array Value} {below : List Frame} {meth : Method} {c : Code} {D : va_G} {cA : Nat → ClassId} {h0 : fSt} {r : (Int32 × fSt)} (M : fM p s m args meth c D cA h0 { frames := 0, cells := fCB h0 - fZ h0, slots := fLB h0 - fL h0, locals := 0 } cX8_placeIn 3 (some (.int)) RX8) (hfl : l.stackTraces = false) : ∀ (n : Nat) (a0 : Option Nat) (a1 : Int32) (a2 : Int32) (h : fSt), f_X8_placeIn_L2 n a0 a1 a2 h = some r → ∀ (H : Heap) (locs : List Loc) (cells slots : Nat) (ls : Array Slot), fCur D cA s h0 h H locs → lv_has ls 3 [(0, va_rf a0), (1, .int a1), (2, .int a2)] → W p l e { frames := 0, cells := fCB h0 - fZ h0, slots := fLB h0 - fL h0, locals := 0 } s m args below meth c H locs cells slots (MQ below (fQ D cA h0 r.2 (some (.int r.1))) args s (fCB h0 - fZ h0) (fLB h0 - fL h0) (fA h0)) (F0 m 2 ls []) := by
  obtain ⟨hx, hb, hml, hr, hlocks, hts, hown, K, hR⟩ := id M
  intro n
  induction n with
  | zero =>
    intro a0 a1 a2 h hf
    exact nomatch (show (none : Option (Int32 × fSt)) = some r from hf)
  | succ n hk2 =>
    intro a0 a1 a2 h hf H locs cells slots ls hC hl
    refine fr_aload_n hx hb dX8_placeIn_2 rfl (lv_at hl 0 rfl) ?_
    refine lv_iload_n hx hb dX8_placeIn_3 rfl (lv_at hl 2 rfl) ?_
    obtain ⟨x1, g2, hf⟩ := obind hf
    refine fr_iald hx hb K hC (t := 0) rfl g2 dX8_placeIn_4 ?_
    refine lv_iload_n hx hb dX8_placeIn_5 rfl (lv_at hl 1 rfl) ?_
    refine lv_icmp_eq (tgt := 15) hx hb dX8_placeIn_6 (by decide) (fun c3 => ?_) (fun c3 => ?_)
    · replace hf := opos c3 hf
      refine lv_iload_n hx hb dX8_placeIn_15 rfl (lv_at hl 2 rfl) ?_
      obtain rfl := Option.some.inj hf
      exact fr_iret hx hb hr hlocks hC dX8_placeIn_16
    · replace hf := oneg c3 hf
      refine lv_iinc (v := (a2 + (1 : Int32))) (lv' := [(2, .int (a2 + (1 : Int32))), (0, va_rf a0), (1, .int a1)]) hx hb dX8_placeIn_9 hl (k := 2) rfl rfl (by decide) (congrArg (List.cons _) (flk rfl (flk rfl (fld rfl fln)))) (fun ls hl => ?_)
      refine lv_goto (tgt := 2) hx hb dX8_placeIn_12 (by decide) ?_
      exact hk2 _ _ _ _ hf _ _ _ _ _ hC (lv_sub hl [1, 2, 0] rfl)
set_option maxHeartbeats 4000000 in
set_option maxRecDepth 100000 in
theorem w_X8_placeIn_L0 {p : Program} {l : Launch} {e : Env} {s : State} {m : MethodId} {args : Array Value} {below : List Frame} {meth : Method} {c : Code} {D : va_G} {cA : Nat → ClassId} {h0 : fSt} {r : (Int32 × fSt)} (M : fM p s m args meth c D cA h0 { frames := 0, cells := fCB h0 - fZ h0, slots := fLB h0 - fL h0, locals := 0 } cX8_placeIn 3 (some (.int)) RX8) (hfl : l.stackTraces = false) (a0 : Option Nat) (a1 : Int32) (h : fSt) (hf : f_X8_placeIn_L0 a0 a1 h = some r) : ∀ (H : Heap) (locs : List Loc) (cells slots : Nat) (ls : Array Slot), fCur D cA s h0 h H locs → lv_has ls 3 [(0, va_rf a0), (1, .int a1)] → W p l e { frames := 0, cells := fCB h0 - fZ h0, slots := fLB h0 - fL h0, locals := 0 } s m args below meth c H locs cells slots (MQ below (fQ D cA h0 r.2 (some (.int r.1))) args s (fCB h0 - fZ h0) (fLB h0 - fL h0) (fA h0)) (F0 m 0 ls []) := by
  obtain ⟨hx, hb, hml, hr, hlocks, hts, hown, K, hR⟩ := id M
  intro H locs cells slots ls hC hl
  refine lv_iconst (v := (0 : Int32)) hx hb dX8_placeIn_0 (by decide) ?_
  refine lv_istore_n (lv' := [(2, .int (0 : Int32)), (0, va_rf a0), (1, .int a1)]) hx hb dX8_placeIn_1 rfl hl (by decide) (congrArg (List.cons _) (flk rfl (flk rfl fln))) (fun ls hl => ?_)
  exact w_X8_placeIn_L2 M hfl 4096 _ _ _ _ hf _ _ _ _ _ hC (lv_sub hl [1, 2, 0] rfl)
set_option maxRecDepth 100000 in
theorem c_X8_placeIn {l : Launch} (hfl : l.stackTraces = false) (D : va_G) (cA : Nat → ClassId) {p0 : Option Nat} {p1 : Int32} {h : fSt} {r : (Int32 × fSt)} (hf : f_X8_placeIn p0 p1 h = some r) : fMet l yX8_placeIn (wsC yX8_placeIn cX8_placeIn 3 (some (.int))) (0) (0) D cA [va_rf p0, .int p1] h r.2 (some (.int r.1)) := by
  exact fMet.of (own := RX8) (by decide +kernel) rfl (lva1 (va_rf_cat _) (lva1 rfl lva0)) (lgl1 (va_rf_cat _) (lgl1 rfl lgl0)) (Nat.le_of_ble_eq_true rfl) (fun p e s m args below meth c ls hnm _ M hC hl => by
    have hl : lv_has ls 3 [(0, va_rf p0), (1, .int p1)] := hl
    exact w_X8_placeIn_L0 M hfl _ _ _ hf _ _ _ _ _ hC (lv_sub hl [0, 1] rfl))
set_option maxHeartbeats 4000000 in
set_option maxRecDepth 100000 in
theorem w_X8_strengthNow_L29 {p : Program} {l : Launch} {e : Env} {s : State} {m : MethodId} {args : Array Value} {below : List Frame} {meth : Method} {c : Code} {D : va_G} {cA : Nat → ClassId} {h0 : fSt} {self : Nat → Int32 → fSt → Option (Int32 × fSt)} {fd ld : Nat} {r : (Int32 × fSt)} (hself : ∀ {o : Nat} {p0 : Int32} {h : fSt} {r : (Int32 × fSt)}, self o p0 h = some r → fMet l yX8_strengthNow (wsC yX8_strengthNow cX8_strengthNow 2 (some (.int))) fd ld D cA [.ref o, .int p0] h r.2 (some (.int r.1))) (M : fM p s m args meth c D cA h0 { frames := fd + 3, cells := fCB h0 - fZ h0, slots := fLB h0 - fL h0, locals := ld + 80 } cX8_strengthNow 2 (some (.int)) RX8) (hfl : l.stackTraces = false) (s0 : Int32) (h : fSt) (hf : f_X8_strengthNow_L29 self s0 h = some r) : ∀ (H : Heap) (locs : List Loc) (cells slots : Nat) (ls : Array Slot), fCur D cA s h0 h H locs → lv_has ls 2 [] → W p l e { frames := fd + 3, cells := fCB h0 - fZ h0, slots := fLB h0 - fL h0, locals := ld + 80 } s m args below meth c H locs cells slots (MQ below (fQ D cA h0 r.2 (some (.int r.1))) args s (fCB h0 - fZ h0) (fLB h0 - fL h0) (fA h0)) (F0 m 29 ls [.int s0]) := by
  obtain ⟨hx, hb, hml, hr, hlocks, hts, hown, K, hR⟩ := id M
  intro H locs cells slots ls hC hl
  obtain rfl := Option.some.inj hf
  exact fr_iret hx hb hr hlocks hC dX8_strengthNow_29
set_option maxHeartbeats 4000000 in
set_option maxRecDepth 100000 in
theorem w_X8_strengthNow_L0 {p : Program} {l : Launch} {e : Env} {s : State} {m : MethodId} {args : Array Value} {below : List Frame} {meth : Method} {c : Code} {D : va_G} {cA : Nat → ClassId} {h0 : fSt} {self : Nat → Int32 → fSt → Option (Int32 × fSt)} {fd ld : Nat} {r : (Int32 × fSt)} (hself : ∀ {o : Nat} {p0 : Int32} {h : fSt} {r : (Int32 × fSt)}, self o p0 h = some r → fMet l yX8_strengthNow (wsC yX8_strengthNow cX8_strengthNow 2 (some (.int))) fd ld D cA [.ref o, .int p0] h r.2 (some (.int r.1))) (M : fM p s m args meth c D cA h0 { frames := fd + 3, cells := fCB h0 - fZ h0, slots := fLB h0 - fL h0, locals := ld + 80 } cX8_strengthNow 2 (some (.int)) RX8) (hfl : l.stackTraces = false) (a0 : Option Nat) (a1 : Int32) (h : fSt) (hf : f_X8_strengthNow_L0 self a0 a1 h = some r) : ∀ (H : Heap) (locs : List Loc) (cells slots : Nat) (ls : Array Slot), fCur D cA s h0 h H locs → lv_has ls 2 [(0, va_rf a0), (1, .int a1)] → W p l e { frames := fd + 3, cells := fCB h0 - fZ h0, slots := fLB h0 - fL h0, locals := ld + 80 } s m args below meth c H locs cells slots (MQ below (fQ D cA h0 r.2 (some (.int r.1))) args s (fCB h0 - fZ h0) (fLB h0 - fL h0) (fA h0)) (F0 m 0 ls []) := by
  obtain ⟨hx, hb, hml, hr, hlocks, hts, hown, K, hR⟩ := id M
  intro H locs cells slots ls hC hl
  refine lv_iload_n hx hb dX8_strengthNow_0 rfl (lv_at hl 1 rfl) ?_
  refine lv_if_ne (tgt := 9) hx hb dX8_strengthNow_1 (by decide) (fun c1 => ?_) (fun c1 => ?_)
  · replace hf := oneg c1 hf
    refine fr_aload_n hx hb dX8_strengthNow_9 rfl (lv_at hl 0 rfl) ?_
    refine fr_aload_n hx hb dX8_strengthNow_10 rfl (lv_at hl 0 rfl) ?_
    obtain ⟨x2, g3, hf⟩ := obind hf
    refine fr_get hx hb hts hown K hC ct_8 (fgR_get g3) (by decide) kw977 rfl dX8_strengthNow_11 ?_
    refine lv_iload_n hx hb dX8_strengthNow_14 rfl (lv_at hl 1 rfl) ?_
    obtain ⟨x4, g5, hf⟩ := obind hf
    refine fr_iald hx hb K hC (t := 0) rfl g5 dX8_strengthNow_15 ?_
    obtain ⟨b8, q9, hf⟩ := obind hf
    obtain ⟨r6, g7, hf⟩ := obind hf
    refine fr_callV hx hb hml hts hown K hC hR ct_8 (hself g7) 1 q9 kw1293 kw1290 kw1292 kw46 kw62 (by decide +kernel) ⟨by dsimp only; omega, by dsimp only; omega⟩ rfl hl.1 (cat8 _ (by exact Nat.le_of_ble_eq_true rfl)) dX8_strengthNow_16 rfl (fun H locs _ _ hC => ?_)
    refine fr_aload_n hx hb dX8_strengthNow_19 rfl (lv_at hl 0 rfl) ?_
    refine lv_iload_n hx hb dX8_strengthNow_20 rfl (lv_at hl 1 rfl) ?_
    refine lv_iconst (v := (3 : Int32)) hx hb dX8_strengthNow_21 (by decide) ?_
    obtain ⟨b12, q13, hf⟩ := obind hf
    obtain ⟨r10, g11, hf⟩ := obind hf
    refine fr_callV hx hb hml hts hown K hC hR ct_8 (c_X8_has hfl D cA g11) 2 q13 kw1201 kw1198 kw1200 kw33 kw62 (by decide +kernel) ⟨by dsimp only; omega, by dsimp only; omega⟩ rfl hl.1 (cat8 _ (by exact Nat.le_of_ble_eq_true rfl)) dX8_strengthNow_22 rfl (fun H locs _ _ hC => ?_)
    refine lv_imul hx hb dX8_strengthNow_25 ?_
    refine lv_bipush (v := (100 : Int32)) hx hb dX8_strengthNow_26 (by decide) ?_
    refine lv_idiv hx hb dX8_strengthNow_28 (by decide) ?_
    exact w_X8_strengthNow_L29 @hself M hfl _ _ hf _ _ _ _ _ hC (lv_sub hl [] rfl)
  · replace hf := opos c1 hf
    refine lv_bipush (v := (100 : Int32)) hx hb dX8_strengthNow_4 (by decide) ?_
    refine lv_goto (tgt := 29) hx hb dX8_strengthNow_6 (by decide) ?_
    exact w_X8_strengthNow_L29 @hself M hfl _ _ hf _ _ _ _ _ hC (lv_sub hl [] rfl)
set_option maxRecDepth 100000 in
theorem c_X8_strengthNow {l : Launch} (hfl : l.stackTraces = false) (D : va_G) (cA : Nat → ClassId) (d : Nat) : ∀ {o : Nat} {p0 : Int32} {h : fSt} {r : (Int32 × fSt)}, f_X8_strengthNow d o p0 h = some r → fMet l yX8_strengthNow (wsC yX8_strengthNow cX8_strengthNow 2 (some (.int))) (3 * d) (80 * d) D cA [.ref o, .int p0] h r.2 (some (.int r.1)) := by
  induction d with
  | zero =>
    intro o p0 h r hf
    exact nomatch (show (none : Option (Int32 × fSt)) = some r from hf)
  | succ d hself =>
    intro o p0 h r hf
    have hf : f_X8_strengthNow_L0 (f_X8_strengthNow d) (some o) p0 h = some r := hf
    exact fMet.of (own := RX8) (by decide +kernel) rfl (lva1 rfl (lva1 rfl lva0)) (lgl1 rfl (lgl1 rfl lgl0)) (Nat.le_of_ble_eq_true rfl) (fun p e s m args below meth c ls hnm _ M hC hl => by
    have hl : lv_has ls 2 [(0, va_rf (some o)), (1, .int p0)] := hl
    exact w_X8_strengthNow_L0 @hself M hfl _ _ _ hf _ _ _ _ _ hC (lv_sub hl [0, 1] rfl))
set_option maxHeartbeats 4000000 in
set_option maxRecDepth 100000 in
theorem w_X8_toWholeNow_L0 {p : Program} {l : Launch} {e : Env} {s : State} {m : MethodId} {args : Array Value} {below : List Frame} {meth : Method} {c : Code} {D : va_G} {cA : Nat → ClassId} {h0 : fSt} {r : (Int32 × fSt)} (M : fM p s m args meth c D cA h0 { frames := 5, cells := fCB h0 - fZ h0, slots := fLB h0 - fL h0, locals := 132 } cX8_toWholeNow 6 (some (.int)) RX8) (hfl : l.stackTraces = false) (a0 : Option Nat) (a1 : Int32) (a2 : Int32) (a3 : Int32) (a4 : Int32) (h : fSt) (hf : f_X8_toWholeNow_L0 a0 a1 a2 a3 a4 h = some r) : ∀ (H : Heap) (locs : List Loc) (cells slots : Nat) (ls : Array Slot), fCur D cA s h0 h H locs → lv_has ls 6 [(0, va_rf a0), (1, .int a1), (2, .int a2), (3, .int a3), (4, .int a4)] → W p l e { frames := 5, cells := fCB h0 - fZ h0, slots := fLB h0 - fL h0, locals := 132 } s m args below meth c H locs cells slots (MQ below (fQ D cA h0 r.2 (some (.int r.1))) args s (fCB h0 - fZ h0) (fLB h0 - fL h0) (fA h0)) (F0 m 0 ls []) := by
  obtain ⟨hx, hb, hml, hr, hlocks, hts, hown, K, hR⟩ := id M
  intro H locs cells slots ls hC hl
  refine lv_iload_n hx hb dX8_toWholeNow_0 rfl (lv_at hl 2 rfl) ?_
  refine lv_i2l (v := (Int32.toInt64 a2)) hx hb dX8_toWholeNow_1 rfl ?_
  refine lv_iload_n hx hb dX8_toWholeNow_2 rfl (lv_at hl 3 rfl) ?_
  refine lv_i2l (v := (Int32.toInt64 a3)) hx hb dX8_toWholeNow_3 rfl ?_
  refine lv_lconst (v := (1 : Int64)) hx hb dX8_toWholeNow_4 (by decide) ?_
  obtain ⟨r1, g2, hf⟩ := obind hf
  refine fr_callS hx hb hml hts hown K hC hR (c_X8_point hfl D cA g2) 3 kw1234 kw1232 kw1233 kw62 (by decide +kernel) ⟨by exact Nat.le_of_ble_eq_true rfl, by exact Nat.le_of_ble_eq_true rfl⟩ rfl hl.1 (cat8 _ (by exact Nat.le_of_ble_eq_true rfl)) dX8_toWholeNow_5 rfl (fun H locs _ _ hC => ?_)
  refine fr_astore (lv' := [(5, va_rf r1.1), (0, va_rf a0), (1, .int a1), (2, .int a2), (3, .int a3), (4, .int a4)]) hx hb dX8_toWholeNow_8 hl (by decide) (congrArg (List.cons _) (flk rfl (flk rfl (flk rfl (flk rfl (flk rfl fln)))))) (fun ls hl => ?_)
  refine fr_aload_n hx hb dX8_toWholeNow_10 rfl (lv_at hl 1 rfl) ?_
  refine lv_iload_n hx hb dX8_toWholeNow_11 rfl (lv_at hl 2 rfl) ?_
  refine fr_aload hx hb dX8_toWholeNow_12 (lv_at hl 0 rfl) ?_
  obtain ⟨b5, q6, hf⟩ := obind hf
  obtain ⟨r3, g4, hf⟩ := obind hf
  refine fr_callV hx hb hml hts hown K hC hR ct_8 (c_X8_upAll hfl D cA g4) 2 q6 kw1238 kw1235 kw1237 kw39 kw62 (by decide +kernel) ⟨by exact Nat.le_of_ble_eq_true rfl, by exact Nat.le_of_ble_eq_true rfl⟩ rfl hl.1 (cat8 _ (by exact Nat.le_of_ble_eq_true rfl)) dX8_toWholeNow_14 rfl (fun H locs _ _ hC => ?_)
  refine fr_aload hx hb dX8_toWholeNow_17 (lv_at hl 0 rfl) ?_
  refine lv_iload hx hb dX8_toWholeNow_19 (lv_at hl 5 rfl) ?_
  obtain ⟨r7, g8, hf⟩ := obind hf
  refine fr_callS hx hb hml hts hown K hC hR (c_X8_part hfl D cA g8) 2 kw1245 kw1243 kw1244 kw62 (by decide +kernel) ⟨by exact Nat.le_of_ble_eq_true rfl, by exact Nat.le_of_ble_eq_true rfl⟩ rfl hl.1 (cat8 _ (by exact Nat.le_of_ble_eq_true rfl)) dX8_toWholeNow_21 rfl (fun H locs _ _ hC => ?_)
  obtain rfl := Option.some.inj hf
  exact fr_iret hx hb hr hlocks hC dX8_toWholeNow_24
set_option maxRecDepth 100000 in
theorem c_X8_toWholeNow {l : Launch} (hfl : l.stackTraces = false) (D : va_G) (cA : Nat → ClassId) {o : Nat} {p0 : Int32} {p1 : Int32} {p2 : Int32} {p3 : Int32} {h : fSt} {r : (Int32 × fSt)} (hf : f_X8_toWholeNow o p0 p1 p2 p3 h = some r) : fMet l yX8_toWholeNow (wsC yX8_toWholeNow cX8_toWholeNow 6 (some (.int))) (5) (132) D cA [.ref o, .int p0, .int p1, .int p2, .int p3] h r.2 (some (.int r.1)) := by
  exact fMet.of (own := RX8) (by decide +kernel) rfl (lva1 rfl (lva1 rfl (lva1 rfl (lva1 rfl (lva1 rfl lva0))))) (lgl1 rfl (lgl1 rfl (lgl1 rfl (lgl1 rfl (lgl1 rfl lgl0))))) (Nat.le_of_ble_eq_true rfl) (fun p e s m args below meth c ls hnm _ M hC hl => by
    have hl : lv_has ls 6 [(0, va_rf (some o)), (1, .int p0), (2, .int p1), (3, .int p2), (4, .int p3)] := hl
    exact w_X8_toWholeNow_L0 M hfl _ _ _ _ _ _ hf _ _ _ _ _ hC (lv_sub hl [0, 1, 2, 3, 4] rfl))
set_option maxHeartbeats 4000000 in
set_option maxRecDepth 100000 in
theorem w_X8_digest_L300 {p : Program} {l : Launch} {e : Env} {s : State} {m : MethodId} {args : Array Value} {below : List Frame} {meth : Method} {c : Code} {D : va_G} {cA : Nat → ClassId} {h0 : fSt} {r : (Int64 × fSt)} (M : fM p s m args meth c D cA h0 { frames := 34, cells := fCB h0 - fZ h0, slots := fLB h0 - fL h0, locals := 919 } cX8_digest 6 (some (.long)) RX8) (hfl : l.stackTraces = false) {k53 : Option Nat → Int64 → Option Nat → Int32 → fSt → Option (Int64 × fSt)} (hk53 : ∀ (a0 : Option Nat) (a1 : Int64) (a3 : Option Nat) (a4 : Int32) (h : fSt), k53 a0 a1 a3 a4 h = some r → ∀ (H : Heap) (locs : List Loc) (cells slots : Nat) (ls : Array Slot), fCur D cA s h0 h H locs → lv_has ls 6 [(0, va_rf a0), (1, .long a1), (3, va_rf a3), (4, .int a4)] → W p l e { frames := 34, cells := fCB h0 - fZ h0, slots := fLB h0 - fL h0, locals := 919 } s m args below meth c H locs cells slots (MQ below (fQ D cA h0 r.2 (some (.long r.1))) args s (fCB h0 - fZ h0) (fLB h0 - fL h0) (fA h0)) (F0 m 53 ls [])) (a0 : Option Nat) (a1 : Int64) (a3 : Option Nat) (a4 : Int32) (h : fSt) (hf : f_X8_digest_L300 k53 a0 a1 a3 a4 h = some r) : ∀ (H : Heap) (locs : List Loc) (cells slots : Nat) (ls : Array Slot), fCur D cA s h0 h H locs → lv_has ls 6 [(0, va_rf a0), (1, .long a1), (3, va_rf a3), (4, .int a4)] → W p l e { frames := 34, cells := fCB h0 - fZ h0, slots := fLB h0 - fL h0, locals := 919 } s m args below meth c H locs cells slots (MQ below (fQ D cA h0 r.2 (some (.long r.1))) args s (fCB h0 - fZ h0) (fLB h0 - fL h0) (fA h0)) (F0 m 300 ls []) := by
  obtain ⟨hx, hb, hml, hr, hlocks, hts, hown, K, hR⟩ := id M
  intro H locs cells slots ls hC hl
  refine lv_iinc (v := (a4 + (1 : Int32))) (lv' := [(4, .int (a4 + (1 : Int32))), (0, va_rf a0), (1, .long a1), (3, va_rf a3)]) hx hb dX8_digest_300 hl (k := 3) rfl rfl (by decide) (congrArg (List.cons _) (flk rfl (flk rfl (flk (adj1 _ _) (fld rfl fln))))) (fun ls hl => ?_)
  refine lv_goto (tgt := 53) hx hb dX8_digest_303 (by decide) ?_
  exact hk53 _ _ _ _ _ hf _ _ _ _ _ hC (lv_sub hl [1, 2, 3, 0] rfl)
set_option maxHeartbeats 4000000 in
set_option maxRecDepth 100000 in
theorem w_X8_digest_L256 {p : Program} {l : Launch} {e : Env} {s : State} {m : MethodId} {args : Array Value} {below : List Frame} {meth : Method} {c : Code} {D : va_G} {cA : Nat → ClassId} {h0 : fSt} {r : (Int64 × fSt)} (M : fM p s m args meth c D cA h0 { frames := 34, cells := fCB h0 - fZ h0, slots := fLB h0 - fL h0, locals := 919 } cX8_digest 6 (some (.long)) RX8) (hfl : l.stackTraces = false) {k53 : Option Nat → Int64 → Option Nat → Int32 → fSt → Option (Int64 × fSt)} (hk53 : ∀ (a0 : Option Nat) (a1 : Int64) (a3 : Option Nat) (a4 : Int32) (h : fSt), k53 a0 a1 a3 a4 h = some r → ∀ (H : Heap) (locs : List Loc) (cells slots : Nat) (ls : Array Slot), fCur D cA s h0 h H locs → lv_has ls 6 [(0, va_rf a0), (1, .long a1), (3, va_rf a3), (4, .int a4)] → W p l e { frames := 34, cells := fCB h0 - fZ h0, slots := fLB h0 - fL h0, locals := 919 } s m args below meth c H locs cells slots (MQ below (fQ D cA h0 r.2 (some (.long r.1))) args s (fCB h0 - fZ h0) (fLB h0 - fL h0) (fA h0)) (F0 m 53 ls [])) : ∀ (n : Nat) (a0 : Option Nat) (a1 : Int64) (a3 : Option Nat) (a4 : Int32) (a5 : Int32) (h : fSt), f_X8_digest_L256 k53 n a0 a1 a3 a4 a5 h = some r → ∀ (H : Heap) (locs : List Loc) (cells slots : Nat) (ls : Array Slot), fCur D cA s h0 h H locs → lv_has ls 6 [(0, va_rf a0), (1, .long a1), (3, va_rf a3), (4, .int a4), (5, .int a5)] → W p l e { frames := 34, cells := fCB h0 - fZ h0, slots := fLB h0 - fL h0, locals := 919 } s m args below meth c H locs cells slots (MQ below (fQ D cA h0 r.2 (some (.long r.1))) args s (fCB h0 - fZ h0) (fLB h0 - fL h0) (fA h0)) (F0 m 256 ls []) := by
  obtain ⟨hx, hb, hml, hr, hlocks, hts, hown, K, hR⟩ := id M
  intro n
  induction n with
  | zero =>
    intro a0 a1 a3 a4 a5 h hf
    exact nomatch (show (none : Option (Int64 × fSt)) = some r from hf)
  | succ n hk256 =>
    intro a0 a1 a3 a4 a5 h hf H locs cells slots ls hC hl
    refine lv_iload hx hb dX8_digest_256 (lv_at hl 4 rfl) ?_
    refine lv_iconst (v := (4 : Int32)) hx hb dX8_digest_258 (by decide) ?_
    refine lv_icmp_ge (tgt := 300) hx hb dX8_digest_259 (by decide) (fun c1 => ?_) (fun c1 => ?_)
    · replace hf := opos c1 hf
      exact w_X8_digest_L300 M hfl hk53 _ _ _ _ _ hf _ _ _ _ _ hC (lv_sub hl [0, 1, 2, 3] rfl)
    · replace hf := oneg c1 hf
      refine lv_lload_n hx hb dX8_digest_262 rfl (lv_at hl 1 rfl) ?_
      refine fr_ldc2 (v := (31 : Int64)) hx hb hts hown kw1373 dX8_digest_263 ?_
      refine lv_lmul hx hb dX8_digest_266 ?_
      refine fr_aload_n hx hb dX8_digest_267 rfl (lv_at hl 0 rfl) ?_
      refine lv_iload hx hb dX8_digest_268 (lv_at hl 3 rfl) ?_
      refine lv_iload hx hb dX8_digest_270 (lv_at hl 4 rfl) ?_
      refine lv_iconst (v := (0 : Int32)) hx hb dX8_digest_272 (by decide) ?_
      obtain ⟨b4, q5, hf⟩ := obind hf
      obtain ⟨r2, g3, hf⟩ := obind hf
      refine fr_callV hx hb hml hts hown K hC hR ct_8 (c_X8_boundNow hfl D cA g3) 3 q5 kw1277 kw1274 kw1276 kw44 kw62 (by decide +kernel) ⟨by exact Nat.le_of_ble_eq_true rfl, by exact Nat.le_of_ble_eq_true rfl⟩ rfl hl.1 (cat8 _ (by exact Nat.le_of_ble_eq_true rfl)) dX8_digest_273 rfl (fun H locs _ _ hC => ?_)
      refine lv_i2l (v := (Int32.toInt64 r2.1)) hx hb dX8_digest_276 rfl ?_
      refine lv_ladd hx hb dX8_digest_277 ?_
      refine fr_ldc2 (v := (31 : Int64)) hx hb hts hown kw1373 dX8_digest_278 ?_
      refine lv_lmul hx hb dX8_digest_281 ?_
      refine fr_aload_n hx hb dX8_digest_282 rfl (lv_at hl 0 rfl) ?_
      refine lv_iload hx hb dX8_digest_283 (lv_at hl 3 rfl) ?_
      refine lv_iload hx hb dX8_digest_285 (lv_at hl 4 rfl) ?_
      refine lv_iconst (v := (1 : Int32)) hx hb dX8_digest_287 (by decide) ?_
      obtain ⟨b8, q9, hf⟩ := obind hf
      obtain ⟨r6, g7, hf⟩ := obind hf
      refine fr_callV hx hb hml hts hown K hC hR ct_8 (c_X8_boundNow hfl D cA g7) 3 q9 kw1277 kw1274 kw1276 kw44 kw62 (by decide +kernel) ⟨by exact Nat.le_of_ble_eq_true rfl, by exact Nat.le_of_ble_eq_true rfl⟩ rfl hl.1 (cat8 _ (by exact Nat.le_of_ble_eq_true rfl)) dX8_digest_288 rfl (fun H locs _ _ hC => ?_)
      refine lv_i2l (v := (Int32.toInt64 r6.1)) hx hb dX8_digest_291 rfl ?_
      refine lv_ladd hx hb dX8_digest_292 ?_
      refine lv_lstore_n (lv' := [(1, .long ((((a1 * (31 : Int64)) + (Int32.toInt64 r2.1)) * (31 : Int64)) + (Int32.toInt64 r6.1))), (0, va_rf a0), (3, va_rf a3), (4, .int a4), (5, .int a5)]) hx hb dX8_digest_293 rfl hl (by decide) (congrArg (List.cons _) (flk (adj2 _ _) (fld rfl (flk rfl (flk rfl (flk rfl fln)))))) (fun ls hl => ?_)
      refine lv_iinc (v := (a5 + (1 : Int32))) (lv' := [(5, .int (a5 + (1 : Int32))), (1, .long ((((a1 * (31 : Int64)) + (Int32.toInt64 r2.1)) * (31 : Int64)) + (Int32.toInt64 r6.1))), (0, va_rf a0), (3, va_rf a3), (4, .int a4)]) hx hb dX8_digest_294 hl (k := 4) rfl rfl (by decide) (congrArg (List.cons _) (flk rfl (flk rfl (flk rfl (flk rfl (fld rfl fln)))))) (fun ls hl => ?_)
      refine lv_goto (tgt := 256) hx hb dX8_digest_297 (by decide) ?_
      exact hk256 _ _ _ _ _ _ hf _ _ _ _ _ hC (lv_sub hl [2, 1, 3, 4, 0] rfl)
set_option maxHeartbeats 4000000 in
set_option maxRecDepth 100000 in
theorem w_X8_digest_L223 {p : Program} {l : Launch} {e : Env} {s : State} {m : MethodId} {args : Array Value} {below : List Frame} {meth : Method} {c : Code} {D : va_G} {cA : Nat → ClassId} {h0 : fSt} {r : (Int64 × fSt)} (M : fM p s m args meth c D cA h0 { frames := 34, cells := fCB h0 - fZ h0, slots := fLB h0 - fL h0, locals := 919 } cX8_digest 6 (some (.long)) RX8) (hfl : l.stackTraces = false) {k53 : Option Nat → Int64 → Option Nat → Int32 → fSt → Option (Int64 × fSt)} (hk53 : ∀ (a0 : Option Nat) (a1 : Int64) (a3 : Option Nat) (a4 : Int32) (h : fSt), k53 a0 a1 a3 a4 h = some r → ∀ (H : Heap) (locs : List Loc) (cells slots : Nat) (ls : Array Slot), fCur D cA s h0 h H locs → lv_has ls 6 [(0, va_rf a0), (1, .long a1), (3, va_rf a3), (4, .int a4)] → W p l e { frames := 34, cells := fCB h0 - fZ h0, slots := fLB h0 - fL h0, locals := 919 } s m args below meth c H locs cells slots (MQ below (fQ D cA h0 r.2 (some (.long r.1))) args s (fCB h0 - fZ h0) (fLB h0 - fL h0) (fA h0)) (F0 m 53 ls [])) : ∀ (n : Nat) (a0 : Option Nat) (a1 : Int64) (a3 : Option Nat) (a4 : Int32) (a5 : Int32) (h : fSt), f_X8_digest_L223 k53 n a0 a1 a3 a4 a5 h = some r → ∀ (H : Heap) (locs : List Loc) (cells slots : Nat) (ls : Array Slot), fCur D cA s h0 h H locs → lv_has ls 6 [(0, va_rf a0), (1, .long a1), (3, va_rf a3), (4, .int a4), (5, .int a5)] → W p l e { frames := 34, cells := fCB h0 - fZ h0, slots := fLB h0 - fL h0, locals := 919 } s m args below meth c H locs cells slots (MQ below (fQ D cA h0 r.2 (some (.long r.1))) args s (fCB h0 - fZ h0) (fLB h0 - fL h0) (fA h0)) (F0 m 223 ls []) := by
  obtain ⟨hx, hb, hml, hr, hlocks, hts, hown, K, hR⟩ := id M
  intro n
  induction n with
  | zero =>
    intro a0 a1 a3 a4 a5 h hf
    exact nomatch (show (none : Option (Int64 × fSt)) = some r from hf)
  | succ n hk223 =>
    intro a0 a1 a3 a4 a5 h hf H locs cells slots ls hC hl
    refine lv_iload hx hb dX8_digest_223 (lv_at hl 4 rfl) ?_
    refine lv_iconst (v := (4 : Int32)) hx hb dX8_digest_225 (by decide) ?_
    refine lv_icmp_ge (tgt := 253) hx hb dX8_digest_226 (by decide) (fun c10 => ?_) (fun c10 => ?_)
    · replace hf := opos c10 hf
      refine lv_iconst (v := (0 : Int32)) hx hb dX8_digest_253 (by decide) ?_
      refine lv_istore (lv' := [(5, .int (0 : Int32)), (0, va_rf a0), (1, .long a1), (3, va_rf a3), (4, .int a4)]) hx hb dX8_digest_254 hl (by decide) (congrArg (List.cons _) (flk rfl (flk rfl (flk rfl (flk rfl (fld rfl fln)))))) (fun ls hl => ?_)
      exact w_X8_digest_L256 M hfl hk53 4096 _ _ _ _ _ _ hf _ _ _ _ _ hC (lv_sub hl [1, 2, 3, 4, 0] rfl)
    · replace hf := oneg c10 hf
      refine lv_lload_n hx hb dX8_digest_229 rfl (lv_at hl 1 rfl) ?_
      refine fr_ldc2 (v := (31 : Int64)) hx hb hts hown kw1373 dX8_digest_230 ?_
      refine lv_lmul hx hb dX8_digest_233 ?_
      refine fr_aload_n hx hb dX8_digest_234 rfl (lv_at hl 0 rfl) ?_
      refine lv_iload hx hb dX8_digest_235 (lv_at hl 3 rfl) ?_
      refine lv_iconst (v := (1 : Int32)) hx hb dX8_digest_237 (by decide) ?_
      refine lv_iconst (v := (2 : Int32)) hx hb dX8_digest_238 (by decide) ?_
      refine lv_iload hx hb dX8_digest_239 (lv_at hl 4 rfl) ?_
      obtain ⟨b13, q14, hf⟩ := obind hf
      obtain ⟨r11, g12, hf⟩ := obind hf
      refine fr_callV hx hb hml hts hown K hC hR ct_8 (c_X8_fromWholeNow hfl D cA g12) 4 q14 kw1257 kw1254 kw1256 kw41 kw62 (by decide +kernel) ⟨by exact Nat.le_of_ble_eq_true rfl, by exact Nat.le_of_ble_eq_true rfl⟩ rfl hl.1 (cat8 _ (by exact Nat.le_of_ble_eq_true rfl)) dX8_digest_241 rfl (fun H locs _ _ hC => ?_)
      refine lv_i2l (v := (Int32.toInt64 r11.1)) hx hb dX8_digest_244 rfl ?_
      refine lv_ladd hx hb dX8_digest_245 ?_
      refine lv_lstore_n (lv' := [(1, .long ((a1 * (31 : Int64)) + (Int32.toInt64 r11.1))), (0, va_rf a0), (3, va_rf a3), (4, .int a4), (5, .int a5)]) hx hb dX8_digest_246 rfl hl (by decide) (congrArg (List.cons _) (flk (adj2 _ _) (fld rfl (flk rfl (flk rfl (flk rfl fln)))))) (fun ls hl => ?_)
      refine lv_iinc (v := (a5 + (1 : Int32))) (lv' := [(5, .int (a5 + (1 : Int32))), (1, .long ((a1 * (31 : Int64)) + (Int32.toInt64 r11.1))), (0, va_rf a0), (3, va_rf a3), (4, .int a4)]) hx hb dX8_digest_247 hl (k := 4) rfl rfl (by decide) (congrArg (List.cons _) (flk rfl (flk rfl (flk rfl (flk rfl (fld rfl fln)))))) (fun ls hl => ?_)
      refine lv_goto (tgt := 223) hx hb dX8_digest_250 (by decide) ?_
      exact hk223 _ _ _ _ _ _ hf _ _ _ _ _ hC (lv_sub hl [2, 1, 3, 4, 0] rfl)
set_option maxHeartbeats 4000000 in
set_option maxRecDepth 100000 in
theorem w_X8_digest_L190 {p : Program} {l : Launch} {e : Env} {s : State} {m : MethodId} {args : Array Value} {below : List Frame} {meth : Method} {c : Code} {D : va_G} {cA : Nat → ClassId} {h0 : fSt} {r : (Int64 × fSt)} (M : fM p s m args meth c D cA h0 { frames := 34, cells := fCB h0 - fZ h0, slots := fLB h0 - fL h0, locals := 919 } cX8_digest 6 (some (.long)) RX8) (hfl : l.stackTraces = false) {k53 : Option Nat → Int64 → Option Nat → Int32 → fSt → Option (Int64 × fSt)} (hk53 : ∀ (a0 : Option Nat) (a1 : Int64) (a3 : Option Nat) (a4 : Int32) (h : fSt), k53 a0 a1 a3 a4 h = some r → ∀ (H : Heap) (locs : List Loc) (cells slots : Nat) (ls : Array Slot), fCur D cA s h0 h H locs → lv_has ls 6 [(0, va_rf a0), (1, .long a1), (3, va_rf a3), (4, .int a4)] → W p l e { frames := 34, cells := fCB h0 - fZ h0, slots := fLB h0 - fL h0, locals := 919 } s m args below meth c H locs cells slots (MQ below (fQ D cA h0 r.2 (some (.long r.1))) args s (fCB h0 - fZ h0) (fLB h0 - fL h0) (fA h0)) (F0 m 53 ls [])) : ∀ (n : Nat) (a0 : Option Nat) (a1 : Int64) (a3 : Option Nat) (a4 : Int32) (a5 : Int32) (h : fSt), f_X8_digest_L190 k53 n a0 a1 a3 a4 a5 h = some r → ∀ (H : Heap) (locs : List Loc) (cells slots : Nat) (ls : Array Slot), fCur D cA s h0 h H locs → lv_has ls 6 [(0, va_rf a0), (1, .long a1), (3, va_rf a3), (4, .int a4), (5, .int a5)] → W p l e { frames := 34, cells := fCB h0 - fZ h0, slots := fLB h0 - fL h0, locals := 919 } s m args below meth c H locs cells slots (MQ below (fQ D cA h0 r.2 (some (.long r.1))) args s (fCB h0 - fZ h0) (fLB h0 - fL h0) (fA h0)) (F0 m 190 ls []) := by
  obtain ⟨hx, hb, hml, hr, hlocks, hts, hown, K, hR⟩ := id M
  intro n
  induction n with
  | zero =>
    intro a0 a1 a3 a4 a5 h hf
    exact nomatch (show (none : Option (Int64 × fSt)) = some r from hf)
  | succ n hk190 =>
    intro a0 a1 a3 a4 a5 h hf H locs cells slots ls hC hl
    refine lv_iload hx hb dX8_digest_190 (lv_at hl 4 rfl) ?_
    refine lv_iconst (v := (4 : Int32)) hx hb dX8_digest_192 (by decide) ?_
    refine lv_icmp_ge (tgt := 220) hx hb dX8_digest_193 (by decide) (fun c15 => ?_) (fun c15 => ?_)
    · replace hf := opos c15 hf
      refine lv_iconst (v := (0 : Int32)) hx hb dX8_digest_220 (by decide) ?_
      refine lv_istore (lv' := [(5, .int (0 : Int32)), (0, va_rf a0), (1, .long a1), (3, va_rf a3), (4, .int a4)]) hx hb dX8_digest_221 hl (by decide) (congrArg (List.cons _) (flk rfl (flk rfl (flk rfl (flk rfl (fld rfl fln)))))) (fun ls hl => ?_)
      exact w_X8_digest_L223 M hfl hk53 4096 _ _ _ _ _ _ hf _ _ _ _ _ hC (lv_sub hl [1, 2, 3, 4, 0] rfl)
    · replace hf := oneg c15 hf
      refine lv_lload_n hx hb dX8_digest_196 rfl (lv_at hl 1 rfl) ?_
      refine fr_ldc2 (v := (31 : Int64)) hx hb hts hown kw1373 dX8_digest_197 ?_
      refine lv_lmul hx hb dX8_digest_200 ?_
      refine fr_aload_n hx hb dX8_digest_201 rfl (lv_at hl 0 rfl) ?_
      refine lv_iload hx hb dX8_digest_202 (lv_at hl 3 rfl) ?_
      refine lv_iconst (v := (1 : Int32)) hx hb dX8_digest_204 (by decide) ?_
      refine lv_iconst (v := (2 : Int32)) hx hb dX8_digest_205 (by decide) ?_
      refine lv_iload hx hb dX8_digest_206 (lv_at hl 4 rfl) ?_
      obtain ⟨b18, q19, hf⟩ := obind hf
      obtain ⟨r16, g17, hf⟩ := obind hf
      refine fr_callV hx hb hml hts hown K hC hR ct_8 (c_X8_toWholeNow hfl D cA g17) 4 q19 kw1231 kw1228 kw1230 kw38 kw62 (by decide +kernel) ⟨by exact Nat.le_of_ble_eq_true rfl, by exact Nat.le_of_ble_eq_true rfl⟩ rfl hl.1 (cat8 _ (by exact Nat.le_of_ble_eq_true rfl)) dX8_digest_208 rfl (fun H locs _ _ hC => ?_)
      refine lv_i2l (v := (Int32.toInt64 r16.1)) hx hb dX8_digest_211 rfl ?_
      refine lv_ladd hx hb dX8_digest_212 ?_
      refine lv_lstore_n (lv' := [(1, .long ((a1 * (31 : Int64)) + (Int32.toInt64 r16.1))), (0, va_rf a0), (3, va_rf a3), (4, .int a4), (5, .int a5)]) hx hb dX8_digest_213 rfl hl (by decide) (congrArg (List.cons _) (flk (adj2 _ _) (fld rfl (flk rfl (flk rfl (flk rfl fln)))))) (fun ls hl => ?_)
      refine lv_iinc (v := (a5 + (1 : Int32))) (lv' := [(5, .int (a5 + (1 : Int32))), (1, .long ((a1 * (31 : Int64)) + (Int32.toInt64 r16.1))), (0, va_rf a0), (3, va_rf a3), (4, .int a4)]) hx hb dX8_digest_214 hl (k := 4) rfl rfl (by decide) (congrArg (List.cons _) (flk rfl (flk rfl (flk rfl (flk rfl (fld rfl fln)))))) (fun ls hl => ?_)
      refine lv_goto (tgt := 190) hx hb dX8_digest_217 (by decide) ?_
      exact hk190 _ _ _ _ _ _ hf _ _ _ _ _ hC (lv_sub hl [2, 1, 3, 4, 0] rfl)
set_option maxHeartbeats 4000000 in
set_option maxRecDepth 100000 in
theorem w_X8_digest_L160 {p : Program} {l : Launch} {e : Env} {s : State} {m : MethodId} {args : Array Value} {below : List Frame} {meth : Method} {c : Code} {D : va_G} {cA : Nat → ClassId} {h0 : fSt} {r : (Int64 × fSt)} (M : fM p s m args meth c D cA h0 { frames := 34, cells := fCB h0 - fZ h0, slots := fLB h0 - fL h0, locals := 919 } cX8_digest 6 (some (.long)) RX8) (hfl : l.stackTraces = false) {k53 : Option Nat → Int64 → Option Nat → Int32 → fSt → Option (Int64 × fSt)} (hk53 : ∀ (a0 : Option Nat) (a1 : Int64) (a3 : Option Nat) (a4 : Int32) (h : fSt), k53 a0 a1 a3 a4 h = some r → ∀ (H : Heap) (locs : List Loc) (cells slots : Nat) (ls : Array Slot), fCur D cA s h0 h H locs → lv_has ls 6 [(0, va_rf a0), (1, .long a1), (3, va_rf a3), (4, .int a4)] → W p l e { frames := 34, cells := fCB h0 - fZ h0, slots := fLB h0 - fL h0, locals := 919 } s m args below meth c H locs cells slots (MQ below (fQ D cA h0 r.2 (some (.long r.1))) args s (fCB h0 - fZ h0) (fLB h0 - fL h0) (fA h0)) (F0 m 53 ls [])) (a0 : Option Nat) (a3 : Option Nat) (a4 : Int32) (s1 : Int32) (s0 : Int64) (h : fSt) (hf : f_X8_digest_L160 k53 a0 a3 a4 s1 s0 h = some r) : ∀ (H : Heap) (locs : List Loc) (cells slots : Nat) (ls : Array Slot), fCur D cA s h0 h H locs → lv_has ls 6 [(0, va_rf a0), (3, va_rf a3), (4, .int a4)] → W p l e { frames := 34, cells := fCB h0 - fZ h0, slots := fLB h0 - fL h0, locals := 919 } s m args below meth c H locs cells slots (MQ below (fQ D cA h0 r.2 (some (.long r.1))) args s (fCB h0 - fZ h0) (fLB h0 - fL h0) (fA h0)) (F0 m 160 ls [.int s1, .long s0]) := by
  obtain ⟨hx, hb, hml, hr, hlocks, hts, hown, K, hR⟩ := id M
  intro H locs cells slots ls hC hl
  refine lv_i2l (v := (Int32.toInt64 s1)) hx hb dX8_digest_160 rfl ?_
  refine lv_ladd hx hb dX8_digest_161 ?_
  refine fr_ldc2 (v := (31 : Int64)) hx hb hts hown kw1373 dX8_digest_162 ?_
  refine lv_lmul hx hb dX8_digest_165 ?_
  refine fr_aload_n hx hb dX8_digest_166 rfl (lv_at hl 0 rfl) ?_
  refine lv_iload hx hb dX8_digest_167 (lv_at hl 2 rfl) ?_
  obtain ⟨b22, q23, hf⟩ := obind hf
  obtain ⟨r20, g21, hf⟩ := obind hf
  refine fr_callV hx hb hml hts hown K hC hR ct_8 (c_X8_strengthNow hfl D cA 8 g21) 1 q23 kw1293 kw1290 kw1292 kw46 kw62 (by decide +kernel) ⟨by exact Nat.le_of_ble_eq_true rfl, by exact Nat.le_of_ble_eq_true rfl⟩ rfl hl.1 (cat8 _ (by exact Nat.le_of_ble_eq_true rfl)) dX8_digest_169 rfl (fun H locs _ _ hC => ?_)
  refine lv_i2l (v := (Int32.toInt64 r20.1)) hx hb dX8_digest_172 rfl ?_
  refine lv_ladd hx hb dX8_digest_173 ?_
  refine fr_ldc2 (v := (31 : Int64)) hx hb hts hown kw1373 dX8_digest_174 ?_
  refine lv_lmul hx hb dX8_digest_177 ?_
  refine fr_aload_n hx hb dX8_digest_178 rfl (lv_at hl 1 rfl) ?_
  refine lv_iload hx hb dX8_digest_179 (lv_at hl 2 rfl) ?_
  obtain ⟨r24, g25, hf⟩ := obind hf
  refine fr_callS hx hb hml hts hown K hC hR (c_X8_placeIn hfl D cA g25) 2 kw1316 kw1314 kw1315 kw62 (by decide +kernel) ⟨by exact Nat.le_of_ble_eq_true rfl, by exact Nat.le_of_ble_eq_true rfl⟩ rfl hl.1 (cat8 _ (by exact Nat.le_of_ble_eq_true rfl)) dX8_digest_181 rfl (fun H locs _ _ hC => ?_)
  refine lv_i2l (v := (Int32.toInt64 r24.1)) hx hb dX8_digest_184 rfl ?_
  refine lv_ladd hx hb dX8_digest_185 ?_
  refine lv_lstore_n (lv' := [(1, .long (((((s0 + (Int32.toInt64 s1)) * (31 : Int64)) + (Int32.toInt64 r20.1)) * (31 : Int64)) + (Int32.toInt64 r24.1))), (0, va_rf a0), (3, va_rf a3), (4, .int a4)]) hx hb dX8_digest_186 rfl hl (by decide) (congrArg (List.cons _) (flk (adj2 _ _) (flk rfl (flk rfl fln)))) (fun ls hl => ?_)
  refine lv_iconst (v := (0 : Int32)) hx hb dX8_digest_187 (by decide) ?_
  refine lv_istore (lv' := [(5, .int (0 : Int32)), (1, .long (((((s0 + (Int32.toInt64 s1)) * (31 : Int64)) + (Int32.toInt64 r20.1)) * (31 : Int64)) + (Int32.toInt64 r24.1))), (0, va_rf a0), (3, va_rf a3), (4, .int a4)]) hx hb dX8_digest_188 hl (by decide) (congrArg (List.cons _) (flk rfl (flk rfl (flk rfl (flk rfl fln))))) (fun ls hl => ?_)
  exact w_X8_digest_L190 M hfl hk53 4096 _ _ _ _ _ _ hf _ _ _ _ _ hC (lv_sub hl [2, 1, 3, 4, 0] rfl)
set_option maxHeartbeats 4000000 in
set_option maxRecDepth 100000 in
theorem w_X8_digest_L113 {p : Program} {l : Launch} {e : Env} {s : State} {m : MethodId} {args : Array Value} {below : List Frame} {meth : Method} {c : Code} {D : va_G} {cA : Nat → ClassId} {h0 : fSt} {r : (Int64 × fSt)} (M : fM p s m args meth c D cA h0 { frames := 34, cells := fCB h0 - fZ h0, slots := fLB h0 - fL h0, locals := 919 } cX8_digest 6 (some (.long)) RX8) (hfl : l.stackTraces = false) {k53 : Option Nat → Int64 → Option Nat → Int32 → fSt → Option (Int64 × fSt)} (hk53 : ∀ (a0 : Option Nat) (a1 : Int64) (a3 : Option Nat) (a4 : Int32) (h : fSt), k53 a0 a1 a3 a4 h = some r → ∀ (H : Heap) (locs : List Loc) (cells slots : Nat) (ls : Array Slot), fCur D cA s h0 h H locs → lv_has ls 6 [(0, va_rf a0), (1, .long a1), (3, va_rf a3), (4, .int a4)] → W p l e { frames := 34, cells := fCB h0 - fZ h0, slots := fLB h0 - fL h0, locals := 919 } s m args below meth c H locs cells slots (MQ below (fQ D cA h0 r.2 (some (.long r.1))) args s (fCB h0 - fZ h0) (fLB h0 - fL h0) (fA h0)) (F0 m 53 ls [])) : ∀ (n : Nat) (a0 : Option Nat) (a1 : Int64) (a3 : Option Nat) (a4 : Int32) (a5 : Int32) (h : fSt), f_X8_digest_L113 k53 n a0 a1 a3 a4 a5 h = some r → ∀ (H : Heap) (locs : List Loc) (cells slots : Nat) (ls : Array Slot), fCur D cA s h0 h H locs → lv_has ls 6 [(0, va_rf a0), (1, .long a1), (3, va_rf a3), (4, .int a4), (5, .int a5)] → W p l e { frames := 34, cells := fCB h0 - fZ h0, slots := fLB h0 - fL h0, locals := 919 } s m args below meth c H locs cells slots (MQ below (fQ D cA h0 r.2 (some (.long r.1))) args s (fCB h0 - fZ h0) (fLB h0 - fL h0) (fA h0)) (F0 m 113 ls []) := by
  obtain ⟨hx, hb, hml, hr, hlocks, hts, hown, K, hR⟩ := id M
  intro n
  induction n with
  | zero =>
    intro a0 a1 a3 a4 a5 h hf
    exact nomatch (show (none : Option (Int64 × fSt)) = some r from hf)
  | succ n hk113 =>
    intro a0 a1 a3 a4 a5 h hf H locs cells slots ls hC hl
    refine lv_iload hx hb dX8_digest_113 (lv_at hl 4 rfl) ?_
    refine lv_iconst (v := (4 : Int32)) hx hb dX8_digest_115 (by decide) ?_
    refine lv_icmp_ge (tgt := 141) hx hb dX8_digest_116 (by decide) (fun c26 => ?_) (fun c26 => ?_)
    · replace hf := opos c26 hf
      refine lv_lload_n hx hb dX8_digest_141 rfl (lv_at hl 1 rfl) ?_
      refine fr_ldc2 (v := (31 : Int64)) hx hb hts hown kw1373 dX8_digest_142 ?_
      refine lv_lmul hx hb dX8_digest_145 ?_
      refine fr_aload_n hx hb dX8_digest_146 rfl (lv_at hl 0 rfl) ?_
      refine lv_iload hx hb dX8_digest_147 (lv_at hl 3 rfl) ?_
      obtain ⟨b29, q30, hf⟩ := obind hf
      obtain ⟨r27, g28, hf⟩ := obind hf
      refine fr_callV hx hb hml hts hown K hC hR ct_8 (c_X8_isShownNow hfl D cA g28) 1 q30 kw1281 kw1278 kw1280 kw45 kw62 (by decide +kernel) ⟨by exact Nat.le_of_ble_eq_true rfl, by exact Nat.le_of_ble_eq_true rfl⟩ rfl hl.1 (cat8 _ (by exact Nat.le_of_ble_eq_true rfl)) dX8_digest_149 rfl (fun H locs _ _ hC => ?_)
      refine lv_if_eq (tgt := 159) hx hb dX8_digest_152 (by decide) (fun c31 => ?_) (fun c31 => ?_)
      · replace hf := opos c31 hf
        refine lv_iconst (v := (0 : Int32)) hx hb dX8_digest_159 (by decide) ?_
        exact w_X8_digest_L160 M hfl hk53 _ _ _ _ _ _ hf _ _ _ _ _ hC (lv_sub hl [0, 2, 3] rfl)
      · replace hf := oneg c31 hf
        refine lv_iconst (v := (1 : Int32)) hx hb dX8_digest_155 (by decide) ?_
        refine lv_goto (tgt := 160) hx hb dX8_digest_156 (by decide) ?_
        exact w_X8_digest_L160 M hfl hk53 _ _ _ _ _ _ hf _ _ _ _ _ hC (lv_sub hl [0, 2, 3] rfl)
    · replace hf := oneg c26 hf
      refine lv_lload_n hx hb dX8_digest_119 rfl (lv_at hl 1 rfl) ?_
      refine fr_ldc2 (v := (31 : Int64)) hx hb hts hown kw1373 dX8_digest_120 ?_
      refine lv_lmul hx hb dX8_digest_123 ?_
      refine fr_aload_n hx hb dX8_digest_124 rfl (lv_at hl 0 rfl) ?_
      refine lv_iload hx hb dX8_digest_125 (lv_at hl 3 rfl) ?_
      refine lv_iload hx hb dX8_digest_127 (lv_at hl 4 rfl) ?_
      obtain ⟨b34, q35, hf⟩ := obind hf
      obtain ⟨r32, g33, hf⟩ := obind hf
      refine fr_callV hx hb hml hts hown K hC hR ct_8 (c_X8_has hfl D cA g33) 2 q35 kw1201 kw1198 kw1200 kw33 kw62 (by decide +kernel) ⟨by exact Nat.le_of_ble_eq_true rfl, by exact Nat.le_of_ble_eq_true rfl⟩ rfl hl.1 (cat8 _ (by exact Nat.le_of_ble_eq_true rfl)) dX8_digest_129 rfl (fun H locs _ _ hC => ?_)
      refine lv_i2l (v := (Int32.toInt64 r32.1)) hx hb dX8_digest_132 rfl ?_
      refine lv_ladd hx hb dX8_digest_133 ?_
      refine lv_lstore_n (lv' := [(1, .long ((a1 * (31 : Int64)) + (Int32.toInt64 r32.1))), (0, va_rf a0), (3, va_rf a3), (4, .int a4), (5, .int a5)]) hx hb dX8_digest_134 rfl hl (by decide) (congrArg (List.cons _) (flk (adj2 _ _) (fld rfl (flk rfl (flk rfl (flk rfl fln)))))) (fun ls hl => ?_)
      refine lv_iinc (v := (a5 + (1 : Int32))) (lv' := [(5, .int (a5 + (1 : Int32))), (1, .long ((a1 * (31 : Int64)) + (Int32.toInt64 r32.1))), (0, va_rf a0), (3, va_rf a3), (4, .int a4)]) hx hb dX8_digest_135 hl (k := 4) rfl rfl (by decide) (congrArg (List.cons _) (flk rfl (flk rfl (flk rfl (flk rfl (fld rfl fln)))))) (fun ls hl => ?_)
      refine lv_goto (tgt := 113) hx hb dX8_digest_138 (by decide) ?_
      exact hk113 _ _ _ _ _ _ hf _ _ _ _ _ hC (lv_sub hl [2, 1, 3, 4, 0] rfl)
set_option maxHeartbeats 4000000 in
set_option maxRecDepth 100000 in
theorem w_X8_digest_L309 {p : Program} {l : Launch} {e : Env} {s : State} {m : MethodId} {args : Array Value} {below : List Frame} {meth : Method} {c : Code} {D : va_G} {cA : Nat → ClassId} {h0 : fSt} {r : (Int64 × fSt)} (M : fM p s m args meth c D cA h0 { frames := 34, cells := fCB h0 - fZ h0, slots := fLB h0 - fL h0, locals := 919 } cX8_digest 6 (some (.long)) RX8) (hfl : l.stackTraces = false) : ∀ (n : Nat) (a0 : Option Nat) (a1 : Int64) (a4 : Int32) (h : fSt), f_X8_digest_L309 n a0 a1 a4 h = some r → ∀ (H : Heap) (locs : List Loc) (cells slots : Nat) (ls : Array Slot), fCur D cA s h0 h H locs → lv_has ls 6 [(0, va_rf a0), (1, .long a1), (4, .int a4)] → W p l e { frames := 34, cells := fCB h0 - fZ h0, slots := fLB h0 - fL h0, locals := 919 } s m args below meth c H locs cells slots (MQ below (fQ D cA h0 r.2 (some (.long r.1))) args s (fCB h0 - fZ h0) (fLB h0 - fL h0) (fA h0)) (F0 m 309 ls []) := by
  obtain ⟨hx, hb, hml, hr, hlocks, hts, hown, K, hR⟩ := id M
  intro n
  induction n with
  | zero =>
    intro a0 a1 a4 h hf
    exact nomatch (show (none : Option (Int64 × fSt)) = some r from hf)
  | succ n hk309 =>
    intro a0 a1 a4 h hf H locs cells slots ls hC hl
    refine lv_iload hx hb dX8_digest_309 (lv_at hl 2 rfl) ?_
    refine lv_bipush (v := (100 : Int32)) hx hb dX8_digest_311 (by decide) ?_
    refine lv_icmp_ge (tgt := 339) hx hb dX8_digest_313 (by decide) (fun c36 => ?_) (fun c36 => ?_)
    · replace hf := opos c36 hf
      refine lv_lload_n hx hb dX8_digest_339 rfl (lv_at hl 1 rfl) ?_
      refine fr_ldc2 (v := (31 : Int64)) hx hb hts hown kw1373 dX8_digest_340 ?_
      refine lv_lmul hx hb dX8_digest_343 ?_
      refine fr_aload_n hx hb dX8_digest_344 rfl (lv_at hl 0 rfl) ?_
      refine lv_iconst (v := (0 : Int32)) hx hb dX8_digest_345 (by decide) ?_
      refine lv_bipush (v := (7 : Int32)) hx hb dX8_digest_346 (by decide) ?_
      obtain ⟨b39, q40, hf⟩ := obind hf
      obtain ⟨r37, g38, hf⟩ := obind hf
      refine fr_callV hx hb hml hts hown K hC hR ct_8 (c_X8_changesNow hfl D cA g38) 2 q40 kw1351 kw1348 kw1350 kw52 kw62 (by decide +kernel) ⟨by exact Nat.le_of_ble_eq_true rfl, by exact Nat.le_of_ble_eq_true rfl⟩ rfl hl.1 (cat8 _ (by exact Nat.le_of_ble_eq_true rfl)) dX8_digest_348 rfl (fun H locs _ _ hC => ?_)
      refine lv_i2l (v := (Int32.toInt64 r37.1)) hx hb dX8_digest_351 rfl ?_
      refine lv_ladd hx hb dX8_digest_352 ?_
      obtain rfl := Option.some.inj hf
      exact fr_lret hx hb hr hlocks hC dX8_digest_353
    · replace hf := oneg c36 hf
      refine lv_lload_n hx hb dX8_digest_316 rfl (lv_at hl 1 rfl) ?_
      refine fr_ldc2 (v := (31 : Int64)) hx hb hts hown kw1373 dX8_digest_317 ?_
      refine lv_lmul hx hb dX8_digest_320 ?_
      refine fr_aload_n hx hb dX8_digest_321 rfl (lv_at hl 0 rfl) ?_
      refine lv_iload hx hb dX8_digest_322 (lv_at hl 2 rfl) ?_
      refine lv_iload hx hb dX8_digest_324 (lv_at hl 2 rfl) ?_
      refine lv_iconst (v := (1 : Int32)) hx hb dX8_digest_326 (by decide) ?_
      obtain ⟨b43, q44, hf⟩ := obind hf
      obtain ⟨r41, g42, hf⟩ := obind hf
      refine fr_callV hx hb hml hts hown K hC hR ct_8 (c_X8_pickNow hfl D cA g42) 3 q44 kw1335 kw1332 kw1334 kw51 kw62 (by decide +kernel) ⟨by exact Nat.le_of_ble_eq_true rfl, by exact Nat.le_of_ble_eq_true rfl⟩ rfl hl.1 (cat8 _ (by exact Nat.le_of_ble_eq_true rfl)) dX8_digest_327 rfl (fun H locs _ _ hC => ?_)
      refine lv_i2l (v := (Int32.toInt64 r41.1)) hx hb dX8_digest_330 rfl ?_
      refine lv_ladd hx hb dX8_digest_331 ?_
      refine lv_lstore_n (lv' := [(1, .long ((a1 * (31 : Int64)) + (Int32.toInt64 r41.1))), (0, va_rf a0), (4, .int a4)]) hx hb dX8_digest_332 rfl hl (by decide) (congrArg (List.cons _) (flk (adj2 _ _) (fld rfl (flk rfl fln)))) (fun ls hl => ?_)
      refine lv_iinc (v := (a4 + (10 : Int32))) (lv' := [(4, .int (a4 + (10 : Int32))), (1, .long ((a1 * (31 : Int64)) + (Int32.toInt64 r41.1))), (0, va_rf a0)]) hx hb dX8_digest_333 hl (k := 2) rfl rfl (by decide) (congrArg (List.cons _) (flk rfl (flk rfl (fld rfl fln)))) (fun ls hl => ?_)
      refine lv_goto (tgt := 309) hx hb dX8_digest_336 (by decide) ?_
      exact hk309 _ _ _ _ hf _ _ _ _ _ hC (lv_sub hl [2, 1, 0] rfl)
set_option maxHeartbeats 4000000 in
set_option maxRecDepth 100000 in
theorem w_X8_digest_L53 {p : Program} {l : Launch} {e : Env} {s : State} {m : MethodId} {args : Array Value} {below : List Frame} {meth : Method} {c : Code} {D : va_G} {cA : Nat → ClassId} {h0 : fSt} {r : (Int64 × fSt)} (M : fM p s m args meth c D cA h0 { frames := 34, cells := fCB h0 - fZ h0, slots := fLB h0 - fL h0, locals := 919 } cX8_digest 6 (some (.long)) RX8) (hfl : l.stackTraces = false) : ∀ (n : Nat) (a0 : Option Nat) (a1 : Int64) (a3 : Option Nat) (a4 : Int32) (h : fSt), f_X8_digest_L53 n a0 a1 a3 a4 h = some r → ∀ (H : Heap) (locs : List Loc) (cells slots : Nat) (ls : Array Slot), fCur D cA s h0 h H locs → lv_has ls 6 [(0, va_rf a0), (1, .long a1), (3, va_rf a3), (4, .int a4)] → W p l e { frames := 34, cells := fCB h0 - fZ h0, slots := fLB h0 - fL h0, locals := 919 } s m args below meth c H locs cells slots (MQ below (fQ D cA h0 r.2 (some (.long r.1))) args s (fCB h0 - fZ h0) (fLB h0 - fL h0) (fA h0)) (F0 m 53 ls []) := by
  obtain ⟨hx, hb, hml, hr, hlocks, hts, hown, K, hR⟩ := id M
  intro n
  induction n with
  | zero =>
    intro a0 a1 a3 a4 h hf
    exact nomatch (show (none : Option (Int64 × fSt)) = some r from hf)
  | succ n hk53 =>
    intro a0 a1 a3 a4 h hf H locs cells slots ls hC hl
    refine lv_iload hx hb dX8_digest_53 (lv_at hl 3 rfl) ?_
    refine fr_aload_n hx hb dX8_digest_55 rfl (lv_at hl 0 rfl) ?_
    obtain ⟨x45, g46, hf⟩ := obind hf
    refine fr_get hx hb hts hown K hC ct_8 (fgI_get g46) (by decide) kw972 rfl dX8_digest_56 ?_
    refine lv_icmp_ge (tgt := 306) hx hb dX8_digest_59 (by decide) (fun c47 => ?_) (fun c47 => ?_)
    · replace hf := opos c47 hf
      refine lv_iconst (v := (0 : Int32)) hx hb dX8_digest_306 (by decide) ?_
      refine lv_istore (lv' := [(4, .int (0 : Int32)), (0, va_rf a0), (1, .long a1), (3, va_rf a3)]) hx hb dX8_digest_307 hl (by decide) (congrArg (List.cons _) (flk rfl (flk rfl (flk (adj1 _ _) (fld rfl fln))))) (fun ls hl => ?_)
      exact w_X8_digest_L309 M hfl 4096 _ _ _ _ hf _ _ _ _ _ hC (lv_sub hl [1, 2, 0] rfl)
    · replace hf := oneg c47 hf
      refine fr_aload_n hx hb dX8_digest_62 rfl (lv_at hl 0 rfl) ?_
      obtain ⟨x48, g49, hf⟩ := obind hf
      refine fr_get hx hb hts hown K hC ct_8 (fgR_get g49) (by decide) kw973 rfl dX8_digest_63 ?_
      refine lv_iload hx hb dX8_digest_66 (lv_at hl 3 rfl) ?_
      obtain ⟨x50, g51, hf⟩ := obind hf
      refine fr_zald hx hb K hC (t := 2) rfl g51 dX8_digest_68 ?_
      refine lv_if_eq (tgt := 75) hx hb dX8_digest_69 (by decide) (fun c52 => ?_) (fun c52 => ?_)
      · replace hf := opos c52 hf
        refine lv_lload_n hx hb dX8_digest_75 rfl (lv_at hl 1 rfl) ?_
        refine fr_ldc2 (v := (31 : Int64)) hx hb hts hown kw1373 dX8_digest_76 ?_
        refine lv_lmul hx hb dX8_digest_79 ?_
        refine lv_iload hx hb dX8_digest_80 (lv_at hl 3 rfl) ?_
        refine lv_i2l (v := (Int32.toInt64 a4)) hx hb dX8_digest_82 rfl ?_
        refine lv_ladd hx hb dX8_digest_83 ?_
        refine fr_ldc2 (v := (31 : Int64)) hx hb hts hown kw1373 dX8_digest_84 ?_
        refine lv_lmul hx hb dX8_digest_87 ?_
        refine fr_aload_n hx hb dX8_digest_88 rfl (lv_at hl 0 rfl) ?_
        obtain ⟨x53, g54, hf⟩ := obind hf
        refine fr_get hx hb hts hown K hC ct_8 (fgR_get g54) (by decide) kw977 rfl dX8_digest_89 ?_
        refine lv_iload hx hb dX8_digest_92 (lv_at hl 3 rfl) ?_
        obtain ⟨x55, g56, hf⟩ := obind hf
        refine fr_iald hx hb K hC (t := 0) rfl g56 dX8_digest_94 ?_
        refine lv_i2l (v := (Int32.toInt64 x55)) hx hb dX8_digest_95 rfl ?_
        refine lv_ladd hx hb dX8_digest_96 ?_
        refine fr_ldc2 (v := (31 : Int64)) hx hb hts hown kw1373 dX8_digest_97 ?_
        refine lv_lmul hx hb dX8_digest_100 ?_
        refine fr_aload_n hx hb dX8_digest_101 rfl (lv_at hl 0 rfl) ?_
        refine lv_iload hx hb dX8_digest_102 (lv_at hl 3 rfl) ?_
        obtain ⟨b59, q60, hf⟩ := obind hf
        obtain ⟨r57, g58, hf⟩ := obind hf
        refine fr_callV hx hb hml hts hown K hC hR ct_8 (c_X8_levelNow hfl D cA g58) 1 q60 kw1074 kw1071 kw1073 kw22 kw62 (by decide +kernel) ⟨by exact Nat.le_of_ble_eq_true rfl, by exact Nat.le_of_ble_eq_true rfl⟩ rfl hl.1 (cat8 _ (by exact Nat.le_of_ble_eq_true rfl)) dX8_digest_104 rfl (fun H locs _ _ hC => ?_)
        refine lv_i2l (v := (Int32.toInt64 r57.1)) hx hb dX8_digest_107 rfl ?_
        refine lv_ladd hx hb dX8_digest_108 ?_
        refine lv_lstore_n (lv' := [(1, .long ((((((a1 * (31 : Int64)) + (Int32.toInt64 a4)) * (31 : Int64)) + (Int32.toInt64 x55)) * (31 : Int64)) + (Int32.toInt64 r57.1))), (0, va_rf a0), (3, va_rf a3), (4, .int a4)]) hx hb dX8_digest_109 rfl hl (by decide) (congrArg (List.cons _) (flk (adj2 _ _) (fld rfl (flk rfl (flk rfl fln))))) (fun ls hl => ?_)
        refine lv_iconst (v := (0 : Int32)) hx hb dX8_digest_110 (by decide) ?_
        refine lv_istore (lv' := [(5, .int (0 : Int32)), (1, .long ((((((a1 * (31 : Int64)) + (Int32.toInt64 a4)) * (31 : Int64)) + (Int32.toInt64 x55)) * (31 : Int64)) + (Int32.toInt64 r57.1))), (0, va_rf a0), (3, va_rf a3), (4, .int a4)]) hx hb dX8_digest_111 hl (by decide) (congrArg (List.cons _) (flk rfl (flk rfl (flk rfl (flk rfl fln))))) (fun ls hl => ?_)
        exact w_X8_digest_L113 M hfl hk53 4096 _ _ _ _ _ _ hf _ _ _ _ _ hC (lv_sub hl [2, 1, 3, 4, 0] rfl)
      · replace hf := oneg c52 hf
        refine lv_goto (tgt := 300) hx hb dX8_digest_72 (by decide) ?_
        exact w_X8_digest_L300 M hfl hk53 _ _ _ _ _ hf _ _ _ _ _ hC (lv_sub hl [0, 1, 2, 3] rfl)
set_option maxHeartbeats 4000000 in
set_option maxRecDepth 100000 in
theorem w_X8_digest_L0 {p : Program} {l : Launch} {e : Env} {s : State} {m : MethodId} {args : Array Value} {below : List Frame} {meth : Method} {c : Code} {D : va_G} {cA : Nat → ClassId} {h0 : fSt} {r : (Int64 × fSt)} (M : fM p s m args meth c D cA h0 { frames := 34, cells := fCB h0 - fZ h0, slots := fLB h0 - fL h0, locals := 919 } cX8_digest 6 (some (.long)) RX8) (hfl : l.stackTraces = false) (a0 : Option Nat) (h : fSt) (hf : f_X8_digest_L0 a0 h = some r) : ∀ (H : Heap) (locs : List Loc) (cells slots : Nat) (ls : Array Slot), fCur D cA s h0 h H locs → lv_has ls 6 [(0, va_rf a0)] → W p l e { frames := 34, cells := fCB h0 - fZ h0, slots := fLB h0 - fL h0, locals := 919 } s m args below meth c H locs cells slots (MQ below (fQ D cA h0 r.2 (some (.long r.1))) args s (fCB h0 - fZ h0) (fLB h0 - fL h0) (fA h0)) (F0 m 0 ls []) := by
  obtain ⟨hx, hb, hml, hr, hlocks, hts, hown, K, hR⟩ := id M
  intro H locs cells slots ls hC hl
  refine fr_aload_n hx hb dX8_digest_0 rfl (lv_at hl 0 rfl) ?_
  refine lv_iconst (v := (0 : Int32)) hx hb dX8_digest_1 (by decide) ?_
  obtain ⟨h61, g62, hf⟩ := obind hf
  refine fr_put hx hb hts hown K hC ct_8 g62 (by decide) kw971 rfl rfl rfl rfl dX8_digest_2 (fun H locs hC => ?_)
  refine fr_ldc2 (v := (82057 : Int64)) hx hb hts hown kw1372 dX8_digest_5 ?_
  refine fr_aload_n hx hb dX8_digest_8 rfl (lv_at hl 0 rfl) ?_
  obtain ⟨x63, g64, hf⟩ := obind hf
  refine fr_get hx hb hts hown K hC ct_8 (fgI_get g64) (by decide) kw972 rfl dX8_digest_9 ?_
  refine lv_i2l (v := (Int32.toInt64 x63)) hx hb dX8_digest_12 rfl ?_
  refine lv_ladd hx hb dX8_digest_13 ?_
  refine fr_ldc2 (v := (31 : Int64)) hx hb hts hown kw1373 dX8_digest_14 ?_
  refine lv_lmul hx hb dX8_digest_17 ?_
  refine fr_aload_n hx hb dX8_digest_18 rfl (lv_at hl 0 rfl) ?_
  obtain ⟨b67, q68, hf⟩ := obind hf
  obtain ⟨r65, g66, hf⟩ := obind hf
  refine fr_callV hx hb hml hts hown K hC hR ct_8 (c_X8_nodesNow hfl D cA g66) 0 q68 kw1142 kw1139 kw1141 kw28 kw62 (by decide +kernel) ⟨by exact Nat.le_of_ble_eq_true rfl, by exact Nat.le_of_ble_eq_true rfl⟩ rfl hl.1 (cat8 _ (by exact Nat.le_of_ble_eq_true rfl)) dX8_digest_19 rfl (fun H locs _ _ hC => ?_)
  refine lv_i2l (v := (Int32.toInt64 r65.1)) hx hb dX8_digest_22 rfl ?_
  refine lv_ladd hx hb dX8_digest_23 ?_
  refine fr_ldc2 (v := (31 : Int64)) hx hb hts hown kw1373 dX8_digest_24 ?_
  refine lv_lmul hx hb dX8_digest_27 ?_
  refine fr_aload_n hx hb dX8_digest_28 rfl (lv_at hl 0 rfl) ?_
  obtain ⟨x69, g70, hf⟩ := obind hf
  refine fr_get hx hb hts hown K hC ct_8 (fgI_get g70) (by decide) kw988 rfl dX8_digest_29 ?_
  refine lv_i2l (v := (Int32.toInt64 x69)) hx hb dX8_digest_32 rfl ?_
  refine lv_ladd hx hb dX8_digest_33 ?_
  refine fr_ldc2 (v := (31 : Int64)) hx hb hts hown kw1373 dX8_digest_34 ?_
  refine lv_lmul hx hb dX8_digest_37 ?_
  refine fr_aload_n hx hb dX8_digest_38 rfl (lv_at hl 0 rfl) ?_
  obtain ⟨b73, q74, hf⟩ := obind hf
  obtain ⟨r71, g72, hf⟩ := obind hf
  refine fr_callV hx hb hml hts hown K hC hR ct_8 (c_X8_nextKeyNow hfl D cA g72) 0 q74 kw1219 kw1216 kw1218 kw36 kw62 (by decide +kernel) ⟨by exact Nat.le_of_ble_eq_true rfl, by exact Nat.le_of_ble_eq_true rfl⟩ rfl hl.1 (cat8 _ (by exact Nat.le_of_ble_eq_true rfl)) dX8_digest_39 rfl (fun H locs _ _ hC => ?_)
  refine lv_i2l (v := (Int32.toInt64 r71.1)) hx hb dX8_digest_42 rfl ?_
  refine lv_ladd hx hb dX8_digest_43 ?_
  refine lv_lstore_n (lv' := [(1, .long ((((((((82057 : Int64) + (Int32.toInt64 x63)) * (31 : Int64)) + (Int32.toInt64 r65.1)) * (31 : Int64)) + (Int32.toInt64 x69)) * (31 : Int64)) + (Int32.toInt64 r71.1))), (0, va_rf a0)]) hx hb dX8_digest_44 rfl hl (by decide) (congrArg (List.cons _) (flk (adj2 _ _) fln)) (fun ls hl => ?_)
  refine fr_aload_n hx hb dX8_digest_45 rfl (lv_at hl 1 rfl) ?_
  obtain ⟨b77, q78, hf⟩ := obind hf
  obtain ⟨r75, g76, hf⟩ := obind hf
  refine fr_callV hx hb hml hts hown K hC hR ct_8 (c_X8_ordered hfl D cA g76) 0 q78 kw1301 kw1298 kw1300 kw47 kw62 (by decide +kernel) ⟨by exact Nat.le_of_ble_eq_true rfl, by exact Nat.le_of_ble_eq_true rfl⟩ rfl hl.1 (cat8 _ (by exact Nat.le_of_ble_eq_true rfl)) dX8_digest_46 rfl (fun H locs _ _ hC => ?_)
  refine fr_astore_n (lv' := [(3, va_rf r75.1), (1, .long ((((((((82057 : Int64) + (Int32.toInt64 x63)) * (31 : Int64)) + (Int32.toInt64 r65.1)) * (31 : Int64)) + (Int32.toInt64 x69)) * (31 : Int64)) + (Int32.toInt64 r71.1))), (0, va_rf a0)]) hx hb dX8_digest_49 rfl hl (by decide) (congrArg (List.cons _) (flk rfl (flk rfl fln))) (fun ls hl => ?_)
  refine lv_iconst (v := (0 : Int32)) hx hb dX8_digest_50 (by decide) ?_
  refine lv_istore (lv' := [(4, .int (0 : Int32)), (3, va_rf r75.1), (1, .long ((((((((82057 : Int64) + (Int32.toInt64 x63)) * (31 : Int64)) + (Int32.toInt64 r65.1)) * (31 : Int64)) + (Int32.toInt64 x69)) * (31 : Int64)) + (Int32.toInt64 r71.1))), (0, va_rf a0)]) hx hb dX8_digest_51 hl (by decide) (congrArg (List.cons _) (flk (adj1 _ _) (flk rfl (flk rfl fln)))) (fun ls hl => ?_)
  exact w_X8_digest_L53 M hfl 4096 _ _ _ _ _ hf _ _ _ _ _ hC (lv_sub hl [3, 2, 1, 0] rfl)
set_option maxRecDepth 100000 in
theorem c_X8_digest {l : Launch} (hfl : l.stackTraces = false) (D : va_G) (cA : Nat → ClassId) {o : Nat} {h : fSt} {r : (Int64 × fSt)} (hf : f_X8_digest o h = some r) : fMet l yX8_digest (wsC yX8_digest cX8_digest 6 (some (.long))) (34) (919) D cA [.ref o] h r.2 (some (.long r.1)) := by
  exact fMet.of (own := RX8) (by decide +kernel) rfl (lva1 rfl lva0) (lgl1 rfl lgl0) (Nat.le_of_ble_eq_true rfl) (fun p e s m args below meth c ls hnm _ M hC hl => by
    have hl : lv_has ls 6 [(0, va_rf (some o))] := hl
    exact w_X8_digest_L0 M hfl _ _ hf _ _ _ _ _ hC (lv_sub hl [0] rfl))
