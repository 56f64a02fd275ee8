theorem dX7_init_0 : decode cX7_init 0 = .ok (.aload_n 0, 1) := by decide +kernel
theorem dX7_init_1 : decode cX7_init 1 = .ok (.invokespecial 1, 3) := by decide +kernel
theorem dX7_init_4 : decode cX7_init 4 = .ok (.aload_n 0, 1) := by decide +kernel
theorem dX7_init_5 : decode cX7_init 5 = .ok (.bipush 30, 2) := by decide +kernel
theorem dX7_init_7 : decode cX7_init 7 = .ok (.anewarray 9, 3) := by decide +kernel
theorem dX7_init_10 : decode cX7_init 10 = .ok (.putfield 11, 3) := by decide +kernel
theorem dX7_init_13 : decode cX7_init 13 = .ok (.aload_n 0, 1) := by decide +kernel
theorem dX7_init_14 : decode cX7_init 14 = .ok (.bipush 12, 2) := by decide +kernel
theorem dX7_init_16 : decode cX7_init 16 = .ok (.anewarray 15, 3) := by decide +kernel
theorem dX7_init_19 : decode cX7_init 19 = .ok (.putfield 17, 3) := by decide +kernel
theorem dX7_init_22 : decode cX7_init 22 = .ok (.aload_n 0, 1) := by decide +kernel
theorem dX7_init_23 : decode cX7_init 23 = .ok (.new 9, 3) := by decide +kernel
theorem dX7_init_26 : decode cX7_init 26 = .ok (.dup, 1) := by decide +kernel
theorem dX7_init_27 : decode cX7_init 27 = .ok (.iconst 0, 1) := by decide +kernel
theorem dX7_init_28 : decode cX7_init 28 = .ok (.iconst 0, 1) := by decide +kernel
theorem dX7_init_29 : decode cX7_init 29 = .ok (.iconst 0, 1) := by decide +kernel
theorem dX7_init_30 : decode cX7_init 30 = .ok (.iconst 0, 1) := by decide +kernel
theorem dX7_init_31 : decode cX7_init 31 = .ok (.invokespecial 21, 3) := by decide +kernel
theorem dX7_init_34 : decode cX7_init 34 = .ok (.putfield 24, 3) := by decide +kernel
theorem dX7_init_37 : decode cX7_init 37 = .ok (.aload_n 0, 1) := by decide +kernel
theorem dX7_init_38 : decode cX7_init 38 = .ok (.new 28, 3) := by decide +kernel
theorem dX7_init_41 : decode cX7_init 41 = .ok (.dup, 1) := by decide +kernel
theorem dX7_init_42 : decode cX7_init 42 = .ok (.invokespecial 30, 3) := by decide +kernel
theorem dX7_init_45 : decode cX7_init 45 = .ok (.putfield 31, 3) := by decide +kernel
theorem dX7_init_48 : decode cX7_init 48 = .ok (.aload_n 0, 1) := by decide +kernel
theorem dX7_init_49 : decode cX7_init 49 = .ok (.new 35, 3) := by decide +kernel
theorem dX7_init_52 : decode cX7_init 52 = .ok (.dup, 1) := by decide +kernel
theorem dX7_init_53 : decode cX7_init 53 = .ok (.invokespecial 37, 3) := by decide +kernel
theorem dX7_init_56 : decode cX7_init 56 = .ok (.putfield 38, 3) := by decide +kernel
theorem dX7_init_59 : decode cX7_init 59 = .ok (.aload_n 0, 1) := by decide +kernel
theorem dX7_init_60 : decode cX7_init 60 = .ok (.getfield 11, 3) := by decide +kernel
theorem dX7_init_63 : decode cX7_init 63 = .ok (.iconst 0, 1) := by decide +kernel
theorem dX7_init_64 : decode cX7_init 64 = .ok (.aload_n 0, 1) := by decide +kernel
theorem dX7_init_65 : decode cX7_init 65 = .ok (.getfield 24, 3) := by decide +kernel
theorem dX7_init_68 : decode cX7_init 68 = .ok (.aastore, 1) := by decide +kernel
theorem dX7_init_69 : decode cX7_init 69 = .ok (.aload_n 0, 1) := by decide +kernel
theorem dX7_init_70 : decode cX7_init 70 = .ok (.iconst 1, 1) := by decide +kernel
theorem dX7_init_71 : decode cX7_init 71 = .ok (.putfield 42, 3) := by decide +kernel
theorem dX7_init_74 : decode cX7_init 74 = .ok (.aload_n 0, 1) := by decide +kernel
theorem dX7_init_75 : decode cX7_init 75 = .ok (.aload_n 0, 1) := by decide +kernel
theorem dX7_init_76 : decode cX7_init 76 = .ok (.getfield 24, 3) := by decide +kernel
theorem dX7_init_79 : decode cX7_init 79 = .ok (.putfield 46, 3) := by decide +kernel
theorem dX7_init_82 : decode cX7_init 82 = .ok (.aload_n 0, 1) := by decide +kernel
theorem dX7_init_83 : decode cX7_init 83 = .ok (.iconst 1, 1) := by decide +kernel
theorem dX7_init_84 : decode cX7_init 84 = .ok (.putfield 49, 3) := by decide +kernel
theorem dX7_init_87 : decode cX7_init 87 = .ok (.return_, 1) := by decide +kernel
theorem dX7_nodes_0 : decode cX7_nodes 0 = .ok (.aload_n 0, 1) := by decide +kernel
theorem dX7_nodes_1 : decode cX7_nodes 1 = .ok (.getfield 49, 3) := by decide +kernel
theorem dX7_nodes_4 : decode cX7_nodes 4 = .ok (.ireturn, 1) := by decide +kernel
theorem dX7_tracks_0 : decode cX7_tracks 0 = .ok (.aload_n 0, 1) := by decide +kernel
theorem dX7_tracks_1 : decode cX7_tracks 1 = .ok (.getfield 185, 3) := by decide +kernel
theorem dX7_tracks_4 : decode cX7_tracks 4 = .ok (.ireturn, 1) := by decide +kernel
theorem dX8_isIn_0 : decode cX8_isIn 0 = .ok (.iload_n 0, 1) := by decide +kernel
theorem dX8_isIn_1 : decode cX8_isIn 1 = .ok (.iload_n 1, 1) := by decide +kernel
theorem dX8_isIn_2 : decode cX8_isIn 2 = .ok (.if_icmp .lt 12, 3) := by decide +kernel
theorem dX8_isIn_5 : decode cX8_isIn 5 = .ok (.iload_n 0, 1) := by decide +kernel
theorem dX8_isIn_6 : decode cX8_isIn 6 = .ok (.iload_n 2, 1) := by decide +kernel
theorem dX8_isIn_7 : decode cX8_isIn 7 = .ok (.if_icmp .gt 7, 3) := by decide +kernel
theorem dX8_isIn_10 : decode cX8_isIn 10 = .ok (.iconst 1, 1) := by decide +kernel
theorem dX8_isIn_11 : decode cX8_isIn 11 = .ok (.goto 4, 3) := by decide +kernel
theorem dX8_isIn_14 : decode cX8_isIn 14 = .ok (.iconst 0, 1) := by decide +kernel
theorem dX8_isIn_15 : decode cX8_isIn 15 = .ok (.ireturn, 1) := by decide +kernel
theorem dX8_isNode_0 : decode cX8_isNode 0 = .ok (.iload_n 1, 1) := by decide +kernel
theorem dX8_isNode_1 : decode cX8_isNode 1 = .ok (.iconst 0, 1) := by decide +kernel
theorem dX8_isNode_2 : decode cX8_isNode 2 = .ok (.aload_n 0, 1) := by decide +kernel
theorem dX8_isNode_3 : decode cX8_isNode 3 = .ok (.getfield 7, 3) := by decide +kernel
theorem dX8_isNode_6 : decode cX8_isNode 6 = .ok (.iconst 1, 1) := by decide +kernel
theorem dX8_isNode_7 : decode cX8_isNode 7 = .ok (.isub, 1) := by decide +kernel
theorem dX8_isNode_8 : decode cX8_isNode 8 = .ok (.invokestatic 84, 3) := by decide +kernel
theorem dX8_isNode_11 : decode cX8_isNode 11 = .ok (.ifCond .eq 16, 3) := by decide +kernel
theorem dX8_isNode_14 : decode cX8_isNode 14 = .ok (.aload_n 0, 1) := by decide +kernel
theorem dX8_isNode_15 : decode cX8_isNode 15 = .ok (.getfield 13, 3) := by decide +kernel
theorem dX8_isNode_18 : decode cX8_isNode 18 = .ok (.iload_n 1, 1) := by decide +kernel
theorem dX8_isNode_19 : decode cX8_isNode 19 = .ok (.baload, 1) := by decide +kernel
theorem dX8_isNode_20 : decode cX8_isNode 20 = .ok (.ifCond .ne 7, 3) := by decide +kernel
theorem dX8_isNode_23 : decode cX8_isNode 23 = .ok (.iconst 1, 1) := by decide +kernel
theorem dX8_isNode_24 : decode cX8_isNode 24 = .ok (.goto 4, 3) := by decide +kernel
theorem dX8_isNode_27 : decode cX8_isNode 27 = .ok (.iconst 0, 1) := by decide +kernel
theorem dX8_isNode_28 : decode cX8_isNode 28 = .ok (.ireturn, 1) := by decide +kernel
theorem dX8_levelNow_0 : decode cX8_levelNow 0 = .ok (.iconst 0, 1) := by decide +kernel
theorem dX8_levelNow_1 : decode cX8_levelNow 1 = .ok (.istore_n 2, 1) := by decide +kernel
theorem dX8_levelNow_2 : decode cX8_levelNow 2 = .ok (.aload_n 0, 1) := by decide +kernel
theorem dX8_levelNow_3 : decode cX8_levelNow 3 = .ok (.getfield 26, 3) := by decide +kernel
theorem dX8_levelNow_6 : decode cX8_levelNow 6 = .ok (.iload_n 1, 1) := by decide +kernel
theorem dX8_levelNow_7 : decode cX8_levelNow 7 = .ok (.iaload, 1) := by decide +kernel
theorem dX8_levelNow_8 : decode cX8_levelNow 8 = .ok (.istore_n 3, 1) := by decide +kernel
theorem dX8_levelNow_9 : decode cX8_levelNow 9 = .ok (.iload_n 3, 1) := by decide +kernel
theorem dX8_levelNow_10 : decode cX8_levelNow 10 = .ok (.iconst (-1), 1) := by decide +kernel
theorem dX8_levelNow_11 : decode cX8_levelNow 11 = .ok (.if_icmp .eq 16, 3) := by decide +kernel
theorem dX8_levelNow_14 : decode cX8_levelNow 14 = .ok (.iinc 2 1, 3) := by decide +kernel
theorem dX8_levelNow_17 : decode cX8_levelNow 17 = .ok (.aload_n 0, 1) := by decide +kernel
theorem dX8_levelNow_18 : decode cX8_levelNow 18 = .ok (.getfield 26, 3) := by decide +kernel
theorem dX8_levelNow_21 : decode cX8_levelNow 21 = .ok (.iload_n 3, 1) := by decide +kernel
theorem dX8_levelNow_22 : decode cX8_levelNow 22 = .ok (.iaload, 1) := by decide +kernel
theorem dX8_levelNow_23 : decode cX8_levelNow 23 = .ok (.istore_n 3, 1) := by decide +kernel
theorem dX8_levelNow_24 : decode cX8_levelNow 24 = .ok (.goto (-15), 3) := by decide +kernel
theorem dX8_levelNow_27 : decode cX8_levelNow 27 = .ok (.iload_n 2, 1) := by decide +kernel
theorem dX8_levelNow_28 : decode cX8_levelNow 28 = .ok (.ireturn, 1) := by decide +kernel
theorem dX8_no_0 : decode cX8_no 0 = .ok (.aload_n 0, 1) := by decide +kernel
theorem dX8_no_1 : decode cX8_no 1 = .ok (.iload_n 1, 1) := by decide +kernel
theorem dX8_no_2 : decode cX8_no 2 = .ok (.putfield 81, 3) := by decide +kernel
theorem dX8_no_5 : decode cX8_no 5 = .ok (.iconst 0, 1) := by decide +kernel
theorem dX8_no_6 : decode cX8_no 6 = .ok (.ireturn, 1) := by decide +kernel
theorem dX8_add_0 : decode cX8_add 0 = .ok (.aload_n 0, 1) := by decide +kernel
theorem dX8_add_1 : decode cX8_add 1 = .ok (.iconst 0, 1) := by decide +kernel
theorem dX8_add_2 : decode cX8_add 2 = .ok (.putfield 81, 3) := by decide +kernel
theorem dX8_add_5 : decode cX8_add 5 = .ok (.aload_n 0, 1) := by decide +kernel
theorem dX8_add_6 : decode cX8_add 6 = .ok (.iload_n 1, 1) := by decide +kernel
theorem dX8_add_7 : decode cX8_add 7 = .ok (.invokevirtual 88, 3) := by decide +kernel
theorem dX8_add_10 : decode cX8_add 10 = .ok (.ifCond .ne 9, 3) := by decide +kernel
theorem dX8_add_13 : decode cX8_add 13 = .ok (.aload_n 0, 1) := by decide +kernel
theorem dX8_add_14 : decode cX8_add 14 = .ok (.iconst 1, 1) := by decide +kernel
theorem dX8_add_15 : decode cX8_add 15 = .ok (.invokevirtual 92, 3) := by decide +kernel
theorem dX8_add_18 : decode cX8_add 18 = .ok (.ireturn, 1) := by decide +kernel
theorem dX8_add_19 : decode cX8_add 19 = .ok (.iload_n 2, 1) := by decide +kernel
theorem dX8_add_20 : decode cX8_add 20 = .ok (.iconst 0, 1) := by decide +kernel
theorem dX8_add_21 : decode cX8_add 21 = .ok (.iconst 2, 1) := by decide +kernel
theorem dX8_add_22 : decode cX8_add 22 = .ok (.invokestatic 84, 3) := by decide +kernel
theorem dX8_add_25 : decode cX8_add 25 = .ok (.ifCond .eq 30, 3) := by decide +kernel
theorem dX8_add_28 : decode cX8_add 28 = .ok (.iload_n 2, 1) := by decide +kernel
theorem dX8_add_29 : decode cX8_add 29 = .ok (.ifCond .eq 32, 3) := by decide +kernel
theorem dX8_add_32 : decode cX8_add 32 = .ok (.iload_n 3, 1) := by decide +kernel
theorem dX8_add_33 : decode cX8_add 33 = .ok (.iconst 1, 1) := by decide +kernel
theorem dX8_add_34 : decode cX8_add 34 = .ok (.sipush 200, 3) := by decide +kernel
theorem dX8_add_37 : decode cX8_add 37 = .ok (.invokestatic 84, 3) := by decide +kernel
theorem dX8_add_40 : decode cX8_add 40 = .ok (.ifCond .eq 15, 3) := by decide +kernel
theorem dX8_add_43 : decode cX8_add 43 = .ok (.iload 4, 2) := by decide +kernel
theorem dX8_add_45 : decode cX8_add 45 = .ok (.iconst 1, 1) := by decide +kernel
theorem dX8_add_46 : decode cX8_add 46 = .ok (.sipush 200, 3) := by decide +kernel
theorem dX8_add_49 : decode cX8_add 49 = .ok (.invokestatic 84, 3) := by decide +kernel
theorem dX8_add_52 : decode cX8_add 52 = .ok (.ifCond .ne 9, 3) := by decide +kernel
theorem dX8_add_55 : decode cX8_add 55 = .ok (.aload_n 0, 1) := by decide +kernel
theorem dX8_add_56 : decode cX8_add 56 = .ok (.iconst 2, 1) := by decide +kernel
theorem dX8_add_57 : decode cX8_add 57 = .ok (.invokevirtual 92, 3) := by decide +kernel
theorem dX8_add_60 : decode cX8_add 60 = .ok (.ireturn, 1) := by decide +kernel
theorem dX8_add_61 : decode cX8_add 61 = .ok (.aload_n 0, 1) := by decide +kernel
theorem dX8_add_62 : decode cX8_add 62 = .ok (.getfield 7, 3) := by decide +kernel
theorem dX8_add_65 : decode cX8_add 65 = .ok (.bipush 30, 2) := by decide +kernel
theorem dX8_add_67 : decode cX8_add 67 = .ok (.if_icmp .eq 12, 3) := by decide +kernel
theorem dX8_add_70 : decode cX8_add 70 = .ok (.aload_n 0, 1) := by decide +kernel
theorem dX8_add_71 : decode cX8_add 71 = .ok (.iload_n 1, 1) := by decide +kernel
theorem dX8_add_72 : decode cX8_add 72 = .ok (.invokevirtual 96, 3) := by decide +kernel
theorem dX8_add_75 : decode cX8_add 75 = .ok (.iconst 4, 1) := by decide +kernel
theorem dX8_add_76 : decode cX8_add 76 = .ok (.if_icmp .ne 9, 3) := by decide +kernel
theorem dX8_add_79 : decode cX8_add 79 = .ok (.aload_n 0, 1) := by decide +kernel
theorem dX8_add_80 : decode cX8_add 80 = .ok (.iconst 3, 1) := by decide +kernel
theorem dX8_add_81 : decode cX8_add 81 = .ok (.invokevirtual 92, 3) := by decide +kernel
theorem dX8_add_84 : decode cX8_add 84 = .ok (.ireturn, 1) := by decide +kernel
theorem dX8_add_85 : decode cX8_add 85 = .ok (.aload_n 0, 1) := by decide +kernel
theorem dX8_add_86 : decode cX8_add 86 = .ok (.getfield 26, 3) := by decide +kernel
theorem dX8_add_89 : decode cX8_add 89 = .ok (.aload_n 0, 1) := by decide +kernel
theorem dX8_add_90 : decode cX8_add 90 = .ok (.getfield 7, 3) := by decide +kernel
theorem dX8_add_93 : decode cX8_add 93 = .ok (.iload_n 1, 1) := by decide +kernel
theorem dX8_add_94 : decode cX8_add 94 = .ok (.iastore, 1) := by decide +kernel
theorem dX8_add_95 : decode cX8_add 95 = .ok (.aload_n 0, 1) := by decide +kernel
theorem dX8_add_96 : decode cX8_add 96 = .ok (.getfield 30, 3) := by decide +kernel
theorem dX8_add_99 : decode cX8_add 99 = .ok (.aload_n 0, 1) := by decide +kernel
theorem dX8_add_100 : decode cX8_add 100 = .ok (.getfield 7, 3) := by decide +kernel
theorem dX8_add_103 : decode cX8_add 103 = .ok (.iload_n 2, 1) := by decide +kernel
theorem dX8_add_104 : decode cX8_add 104 = .ok (.iastore, 1) := by decide +kernel
theorem dX8_add_105 : decode cX8_add 105 = .ok (.aload_n 0, 1) := by decide +kernel
theorem dX8_add_106 : decode cX8_add 106 = .ok (.getfield 33, 3) := by decide +kernel
theorem dX8_add_109 : decode cX8_add 109 = .ok (.aload_n 0, 1) := by decide +kernel
theorem dX8_add_110 : decode cX8_add 110 = .ok (.getfield 7, 3) := by decide +kernel
theorem dX8_add_113 : decode cX8_add 113 = .ok (.iload_n 3, 1) := by decide +kernel
theorem dX8_add_114 : decode cX8_add 114 = .ok (.iastore, 1) := by decide +kernel
theorem dX8_add_115 : decode cX8_add 115 = .ok (.aload_n 0, 1) := by decide +kernel
theorem dX8_add_116 : decode cX8_add 116 = .ok (.getfield 36, 3) := by decide +kernel
theorem dX8_add_119 : decode cX8_add 119 = .ok (.aload_n 0, 1) := by decide +kernel
theorem dX8_add_120 : decode cX8_add 120 = .ok (.getfield 7, 3) := by decide +kernel
theorem dX8_add_123 : decode cX8_add 123 = .ok (.iload 4, 2) := by decide +kernel
theorem dX8_add_125 : decode cX8_add 125 = .ok (.iastore, 1) := by decide +kernel
theorem dX8_add_126 : decode cX8_add 126 = .ok (.aload_n 0, 1) := by decide +kernel
theorem dX8_add_127 : decode cX8_add 127 = .ok (.getfield 48, 3) := by decide +kernel
theorem dX8_add_130 : decode cX8_add 130 = .ok (.aload_n 0, 1) := by decide +kernel
theorem dX8_add_131 : decode cX8_add 131 = .ok (.getfield 7, 3) := by decide +kernel
theorem dX8_add_134 : decode cX8_add 134 = .ok (.aload_n 0, 1) := by decide +kernel
theorem dX8_add_135 : decode cX8_add 135 = .ok (.dup, 1) := by decide +kernel
theorem dX8_add_136 : decode cX8_add 136 = .ok (.getfield 57, 3) := by decide +kernel
theorem dX8_add_139 : decode cX8_add 139 = .ok (.dup_x1, 1) := by decide +kernel
theorem dX8_add_140 : decode cX8_add 140 = .ok (.iconst 1, 1) := by decide +kernel
theorem dX8_add_141 : decode cX8_add 141 = .ok (.iadd, 1) := by decide +kernel
theorem dX8_add_142 : decode cX8_add 142 = .ok (.putfield 57, 3) := by decide +kernel
theorem dX8_add_145 : decode cX8_add 145 = .ok (.iastore, 1) := by decide +kernel
theorem dX8_add_146 : decode cX8_add 146 = .ok (.aload_n 0, 1) := by decide +kernel
theorem dX8_add_147 : decode cX8_add 147 = .ok (.dup, 1) := by decide +kernel
theorem dX8_add_148 : decode cX8_add 148 = .ok (.getfield 7, 3) := by decide +kernel
theorem dX8_add_151 : decode cX8_add 151 = .ok (.dup_x1, 1) := by decide +kernel
theorem dX8_add_152 : decode cX8_add 152 = .ok (.iconst 1, 1) := by decide +kernel
theorem dX8_add_153 : decode cX8_add 153 = .ok (.iadd, 1) := by decide +kernel
theorem dX8_add_154 : decode cX8_add 154 = .ok (.putfield 7, 3) := by decide +kernel
theorem dX8_add_157 : decode cX8_add 157 = .ok (.ireturn, 1) := by decide +kernel
theorem dX8_ok_0 : decode cX8_ok 0 = .ok (.aload_n 0, 1) := by decide +kernel
theorem dX8_ok_1 : decode cX8_ok 1 = .ok (.iconst 0, 1) := by decide +kernel
theorem dX8_ok_2 : decode cX8_ok 2 = .ok (.putfield 81, 3) := by decide +kernel
theorem dX8_ok_5 : decode cX8_ok 5 = .ok (.iload_n 1, 1) := by decide +kernel
theorem dX8_ok_6 : decode cX8_ok 6 = .ok (.ireturn, 1) := by decide +kernel
theorem dX8_added_0 : decode cX8_added 0 = .ok (.aload_n 0, 1) := by decide +kernel
theorem dX8_added_1 : decode cX8_added 1 = .ok (.aload_n 0, 1) := by decide +kernel
theorem dX8_added_2 : decode cX8_added 2 = .ok (.getfield 7, 3) := by decide +kernel
theorem dX8_added_5 : decode cX8_added 5 = .ok (.invokevirtual 128, 3) := by decide +kernel
theorem dX8_added_8 : decode cX8_added 8 = .ok (.ireturn, 1) := by decide +kernel
theorem dX8_asked_0 : decode cX8_asked 0 = .ok (.iload_n 1, 1) := by decide +kernel
theorem dX8_asked_1 : decode cX8_asked 1 = .ok (.ifCond .ne 5, 3) := by decide +kernel
theorem dX8_asked_4 : decode cX8_asked 4 = .ok (.iconst 1, 1) := by decide +kernel
theorem dX8_asked_5 : decode cX8_asked 5 = .ok (.ireturn, 1) := by decide +kernel
theorem dX8_asked_6 : decode cX8_asked 6 = .ok (.iload_n 2, 1) := by decide +kernel
theorem dX8_asked_7 : decode cX8_asked 7 = .ok (.sipush (-1000), 3) := by decide +kernel
theorem dX8_asked_10 : decode cX8_asked 10 = .ok (.sipush 1000, 3) := by decide +kernel
theorem dX8_asked_13 : decode cX8_asked 13 = .ok (.invokestatic 84, 3) := by decide +kernel
theorem dX8_asked_16 : decode cX8_asked 16 = .ok (.ifCond .eq 30, 3) := by decide +kernel
theorem dX8_asked_19 : decode cX8_asked 19 = .ok (.iload_n 3, 1) := by decide +kernel
theorem dX8_asked_20 : decode cX8_asked 20 = .ok (.sipush (-1000), 3) := by decide +kernel
theorem dX8_asked_23 : decode cX8_asked 23 = .ok (.sipush 1000, 3) := by decide +kernel
theorem dX8_asked_26 : decode cX8_asked 26 = .ok (.invokestatic 84, 3) := by decide +kernel
theorem dX8_asked_29 : decode cX8_asked 29 = .ok (.ifCond .eq 17, 3) := by decide +kernel
theorem dX8_asked_32 : decode cX8_asked 32 = .ok (.iload 4, 2) := by decide +kernel
theorem dX8_asked_34 : decode cX8_asked 34 = .ok (.iconst 0, 1) := by decide +kernel
theorem dX8_asked_35 : decode cX8_asked 35 = .ok (.iconst 3, 1) := by decide +kernel
theorem dX8_asked_36 : decode cX8_asked 36 = .ok (.invokestatic 84, 3) := by decide +kernel
theorem dX8_asked_39 : decode cX8_asked 39 = .ok (.ifCond .eq 7, 3) := by decide +kernel
theorem dX8_asked_42 : decode cX8_asked 42 = .ok (.iconst 0, 1) := by decide +kernel
theorem dX8_asked_43 : decode cX8_asked 43 = .ok (.goto 4, 3) := by decide +kernel
theorem dX8_asked_46 : decode cX8_asked 46 = .ok (.iconst 2, 1) := by decide +kernel
theorem dX8_asked_47 : decode cX8_asked 47 = .ok (.ireturn, 1) := by decide +kernel
theorem dX8_tells_0 : decode cX8_tells 0 = .ok (.iload_n 1, 1) := by decide +kernel
theorem dX8_tells_1 : decode cX8_tells 1 = .ok (.bipush 8, 2) := by decide +kernel
theorem dX8_tells_3 : decode cX8_tells 3 = .ok (.imul, 1) := by decide +kernel
theorem dX8_tells_4 : decode cX8_tells 4 = .ok (.istore_n 3, 1) := by decide +kernel
theorem dX8_tells_5 : decode cX8_tells 5 = .ok (.iload_n 3, 1) := by decide +kernel
theorem dX8_tells_6 : decode cX8_tells 6 = .ok (.aload_n 0, 1) := by decide +kernel
theorem dX8_tells_7 : decode cX8_tells 7 = .ok (.getfield 72, 3) := by decide +kernel
theorem dX8_tells_10 : decode cX8_tells 10 = .ok (.iload_n 1, 1) := by decide +kernel
theorem dX8_tells_11 : decode cX8_tells 11 = .ok (.iaload, 1) := by decide +kernel
theorem dX8_tells_12 : decode cX8_tells 12 = .ok (.iadd, 1) := by decide +kernel
theorem dX8_tells_13 : decode cX8_tells 13 = .ok (.iconst 1, 1) := by decide +kernel
theorem dX8_tells_14 : decode cX8_tells 14 = .ok (.isub, 1) := by decide +kernel
theorem dX8_tells_15 : decode cX8_tells 15 = .ok (.istore 4, 2) := by decide +kernel
theorem dX8_tells_17 : decode cX8_tells 17 = .ok (.aload_n 0, 1) := by decide +kernel
theorem dX8_tells_18 : decode cX8_tells 18 = .ok (.getfield 75, 3) := by decide +kernel
theorem dX8_tells_21 : decode cX8_tells 21 = .ok (.iload_n 3, 1) := by decide +kernel
theorem dX8_tells_22 : decode cX8_tells 22 = .ok (.iaload, 1) := by decide +kernel
theorem dX8_tells_23 : decode cX8_tells 23 = .ok (.istore 5, 2) := by decide +kernel
theorem dX8_tells_25 : decode cX8_tells 25 = .ok (.aload_n 0, 1) := by decide +kernel
theorem dX8_tells_26 : decode cX8_tells 26 = .ok (.getfield 75, 3) := by decide +kernel
theorem dX8_tells_29 : decode cX8_tells 29 = .ok (.iload 4, 2) := by decide +kernel
theorem dX8_tells_31 : decode cX8_tells 31 = .ok (.iaload, 1) := by decide +kernel
theorem dX8_tells_32 : decode cX8_tells 32 = .ok (.istore 6, 2) := by decide +kernel
theorem dX8_tells_34 : decode cX8_tells 34 = .ok (.iload_n 2, 1) := by decide +kernel
theorem dX8_tells_35 : decode cX8_tells 35 = .ok (.istore 7, 2) := by decide +kernel
theorem dX8_tells_37 : decode cX8_tells 37 = .ok (.iload 7, 2) := by decide +kernel
theorem dX8_tells_39 : decode cX8_tells 39 = .ok (.iload 5, 2) := by decide +kernel
theorem dX8_tells_41 : decode cX8_tells 41 = .ok (.if_icmp .le 9, 3) := by decide +kernel
theorem dX8_tells_44 : decode cX8_tells 44 = .ok (.iload_n 3, 1) := by decide +kernel
theorem dX8_tells_45 : decode cX8_tells 45 = .ok (.iload 4, 2) := by decide +kernel
theorem dX8_tells_47 : decode cX8_tells 47 = .ok (.if_icmp .ne 10, 3) := by decide +kernel
theorem dX8_tells_50 : decode cX8_tells 50 = .ok (.aload_n 0, 1) := by decide +kernel
theorem dX8_tells_51 : decode cX8_tells 51 = .ok (.getfield 78, 3) := by decide +kernel
theorem dX8_tells_54 : decode cX8_tells 54 = .ok (.iload_n 3, 1) := by decide +kernel
theorem dX8_tells_55 : decode cX8_tells 55 = .ok (.iaload, 1) := by decide +kernel
theorem dX8_tells_56 : decode cX8_tells 56 = .ok (.ireturn, 1) := by decide +kernel
theorem dX8_tells_57 : decode cX8_tells 57 = .ok (.iload 7, 2) := by decide +kernel
theorem dX8_tells_59 : decode cX8_tells 59 = .ok (.iload 6, 2) := by decide +kernel
theorem dX8_tells_61 : decode cX8_tells 61 = .ok (.if_icmp .le 86, 3) := by decide +kernel
theorem dX8_tells_64 : decode cX8_tells 64 = .ok (.aload_n 0, 1) := by decide +kernel
theorem dX8_tells_65 : decode cX8_tells 65 = .ok (.getfield 69, 3) := by decide +kernel
theorem dX8_tells_68 : decode cX8_tells 68 = .ok (.iload_n 1, 1) := by decide +kernel
theorem dX8_tells_69 : decode cX8_tells 69 = .ok (.iaload, 1) := by decide +kernel
theorem dX8_tells_70 : decode cX8_tells 70 = .ok (.ifCond .ne 11, 3) := by decide +kernel
theorem dX8_tells_73 : decode cX8_tells 73 = .ok (.aload_n 0, 1) := by decide +kernel
theorem dX8_tells_74 : decode cX8_tells 74 = .ok (.getfield 78, 3) := by decide +kernel
theorem dX8_tells_77 : decode cX8_tells 77 = .ok (.iload 4, 2) := by decide +kernel
theorem dX8_tells_79 : decode cX8_tells 79 = .ok (.iaload, 1) := by decide +kernel
theorem dX8_tells_80 : decode cX8_tells 80 = .ok (.ireturn, 1) := by decide +kernel
theorem dX8_tells_81 : decode cX8_tells 81 = .ok (.iload 7, 2) := by decide +kernel
theorem dX8_tells_83 : decode cX8_tells 83 = .ok (.iload 5, 2) := by decide +kernel
theorem dX8_tells_85 : decode cX8_tells 85 = .ok (.isub, 1) := by decide +kernel
theorem dX8_tells_86 : decode cX8_tells 86 = .ok (.aload_n 0, 1) := by decide +kernel
theorem dX8_tells_87 : decode cX8_tells 87 = .ok (.getfield 69, 3) := by decide +kernel
theorem dX8_tells_90 : decode cX8_tells 90 = .ok (.iload_n 1, 1) := by decide +kernel
theorem dX8_tells_91 : decode cX8_tells 91 = .ok (.iaload, 1) := by decide +kernel
theorem dX8_tells_92 : decode cX8_tells 92 = .ok (.iconst 1, 1) := by decide +kernel
theorem dX8_tells_93 : decode cX8_tells 93 = .ok (.if_icmp .ne 11, 3) := by decide +kernel
theorem dX8_tells_96 : decode cX8_tells 96 = .ok (.iload 6, 2) := by decide +kernel
theorem dX8_tells_98 : decode cX8_tells 98 = .ok (.iload 5, 2) := by decide +kernel
theorem dX8_tells_100 : decode cX8_tells 100 = .ok (.isub, 1) := by decide +kernel
theorem dX8_tells_101 : decode cX8_tells 101 = .ok (.goto 10, 3) := by decide +kernel
theorem dX8_tells_104 : decode cX8_tells 104 = .ok (.iconst 2, 1) := by decide +kernel
theorem dX8_tells_105 : decode cX8_tells 105 = .ok (.iload 6, 2) := by decide +kernel
theorem dX8_tells_107 : decode cX8_tells 107 = .ok (.iload 5, 2) := by decide +kernel
theorem dX8_tells_109 : decode cX8_tells 109 = .ok (.isub, 1) := by decide +kernel
theorem dX8_tells_110 : decode cX8_tells 110 = .ok (.imul, 1) := by decide +kernel
theorem dX8_tells_111 : decode cX8_tells 111 = .ok (.irem, 1) := by decide +kernel
theorem dX8_tells_112 : decode cX8_tells 112 = .ok (.istore 8, 2) := by decide +kernel
theorem dX8_tells_114 : decode cX8_tells 114 = .ok (.iload 8, 2) := by decide +kernel
theorem dX8_tells_116 : decode cX8_tells 116 = .ok (.iload 6, 2) := by decide +kernel
theorem dX8_tells_118 : decode cX8_tells 118 = .ok (.iload 5, 2) := by decide +kernel
theorem dX8_tells_120 : decode cX8_tells 120 = .ok (.isub, 1) := by decide +kernel
theorem dX8_tells_121 : decode cX8_tells 121 = .ok (.if_icmp .gt 11, 3) := by decide +kernel
theorem dX8_tells_124 : decode cX8_tells 124 = .ok (.iload 5, 2) := by decide +kernel
theorem dX8_tells_126 : decode cX8_tells 126 = .ok (.iload 8, 2) := by decide +kernel
theorem dX8_tells_128 : decode cX8_tells 128 = .ok (.iadd, 1) := by decide +kernel
theorem dX8_tells_129 : decode cX8_tells 129 = .ok (.goto 16, 3) := by decide +kernel
theorem dX8_tells_132 : decode cX8_tells 132 = .ok (.iload 5, 2) := by decide +kernel
theorem dX8_tells_134 : decode cX8_tells 134 = .ok (.iconst 2, 1) := by decide +kernel
theorem dX8_tells_135 : decode cX8_tells 135 = .ok (.iload 6, 2) := by decide +kernel
theorem dX8_tells_137 : decode cX8_tells 137 = .ok (.iload 5, 2) := by decide +kernel
theorem dX8_tells_139 : decode cX8_tells 139 = .ok (.isub, 1) := by decide +kernel
theorem dX8_tells_140 : decode cX8_tells 140 = .ok (.imul, 1) := by decide +kernel
theorem dX8_tells_141 : decode cX8_tells 141 = .ok (.iadd, 1) := by decide +kernel
theorem dX8_tells_142 : decode cX8_tells 142 = .ok (.iload 8, 2) := by decide +kernel
theorem dX8_tells_144 : decode cX8_tells 144 = .ok (.isub, 1) := by decide +kernel
theorem dX8_tells_145 : decode cX8_tells 145 = .ok (.istore 7, 2) := by decide +kernel
theorem dX8_tells_147 : decode cX8_tells 147 = .ok (.iload 4, 2) := by decide +kernel
theorem dX8_tells_149 : decode cX8_tells 149 = .ok (.istore 8, 2) := by decide +kernel
theorem dX8_tells_151 : decode cX8_tells 151 = .ok (.aload_n 0, 1) := by decide +kernel
theorem dX8_tells_152 : decode cX8_tells 152 = .ok (.getfield 75, 3) := by decide +kernel
theorem dX8_tells_155 : decode cX8_tells 155 = .ok (.iload 8, 2) := by decide +kernel
theorem dX8_tells_157 : decode cX8_tells 157 = .ok (.iaload, 1) := by decide +kernel
theorem dX8_tells_158 : decode cX8_tells 158 = .ok (.iload 7, 2) := by decide +kernel
theorem dX8_tells_160 : decode cX8_tells 160 = .ok (.if_icmp .le 9, 3) := by decide +kernel
theorem dX8_tells_163 : decode cX8_tells 163 = .ok (.iinc 8 (-1), 3) := by decide +kernel
theorem dX8_tells_166 : decode cX8_tells 166 = .ok (.goto (-15), 3) := by decide +kernel
theorem dX8_tells_169 : decode cX8_tells 169 = .ok (.aload_n 0, 1) := by decide +kernel
theorem dX8_tells_170 : decode cX8_tells 170 = .ok (.getfield 75, 3) := by decide +kernel
theorem dX8_tells_173 : decode cX8_tells 173 = .ok (.iload 8, 2) := by decide +kernel
theorem dX8_tells_175 : decode cX8_tells 175 = .ok (.iaload, 1) := by decide +kernel
theorem dX8_tells_176 : decode cX8_tells 176 = .ok (.iload 7, 2) := by decide +kernel
theorem dX8_tells_178 : decode cX8_tells 178 = .ok (.if_icmp .eq 12, 3) := by decide +kernel
theorem dX8_tells_181 : decode cX8_tells 181 = .ok (.aload_n 0, 1) := by decide +kernel
theorem dX8_tells_182 : decode cX8_tells 182 = .ok (.getfield 66, 3) := by decide +kernel
theorem dX8_tells_185 : decode cX8_tells 185 = .ok (.iload_n 1, 1) := by decide +kernel
theorem dX8_tells_186 : decode cX8_tells 186 = .ok (.iaload, 1) := by decide +kernel
theorem dX8_tells_187 : decode cX8_tells 187 = .ok (.ifCond .ne 11, 3) := by decide +kernel
theorem dX8_tells_190 : decode cX8_tells 190 = .ok (.aload_n 0, 1) := by decide +kernel
theorem dX8_tells_191 : decode cX8_tells 191 = .ok (.getfield 78, 3) := by decide +kernel
theorem dX8_tells_194 : decode cX8_tells 194 = .ok (.iload 8, 2) := by decide +kernel
theorem dX8_tells_196 : decode cX8_tells 196 = .ok (.iaload, 1) := by decide +kernel
theorem dX8_tells_197 : decode cX8_tells 197 = .ok (.ireturn, 1) := by decide +kernel
theorem dX8_tells_198 : decode cX8_tells 198 = .ok (.iload 7, 2) := by decide +kernel
theorem dX8_tells_200 : decode cX8_tells 200 = .ok (.aload_n 0, 1) := by decide +kernel
theorem dX8_tells_201 : decode cX8_tells 201 = .ok (.getfield 75, 3) := by decide +kernel
theorem dX8_tells_204 : decode cX8_tells 204 = .ok (.iload 8, 2) := by decide +kernel
theorem dX8_tells_206 : decode cX8_tells 206 = .ok (.iaload, 1) := by decide +kernel
theorem dX8_tells_207 : decode cX8_tells 207 = .ok (.isub, 1) := by decide +kernel
theorem dX8_tells_208 : decode cX8_tells 208 = .ok (.i2l, 1) := by decide +kernel
theorem dX8_tells_209 : decode cX8_tells 209 = .ok (.lstore 9, 2) := by decide +kernel
theorem dX8_tells_211 : decode cX8_tells 211 = .ok (.aload_n 0, 1) := by decide +kernel
theorem dX8_tells_212 : decode cX8_tells 212 = .ok (.getfield 75, 3) := by decide +kernel
theorem dX8_tells_215 : decode cX8_tells 215 = .ok (.iload 8, 2) := by decide +kernel
theorem dX8_tells_217 : decode cX8_tells 217 = .ok (.iconst 1, 1) := by decide +kernel
theorem dX8_tells_218 : decode cX8_tells 218 = .ok (.iadd, 1) := by decide +kernel
theorem dX8_tells_219 : decode cX8_tells 219 = .ok (.iaload, 1) := by decide +kernel
theorem dX8_tells_220 : decode cX8_tells 220 = .ok (.aload_n 0, 1) := by decide +kernel
theorem dX8_tells_221 : decode cX8_tells 221 = .ok (.getfield 75, 3) := by decide +kernel
theorem dX8_tells_224 : decode cX8_tells 224 = .ok (.iload 8, 2) := by decide +kernel
theorem dX8_tells_226 : decode cX8_tells 226 = .ok (.iaload, 1) := by decide +kernel
theorem dX8_tells_227 : decode cX8_tells 227 = .ok (.isub, 1) := by decide +kernel
theorem dX8_tells_228 : decode cX8_tells 228 = .ok (.i2l, 1) := by decide +kernel
theorem dX8_tells_229 : decode cX8_tells 229 = .ok (.lstore 11, 2) := by decide +kernel
theorem dX8_tells_231 : decode cX8_tells 231 = .ok (.aload_n 0, 1) := by decide +kernel
theorem dX8_tells_232 : decode cX8_tells 232 = .ok (.getfield 78, 3) := by decide +kernel
theorem dX8_tells_235 : decode cX8_tells 235 = .ok (.iload 8, 2) := by decide +kernel
theorem dX8_tells_237 : decode cX8_tells 237 = .ok (.iconst 1, 1) := by decide +kernel
theorem dX8_tells_238 : decode cX8_tells 238 = .ok (.iadd, 1) := by decide +kernel
theorem dX8_tells_239 : decode cX8_tells 239 = .ok (.iaload, 1) := by decide +kernel
theorem dX8_tells_240 : decode cX8_tells 240 = .ok (.aload_n 0, 1) := by decide +kernel
theorem dX8_tells_241 : decode cX8_tells 241 = .ok (.getfield 78, 3) := by decide +kernel
theorem dX8_tells_244 : decode cX8_tells 244 = .ok (.iload 8, 2) := by decide +kernel
theorem dX8_tells_246 : decode cX8_tells 246 = .ok (.iaload, 1) := by decide +kernel
theorem dX8_tells_247 : decode cX8_tells 247 = .ok (.isub, 1) := by decide +kernel
theorem dX8_tells_248 : decode cX8_tells 248 = .ok (.i2l, 1) := by decide +kernel
theorem dX8_tells_249 : decode cX8_tells 249 = .ok (.lstore 13, 2) := by decide +kernel
theorem dX8_tells_251 : decode cX8_tells 251 = .ok (.aload_n 0, 1) := by decide +kernel
theorem dX8_tells_252 : decode cX8_tells 252 = .ok (.getfield 78, 3) := by decide +kernel
theorem dX8_tells_255 : decode cX8_tells 255 = .ok (.iload 8, 2) := by decide +kernel
theorem dX8_tells_257 : decode cX8_tells 257 = .ok (.iaload, 1) := by decide +kernel
theorem dX8_tells_258 : decode cX8_tells 258 = .ok (.aload_n 0, 1) := by decide +kernel
theorem dX8_tells_259 : decode cX8_tells 259 = .ok (.getfield 66, 3) := by decide +kernel
theorem dX8_tells_262 : decode cX8_tells 262 = .ok (.iload_n 1, 1) := by decide +kernel
theorem dX8_tells_263 : decode cX8_tells 263 = .ok (.iaload, 1) := by decide +kernel
theorem dX8_tells_264 : decode cX8_tells 264 = .ok (.iconst 1, 1) := by decide +kernel
theorem dX8_tells_265 : decode cX8_tells 265 = .ok (.if_icmp .ne 14, 3) := by decide +kernel
theorem dX8_tells_268 : decode cX8_tells 268 = .ok (.lload 13, 2) := by decide +kernel
theorem dX8_tells_270 : decode cX8_tells 270 = .ok (.lload 9, 2) := by decide +kernel
theorem dX8_tells_272 : decode cX8_tells 272 = .ok (.lmul, 1) := by decide +kernel
theorem dX8_tells_273 : decode cX8_tells 273 = .ok (.lload 11, 2) := by decide +kernel
theorem dX8_tells_275 : decode cX8_tells 275 = .ok (.ldiv, 1) := by decide +kernel
theorem dX8_tells_276 : decode cX8_tells 276 = .ok (.goto 34, 3) := by decide +kernel
theorem dX8_tells_279 : decode cX8_tells 279 = .ok (.lload 13, 2) := by decide +kernel
theorem dX8_tells_281 : decode cX8_tells 281 = .ok (.lload 9, 2) := by decide +kernel
theorem dX8_tells_283 : decode cX8_tells 283 = .ok (.lmul, 1) := by decide +kernel
theorem dX8_tells_284 : decode cX8_tells 284 = .ok (.lload 9, 2) := by decide +kernel
theorem dX8_tells_286 : decode cX8_tells 286 = .ok (.lmul, 1) := by decide +kernel
theorem dX8_tells_287 : decode cX8_tells 287 = .ok (.ldc2_w 153, 3) := by decide +kernel
theorem dX8_tells_290 : decode cX8_tells 290 = .ok (.lload 11, 2) := by decide +kernel
theorem dX8_tells_292 : decode cX8_tells 292 = .ok (.lmul, 1) := by decide +kernel
theorem dX8_tells_293 : decode cX8_tells 293 = .ok (.ldc2_w 155, 3) := by decide +kernel
theorem dX8_tells_296 : decode cX8_tells 296 = .ok (.lload 9, 2) := by decide +kernel
theorem dX8_tells_298 : decode cX8_tells 298 = .ok (.lmul, 1) := by decide +kernel
theorem dX8_tells_299 : decode cX8_tells 299 = .ok (.lsub, 1) := by decide +kernel
theorem dX8_tells_300 : decode cX8_tells 300 = .ok (.lmul, 1) := by decide +kernel
theorem dX8_tells_301 : decode cX8_tells 301 = .ok (.lload 11, 2) := by decide +kernel
theorem dX8_tells_303 : decode cX8_tells 303 = .ok (.lload 11, 2) := by decide +kernel
theorem dX8_tells_305 : decode cX8_tells 305 = .ok (.lmul, 1) := by decide +kernel
theorem dX8_tells_306 : decode cX8_tells 306 = .ok (.lload 11, 2) := by decide +kernel
theorem dX8_tells_308 : decode cX8_tells 308 = .ok (.lmul, 1) := by decide +kernel
theorem dX8_tells_309 : decode cX8_tells 309 = .ok (.ldiv, 1) := by decide +kernel
theorem dX8_tells_310 : decode cX8_tells 310 = .ok (.l2i, 1) := by decide +kernel
theorem dX8_tells_311 : decode cX8_tells 311 = .ok (.iadd, 1) := by decide +kernel
theorem dX8_tells_312 : decode cX8_tells 312 = .ok (.ireturn, 1) := by decide +kernel
theorem dX8_trackOf_0 : decode cX8_trackOf 0 = .ok (.iconst 0, 1) := by decide +kernel
theorem dX8_trackOf_1 : decode cX8_trackOf 1 = .ok (.istore_n 3, 1) := by decide +kernel
theorem dX8_trackOf_2 : decode cX8_trackOf 2 = .ok (.iload_n 3, 1) := by decide +kernel
theorem dX8_trackOf_3 : decode cX8_trackOf 3 = .ok (.aload_n 0, 1) := by decide +kernel
theorem dX8_trackOf_4 : decode cX8_trackOf 4 = .ok (.getfield 103, 3) := by decide +kernel
theorem dX8_trackOf_7 : decode cX8_trackOf 7 = .ok (.if_icmp .ge 31, 3) := by decide +kernel
theorem dX8_trackOf_10 : decode cX8_trackOf 10 = .ok (.aload_n 0, 1) := by decide +kernel
theorem dX8_trackOf_11 : decode cX8_trackOf 11 = .ok (.getfield 60, 3) := by decide +kernel
theorem dX8_trackOf_14 : decode cX8_trackOf 14 = .ok (.iload_n 3, 1) := by decide +kernel
theorem dX8_trackOf_15 : decode cX8_trackOf 15 = .ok (.iaload, 1) := by decide +kernel
theorem dX8_trackOf_16 : decode cX8_trackOf 16 = .ok (.iload_n 1, 1) := by decide +kernel
theorem dX8_trackOf_17 : decode cX8_trackOf 17 = .ok (.if_icmp .ne 15, 3) := by decide +kernel
theorem dX8_trackOf_20 : decode cX8_trackOf 20 = .ok (.aload_n 0, 1) := by decide +kernel
theorem dX8_trackOf_21 : decode cX8_trackOf 21 = .ok (.getfield 63, 3) := by decide +kernel
theorem dX8_trackOf_24 : decode cX8_trackOf 24 = .ok (.iload_n 3, 1) := by decide +kernel
theorem dX8_trackOf_25 : decode cX8_trackOf 25 = .ok (.iaload, 1) := by decide +kernel
theorem dX8_trackOf_26 : decode cX8_trackOf 26 = .ok (.iload_n 2, 1) := by decide +kernel
theorem dX8_trackOf_27 : decode cX8_trackOf 27 = .ok (.if_icmp .ne 5, 3) := by decide +kernel
theorem dX8_trackOf_30 : decode cX8_trackOf 30 = .ok (.iload_n 3, 1) := by decide +kernel
theorem dX8_trackOf_31 : decode cX8_trackOf 31 = .ok (.ireturn, 1) := by decide +kernel
theorem dX8_trackOf_32 : decode cX8_trackOf 32 = .ok (.iinc 3 1, 3) := by decide +kernel
theorem dX8_trackOf_35 : decode cX8_trackOf 35 = .ok (.goto (-33), 3) := by decide +kernel
theorem dX8_trackOf_38 : decode cX8_trackOf 38 = .ok (.iconst (-1), 1) := by decide +kernel
theorem dX8_trackOf_39 : decode cX8_trackOf 39 = .ok (.ireturn, 1) := by decide +kernel
theorem dX8_valueAt_0 : decode cX8_valueAt 0 = .ok (.aload_n 0, 1) := by decide +kernel
theorem dX8_valueAt_1 : decode cX8_valueAt 1 = .ok (.iload_n 1, 1) := by decide +kernel
theorem dX8_valueAt_2 : decode cX8_valueAt 2 = .ok (.iload_n 2, 1) := by decide +kernel
theorem dX8_valueAt_3 : decode cX8_valueAt 3 = .ok (.invokevirtual 135, 3) := by decide +kernel
theorem dX8_valueAt_6 : decode cX8_valueAt 6 = .ok (.istore 4, 2) := by decide +kernel
theorem dX8_valueAt_8 : decode cX8_valueAt 8 = .ok (.iload 4, 2) := by decide +kernel
theorem dX8_valueAt_10 : decode cX8_valueAt 10 = .ok (.iconst (-1), 1) := by decide +kernel
theorem dX8_valueAt_11 : decode cX8_valueAt 11 = .ok (.if_icmp .eq 13, 3) := by decide +kernel
theorem dX8_valueAt_14 : decode cX8_valueAt 14 = .ok (.aload_n 0, 1) := by decide +kernel
theorem dX8_valueAt_15 : decode cX8_valueAt 15 = .ok (.getfield 72, 3) := by decide +kernel
theorem dX8_valueAt_18 : decode cX8_valueAt 18 = .ok (.iload 4, 2) := by decide +kernel
theorem dX8_valueAt_20 : decode cX8_valueAt 20 = .ok (.iaload, 1) := by decide +kernel
theorem dX8_valueAt_21 : decode cX8_valueAt 21 = .ok (.ifCond .ne 16, 3) := by decide +kernel
theorem dX8_valueAt_24 : decode cX8_valueAt 24 = .ok (.aload_n 0, 1) := by decide +kernel
theorem dX8_valueAt_25 : decode cX8_valueAt 25 = .ok (.getfield 51, 3) := by decide +kernel
theorem dX8_valueAt_28 : decode cX8_valueAt 28 = .ok (.iload_n 1, 1) := by decide +kernel
theorem dX8_valueAt_29 : decode cX8_valueAt 29 = .ok (.iconst 4, 1) := by decide +kernel
theorem dX8_valueAt_30 : decode cX8_valueAt 30 = .ok (.imul, 1) := by decide +kernel
theorem dX8_valueAt_31 : decode cX8_valueAt 31 = .ok (.iload_n 2, 1) := by decide +kernel
theorem dX8_valueAt_32 : decode cX8_valueAt 32 = .ok (.iadd, 1) := by decide +kernel
theorem dX8_valueAt_33 : decode cX8_valueAt 33 = .ok (.iaload, 1) := by decide +kernel
theorem dX8_valueAt_34 : decode cX8_valueAt 34 = .ok (.goto 10, 3) := by decide +kernel
theorem dX8_valueAt_37 : decode cX8_valueAt 37 = .ok (.aload_n 0, 1) := by decide +kernel
theorem dX8_valueAt_38 : decode cX8_valueAt 38 = .ok (.iload 4, 2) := by decide +kernel
theorem dX8_valueAt_40 : decode cX8_valueAt 40 = .ok (.iload_n 3, 1) := by decide +kernel
theorem dX8_valueAt_41 : decode cX8_valueAt 41 = .ok (.invokevirtual 157, 3) := by decide +kernel
theorem dX8_valueAt_44 : decode cX8_valueAt 44 = .ok (.ireturn, 1) := by decide +kernel
theorem dX8_has_0 : decode cX8_has 0 = .ok (.aload_n 0, 1) := by decide +kernel
theorem dX8_has_1 : decode cX8_has 1 = .ok (.iload_n 1, 1) := by decide +kernel
theorem dX8_has_2 : decode cX8_has 2 = .ok (.iload_n 2, 1) := by decide +kernel
theorem dX8_has_3 : decode cX8_has 3 = .ok (.aload_n 0, 1) := by decide +kernel
theorem dX8_has_4 : decode cX8_has 4 = .ok (.getfield 150, 3) := by decide +kernel
theorem dX8_has_7 : decode cX8_has 7 = .ok (.invokevirtual 160, 3) := by decide +kernel
theorem dX8_has_10 : decode cX8_has 10 = .ok (.ireturn, 1) := by decide +kernel
theorem dX8_down_0 : decode cX8_down 0 = .ok (.aload_n 2, 1) := by decide +kernel
theorem dX8_down_1 : decode cX8_down 1 = .ok (.iconst 0, 1) := by decide +kernel
theorem dX8_down_2 : decode cX8_down 2 = .ok (.laload, 1) := by decide +kernel
theorem dX8_down_3 : decode cX8_down 3 = .ok (.aload_n 0, 1) := by decide +kernel
theorem dX8_down_4 : decode cX8_down 4 = .ok (.iload_n 1, 1) := by decide +kernel
theorem dX8_down_5 : decode cX8_down 5 = .ok (.iconst 0, 1) := by decide +kernel
theorem dX8_down_6 : decode cX8_down 6 = .ok (.invokevirtual 164, 3) := by decide +kernel
theorem dX8_down_9 : decode cX8_down 9 = .ok (.i2l, 1) := by decide +kernel
theorem dX8_down_10 : decode cX8_down 10 = .ok (.aload_n 2, 1) := by decide +kernel
theorem dX8_down_11 : decode cX8_down 11 = .ok (.iconst 2, 1) := by decide +kernel
theorem dX8_down_12 : decode cX8_down 12 = .ok (.laload, 1) := by decide +kernel
theorem dX8_down_13 : decode cX8_down 13 = .ok (.lmul, 1) := by decide +kernel
theorem dX8_down_14 : decode cX8_down 14 = .ok (.lsub, 1) := by decide +kernel
theorem dX8_down_15 : decode cX8_down 15 = .ok (.lstore_n 3, 1) := by decide +kernel
theorem dX8_down_16 : decode cX8_down 16 = .ok (.aload_n 2, 1) := by decide +kernel
theorem dX8_down_17 : decode cX8_down 17 = .ok (.iconst 1, 1) := by decide +kernel
theorem dX8_down_18 : decode cX8_down 18 = .ok (.laload, 1) := by decide +kernel
theorem dX8_down_19 : decode cX8_down 19 = .ok (.aload_n 0, 1) := by decide +kernel
theorem dX8_down_20 : decode cX8_down 20 = .ok (.iload_n 1, 1) := by decide +kernel
theorem dX8_down_21 : decode cX8_down 21 = .ok (.iconst 1, 1) := by decide +kernel
theorem dX8_down_22 : decode cX8_down 22 = .ok (.invokevirtual 164, 3) := by decide +kernel
theorem dX8_down_25 : decode cX8_down 25 = .ok (.i2l, 1) := by decide +kernel
theorem dX8_down_26 : decode cX8_down 26 = .ok (.aload_n 2, 1) := by decide +kernel
theorem dX8_down_27 : decode cX8_down 27 = .ok (.iconst 2, 1) := by decide +kernel
theorem dX8_down_28 : decode cX8_down 28 = .ok (.laload, 1) := by decide +kernel
theorem dX8_down_29 : decode cX8_down 29 = .ok (.lmul, 1) := by decide +kernel
theorem dX8_down_30 : decode cX8_down 30 = .ok (.lsub, 1) := by decide +kernel
theorem dX8_down_31 : decode cX8_down 31 = .ok (.lstore 5, 2) := by decide +kernel
theorem dX8_down_33 : decode cX8_down 33 = .ok (.aload_n 0, 1) := by decide +kernel
theorem dX8_down_34 : decode cX8_down 34 = .ok (.iload_n 1, 1) := by decide +kernel
theorem dX8_down_35 : decode cX8_down 35 = .ok (.iconst 2, 1) := by decide +kernel
theorem dX8_down_36 : decode cX8_down 36 = .ok (.invokevirtual 164, 3) := by decide +kernel
theorem dX8_down_39 : decode cX8_down 39 = .ok (.istore 7, 2) := by decide +kernel
theorem dX8_down_41 : decode cX8_down 41 = .ok (.iload 7, 2) := by decide +kernel
theorem dX8_down_43 : decode cX8_down 43 = .ok (.ifCond .le 20, 3) := by decide +kernel
theorem dX8_down_46 : decode cX8_down 46 = .ok (.lload_n 3, 1) := by decide +kernel
theorem dX8_down_47 : decode cX8_down 47 = .ok (.lstore 8, 2) := by decide +kernel
theorem dX8_down_49 : decode cX8_down 49 = .ok (.lload 5, 2) := by decide +kernel
theorem dX8_down_51 : decode cX8_down 51 = .ok (.lstore_n 3, 1) := by decide +kernel
theorem dX8_down_52 : decode cX8_down 52 = .ok (.lload 8, 2) := by decide +kernel
theorem dX8_down_54 : decode cX8_down 54 = .ok (.lneg, 1) := by decide +kernel
theorem dX8_down_55 : decode cX8_down 55 = .ok (.lstore 5, 2) := by decide +kernel
theorem dX8_down_57 : decode cX8_down 57 = .ok (.iinc 7 (-1), 3) := by decide +kernel
theorem dX8_down_60 : decode cX8_down 60 = .ok (.goto (-19), 3) := by decide +kernel
theorem dX8_down_63 : decode cX8_down 63 = .ok (.aload_n 2, 1) := by decide +kernel
theorem dX8_down_64 : decode cX8_down 64 = .ok (.iconst 0, 1) := by decide +kernel
theorem dX8_down_65 : decode cX8_down 65 = .ok (.lload_n 3, 1) := by decide +kernel
theorem dX8_down_66 : decode cX8_down 66 = .ok (.aload_n 0, 1) := by decide +kernel
theorem dX8_down_67 : decode cX8_down 67 = .ok (.getfield 42, 3) := by decide +kernel
theorem dX8_down_70 : decode cX8_down 70 = .ok (.iload_n 1, 1) := by decide +kernel
theorem dX8_down_71 : decode cX8_down 71 = .ok (.iaload, 1) := by decide +kernel
theorem dX8_down_72 : decode cX8_down 72 = .ok (.i2l, 1) := by decide +kernel
theorem dX8_down_73 : decode cX8_down 73 = .ok (.lmul, 1) := by decide +kernel
theorem dX8_down_74 : decode cX8_down 74 = .ok (.aload_n 0, 1) := by decide +kernel
theorem dX8_down_75 : decode cX8_down 75 = .ok (.getfield 17, 3) := by decide +kernel
theorem dX8_down_78 : decode cX8_down 78 = .ok (.iload_n 1, 1) := by decide +kernel
theorem dX8_down_79 : decode cX8_down 79 = .ok (.baload, 1) := by decide +kernel
theorem dX8_down_80 : decode cX8_down 80 = .ok (.ifCond .eq 7, 3) := by decide +kernel
theorem dX8_down_83 : decode cX8_down 83 = .ok (.iconst (-1), 1) := by decide +kernel
theorem dX8_down_84 : decode cX8_down 84 = .ok (.goto 4, 3) := by decide +kernel
theorem dX8_down_87 : decode cX8_down 87 = .ok (.iconst 1, 1) := by decide +kernel
theorem dX8_down_88 : decode cX8_down 88 = .ok (.i2l, 1) := by decide +kernel
theorem dX8_down_89 : decode cX8_down 89 = .ok (.lmul, 1) := by decide +kernel
theorem dX8_down_90 : decode cX8_down 90 = .ok (.lastore, 1) := by decide +kernel
theorem dX8_down_91 : decode cX8_down 91 = .ok (.aload_n 2, 1) := by decide +kernel
theorem dX8_down_92 : decode cX8_down 92 = .ok (.iconst 1, 1) := by decide +kernel
theorem dX8_down_93 : decode cX8_down 93 = .ok (.lload 5, 2) := by decide +kernel
theorem dX8_down_95 : decode cX8_down 95 = .ok (.aload_n 0, 1) := by decide +kernel
theorem dX8_down_96 : decode cX8_down 96 = .ok (.getfield 42, 3) := by decide +kernel
theorem dX8_down_99 : decode cX8_down 99 = .ok (.iload_n 1, 1) := by decide +kernel
theorem dX8_down_100 : decode cX8_down 100 = .ok (.iaload, 1) := by decide +kernel
theorem dX8_down_101 : decode cX8_down 101 = .ok (.i2l, 1) := by decide +kernel
theorem dX8_down_102 : decode cX8_down 102 = .ok (.lmul, 1) := by decide +kernel
theorem dX8_down_103 : decode cX8_down 103 = .ok (.lastore, 1) := by decide +kernel
theorem dX8_down_104 : decode cX8_down 104 = .ok (.aload_n 2, 1) := by decide +kernel
theorem dX8_down_105 : decode cX8_down 105 = .ok (.iconst 2, 1) := by decide +kernel
theorem dX8_down_106 : decode cX8_down 106 = .ok (.dup2, 1) := by decide +kernel
theorem dX8_down_107 : decode cX8_down 107 = .ok (.laload, 1) := by decide +kernel
theorem dX8_down_108 : decode cX8_down 108 = .ok (.aload_n 0, 1) := by decide +kernel
theorem dX8_down_109 : decode cX8_down 109 = .ok (.getfield 39, 3) := by decide +kernel
theorem dX8_down_112 : decode cX8_down 112 = .ok (.iload_n 1, 1) := by decide +kernel
theorem dX8_down_113 : decode cX8_down 113 = .ok (.iaload, 1) := by decide +kernel
theorem dX8_down_114 : decode cX8_down 114 = .ok (.i2l, 1) := by decide +kernel
theorem dX8_down_115 : decode cX8_down 115 = .ok (.lmul, 1) := by decide +kernel
theorem dX8_down_116 : decode cX8_down 116 = .ok (.lastore, 1) := by decide +kernel
theorem dX8_down_117 : decode cX8_down 117 = .ok (.return_, 1) := by decide +kernel
theorem dX8_downAll_0 : decode cX8_downAll 0 = .ok (.iload_n 1, 1) := by decide +kernel
theorem dX8_downAll_1 : decode cX8_downAll 1 = .ok (.ifCond .ne 4, 3) := by decide +kernel
theorem dX8_downAll_4 : decode cX8_downAll 4 = .ok (.return_, 1) := by decide +kernel
theorem dX8_downAll_5 : decode cX8_downAll 5 = .ok (.aload_n 0, 1) := by decide +kernel
theorem dX8_downAll_6 : decode cX8_downAll 6 = .ok (.aload_n 0, 1) := by decide +kernel
theorem dX8_downAll_7 : decode cX8_downAll 7 = .ok (.getfield 26, 3) := by decide +kernel
theorem dX8_downAll_10 : decode cX8_downAll 10 = .ok (.iload_n 1, 1) := by decide +kernel
theorem dX8_downAll_11 : decode cX8_downAll 11 = .ok (.iaload, 1) := by decide +kernel
theorem dX8_downAll_12 : decode cX8_downAll 12 = .ok (.aload_n 2, 1) := by decide +kernel
theorem dX8_downAll_13 : decode cX8_downAll 13 = .ok (.invokevirtual 174, 3) := by decide +kernel
theorem dX8_downAll_16 : decode cX8_downAll 16 = .ok (.aload_n 0, 1) := by decide +kernel
theorem dX8_downAll_17 : decode cX8_downAll 17 = .ok (.iload_n 1, 1) := by decide +kernel
theorem dX8_downAll_18 : decode cX8_downAll 18 = .ok (.aload_n 2, 1) := by decide +kernel
theorem dX8_downAll_19 : decode cX8_downAll 19 = .ok (.invokevirtual 177, 3) := by decide +kernel
theorem dX8_downAll_22 : decode cX8_downAll 22 = .ok (.return_, 1) := by decide +kernel
theorem dX8_part_0 : decode cX8_part 0 = .ok (.aload_n 0, 1) := by decide +kernel
theorem dX8_part_1 : decode cX8_part 1 = .ok (.iload_n 1, 1) := by decide +kernel
theorem dX8_part_2 : decode cX8_part 2 = .ok (.iconst 2, 1) := by decide +kernel
theorem dX8_part_3 : decode cX8_part 3 = .ok (.idiv, 1) := by decide +kernel
theorem dX8_part_4 : decode cX8_part 4 = .ok (.laload, 1) := by decide +kernel
theorem dX8_part_5 : decode cX8_part 5 = .ok (.lstore_n 2, 1) := by decide +kernel
theorem dX8_part_6 : decode cX8_part 6 = .ok (.aload_n 0, 1) := by decide +kernel
theorem dX8_part_7 : decode cX8_part 7 = .ok (.iconst 2, 1) := by decide +kernel
theorem dX8_part_8 : decode cX8_part 8 = .ok (.laload, 1) := by decide +kernel
theorem dX8_part_9 : decode cX8_part 9 = .ok (.lstore 4, 2) := by decide +kernel
theorem dX8_part_11 : decode cX8_part 11 = .ok (.lload_n 2, 1) := by decide +kernel
theorem dX8_part_12 : decode cX8_part 12 = .ok (.invokestatic 180, 3) := by decide +kernel
theorem dX8_part_15 : decode cX8_part 15 = .ok (.lstore 6, 2) := by decide +kernel
theorem dX8_part_17 : decode cX8_part 17 = .ok (.lload 4, 2) := by decide +kernel
theorem dX8_part_19 : decode cX8_part 19 = .ok (.lstore 8, 2) := by decide +kernel
theorem dX8_part_21 : decode cX8_part 21 = .ok (.lload 6, 2) := by decide +kernel
theorem dX8_part_23 : decode cX8_part 23 = .ok (.lconst 0, 1) := by decide +kernel
theorem dX8_part_24 : decode cX8_part 24 = .ok (.lcmp, 1) := by decide +kernel
theorem dX8_part_25 : decode cX8_part 25 = .ok (.ifCond .eq 21, 3) := by decide +kernel
theorem dX8_part_28 : decode cX8_part 28 = .ok (.lload 8, 2) := by decide +kernel
theorem dX8_part_30 : decode cX8_part 30 = .ok (.lload 6, 2) := by decide +kernel
theorem dX8_part_32 : decode cX8_part 32 = .ok (.lrem, 1) := by decide +kernel
theorem dX8_part_33 : decode cX8_part 33 = .ok (.lstore 10, 2) := by decide +kernel
theorem dX8_part_35 : decode cX8_part 35 = .ok (.lload 6, 2) := by decide +kernel
theorem dX8_part_37 : decode cX8_part 37 = .ok (.lstore 8, 2) := by decide +kernel
theorem dX8_part_39 : decode cX8_part 39 = .ok (.lload 10, 2) := by decide +kernel
theorem dX8_part_41 : decode cX8_part 41 = .ok (.lstore 6, 2) := by decide +kernel
theorem dX8_part_43 : decode cX8_part 43 = .ok (.goto (-22), 3) := by decide +kernel
theorem dX8_part_46 : decode cX8_part 46 = .ok (.iload_n 1, 1) := by decide +kernel
theorem dX8_part_47 : decode cX8_part 47 = .ok (.iconst 2, 1) := by decide +kernel
theorem dX8_part_48 : decode cX8_part 48 = .ok (.irem, 1) := by decide +kernel
theorem dX8_part_49 : decode cX8_part 49 = .ok (.ifCond .ne 10, 3) := by decide +kernel
theorem dX8_part_52 : decode cX8_part 52 = .ok (.lload_n 2, 1) := by decide +kernel
theorem dX8_part_53 : decode cX8_part 53 = .ok (.lload 8, 2) := by decide +kernel
theorem dX8_part_55 : decode cX8_part 55 = .ok (.ldiv, 1) := by decide +kernel
theorem dX8_part_56 : decode cX8_part 56 = .ok (.goto 8, 3) := by decide +kernel
theorem dX8_part_59 : decode cX8_part 59 = .ok (.lload 4, 2) := by decide +kernel
theorem dX8_part_61 : decode cX8_part 61 = .ok (.lload 8, 2) := by decide +kernel
theorem dX8_part_63 : decode cX8_part 63 = .ok (.ldiv, 1) := by decide +kernel
theorem dX8_part_64 : decode cX8_part 64 = .ok (.l2i, 1) := by decide +kernel
theorem dX8_part_65 : decode cX8_part 65 = .ok (.ireturn, 1) := by decide +kernel
theorem dX8_point_0 : decode cX8_point 0 = .ok (.iconst 3, 1) := by decide +kernel
theorem dX8_point_1 : decode cX8_point 1 = .ok (.newarray .long, 2) := by decide +kernel
theorem dX8_point_3 : decode cX8_point 3 = .ok (.dup, 1) := by decide +kernel
theorem dX8_point_4 : decode cX8_point 4 = .ok (.iconst 0, 1) := by decide +kernel
theorem dX8_point_5 : decode cX8_point 5 = .ok (.lload_n 0, 1) := by decide +kernel
theorem dX8_point_6 : decode cX8_point 6 = .ok (.lastore, 1) := by decide +kernel
theorem dX8_point_7 : decode cX8_point 7 = .ok (.dup, 1) := by decide +kernel
theorem dX8_point_8 : decode cX8_point 8 = .ok (.iconst 1, 1) := by decide +kernel
theorem dX8_point_9 : decode cX8_point 9 = .ok (.lload_n 2, 1) := by decide +kernel
theorem dX8_point_10 : decode cX8_point 10 = .ok (.lastore, 1) := by decide +kernel
theorem dX8_point_11 : decode cX8_point 11 = .ok (.dup, 1) := by decide +kernel
theorem dX8_point_12 : decode cX8_point 12 = .ok (.iconst 2, 1) := by decide +kernel
theorem dX8_point_13 : decode cX8_point 13 = .ok (.lload 4, 2) := by decide +kernel
theorem dX8_point_15 : decode cX8_point 15 = .ok (.lastore, 1) := by decide +kernel
theorem dX8_point_16 : decode cX8_point 16 = .ok (.astore 6, 2) := by decide +kernel
theorem dX8_point_18 : decode cX8_point 18 = .ok (.aload 6, 2) := by decide +kernel
theorem dX8_point_20 : decode cX8_point 20 = .ok (.areturn, 1) := by decide +kernel
noncomputable def f_X7_init_L0 (a0 : Option Nat) (h : fSt) : Option (Unit × fSt) := (fobj h a0 7).bind fun b1 => (if (30 : Int32) < 0 ∨ 67000000 < ((30 : Int32)).toNatClampNeg then none else (fnew h (.inr (4, ((30 : Int32)).toNatClampNeg, .inr (.inr (.inr (.inr (fun _ => none)))))) ((30 : Int32)).toNatClampNeg).bind fun r4 => (fput r4.2 a0 7 0 (va_rf (some r4.1))).bind fun h6 => (if (12 : Int32) < 0 ∨ 67000000 < ((12 : Int32)).toNatClampNeg then none else (fnew h6 (.inr (5, ((12 : Int32)).toNatClampNeg, .inr (.inr (.inr (.inr (fun _ => none)))))) ((12 : Int32)).toNatClampNeg).bind fun r9 => (fput r9.2 a0 7 1 (va_rf (some r9.1))).bind fun h11 => (fnew h11 (.inl (4, [.int 0, .int 0, .null, .null, .null, .null, .null, .int 0, .int 0, .int 0, .int 0, .int 0, .null, .int 0, .null, .null, .null, .null, .int 0])) 19).bind fun r13 => (f_X4_init r13.1 (0 : Int32) (0 : Int32) (0 : Int32) (0 : Int32) r13.2).bind fun r15 => (fput r15.2 a0 7 2 (va_rf (some r13.1))).bind fun h17 => (fnew h17 (.inl (5, [.long 0, .long 0, .long 0, .int 0])) 4).bind fun r19 => (f_X5_init r19.1 r19.2).bind fun r21 => (fput r21.2 a0 7 3 (va_rf (some r19.1))).bind fun h23 => (fnew h23 (.inl (0, [.null, .null, .null, .null])) 4).bind fun r25 => (f_X0_init r25.1 r25.2).bind fun r27 => (fput r27.2 a0 7 4 (va_rf (some r25.1))).bind fun h29 => (fgR h29 a0 7 0).bind fun x31 => (fgR h29 a0 7 2).bind fun x33 => (fsR h29 x31 4 4 (0 : Int32) x33).bind fun h35 => (fput h35 a0 7 5 (.int (1 : Int32))).bind fun h37 => (fgR h37 a0 7 2).bind fun x39 => (fput h37 a0 7 8 (va_rf x39)).bind fun h41 => (fput h41 a0 7 9 (.int (1 : Int32))).bind fun h43 => some ((), h43)))
noncomputable def f_X7_init (o : Nat) (h : fSt) : Option (Unit × fSt) := f_X7_init_L0 (some o) h
noncomputable def f_X7_nodes_L0 (a0 : Option Nat) (h : fSt) : Option (Int32 × fSt) := (fgI h a0 7 9).bind fun x1 => some (x1, h)
noncomputable def f_X7_nodes (o : Nat) (h : fSt) : Option (Int32 × fSt) := f_X7_nodes_L0 (some o) h
noncomputable def f_X7_tracks_L0 (a0 : Option Nat) (h : fSt) : Option (Int32 × fSt) := (fgI h a0 7 6).bind fun x1 => some (x1, h)
noncomputable def f_X7_tracks (o : Nat) (h : fSt) : Option (Int32 × fSt) := f_X7_tracks_L0 (some o) h
noncomputable def f_X8_isIn_L15 (s0 : Int32) (h : fSt) : Option (Int32 × fSt) := if s0 = 0 ∨ s0 = 1 then some (s0, h) else none
noncomputable def f_X8_isIn_L14  (h : fSt) : Option (Int32 × fSt) := f_X8_isIn_L15 (0 : Int32) h
noncomputable def f_X8_isIn_L0 (a0 : Int32) (a1 : Int32) (a2 : Int32) (h : fSt) : Option (Int32 × fSt) := (if a0 < a1 then f_X8_isIn_L14 h else (if a2 < a0 then f_X8_isIn_L14 h else f_X8_isIn_L15 (1 : Int32) h))
noncomputable def f_X8_isIn (p0 : Int32) (p1 : Int32) (p2 : Int32) (h : fSt) : Option (Int32 × fSt) := f_X8_isIn_L0 p0 p1 p2 h
noncomputable def f_X8_isNode_L28 (s0 : Int32) (h : fSt) : Option (Int32 × fSt) := if s0 = 0 ∨ s0 = 1 then some (s0, h) else none
noncomputable def f_X8_isNode_L27  (h : fSt) : Option (Int32 × fSt) := f_X8_isNode_L28 (0 : Int32) h
noncomputable def f_X8_isNode_L0 (a0 : Option Nat) (a1 : Int32) (h : fSt) : Option (Int32 × fSt) := (fgI h a0 8 1).bind fun x2 => (f_X8_isIn a1 (0 : Int32) (x2 - (1 : Int32)) h).bind fun r4 => (if r4.1 = 0 then f_X8_isNode_L27 r4.2 else (fgR r4.2 a0 8 2).bind fun x7 => (faI r4.2 x7 2 a1).bind fun x9 => (if x9 = 0 then f_X8_isNode_L28 (1 : Int32) r4.2 else f_X8_isNode_L27 r4.2))
noncomputable def f_X8_isNode (o : Nat) (p0 : Int32) (h : fSt) : Option (Int32 × fSt) := f_X8_isNode_L0 (some o) p0 h
noncomputable def f_X8_levelNow_L9 (n : Nat) : Option Nat → Int32 → Int32 → fSt → Option (Int32 × fSt) := Nat.rec (motive := fun _ => Option Nat → Int32 → Int32 → fSt → Option (Int32 × fSt)) (fun _ _ _ _ => none) (fun _ k9 (a0 : Option Nat) (a2 : Int32) (a3 : Int32) (h : fSt) => (if a3 = (-1 : Int32) then some (a2, h) else (fgR h a0 8 6).bind fun x2 => (faI h x2 0 a3).bind fun x4 => k9 a0 (a2 + (1 : Int32)) x4 h)) n
noncomputable def f_X8_levelNow_L0 (a0 : Option Nat) (a1 : Int32) (h : fSt) : Option (Int32 × fSt) := (fgR h a0 8 6).bind fun x6 => (faI h x6 0 a1).bind fun x8 => f_X8_levelNow_L9 4096 a0 (0 : Int32) x8 h
noncomputable def f_X8_levelNow (o : Nat) (p0 : Int32) (h : fSt) : Option (Int32 × fSt) := f_X8_levelNow_L0 (some o) p0 h
noncomputable def f_X8_no_L0 (a0 : Option Nat) (a1 : Int32) (h : fSt) : Option (Int32 × fSt) := (fput h a0 8 0 (.int a1)).bind fun h1 => some ((0 : Int32), h1)
noncomputable def f_X8_no (o : Nat) (p0 : Int32) (h : fSt) : Option (Int32 × fSt) := f_X8_no_L0 (some o) p0 h
noncomputable def f_X8_add_L55 (a0 : Option Nat) (h : fSt) : Option (Int32 × fSt) := (fobj h a0 8).bind fun b3 => (f_X8_no b3 (2 : Int32) h).bind fun r1 => some (r1.1, r1.2)
noncomputable def f_X8_add_L79 (a0 : Option Nat) (h : fSt) : Option (Int32 × fSt) := (fobj h a0 8).bind fun b7 => (f_X8_no b7 (3 : Int32) h).bind fun r5 => some (r5.1, r5.2)
noncomputable def f_X8_add_L61 (a0 : Option Nat) (a1 : Int32) (a2 : Int32) (a3 : Int32) (a4 : Int32) (h : fSt) : Option (Int32 × fSt) := (fgI h a0 8 1).bind fun x9 => (if x9 = (30 : Int32) then f_X8_add_L79 a0 h else (fobj h a0 8).bind fun b14 => (f_X8_levelNow b14 a1 h).bind fun r12 => (if r12.1 = (4 : Int32) then f_X8_add_L79 a0 r12.2 else (fgR r12.2 a0 8 6).bind fun x17 => (fgI r12.2 a0 8 1).bind fun x19 => (fsI r12.2 x17 0 x19 a1).bind fun h21 => (fgR h21 a0 8 7).bind fun x23 => (fgI h21 a0 8 1).bind fun x25 => (fsI h21 x23 0 x25 a2).bind fun h27 => (fgR h27 a0 8 8).bind fun x29 => (fgI h27 a0 8 1).bind fun x31 => (fsI h27 x29 0 x31 a3).bind fun h33 => (fgR h33 a0 8 9).bind fun x35 => (fgI h33 a0 8 1).bind fun x37 => (fsI h33 x35 0 x37 a4).bind fun h39 => (fgR h39 a0 8 13).bind fun x41 => (fgI h39 a0 8 1).bind fun x43 => (fgI h39 a0 8 16).bind fun x45 => (fput h39 a0 8 16 (.int (x45 + (1 : Int32)))).bind fun h47 => (fsI h47 x41 0 x43 x45).bind fun h49 => (fgI h49 a0 8 1).bind fun x51 => (fput h49 a0 8 1 (.int (x51 + (1 : Int32)))).bind fun h53 => some (x51, h53)))
noncomputable def f_X8_add_L0 (a0 : Option Nat) (a1 : Int32) (a2 : Int32) (a3 : Int32) (a4 : Int32) (h : fSt) : Option (Int32 × fSt) := (fput h a0 8 0 (.int (0 : Int32))).bind fun h55 => (fobj h55 a0 8).bind fun b59 => (f_X8_isNode b59 a1 h55).bind fun r57 => (if r57.1 = 0 then (fobj r57.2 a0 8).bind fun b74 => (f_X8_no b74 (1 : Int32) r57.2).bind fun r72 => some (r72.1, r72.2) else (f_X8_isIn a2 (0 : Int32) (2 : Int32) r57.2).bind fun r62 => (if r62.1 = 0 then f_X8_add_L55 a0 r62.2 else (if a2 = 0 then f_X8_add_L61 a0 a1 a2 a3 a4 r62.2 else (f_X8_isIn a3 (1 : Int32) (200 : Int32) r62.2).bind fun r66 => (if r66.1 = 0 then f_X8_add_L55 a0 r66.2 else (f_X8_isIn a4 (1 : Int32) (200 : Int32) r66.2).bind fun r69 => (if r69.1 = 0 then f_X8_add_L55 a0 r69.2 else f_X8_add_L61 a0 a1 a2 a3 a4 r69.2)))))
noncomputable def f_X8_add (o : Nat) (p0 : Int32) (p1 : Int32) (p2 : Int32) (p3 : Int32) (h : fSt) : Option (Int32 × fSt) := f_X8_add_L0 (some o) p0 p1 p2 p3 h
noncomputable def f_X8_ok_L0 (a0 : Option Nat) (a1 : Int32) (h : fSt) : Option (Int32 × fSt) := (fput h a0 8 0 (.int (0 : Int32))).bind fun h1 => some (a1, h1)
noncomputable def f_X8_ok (o : Nat) (p0 : Int32) (h : fSt) : Option (Int32 × fSt) := f_X8_ok_L0 (some o) p0 h
noncomputable def f_X8_added_L0 (a0 : Option Nat) (h : fSt) : Option (Int32 × fSt) := (fgI h a0 8 1).bind fun x1 => (fobj h a0 8).bind fun b5 => (f_X8_ok b5 x1 h).bind fun r3 => some (r3.1, r3.2)
noncomputable def f_X8_added (o : Nat) (h : fSt) : Option (Int32 × fSt) := f_X8_added_L0 (some o) h
noncomputable def f_X8_asked_L47 (s0 : Int32) (h : fSt) : Option (Int32 × fSt) := some (s0, h)
noncomputable def f_X8_asked_L46  (h : fSt) : Option (Int32 × fSt) := f_X8_asked_L47 (2 : Int32) h
noncomputable def f_X8_asked_L0 (a1 : Int32) (a2 : Int32) (a3 : Int32) (a4 : Int32) (h : fSt) : Option (Int32 × fSt) := (if a1 = 0 then some ((1 : Int32), h) else (f_X8_isIn a2 (-1000 : Int32) (1000 : Int32) h).bind fun r2 => (if r2.1 = 0 then f_X8_asked_L46 r2.2 else (f_X8_isIn a3 (-1000 : Int32) (1000 : Int32) r2.2).bind fun r5 => (if r5.1 = 0 then f_X8_asked_L46 r5.2 else (f_X8_isIn a4 (0 : Int32) (3 : Int32) r5.2).bind fun r8 => (if r8.1 = 0 then f_X8_asked_L46 r8.2 else f_X8_asked_L47 (0 : Int32) r8.2))))
noncomputable def f_X8_asked (o : Nat) (p0 : Int32) (p1 : Int32) (p2 : Int32) (p3 : Int32) (h : fSt) : Option (Int32 × fSt) := f_X8_asked_L0 p0 p1 p2 p3 h
noncomputable def f_X8_tells_L50 (a0 : Option Nat) (a3 : Int32) (h : fSt) : Option (Int32 × fSt) := (fgR h a0 8 24).bind fun x1 => (faI h x1 0 a3).bind fun x3 => some (x3, h)
noncomputable def f_X8_tells_L190 (a0 : Option Nat) (a8 : Int32) (h : fSt) : Option (Int32 × fSt) := (fgR h a0 8 24).bind fun x5 => (faI h x5 0 a8).bind fun x7 => some (x7, h)
noncomputable def f_X8_tells_L310 (s1 : Int64) (s0 : Int32) (h : fSt) : Option (Int32 × fSt) := some ((s0 + (Int64.toInt32 s1)), h)
noncomputable def f_X8_tells_L151 (n : Nat) : Option Nat → Int32 → Int32 → Int32 → fSt → Option (Int32 × fSt) := Nat.rec (motive := fun _ => Option Nat → Int32 → Int32 → Int32 → fSt → Option (Int32 × fSt)) (fun _ _ _ _ _ => none) (fun _ k151 (a0 : Option Nat) (a1 : Int32) (a7 : Int32) (a8 : Int32) (h : fSt) => (fgR h a0 8 23).bind fun x9 => (faI h x9 0 a8).bind fun x11 => (if x11 ≤ a7 then (fgR h a0 8 23).bind fun x14 => (faI h x14 0 a8).bind fun x16 => (if x16 = a7 then f_X8_tells_L190 a0 a8 h else (fgR h a0 8 20).bind fun x19 => (faI h x19 0 a1).bind fun x21 => (if x21 = 0 then f_X8_tells_L190 a0 a8 h else (fgR h a0 8 23).bind fun x24 => (faI h x24 0 a8).bind fun x26 => (fgR h a0 8 23).bind fun x28 => (faI h x28 0 (a8 + (1 : Int32))).bind fun x30 => (fgR h a0 8 23).bind fun x32 => (faI h x32 0 a8).bind fun x34 => (fgR h a0 8 24).bind fun x36 => (faI h x36 0 (a8 + (1 : Int32))).bind fun x38 => (fgR h a0 8 24).bind fun x40 => (faI h x40 0 a8).bind fun x42 => (fgR h a0 8 24).bind fun x44 => (faI h x44 0 a8).bind fun x46 => (fgR h a0 8 20).bind fun x48 => (faI h x48 0 a1).bind fun x50 => (if x50 = (1 : Int32) then (if (Int32.toInt64 (x30 - x34)) = 0 then none else f_X8_tells_L310 (((Int32.toInt64 (x38 - x42)) * (Int32.toInt64 (a7 - x26))) / (Int32.toInt64 (x30 - x34))) x46 h) else (if (((Int32.toInt64 (x30 - x34)) * (Int32.toInt64 (x30 - x34))) * (Int32.toInt64 (x30 - x34))) = 0 then none else f_X8_tells_L310 (((((Int32.toInt64 (x38 - x42)) * (Int32.toInt64 (a7 - x26))) * (Int32.toInt64 (a7 - x26))) * (((3 : Int64) * (Int32.toInt64 (x30 - x34))) - ((2 : Int64) * (Int32.toInt64 (a7 - x26))))) / (((Int32.toInt64 (x30 - x34)) * (Int32.toInt64 (x30 - x34))) * (Int32.toInt64 (x30 - x34)))) x46 h)))) else k151 a0 a1 a7 (a8 + (-1 : Int32)) h)) n
noncomputable def f_X8_tells_L147 (a0 : Option Nat) (a1 : Int32) (a4 : Int32) (a7 : Int32) (h : fSt) : Option (Int32 × fSt) := f_X8_tells_L151 4096 a0 a1 a7 a4 h
noncomputable def f_X8_tells_L145 (a0 : Option Nat) (a1 : Int32) (a4 : Int32) (s0 : Int32) (h : fSt) : Option (Int32 × fSt) := f_X8_tells_L147 a0 a1 a4 s0 h
noncomputable def f_X8_tells_L111 (a0 : Option Nat) (a1 : Int32) (a4 : Int32) (a5 : Int32) (a6 : Int32) (s1 : Int32) (s0 : Int32) (h : fSt) : Option (Int32 × fSt) := (if s1 = 0 then none else (if (a6 - a5) < (s0 - s0 / s1 * s1) then f_X8_tells_L145 a0 a1 a4 ((a5 + ((2 : Int32) * (a6 - a5))) - (s0 - s0 / s1 * s1)) h else f_X8_tells_L145 a0 a1 a4 (a5 + (s0 - s0 / s1 * s1)) h))
noncomputable def f_X8_tells_L0 (a0 : Option Nat) (a1 : Int32) (a2 : Int32) (h : fSt) : Option (Int32 × fSt) := (fgR h a0 8 22).bind fun x57 => (faI h x57 0 a1).bind fun x59 => (fgR h a0 8 23).bind fun x61 => (faI h x61 0 (a1 * (8 : Int32))).bind fun x63 => (fgR h a0 8 23).bind fun x65 => (faI h x65 0 (((a1 * (8 : Int32)) + x59) - (1 : Int32))).bind fun x67 => (if a2 ≤ x63 then f_X8_tells_L50 a0 (a1 * (8 : Int32)) h else (if (a1 * (8 : Int32)) = (((a1 * (8 : Int32)) + x59) - (1 : Int32)) then f_X8_tells_L50 a0 (a1 * (8 : Int32)) h else (if a2 ≤ x67 then f_X8_tells_L147 a0 a1 (((a1 * (8 : Int32)) + x59) - (1 : Int32)) a2 h else (fgR h a0 8 21).bind fun x72 => (faI h x72 0 a1).bind fun x74 => (if x74 = 0 then (fgR h a0 8 24).bind fun x82 => (faI h x82 0 (((a1 * (8 : Int32)) + x59) - (1 : Int32))).bind fun x84 => some (x84, h) else (fgR h a0 8 21).bind fun x77 => (faI h x77 0 a1).bind fun x79 => (if x79 = (1 : Int32) then f_X8_tells_L111 a0 a1 (((a1 * (8 : Int32)) + x59) - (1 : Int32)) x63 x67 (x67 - x63) (a2 - x63) h else f_X8_tells_L111 a0 a1 (((a1 * (8 : Int32)) + x59) - (1 : Int32)) x63 x67 ((2 : Int32) * (x67 - x63)) (a2 - x63) h)))))
noncomputable def f_X8_tells (o : Nat) (p0 : Int32) (p1 : Int32) (h : fSt) : Option (Int32 × fSt) := f_X8_tells_L0 (some o) p0 p1 h
noncomputable def f_X8_trackOf_L32 (k2 : Option Nat → Int32 → Int32 → Int32 → fSt → Option (Int32 × fSt)) (a0 : Option Nat) (a1 : Int32) (a2 : Int32) (a3 : Int32) (h : fSt) : Option (Int32 × fSt) := k2 a0 a1 a2 (a3 + (1 : Int32)) h
noncomputable def f_X8_trackOf_L2 (n : Nat) : Option Nat → Int32 → Int32 → Int32 → fSt → Option (Int32 × fSt) := Nat.rec (motive := fun _ => Option Nat → Int32 → Int32 → Int32 → fSt → Option (Int32 × fSt)) (fun _ _ _ _ _ => none) (fun _ k2 (a0 : Option Nat) (a1 : Int32) (a2 : Int32) (a3 : Int32) (h : fSt) => (fgI h a0 8 17).bind fun x1 => (if x1 ≤ a3 then some ((-1 : Int32), h) else (fgR h a0 8 18).bind fun x4 => (faI h x4 0 a3).bind fun x6 => (if x6 = a1 then (fgR h a0 8 19).bind fun x9 => (faI h x9 0 a3).bind fun x11 => (if x11 = a2 then some (a3, h) else f_X8_trackOf_L32 k2 a0 a1 a2 a3 h) else f_X8_trackOf_L32 k2 a0 a1 a2 a3 h))) n
noncomputable def f_X8_trackOf_L0 (a0 : Option Nat) (a1 : Int32) (a2 : Int32) (h : fSt) : Option (Int32 × fSt) := f_X8_trackOf_L2 4096 a0 a1 a2 (0 : Int32) h
noncomputable def f_X8_trackOf (o : Nat) (p0 : Int32) (p1 : Int32) (h : fSt) : Option (Int32 × fSt) := f_X8_trackOf_L0 (some o) p0 p1 h
noncomputable def f_X8_valueAt_L44 (s0 : Int32) (h : fSt) : Option (Int32 × fSt) := some (s0, h)
noncomputable def f_X8_valueAt_L24 (a0 : Option Nat) (a1 : Int32) (a2 : Int32) (h : fSt) : Option (Int32 × fSt) := (fgR h a0 8 14).bind fun x1 => (faI h x1 0 ((a1 * (4 : Int32)) + a2)).bind fun x3 => f_X8_valueAt_L44 x3 h
noncomputable def f_X8_valueAt_L0 (a0 : Option Nat) (a1 : Int32) (a2 : Int32) (a3 : Int32) (h : fSt) : Option (Int32 × fSt) := (fobj h a0 8).bind fun b7 => (f_X8_trackOf b7 a1 a2 h).bind fun r5 => (if r5.1 = (-1 : Int32) then f_X8_valueAt_L24 a0 a1 a2 r5.2 else (fgR r5.2 a0 8 22).bind fun x10 => (faI r5.2 x10 0 r5.1).bind fun x12 => (if x12 = 0 then f_X8_valueAt_L24 a0 a1 a2 r5.2 else (fobj r5.2 a0 8).bind fun b17 => (f_X8_tells b17 r5.1 a3 r5.2).bind fun r15 => f_X8_valueAt_L44 r15.1 r15.2))
noncomputable def f_X8_valueAt (o : Nat) (p0 : Int32) (p1 : Int32) (p2 : Int32) (h : fSt) : Option (Int32 × fSt) := f_X8_valueAt_L0 (some o) p0 p1 p2 h
noncomputable def f_X8_has_L0 (a0 : Option Nat) (a1 : Int32) (a2 : Int32) (h : fSt) : Option (Int32 × fSt) := (fgI h a0 8 25).bind fun x1 => (fobj h a0 8).bind fun b5 => (f_X8_valueAt b5 a1 a2 x1 h).bind fun r3 => some (r3.1, r3.2)
noncomputable def f_X8_has (o : Nat) (p0 : Int32) (p1 : Int32) (h : fSt) : Option (Int32 × fSt) := f_X8_has_L0 (some o) p0 p1 h
noncomputable def f_X8_down_L88 (a0 : Option Nat) (a1 : Int32) (a2 : Option Nat) (a5 : Int64) (s3 : Int32) (s2 : Int64) (s1 : Int32) (s0 : Option Nat) (h : fSt) : Option (Unit × fSt) := (fsJ h s0 1 s1 (s2 * (Int32.toInt64 s3))).bind fun h1 => (fgR h1 a0 8 11).bind fun x3 => (faI h1 x3 0 a1).bind fun x5 => (fsJ h1 a2 1 (1 : Int32) (a5 * (Int32.toInt64 x5))).bind fun h7 => (faJ h7 a2 1 (2 : Int32)).bind fun x9 => (fgR h7 a0 8 10).bind fun x11 => (faI h7 x11 0 a1).bind fun x13 => (fsJ h7 a2 1 (2 : Int32) (x9 * (Int32.toInt64 x13))).bind fun h15 => some ((), h15)
noncomputable def f_X8_down_L41 (n : Nat) : Option Nat → Int32 → Option Nat → Int64 → Int64 → Int32 → fSt → Option (Unit × fSt) := Nat.rec (motive := fun _ => Option Nat → Int32 → Option Nat → Int64 → Int64 → Int32 → fSt → Option (Unit × fSt)) (fun _ _ _ _ _ _ _ => none) (fun _ k41 (a0 : Option Nat) (a1 : Int32) (a2 : Option Nat) (a3 : Int64) (a5 : Int64) (a7 : Int32) (h : fSt) => (if a7 ≤ 0 then (fgR h a0 8 11).bind fun x18 => (faI h x18 0 a1).bind fun x20 => (fgR h a0 8 3).bind fun x22 => (faI h x22 2 a1).bind fun x24 => (if x24 = 0 then f_X8_down_L88 a0 a1 a2 a5 (1 : Int32) (a3 * (Int32.toInt64 x20)) (0 : Int32) a2 h else f_X8_down_L88 a0 a1 a2 a5 (-1 : Int32) (a3 * (Int32.toInt64 x20)) (0 : Int32) a2 h) else k41 a0 a1 a2 a5 (-a3) (a7 + (-1 : Int32)) h)) n
noncomputable def f_X8_down_L0 (a0 : Option Nat) (a1 : Int32) (a2 : Option Nat) (h : fSt) : Option (Unit × fSt) := (faJ h a2 1 (0 : Int32)).bind fun x27 => (fobj h a0 8).bind fun b31 => (f_X8_has b31 a1 (0 : Int32) h).bind fun r29 => (faJ r29.2 a2 1 (2 : Int32)).bind fun x33 => (faJ r29.2 a2 1 (1 : Int32)).bind fun x35 => (fobj r29.2 a0 8).bind fun b39 => (f_X8_has b39 a1 (1 : Int32) r29.2).bind fun r37 => (faJ r37.2 a2 1 (2 : Int32)).bind fun x41 => (fobj r37.2 a0 8).bind fun b45 => (f_X8_has b45 a1 (2 : Int32) r37.2).bind fun r43 => f_X8_down_L41 4096 a0 a1 a2 (x27 - ((Int32.toInt64 r29.1) * x33)) (x35 - ((Int32.toInt64 r37.1) * x41)) r43.1 r43.2
noncomputable def f_X8_down (o : Nat) (p0 : Int32) (p1 : Option Nat) (h : fSt) : Option (Unit × fSt) := f_X8_down_L0 (some o) p0 p1 h
noncomputable def f_X8_downAll_L0 (self : Nat → Int32 → Option Nat → fSt → Option (Unit × fSt)) (a0 : Option Nat) (a1 : Int32) (a2 : Option Nat) (h : fSt) : Option (Unit × fSt) := (if a1 = 0 then some ((), h) else (fgR h a0 8 6).bind fun x2 => (faI h x2 0 a1).bind fun x4 => (fobj h a0 8).bind fun b8 => (self b8 x4 a2 h).bind fun r6 => (fobj r6.2 a0 8).bind fun b12 => (f_X8_down b12 a1 a2 r6.2).bind fun r10 => some ((), r10.2))
noncomputable def f_X8_downAll (d : Nat) : Nat → Int32 → Option Nat → fSt → Option (Unit × fSt) := Nat.rec (motive := fun _ => Nat → Int32 → Option Nat → fSt → Option (Unit × fSt)) (fun _ _ _ _ => none) (fun _ self (o : Nat) (p0 : Int32) (p1 : Option Nat) (h : fSt) => f_X8_downAll_L0 self (some o) p0 p1 h) d
noncomputable def f_X8_part_L64 (s0 : Int64) (h : fSt) : Option (Int32 × fSt) := some ((Int64.toInt32 s0), h)
noncomputable def f_X8_part_L21 (n : Nat) : Int32 → Int64 → Int64 → Int64 → Int64 → fSt → Option (Int32 × fSt) := Nat.rec (motive := fun _ => Int32 → Int64 → Int64 → Int64 → Int64 → fSt → Option (Int32 × fSt)) (fun _ _ _ _ _ _ => none) (fun _ k21 (a1 : Int32) (a2 : Int64) (a4 : Int64) (a6 : Int64) (a8 : Int64) (h : fSt) => (if a6 = (0 : Int64) then (if (a1 - a1 / (2 : Int32) * (2 : Int32)) = 0 then (if a8 = 0 then none else f_X8_part_L64 (a2 / a8) h) else (if a8 = 0 then none else f_X8_part_L64 (a4 / a8) h)) else (if a6 = 0 then none else k21 a1 a2 a4 (a8 - a8 / a6 * a6) a6 h))) n
noncomputable def f_X8_part_L0 (a0 : Option Nat) (a1 : Int32) (h : fSt) : Option (Int32 × fSt) := (faJ h a0 1 (a1 / (2 : Int32))).bind fun x6 => (faJ h a0 1 (2 : Int32)).bind fun x8 => f_X8_part_L21 4096 a1 x6 x8 (if 0 < x6 then x6 else -x6) x8 h
noncomputable def f_X8_part (p0 : Option Nat) (p1 : Int32) (h : fSt) : Option (Int32 × fSt) := f_X8_part_L0 p0 p1 h
noncomputable def f_X8_point_L0 (a0 : Int64) (a2 : Int64) (a4 : Int64) (h : fSt) : Option (Option Nat × fSt) := (if (3 : Int32) < 0 ∨ 67000000 < ((3 : Int32)).toNatClampNeg then none else (fnew h (.inr (1, ((3 : Int32)).toNatClampNeg, .inr (.inl (fun _ => 0)))) ((3 : Int32)).toNatClampNeg).bind fun r2 => (fsJ r2.2 (some r2.1) 1 (0 : Int32) a0).bind fun h4 => (fsJ h4 (some r2.1) 1 (1 : Int32) a2).bind fun h6 => (fsJ h6 (some r2.1) 1 (2 : Int32) a4).bind fun h8 => some ((some r2.1), h8))
noncomputable def f_X8_point (p0 : Int64) (p1 : Int64) (p2 : Int64) (h : fSt) : Option (Option Nat × fSt) := f_X8_point_L0 p0 p1 p2 h
set_option maxHeartbeats 4000000 in
set_option maxRecDepth 100000 in
theorem w_X7_init_L0 {p : Program} {l : Launch} {e : Env} {s : State} {m : MethodId} {args : Array Value} {below : List Frame} {meth : Method} {c : Code} {D : va_G} {cA : Nat → ClassId} {h0 : fSt} {r : (Unit × fSt)} (M : fM p s m args meth c D cA h0 { frames := 3, cells := fCB h0 - fZ h0, slots := fLB h0 - fL h0, locals := 68 } cX7_init 1 none RX7) (hfl : l.stackTraces = false) (hnm : meth.name = "<init>") (a0 : Option Nat) (h : fSt) (hf : f_X7_init_L0 a0 h = some r) : ∀ (H : Heap) (locs : List Loc) (cells slots : Nat) (ls : Array Slot), fCur D cA s h0 h H locs → lv_has ls 1 [(0, va_rf a0)] → W p l e { frames := 3, cells := fCB h0 - fZ h0, slots := fLB h0 - fL h0, locals := 68 } s m args below meth c H locs cells slots (MQ below (fQ D cA h0 r.2 none) args s (fCB h0 - fZ h0) (fLB h0 - fL h0) (fA h0)) (F0 m 0 ls []) := by
  obtain ⟨hx, hb, hml, hr, hlocks, hts, hown, K, hR⟩ := id M
  intro H locs cells slots ls hC hl
  refine fr_aload_n hx hb dX7_init_0 rfl (lv_at hl 0 rfl) ?_
  obtain ⟨b1, q2, hf⟩ := obind hf
  refine fr_objInit hx hb hml hts hown kw77 kw78 kw79 hl.1 (fobj_inv q2).1 dX7_init_1 (by exact Nat.le_of_ble_eq_true rfl) (catL _ _ (by exact Nat.le_of_ble_eq_true rfl) (by exact Nat.le_of_ble_eq_true rfl)) ?_
  refine fr_aload_n hx hb dX7_init_4 rfl (lv_at hl 0 rfl) ?_
  refine lv_bipush (v := (30 : Int32)) hx hb dX7_init_5 (by decide) ?_
  by_cases c3 : (30 : Int32) < 0 ∨ 67000000 < ((30 : Int32)).toNatClampNeg
  · exact nomatch (opos c3 hf)
  obtain ⟨r4, g5, hf⟩ := obind (oneg c3 hf)
  refine fr_newqN hx hb hts hown K hC hR (t := 4) rfl kw80 kn81 (fun z => c3 (Or.inl z)) g5 (newa_b (fun z => c3 (Or.inr z)) (Nat.le_of_ble_eq_true rfl)) dX7_init_7 (fun H _ _ hC => ?_)
  obtain ⟨h6, g7, hf⟩ := obind hf
  refine fr_putF hx hb hts hown K hC ct_7 g7 (by decide) kw290 rfl rfl hnm rfl (nAr _ _) (fAr _ _) dX7_init_10 (fun H locs hC => ?_)
  refine fr_aload_n hx hb dX7_init_13 rfl (lv_at hl 0 rfl) ?_
  refine lv_bipush (v := (12 : Int32)) hx hb dX7_init_14 (by decide) ?_
  by_cases c8 : (12 : Int32) < 0 ∨ 67000000 < ((12 : Int32)).toNatClampNeg
  · exact nomatch (opos c8 hf)
  obtain ⟨r9, g10, hf⟩ := obind (oneg c8 hf)
  refine fr_newqN hx hb hts hown K hC hR (t := 5) rfl kw82 kn83 (fun z => c8 (Or.inl z)) g10 (newa_b (fun z => c8 (Or.inr z)) (Nat.le_of_ble_eq_true rfl)) dX7_init_16 (fun H _ _ hC => ?_)
  obtain ⟨h11, g12, hf⟩ := obind hf
  refine fr_putF hx hb hts hown K hC ct_7 g12 (by decide) kw291 rfl rfl hnm rfl (nAr _ _) (fAr _ _) dX7_init_19 (fun H locs hC => ?_)
  refine fr_aload_n hx hb dX7_init_22 rfl (lv_at hl 0 rfl) ?_
  obtain ⟨r13, g14, hf⟩ := obind hf
  refine fr_new hx hb hts hown K hC ct_4 hR g14 dv_4 kw80 kw84 kw56 dX7_init_23 (fun H _ _ hC => ?_)
  refine lv_dup hx hb dX7_init_26 (va_rf_cat _) ?_
  refine lv_iconst (v := (0 : Int32)) hx hb dX7_init_27 (by decide) ?_
  refine lv_iconst (v := (0 : Int32)) hx hb dX7_init_28 (by decide) ?_
  refine lv_iconst (v := (0 : Int32)) hx hb dX7_init_29 (by decide) ?_
  refine lv_iconst (v := (0 : Int32)) hx hb dX7_init_30 (by decide) ?_
  obtain ⟨r15, g16, hf⟩ := obind hf
  refine fr_callI hx hb hml hts hown K hC hR (c_X4_init hfl D cA g16) 4 kw87 kw85 kw86 kw56 rfl (by decide +kernel) ⟨by exact Nat.le_of_ble_eq_true rfl, by exact Nat.le_of_ble_eq_true rfl⟩ rfl hl.1 (cat8 _ (by exact Nat.le_of_ble_eq_true rfl)) dX7_init_31 rfl (fun H locs _ _ hC => ?_)
  obtain ⟨h17, g18, hf⟩ := obind hf
  refine fr_putF hx hb hts hown K hC ct_7 g18 (by decide) kw292 rfl rfl hnm rfl (nR _ _) (fR _ _) dX7_init_34 (fun H locs hC => ?_)
  refine fr_aload_n hx hb dX7_init_37 rfl (lv_at hl 0 rfl) ?_
  obtain ⟨r19, g20, hf⟩ := obind hf
  refine fr_new hx hb hts hown K hC ct_5 hR g20 dv_5 kw230 kw231 kw59 dX7_init_38 (fun H _ _ hC => ?_)
  refine lv_dup hx hb dX7_init_41 (va_rf_cat _) ?_
  obtain ⟨r21, g22, hf⟩ := obind hf
  refine fr_callIN hx hb hml hts hown K hC hR (c_X5_init hfl D cA g22) 0 kw234 kn232 kw233 kw59 rfl (by decide +kernel) ⟨by exact Nat.le_of_ble_eq_true rfl, by exact Nat.le_of_ble_eq_true rfl⟩ rfl hl.1 (cat8 _ (by exact Nat.le_of_ble_eq_true rfl)) dX7_init_42 rfl (fun H locs _ _ hC => ?_)
  obtain ⟨h23, g24, hf⟩ := obind hf
  refine fr_putF hx hb hts hown K hC ct_7 g24 (by decide) kw293 rfl rfl hnm rfl (nR _ _) (fR _ _) dX7_init_45 (fun H locs hC => ?_)
  refine fr_aload_n hx hb dX7_init_48 rfl (lv_at hl 0 rfl) ?_
  obtain ⟨r25, g26, hf⟩ := obind hf
  refine fr_new hx hb hts hown K hC ct_0 hR g26 dv_0 kw256 kw257 kw60 dX7_init_49 (fun H _ _ hC => ?_)
  refine lv_dup hx hb dX7_init_52 (va_rf_cat _) ?_
  obtain ⟨r27, g28, hf⟩ := obind hf
  refine fr_callIN hx hb hml hts hown K hC hR (c_X0_init hfl D cA g28) 0 kw260 kn258 kw259 kw60 rfl (by decide +kernel) ⟨by exact Nat.le_of_ble_eq_true rfl, by exact Nat.le_of_ble_eq_true rfl⟩ rfl hl.1 (cat8 _ (by exact Nat.le_of_ble_eq_true rfl)) dX7_init_53 rfl (fun H locs _ _ hC => ?_)
  obtain ⟨h29, g30, hf⟩ := obind hf
  refine fr_putF hx hb hts hown K hC ct_7 g30 (by decide) kw294 rfl rfl hnm rfl (nR _ _) (fR _ _) dX7_init_56 (fun H locs hC => ?_)
  refine fr_aload_n hx hb dX7_init_59 rfl (lv_at hl 0 rfl) ?_
  obtain ⟨x31, g32, hf⟩ := obind hf
  refine fr_get hx hb hts hown K hC ct_7 (fgR_get g32) (by decide) kw290 rfl dX7_init_60 ?_
  refine lv_iconst (v := (0 : Int32)) hx hb dX7_init_63 (by decide) ?_
  refine fr_aload_n hx hb dX7_init_64 rfl (lv_at hl 0 rfl) ?_
  obtain ⟨x33, g34, hf⟩ := obind hf
  refine fr_get hx hb hts hown K hC ct_7 (fgR_get g34) (by decide) kw292 rfl dX7_init_65 ?_
  obtain ⟨h35, g36, hf⟩ := obind hf
  refine fr_aast hx hb K hC (t := 4) ct_4 rfl g36 dX7_init_68 (fun H locs hC => ?_)
  refine fr_aload_n hx hb dX7_init_69 rfl (lv_at hl 0 rfl) ?_
  refine lv_iconst (v := (1 : Int32)) hx hb dX7_init_70 (by decide) ?_
  obtain ⟨h37, g38, hf⟩ := obind hf
  refine fr_put hx hb hts hown K hC ct_7 g38 (by decide) kw295 rfl rfl rfl rfl dX7_init_71 (fun H locs hC => ?_)
  refine fr_aload_n hx hb dX7_init_74 rfl (lv_at hl 0 rfl) ?_
  refine fr_aload_n hx hb dX7_init_75 rfl (lv_at hl 0 rfl) ?_
  obtain ⟨x39, g40, hf⟩ := obind hf
  refine fr_get hx hb hts hown K hC ct_7 (fgR_get g40) (by decide) kw292 rfl dX7_init_76 ?_
  obtain ⟨h41, g42, hf⟩ := obind hf
  refine fr_put hx hb hts hown K hC ct_7 g42 (by decide) kw298 rfl rfl (nR _ _) (fR _ _) dX7_init_79 (fun H locs hC => ?_)
  refine fr_aload_n hx hb dX7_init_82 rfl (lv_at hl 0 rfl) ?_
  refine lv_iconst (v := (1 : Int32)) hx hb dX7_init_83 (by decide) ?_
  obtain ⟨h43, g44, hf⟩ := obind hf
  refine fr_put hx hb hts hown K hC ct_7 g44 (by decide) kw299 rfl rfl rfl rfl dX7_init_84 (fun H locs hC => ?_)
  obtain rfl := Option.some.inj hf
  exact fr_vret hx hb hr hlocks hC dX7_init_87
set_option maxRecDepth 100000 in
theorem c_X7_init {l : Launch} (hfl : l.stackTraces = false) (D : va_G) (cA : Nat → ClassId) {o : Nat} {h : fSt} {r : (Unit × fSt)} (hf : f_X7_init o h = some r) : fMet l yX7_init (wsC yX7_init cX7_init 1 none) (3) (68) D cA [.ref o] h r.2 none := by
  exact fMet.of (own := RX7) (by decide +kernel) rfl (lva1 rfl lva0) (lgl1 rfl lgl0) (Nat.le_of_ble_eq_true rfl) (fun p e s m args below meth c ls hnm _ M hC hl => by
    have hl : lv_has ls 1 [(0, va_rf (some o))] := hl
    exact w_X7_init_L0 M hfl (show meth.name = "<init>" from hnm) _ _ hf _ _ _ _ _ hC (lv_sub hl [0] rfl))
set_option maxHeartbeats 4000000 in
set_option maxRecDepth 100000 in
theorem w_X7_nodes_L0 {p : Program} {l : Launch} {e : Env} {s : State} {m : MethodId} {args : Array Value} {below : List Frame} {meth : Method} {c : Code} {D : va_G} {cA : Nat → ClassId} {h0 : fSt} {r : (Int32 × fSt)} (M : fM p s m args meth c D cA h0 { frames := 0, cells := fCB h0 - fZ h0, slots := fLB h0 - fL h0, locals := 0 } cX7_nodes 1 (some (.int)) RX7) (hfl : l.stackTraces = false) (a0 : Option Nat) (h : fSt) (hf : f_X7_nodes_L0 a0 h = some r) : ∀ (H : Heap) (locs : List Loc) (cells slots : Nat) (ls : Array Slot), fCur D cA s h0 h H locs → lv_has ls 1 [(0, va_rf a0)] → W p l e { frames := 0, cells := fCB h0 - fZ h0, slots := fLB h0 - fL h0, locals := 0 } s m args below meth c H locs cells slots (MQ below (fQ D cA h0 r.2 (some (.int r.1))) args s (fCB h0 - fZ h0) (fLB h0 - fL h0) (fA h0)) (F0 m 0 ls []) := by
  obtain ⟨hx, hb, hml, hr, hlocks, hts, hown, K, hR⟩ := id M
  intro H locs cells slots ls hC hl
  refine fr_aload_n hx hb dX7_nodes_0 rfl (lv_at hl 0 rfl) ?_
  obtain ⟨x1, g2, hf⟩ := obind hf
  refine fr_get hx hb hts hown K hC ct_7 (fgI_get g2) (by decide) kw299 rfl dX7_nodes_1 ?_
  obtain rfl := Option.some.inj hf
  exact fr_iret hx hb hr hlocks hC dX7_nodes_4
set_option maxRecDepth 100000 in
theorem c_X7_nodes {l : Launch} (hfl : l.stackTraces = false) (D : va_G) (cA : Nat → ClassId) {o : Nat} {h : fSt} {r : (Int32 × fSt)} (hf : f_X7_nodes o h = some r) : fMet l yX7_nodes (wsC yX7_nodes cX7_nodes 1 (some (.int))) (0) (0) D cA [.ref o] h r.2 (some (.int r.1)) := by
  exact fMet.of (own := RX7) (by decide +kernel) rfl (lva1 rfl lva0) (lgl1 rfl lgl0) (Nat.le_of_ble_eq_true rfl) (fun p e s m args below meth c ls hnm _ M hC hl => by
    have hl : lv_has ls 1 [(0, va_rf (some o))] := hl
    exact w_X7_nodes_L0 M hfl _ _ hf _ _ _ _ _ hC (lv_sub hl [0] rfl))
set_option maxHeartbeats 4000000 in
set_option maxRecDepth 100000 in
theorem w_X7_tracks_L0 {p : Program} {l : Launch} {e : Env} {s : State} {m : MethodId} {args : Array Value} {below : List Frame} {meth : Method} {c : Code} {D : va_G} {cA : Nat → ClassId} {h0 : fSt} {r : (Int32 × fSt)} (M : fM p s m args meth c D cA h0 { frames := 0, cells := fCB h0 - fZ h0, slots := fLB h0 - fL h0, locals := 0 } cX7_tracks 1 (some (.int)) RX7) (hfl : l.stackTraces = false) (a0 : Option Nat) (h : fSt) (hf : f_X7_tracks_L0 a0 h = some r) : ∀ (H : Heap) (locs : List Loc) (cells slots : Nat) (ls : Array Slot), fCur D cA s h0 h H locs → lv_has ls 1 [(0, va_rf a0)] → W p l e { frames := 0, cells := fCB h0 - fZ h0, slots := fLB h0 - fL h0, locals := 0 } s m args below meth c H locs cells slots (MQ below (fQ D cA h0 r.2 (some (.int r.1))) args s (fCB h0 - fZ h0) (fLB h0 - fL h0) (fA h0)) (F0 m 0 ls []) := by
  obtain ⟨hx, hb, hml, hr, hlocks, hts, hown, K, hR⟩ := id M
  intro H locs cells slots ls hC hl
  refine fr_aload_n hx hb dX7_tracks_0 rfl (lv_at hl 0 rfl) ?_
  obtain ⟨x1, g2, hf⟩ := obind hf
  refine fr_get hx hb hts hown K hC ct_7 (fgI_get g2) (by decide) kw296 rfl dX7_tracks_1 ?_
  obtain rfl := Option.some.inj hf
  exact fr_iret hx hb hr hlocks hC dX7_tracks_4
set_option maxRecDepth 100000 in
theorem c_X7_tracks {l : Launch} (hfl : l.stackTraces = false) (D : va_G) (cA : Nat → ClassId) {o : Nat} {h : fSt} {r : (Int32 × fSt)} (hf : f_X7_tracks o h = some r) : fMet l yX7_tracks (wsC yX7_tracks cX7_tracks 1 (some (.int))) (0) (0) D cA [.ref o] h r.2 (some (.int r.1)) := by
  exact fMet.of (own := RX7) (by decide +kernel) rfl (lva1 rfl lva0) (lgl1 rfl lgl0) (Nat.le_of_ble_eq_true rfl) (fun p e s m args below meth c ls hnm _ M hC hl => by
    have hl : lv_has ls 1 [(0, va_rf (some o))] := hl
    exact w_X7_tracks_L0 M hfl _ _ hf _ _ _ _ _ hC (lv_sub hl [0] rfl))
set_option maxHeartbeats 4000000 in
set_option maxRecDepth 100000 in
theorem w_X8_isIn_L15 {p : Program} {l : Launch} {e : Env} {s : State} {m : MethodId} {args : Array Value} {below : List Frame} {meth : Method} {c : Code} {D : va_G} {cA : Nat → ClassId} {h0 : fSt} {r : (Int32 × fSt)} (M : fM p s m args meth c D cA h0 { frames := 0, cells := fCB h0 - fZ h0, slots := fLB h0 - fL h0, locals := 0 } cX8_isIn 3 (some (.boolean)) RX8) (hfl : l.stackTraces = false) (s0 : Int32) (h : fSt) (hf : f_X8_isIn_L15 s0 h = some r) : ∀ (H : Heap) (locs : List Loc) (cells slots : Nat) (ls : Array Slot), fCur D cA s h0 h H locs → lv_has ls 3 [] → W p l e { frames := 0, cells := fCB h0 - fZ h0, slots := fLB h0 - fL h0, locals := 0 } s m args below meth c H locs cells slots (MQ below (fQ D cA h0 r.2 (some (.int r.1))) args s (fCB h0 - fZ h0) (fLB h0 - fL h0) (fA h0)) (F0 m 15 ls [.int s0]) := by
  obtain ⟨hx, hb, hml, hr, hlocks, hts, hown, K, hR⟩ := id M
  intro H locs cells slots ls hC hl
  by_cases c1 : s0 = 0 ∨ s0 = 1
  rotate_left
  · exact nomatch (oneg c1 hf)
  obtain rfl := Option.some.inj (opos c1 hf)
  exact fr_zret hx hb hr hlocks hC c1 dX8_isIn_15
set_option maxHeartbeats 4000000 in
set_option maxRecDepth 100000 in
theorem w_X8_isIn_L14 {p : Program} {l : Launch} {e : Env} {s : State} {m : MethodId} {args : Array Value} {below : List Frame} {meth : Method} {c : Code} {D : va_G} {cA : Nat → ClassId} {h0 : fSt} {r : (Int32 × fSt)} (M : fM p s m args meth c D cA h0 { frames := 0, cells := fCB h0 - fZ h0, slots := fLB h0 - fL h0, locals := 0 } cX8_isIn 3 (some (.boolean)) RX8) (hfl : l.stackTraces = false)  (h : fSt) (hf : f_X8_isIn_L14  h = some r) : ∀ (H : Heap) (locs : List Loc) (cells slots : Nat) (ls : Array Slot), fCur D cA s h0 h H locs → lv_has ls 3 [] → W p l e { frames := 0, cells := fCB h0 - fZ h0, slots := fLB h0 - fL h0, locals := 0 } s m args below meth c H locs cells slots (MQ below (fQ D cA h0 r.2 (some (.int r.1))) args s (fCB h0 - fZ h0) (fLB h0 - fL h0) (fA h0)) (F0 m 14 ls []) := by
  obtain ⟨hx, hb, hml, hr, hlocks, hts, hown, K, hR⟩ := id M
  intro H locs cells slots ls hC hl
  refine lv_iconst (v := (0 : Int32)) hx hb dX8_isIn_14 (by decide) ?_
  exact w_X8_isIn_L15 M hfl _ _ hf _ _ _ _ _ hC (lv_sub hl [] rfl)
set_option maxHeartbeats 4000000 in
set_option maxRecDepth 100000 in
theorem w_X8_isIn_L0 {p : Program} {l : Launch} {e : Env} {s : State} {m : MethodId} {args : Array Value} {below : List Frame} {meth : Method} {c : Code} {D : va_G} {cA : Nat → ClassId} {h0 : fSt} {r : (Int32 × fSt)} (M : fM p s m args meth c D cA h0 { frames := 0, cells := fCB h0 - fZ h0, slots := fLB h0 - fL h0, locals := 0 } cX8_isIn 3 (some (.boolean)) RX8) (hfl : l.stackTraces = false) (a0 : Int32) (a1 : Int32) (a2 : Int32) (h : fSt) (hf : f_X8_isIn_L0 a0 a1 a2 h = some r) : ∀ (H : Heap) (locs : List Loc) (cells slots : Nat) (ls : Array Slot), fCur D cA s h0 h H locs → lv_has ls 3 [(0, .int a0), (1, .int a1), (2, .int a2)] → W p l e { frames := 0, cells := fCB h0 - fZ h0, slots := fLB h0 - fL h0, locals := 0 } s m args below meth c H locs cells slots (MQ below (fQ D cA h0 r.2 (some (.int r.1))) args s (fCB h0 - fZ h0) (fLB h0 - fL h0) (fA h0)) (F0 m 0 ls []) := by
  obtain ⟨hx, hb, hml, hr, hlocks, hts, hown, K, hR⟩ := id M
  intro H locs cells slots ls hC hl
  refine lv_iload_n hx hb dX8_isIn_0 rfl (lv_at hl 0 rfl) ?_
  refine lv_iload_n hx hb dX8_isIn_1 rfl (lv_at hl 1 rfl) ?_
  refine lv_icmp_lt (tgt := 14) hx hb dX8_isIn_2 (by decide) (fun c2 => ?_) (fun c2 => ?_)
  · replace hf := opos c2 hf
    exact w_X8_isIn_L14 M hfl _ hf _ _ _ _ _ hC (lv_sub hl [] rfl)
  · replace hf := oneg c2 hf
    refine lv_iload_n hx hb dX8_isIn_5 rfl (lv_at hl 0 rfl) ?_
    refine lv_iload_n hx hb dX8_isIn_6 rfl (lv_at hl 2 rfl) ?_
    refine lv_icmp_gt (tgt := 14) hx hb dX8_isIn_7 (by decide) (fun c3 => ?_) (fun c3 => ?_)
    · replace hf := opos c3 hf
      exact w_X8_isIn_L14 M hfl _ hf _ _ _ _ _ hC (lv_sub hl [] rfl)
    · replace hf := oneg c3 hf
      refine lv_iconst (v := (1 : Int32)) hx hb dX8_isIn_10 (by decide) ?_
      refine lv_goto (tgt := 15) hx hb dX8_isIn_11 (by decide) ?_
      exact w_X8_isIn_L15 M hfl _ _ hf _ _ _ _ _ hC (lv_sub hl [] rfl)
set_option maxRecDepth 100000 in
theorem c_X8_isIn {l : Launch} (hfl : l.stackTraces = false) (D : va_G) (cA : Nat → ClassId) {p0 : Int32} {p1 : Int32} {p2 : Int32} {h : fSt} {r : (Int32 × fSt)} (hf : f_X8_isIn p0 p1 p2 h = some r) : fMet l yX8_isIn (wsC yX8_isIn cX8_isIn 3 (some (.boolean))) (0) (0) D cA [.int p0, .int p1, .int p2] h r.2 (some (.int r.1)) := by
  exact fMet.of (own := RX8) (by decide +kernel) rfl (lva1 rfl (lva1 rfl (lva1 rfl lva0))) (lgl1 rfl (lgl1 rfl (lgl1 rfl lgl0))) (Nat.le_of_ble_eq_true rfl) (fun p e s m args below meth c ls hnm _ M hC hl => by
    have hl : lv_has ls 3 [(0, .int p0), (1, .int p1), (2, .int p2)] := hl
    exact w_X8_isIn_L0 M hfl _ _ _ _ hf _ _ _ _ _ hC (lv_sub hl [0, 1, 2] rfl))
set_option maxHeartbeats 4000000 in
set_option maxRecDepth 100000 in
theorem w_X8_isNode_L28 {p : Program} {l : Launch} {e : Env} {s : State} {m : MethodId} {args : Array Value} {below : List Frame} {meth : Method} {c : Code} {D : va_G} {cA : Nat → ClassId} {h0 : fSt} {r : (Int32 × fSt)} (M : fM p s m args meth c D cA h0 { frames := 1, cells := fCB h0 - fZ h0, slots := fLB h0 - fL h0, locals := 22 } cX8_isNode 2 (some (.boolean)) RX8) (hfl : l.stackTraces = false) (s0 : Int32) (h : fSt) (hf : f_X8_isNode_L28 s0 h = some r) : ∀ (H : Heap) (locs : List Loc) (cells slots : Nat) (ls : Array Slot), fCur D cA s h0 h H locs → lv_has ls 2 [] → W p l e { frames := 1, cells := fCB h0 - fZ h0, slots := fLB h0 - fL h0, locals := 22 } s m args below meth c H locs cells slots (MQ below (fQ D cA h0 r.2 (some (.int r.1))) args s (fCB h0 - fZ h0) (fLB h0 - fL h0) (fA h0)) (F0 m 28 ls [.int s0]) := by
  obtain ⟨hx, hb, hml, hr, hlocks, hts, hown, K, hR⟩ := id M
  intro H locs cells slots ls hC hl
  by_cases c1 : s0 = 0 ∨ s0 = 1
  rotate_left
  · exact nomatch (oneg c1 hf)
  obtain rfl := Option.some.inj (opos c1 hf)
  exact fr_zret hx hb hr hlocks hC c1 dX8_isNode_28
set_option maxHeartbeats 4000000 in
set_option maxRecDepth 100000 in
theorem w_X8_isNode_L27 {p : Program} {l : Launch} {e : Env} {s : State} {m : MethodId} {args : Array Value} {below : List Frame} {meth : Method} {c : Code} {D : va_G} {cA : Nat → ClassId} {h0 : fSt} {r : (Int32 × fSt)} (M : fM p s m args meth c D cA h0 { frames := 1, cells := fCB h0 - fZ h0, slots := fLB h0 - fL h0, locals := 22 } cX8_isNode 2 (some (.boolean)) RX8) (hfl : l.stackTraces = false)  (h : fSt) (hf : f_X8_isNode_L27  h = some r) : ∀ (H : Heap) (locs : List Loc) (cells slots : Nat) (ls : Array Slot), fCur D cA s h0 h H locs → lv_has ls 2 [] → W p l e { frames := 1, cells := fCB h0 - fZ h0, slots := fLB h0 - fL h0, locals := 22 } s m args below meth c H locs cells slots (MQ below (fQ D cA h0 r.2 (some (.int r.1))) args s (fCB h0 - fZ h0) (fLB h0 - fL h0) (fA h0)) (F0 m 27 ls []) := by
  obtain ⟨hx, hb, hml, hr, hlocks, hts, hown, K, hR⟩ := id M
  intro H locs cells slots ls hC hl
  refine lv_iconst (v := (0 : Int32)) hx hb dX8_isNode_27 (by decide) ?_
  exact w_X8_isNode_L28 M hfl _ _ hf _ _ _ _ _ hC (lv_sub hl [] rfl)
set_option maxHeartbeats 4000000 in
set_option maxRecDepth 100000 in
theorem w_X8_isNode_L0 {p : Program} {l : Launch} {e : Env} {s : State} {m : MethodId} {args : Array Value} {below : List Frame} {meth : Method} {c : Code} {D : va_G} {cA : Nat → ClassId} {h0 : fSt} {r : (Int32 × fSt)} (M : fM p s m args meth c D cA h0 { frames := 1, cells := fCB h0 - fZ h0, slots := fLB h0 - fL h0, locals := 22 } cX8_isNode 2 (some (.boolean)) RX8) (hfl : l.stackTraces = false) (a0 : Option Nat) (a1 : Int32) (h : fSt) (hf : f_X8_isNode_L0 a0 a1 h = some r) : ∀ (H : Heap) (locs : List Loc) (cells slots : Nat) (ls : Array Slot), fCur D cA s h0 h H locs → lv_has ls 2 [(0, va_rf a0), (1, .int a1)] → W p l e { frames := 1, cells := fCB h0 - fZ h0, slots := fLB h0 - fL h0, locals := 22 } s m args below meth c H locs cells slots (MQ below (fQ D cA h0 r.2 (some (.int r.1))) args s (fCB h0 - fZ h0) (fLB h0 - fL h0) (fA h0)) (F0 m 0 ls []) := by
  obtain ⟨hx, hb, hml, hr, hlocks, hts, hown, K, hR⟩ := id M
  intro H locs cells slots ls hC hl
  refine lv_iload_n hx hb dX8_isNode_0 rfl (lv_at hl 1 rfl) ?_
  refine lv_iconst (v := (0 : Int32)) hx hb dX8_isNode_1 (by decide) ?_
  refine fr_aload_n hx hb dX8_isNode_2 rfl (lv_at hl 0 rfl) ?_
  obtain ⟨x2, g3, hf⟩ := obind hf
  refine fr_get hx hb hts hown K hC ct_8 (fgI_get g3) (by decide) kw972 rfl dX8_isNode_3 ?_
  refine lv_iconst (v := (1 : Int32)) hx hb dX8_isNode_6 (by decide) ?_
  refine lv_isub hx hb dX8_isNode_7 ?_
  obtain ⟨r4, g5, hf⟩ := obind hf
  refine fr_callS hx hb hml hts hown K hC hR (c_X8_isIn hfl D cA g5) 3 kw1066 kw1064 kw1065 kw62 (by decide +kernel) ⟨by exact Nat.le_of_ble_eq_true rfl, by exact Nat.le_of_ble_eq_true rfl⟩ rfl hl.1 (cat8 _ (by exact Nat.le_of_ble_eq_true rfl)) dX8_isNode_8 rfl (fun H locs _ _ hC => ?_)
  refine lv_if_eq (tgt := 27) hx hb dX8_isNode_11 (by decide) (fun c6 => ?_) (fun c6 => ?_)
  · replace hf := opos c6 hf
    exact w_X8_isNode_L27 M hfl _ hf _ _ _ _ _ hC (lv_sub hl [] rfl)
  · replace hf := oneg c6 hf
    refine fr_aload_n hx hb dX8_isNode_14 rfl (lv_at hl 0 rfl) ?_
    obtain ⟨x7, g8, hf⟩ := obind hf
    refine fr_get hx hb hts hown K hC ct_8 (fgR_get g8) (by decide) kw973 rfl dX8_isNode_15 ?_
    refine lv_iload_n hx hb dX8_isNode_18 rfl (lv_at hl 1 rfl) ?_
    obtain ⟨x9, g10, hf⟩ := obind hf
    refine fr_zald hx hb K hC (t := 2) rfl g10 dX8_isNode_19 ?_
    refine lv_if_ne (tgt := 27) hx hb dX8_isNode_20 (by decide) (fun c11 => ?_) (fun c11 => ?_)
    · replace hf := oneg c11 hf
      exact w_X8_isNode_L27 M hfl _ hf _ _ _ _ _ hC (lv_sub hl [] rfl)
    · replace hf := opos c11 hf
      refine lv_iconst (v := (1 : Int32)) hx hb dX8_isNode_23 (by decide) ?_
      refine lv_goto (tgt := 28) hx hb dX8_isNode_24 (by decide) ?_
      exact w_X8_isNode_L28 M hfl _ _ hf _ _ _ _ _ hC (lv_sub hl [] rfl)
set_option maxRecDepth 100000 in
theorem c_X8_isNode {l : Launch} (hfl : l.stackTraces = false) (D : va_G) (cA : Nat → ClassId) {o : Nat} {p0 : Int32} {h : fSt} {r : (Int32 × fSt)} (hf : f_X8_isNode o p0 h = some r) : fMet l yX8_isNode (wsC yX8_isNode cX8_isNode 2 (some (.boolean))) (1) (22) D cA [.ref o, .int p0] h r.2 (some (.int r.1)) := by
  exact fMet.of (own := RX8) (by decide +kernel) rfl (lva1 rfl (lva1 rfl lva0)) (lgl1 rfl (lgl1 rfl lgl0)) (Nat.le_of_ble_eq_true rfl) (fun p e s m args below meth c ls hnm _ M hC hl => by
    have hl : lv_has ls 2 [(0, va_rf (some o)), (1, .int p0)] := hl
    exact w_X8_isNode_L0 M hfl _ _ _ hf _ _ _ _ _ hC (lv_sub hl [0, 1] rfl))
set_option maxHeartbeats 4000000 in
set_option maxRecDepth 100000 in
theorem w_X8_levelNow_L9 {p : Program} {l : Launch} {e : Env} {s : State} {m : MethodId} {args : Array Value} {below : List Frame} {meth : Method} {c : Code} {D : va_G} {cA : Nat → ClassId} {h0 : fSt} {r : (Int32 × fSt)} (M : fM p s m args meth c D cA h0 { frames := 0, cells := fCB h0 - fZ h0, slots := fLB h0 - fL h0, locals := 0 } cX8_levelNow 4 (some (.int)) RX8) (hfl : l.stackTraces = false) : ∀ (n : Nat) (a0 : Option Nat) (a2 : Int32) (a3 : Int32) (h : fSt), f_X8_levelNow_L9 n a0 a2 a3 h = some r → ∀ (H : Heap) (locs : List Loc) (cells slots : Nat) (ls : Array Slot), fCur D cA s h0 h H locs → lv_has ls 4 [(0, va_rf a0), (2, .int a2), (3, .int a3)] → W p l e { frames := 0, cells := fCB h0 - fZ h0, slots := fLB h0 - fL h0, locals := 0 } s m args below meth c H locs cells slots (MQ below (fQ D cA h0 r.2 (some (.int r.1))) args s (fCB h0 - fZ h0) (fLB h0 - fL h0) (fA h0)) (F0 m 9 ls []) := by
  obtain ⟨hx, hb, hml, hr, hlocks, hts, hown, K, hR⟩ := id M
  intro n
  induction n with
  | zero =>
    intro a0 a2 a3 h hf
    exact nomatch (show (none : Option (Int32 × fSt)) = some r from hf)
  | succ n hk9 =>
    intro a0 a2 a3 h hf H locs cells slots ls hC hl
    refine lv_iload_n hx hb dX8_levelNow_9 rfl (lv_at hl 2 rfl) ?_
    refine lv_iconst (v := (-1 : Int32)) hx hb dX8_levelNow_10 (by decide) ?_
    refine lv_icmp_eq (tgt := 27) hx hb dX8_levelNow_11 (by decide) (fun c1 => ?_) (fun c1 => ?_)
    · replace hf := opos c1 hf
      refine lv_iload_n hx hb dX8_levelNow_27 rfl (lv_at hl 1 rfl) ?_
      obtain rfl := Option.some.inj hf
      exact fr_iret hx hb hr hlocks hC dX8_levelNow_28
    · replace hf := oneg c1 hf
      refine lv_iinc (v := (a2 + (1 : Int32))) (lv' := [(2, .int (a2 + (1 : Int32))), (0, va_rf a0), (3, .int a3)]) hx hb dX8_levelNow_14 hl (k := 1) rfl rfl (by decide) (congrArg (List.cons _) (flk rfl (fld rfl (flk rfl fln)))) (fun ls hl => ?_)
      refine fr_aload_n hx hb dX8_levelNow_17 rfl (lv_at hl 1 rfl) ?_
      obtain ⟨x2, g3, hf⟩ := obind hf
      refine fr_get hx hb hts hown K hC ct_8 (fgR_get g3) (by decide) kw977 rfl dX8_levelNow_18 ?_
      refine lv_iload_n hx hb dX8_levelNow_21 rfl (lv_at hl 2 rfl) ?_
      obtain ⟨x4, g5, hf⟩ := obind hf
      refine fr_iald hx hb K hC (t := 0) rfl g5 dX8_levelNow_22 ?_
      refine lv_istore_n (lv' := [(3, .int x4), (2, .int (a2 + (1 : Int32))), (0, va_rf a0)]) hx hb dX8_levelNow_23 rfl hl (by decide) (congrArg (List.cons _) (flk rfl (flk rfl (fld rfl fln)))) (fun ls hl => ?_)
      refine lv_goto (tgt := 9) hx hb dX8_levelNow_24 (by decide) ?_
      exact hk9 _ _ _ _ hf _ _ _ _ _ hC (lv_sub hl [2, 1, 0] rfl)
set_option maxHeartbeats 4000000 in
set_option maxRecDepth 100000 in
theorem w_X8_levelNow_L0 {p : Program} {l : Launch} {e : Env} {s : State} {m : MethodId} {args : Array Value} {below : List Frame} {meth : Method} {c : Code} {D : va_G} {cA : Nat → ClassId} {h0 : fSt} {r : (Int32 × fSt)} (M : fM p s m args meth c D cA h0 { frames := 0, cells := fCB h0 - fZ h0, slots := fLB h0 - fL h0, locals := 0 } cX8_levelNow 4 (some (.int)) RX8) (hfl : l.stackTraces = false) (a0 : Option Nat) (a1 : Int32) (h : fSt) (hf : f_X8_levelNow_L0 a0 a1 h = some r) : ∀ (H : Heap) (locs : List Loc) (cells slots : Nat) (ls : Array Slot), fCur D cA s h0 h H locs → lv_has ls 4 [(0, va_rf a0), (1, .int a1)] → W p l e { frames := 0, cells := fCB h0 - fZ h0, slots := fLB h0 - fL h0, locals := 0 } s m args below meth c H locs cells slots (MQ below (fQ D cA h0 r.2 (some (.int r.1))) args s (fCB h0 - fZ h0) (fLB h0 - fL h0) (fA h0)) (F0 m 0 ls []) := by
  obtain ⟨hx, hb, hml, hr, hlocks, hts, hown, K, hR⟩ := id M
  intro H locs cells slots ls hC hl
  refine lv_iconst (v := (0 : Int32)) hx hb dX8_levelNow_0 (by decide) ?_
  refine lv_istore_n (lv' := [(2, .int (0 : Int32)), (0, va_rf a0), (1, .int a1)]) hx hb dX8_levelNow_1 rfl hl (by decide) (congrArg (List.cons _) (flk rfl (flk rfl fln))) (fun ls hl => ?_)
  refine fr_aload_n hx hb dX8_levelNow_2 rfl (lv_at hl 1 rfl) ?_
  obtain ⟨x6, g7, hf⟩ := obind hf
  refine fr_get hx hb hts hown K hC ct_8 (fgR_get g7) (by decide) kw977 rfl dX8_levelNow_3 ?_
  refine lv_iload_n hx hb dX8_levelNow_6 rfl (lv_at hl 2 rfl) ?_
  obtain ⟨x8, g9, hf⟩ := obind hf
  refine fr_iald hx hb K hC (t := 0) rfl g9 dX8_levelNow_7 ?_
  refine lv_istore_n (lv' := [(3, .int x8), (2, .int (0 : Int32)), (0, va_rf a0), (1, .int a1)]) hx hb dX8_levelNow_8 rfl hl (by decide) (congrArg (List.cons _) (flk rfl (flk rfl (flk rfl fln)))) (fun ls hl => ?_)
  exact w_X8_levelNow_L9 M hfl 4096 _ _ _ _ hf _ _ _ _ _ hC (lv_sub hl [2, 1, 0] rfl)
set_option maxRecDepth 100000 in
theorem c_X8_levelNow {l : Launch} (hfl : l.stackTraces = false) (D : va_G) (cA : Nat → ClassId) {o : Nat} {p0 : Int32} {h : fSt} {r : (Int32 × fSt)} (hf : f_X8_levelNow o p0 h = some r) : fMet l yX8_levelNow (wsC yX8_levelNow cX8_levelNow 4 (some (.int))) (0) (0) D cA [.ref o, .int p0] h r.2 (some (.int r.1)) := by
  exact fMet.of (own := RX8) (by decide +kernel) rfl (lva1 rfl (lva1 rfl lva0)) (lgl1 rfl (lgl1 rfl lgl0)) (Nat.le_of_ble_eq_true rfl) (fun p e s m args below meth c ls hnm _ M hC hl => by
    have hl : lv_has ls 4 [(0, va_rf (some o)), (1, .int p0)] := hl
    exact w_X8_levelNow_L0 M hfl _ _ _ hf _ _ _ _ _ hC (lv_sub hl [0, 1] rfl))
set_option maxHeartbeats 4000000 in
set_option maxRecDepth 100000 in
theorem w_X8_no_L0 {p : Program} {l : Launch} {e : Env} {s : State} {m : MethodId} {args : Array Value} {below : List Frame} {meth : Method} {c : Code} {D : va_G} {cA : Nat → ClassId} {h0 : fSt} {r : (Int32 × fSt)} (M : fM p s m args meth c D cA h0 { frames := 0, cells := fCB h0 - fZ h0, slots := fLB h0 - fL h0, locals := 0 } cX8_no 2 (some (.int)) RX8) (hfl : l.stackTraces = false) (a0 : Option Nat) (a1 : Int32) (h : fSt) (hf : f_X8_no_L0 a0 a1 h = some r) : ∀ (H : Heap) (locs : List Loc) (cells slots : Nat) (ls : Array Slot), fCur D cA s h0 h H locs → lv_has ls 2 [(0, va_rf a0), (1, .int a1)] → W p l e { frames := 0, cells := fCB h0 - fZ h0, slots := fLB h0 - fL h0, locals := 0 } s m args below meth c H locs cells slots (MQ below (fQ D cA h0 r.2 (some (.int r.1))) args s (fCB h0 - fZ h0) (fLB h0 - fL h0) (fA h0)) (F0 m 0 ls []) := by
  obtain ⟨hx, hb, hml, hr, hlocks, hts, hown, K, hR⟩ := id M
  intro H locs cells slots ls hC hl
  refine fr_aload_n hx hb dX8_no_0 rfl (lv_at hl 0 rfl) ?_
  refine lv_iload_n hx hb dX8_no_1 rfl (lv_at hl 1 rfl) ?_
  obtain ⟨h1, g2, hf⟩ := obind hf
  refine fr_put hx hb hts hown K hC ct_8 g2 (by decide) kw971 rfl rfl rfl rfl dX8_no_2 (fun H locs hC => ?_)
  refine lv_iconst (v := (0 : Int32)) hx hb dX8_no_5 (by decide) ?_
  obtain rfl := Option.some.inj hf
  exact fr_iret hx hb hr hlocks hC dX8_no_6
set_option maxRecDepth 100000 in
theorem c_X8_no {l : Launch} (hfl : l.stackTraces = false) (D : va_G) (cA : Nat → ClassId) {o : Nat} {p0 : Int32} {h : fSt} {r : (Int32 × fSt)} (hf : f_X8_no o p0 h = some r) : fMet l yX8_no (wsC yX8_no cX8_no 2 (some (.int))) (0) (0) D cA [.ref o, .int p0] h r.2 (some (.int r.1)) := by
  exact fMet.of (own := RX8) (by decide +kernel) rfl (lva1 rfl (lva1 rfl lva0)) (lgl1 rfl (lgl1 rfl lgl0)) (Nat.le_of_ble_eq_true rfl) (fun p e s m args below meth c ls hnm _ M hC hl => by
    have hl : lv_has ls 2 [(0, va_rf (some o)), (1, .int p0)] := hl
    exact w_X8_no_L0 M hfl _ _ _ hf _ _ _ _ _ hC (lv_sub hl [0, 1] rfl))
set_option maxHeartbeats 4000000 in
set_option maxRecDepth 100000 in
theorem w_X8_add_L55 {p : Program} {l : Launch} {e : Env} {s : State} {m : MethodId} {args : Array Value} {below : List Frame} {meth : Method} {c : Code} {D : va_G} {cA : Nat → ClassId} {h0 : fSt} {r : (Int32 × fSt)} (M : fM p s m args meth c D cA h0 { frames := 2, cells := fCB h0 - fZ h0, slots := fLB h0 - fL h0, locals := 43 } cX8_add 5 (some (.int)) RX8) (hfl : l.stackTraces = false) (a0 : Option Nat) (h : fSt) (hf : f_X8_add_L55 a0 h = some r) : ∀ (H : Heap) (locs : List Loc) (cells slots : Nat) (ls : Array Slot), fCur D cA s h0 h H locs → lv_has ls 5 [(0, va_rf a0)] → W p l e { frames := 2, cells := fCB h0 - fZ h0, slots := fLB h0 - fL h0, locals := 43 } s m args below meth c H locs cells slots (MQ below (fQ D cA h0 r.2 (some (.int r.1))) args s (fCB h0 - fZ h0) (fLB h0 - fL h0) (fA h0)) (F0 m 55 ls []) := by
  obtain ⟨hx, hb, hml, hr, hlocks, hts, hown, K, hR⟩ := id M
  intro H locs cells slots ls hC hl
  refine fr_aload_n hx hb dX8_add_55 rfl (lv_at hl 0 rfl) ?_
  refine lv_iconst (v := (2 : Int32)) hx hb dX8_add_56 (by decide) ?_
  obtain ⟨b3, q4, hf⟩ := obind hf
  obtain ⟨r1, g2, hf⟩ := obind hf
  refine fr_callV hx hb hml hts hown K hC hR ct_8 (c_X8_no hfl D cA g2) 1 q4 kw1070 kw1067 kw1069 kw21 kw62 (by decide +kernel) ⟨by exact Nat.le_of_ble_eq_true rfl, by exact Nat.le_of_ble_eq_true rfl⟩ rfl hl.1 (cat8 _ (by exact Nat.le_of_ble_eq_true rfl)) dX8_add_57 rfl (fun H locs _ _ hC => ?_)
  obtain rfl := Option.some.inj hf
  exact fr_iret hx hb hr hlocks hC dX8_add_60
set_option maxHeartbeats 4000000 in
set_option maxRecDepth 100000 in
theorem w_X8_add_L79 {p : Program} {l : Launch} {e : Env} {s : State} {m : MethodId} {args : Array Value} {below : List Frame} {meth : Method} {c : Code} {D : va_G} {cA : Nat → ClassId} {h0 : fSt} {r : (Int32 × fSt)} (M : fM p s m args meth c D cA h0 { frames := 2, cells := fCB h0 - fZ h0, slots := fLB h0 - fL h0, locals := 43 } cX8_add 5 (some (.int)) RX8) (hfl : l.stackTraces = false) (a0 : Option Nat) (h : fSt) (hf : f_X8_add_L79 a0 h = some r) : ∀ (H : Heap) (locs : List Loc) (cells slots : Nat) (ls : Array Slot), fCur D cA s h0 h H locs → lv_has ls 5 [(0, va_rf a0)] → W p l e { frames := 2, cells := fCB h0 - fZ h0, slots := fLB h0 - fL h0, locals := 43 } s m args below meth c H locs cells slots (MQ below (fQ D cA h0 r.2 (some (.int r.1))) args s (fCB h0 - fZ h0) (fLB h0 - fL h0) (fA h0)) (F0 m 79 ls []) := by
  obtain ⟨hx, hb, hml, hr, hlocks, hts, hown, K, hR⟩ := id M
  intro H locs cells slots ls hC hl
  refine fr_aload_n hx hb dX8_add_79 rfl (lv_at hl 0 rfl) ?_
  refine lv_iconst (v := (3 : Int32)) hx hb dX8_add_80 (by decide) ?_
  obtain ⟨b7, q8, hf⟩ := obind hf
  obtain ⟨r5, g6, hf⟩ := obind hf
  refine fr_callV hx hb hml hts hown K hC hR ct_8 (c_X8_no hfl D cA g6) 1 q8 kw1070 kw1067 kw1069 kw21 kw62 (by decide +kernel) ⟨by exact Nat.le_of_ble_eq_true rfl, by exact Nat.le_of_ble_eq_true rfl⟩ rfl hl.1 (cat8 _ (by exact Nat.le_of_ble_eq_true rfl)) dX8_add_81 rfl (fun H locs _ _ hC => ?_)
  obtain rfl := Option.some.inj hf
  exact fr_iret hx hb hr hlocks hC dX8_add_84
set_option maxHeartbeats 4000000 in
set_option maxRecDepth 100000 in
theorem w_X8_add_L61 {p : Program} {l : Launch} {e : Env} {s : State} {m : MethodId} {args : Array Value} {below : List Frame} {meth : Method} {c : Code} {D : va_G} {cA : Nat → ClassId} {h0 : fSt} {r : (Int32 × fSt)} (M : fM p s m args meth c D cA h0 { frames := 2, cells := fCB h0 - fZ h0, slots := fLB h0 - fL h0, locals := 43 } cX8_add 5 (some (.int)) RX8) (hfl : l.stackTraces = false) (a0 : Option Nat) (a1 : Int32) (a2 : Int32) (a3 : Int32) (a4 : Int32) (h : fSt) (hf : f_X8_add_L61 a0 a1 a2 a3 a4 h = some r) : ∀ (H : Heap) (locs : List Loc) (cells slots : Nat) (ls : Array Slot), fCur D cA s h0 h H locs → lv_has ls 5 [(0, va_rf a0), (1, .int a1), (2, .int a2), (3, .int a3), (4, .int a4)] → W p l e { frames := 2, cells := fCB h0 - fZ h0, slots := fLB h0 - fL h0, locals := 43 } s m args below meth c H locs cells slots (MQ below (fQ D cA h0 r.2 (some (.int r.1))) args s (fCB h0 - fZ h0) (fLB h0 - fL h0) (fA h0)) (F0 m 61 ls []) := by
  obtain ⟨hx, hb, hml, hr, hlocks, hts, hown, K, hR⟩ := id M
  intro H locs cells slots ls hC hl
  refine fr_aload_n hx hb dX8_add_61 rfl (lv_at hl 0 rfl) ?_
  obtain ⟨x9, g10, hf⟩ := obind hf
  refine fr_get hx hb hts hown K hC ct_8 (fgI_get g10) (by decide) kw972 rfl dX8_add_62 ?_
  refine lv_bipush (v := (30 : Int32)) hx hb dX8_add_65 (by decide) ?_
  refine lv_icmp_eq (tgt := 79) hx hb dX8_add_67 (by decide) (fun c11 => ?_) (fun c11 => ?_)
  · replace hf := opos c11 hf
    exact w_X8_add_L79 M hfl _ _ hf _ _ _ _ _ hC (lv_sub hl [0] rfl)
  · replace hf := oneg c11 hf
    refine fr_aload_n hx hb dX8_add_70 rfl (lv_at hl 0 rfl) ?_
    refine lv_iload_n hx hb dX8_add_71 rfl (lv_at hl 1 rfl) ?_
    obtain ⟨b14, q15, hf⟩ := obind hf
    obtain ⟨r12, g13, hf⟩ := obind hf
    refine fr_callV hx hb hml hts hown K hC hR ct_8 (c_X8_levelNow hfl D cA g13) 1 q15 kw1074 kw1071 kw1073 kw22 kw62 (by decide +kernel) ⟨by exact Nat.le_of_ble_eq_true rfl, by exact Nat.le_of_ble_eq_true rfl⟩ rfl hl.1 (cat8 _ (by exact Nat.le_of_ble_eq_true rfl)) dX8_add_72 rfl (fun H locs _ _ hC => ?_)
    refine lv_iconst (v := (4 : Int32)) hx hb dX8_add_75 (by decide) ?_
    refine lv_icmp_ne (tgt := 85) hx hb dX8_add_76 (by decide) (fun c16 => ?_) (fun c16 => ?_)
    · replace hf := oneg c16 hf
      refine fr_aload_n hx hb dX8_add_85 rfl (lv_at hl 0 rfl) ?_
      obtain ⟨x17, g18, hf⟩ := obind hf
      refine fr_get hx hb hts hown K hC ct_8 (fgR_get g18) (by decide) kw977 rfl dX8_add_86 ?_
      refine fr_aload_n hx hb dX8_add_89 rfl (lv_at hl 0 rfl) ?_
      obtain ⟨x19, g20, hf⟩ := obind hf
      refine fr_get hx hb hts hown K hC ct_8 (fgI_get g20) (by decide) kw972 rfl dX8_add_90 ?_
      refine lv_iload_n hx hb dX8_add_93 rfl (lv_at hl 1 rfl) ?_
      obtain ⟨h21, g22, hf⟩ := obind hf
      refine fr_iast hx hb K hC (t := 0) rfl g22 dX8_add_94 (fun H locs hC => ?_)
      refine fr_aload_n hx hb dX8_add_95 rfl (lv_at hl 0 rfl) ?_
      obtain ⟨x23, g24, hf⟩ := obind hf
      refine fr_get hx hb hts hown K hC ct_8 (fgR_get g24) (by decide) kw978 rfl dX8_add_96 ?_
      refine fr_aload_n hx hb dX8_add_99 rfl (lv_at hl 0 rfl) ?_
      obtain ⟨x25, g26, hf⟩ := obind hf
      refine fr_get hx hb hts hown K hC ct_8 (fgI_get g26) (by decide) kw972 rfl dX8_add_100 ?_
      refine lv_iload_n hx hb dX8_add_103 rfl (lv_at hl 2 rfl) ?_
      obtain ⟨h27, g28, hf⟩ := obind hf
      refine fr_iast hx hb K hC (t := 0) rfl g28 dX8_add_104 (fun H locs hC => ?_)
      refine fr_aload_n hx hb dX8_add_105 rfl (lv_at hl 0 rfl) ?_
      obtain ⟨x29, g30, hf⟩ := obind hf
      refine fr_get hx hb hts hown K hC ct_8 (fgR_get g30) (by decide) kw979 rfl dX8_add_106 ?_
      refine fr_aload_n hx hb dX8_add_109 rfl (lv_at hl 0 rfl) ?_
      obtain ⟨x31, g32, hf⟩ := obind hf
      refine fr_get hx hb hts hown K hC ct_8 (fgI_get g32) (by decide) kw972 rfl dX8_add_110 ?_
      refine lv_iload_n hx hb dX8_add_113 rfl (lv_at hl 3 rfl) ?_
      obtain ⟨h33, g34, hf⟩ := obind hf
      refine fr_iast hx hb K hC (t := 0) rfl g34 dX8_add_114 (fun H locs hC => ?_)
      refine fr_aload_n hx hb dX8_add_115 rfl (lv_at hl 0 rfl) ?_
      obtain ⟨x35, g36, hf⟩ := obind hf
      refine fr_get hx hb hts hown K hC ct_8 (fgR_get g36) (by decide) kw980 rfl dX8_add_116 ?_
      refine fr_aload_n hx hb dX8_add_119 rfl (lv_at hl 0 rfl) ?_
      obtain ⟨x37, g38, hf⟩ := obind hf
      refine fr_get hx hb hts hown K hC ct_8 (fgI_get g38) (by decide) kw972 rfl dX8_add_120 ?_
      refine lv_iload hx hb dX8_add_123 (lv_at hl 4 rfl) ?_
      obtain ⟨h39, g40, hf⟩ := obind hf
      refine fr_iast hx hb K hC (t := 0) rfl g40 dX8_add_125 (fun H locs hC => ?_)
      refine fr_aload_n hx hb dX8_add_126 rfl (lv_at hl 0 rfl) ?_
      obtain ⟨x41, g42, hf⟩ := obind hf
      refine fr_get hx hb hts hown K hC ct_8 (fgR_get g42) (by decide) kw984 rfl dX8_add_127 ?_
      refine fr_aload_n hx hb dX8_add_130 rfl (lv_at hl 0 rfl) ?_
      obtain ⟨x43, g44, hf⟩ := obind hf
      refine fr_get hx hb hts hown K hC ct_8 (fgI_get g44) (by decide) kw972 rfl dX8_add_131 ?_
      refine fr_aload_n hx hb dX8_add_134 rfl (lv_at hl 0 rfl) ?_
      refine lv_dup hx hb dX8_add_135 (va_rf_cat _) ?_
      obtain ⟨x45, g46, hf⟩ := obind hf
      refine fr_get hx hb hts hown K hC ct_8 (fgI_get g46) (by decide) kw987 rfl dX8_add_136 ?_
      refine lv_dup_x1 hx hb dX8_add_139 rfl (va_rf_cat _) ?_
      refine lv_iconst (v := (1 : Int32)) hx hb dX8_add_140 (by decide) ?_
      refine lv_iadd hx hb dX8_add_141 ?_
      obtain ⟨h47, g48, hf⟩ := obind hf
      refine fr_put hx hb hts hown K hC ct_8 g48 (by decide) kw987 rfl rfl rfl rfl dX8_add_142 (fun H locs hC => ?_)
      obtain ⟨h49, g50, hf⟩ := obind hf
      refine fr_iast hx hb K hC (t := 0) rfl g50 dX8_add_145 (fun H locs hC => ?_)
      refine fr_aload_n hx hb dX8_add_146 rfl (lv_at hl 0 rfl) ?_
      refine lv_dup hx hb dX8_add_147 (va_rf_cat _) ?_
      obtain ⟨x51, g52, hf⟩ := obind hf
      refine fr_get hx hb hts hown K hC ct_8 (fgI_get g52) (by decide) kw972 rfl dX8_add_148 ?_
      refine lv_dup_x1 hx hb dX8_add_151 rfl (va_rf_cat _) ?_
      refine lv_iconst (v := (1 : Int32)) hx hb dX8_add_152 (by decide) ?_
      refine lv_iadd hx hb dX8_add_153 ?_
      obtain ⟨h53, g54, hf⟩ := obind hf
      refine fr_put hx hb hts hown K hC ct_8 g54 (by decide) kw972 rfl rfl rfl rfl dX8_add_154 (fun H locs hC => ?_)
      obtain rfl := Option.some.inj hf
      exact fr_iret hx hb hr hlocks hC dX8_add_157
    · replace hf := opos c16 hf
      exact w_X8_add_L79 M hfl _ _ hf _ _ _ _ _ hC (lv_sub hl [0] rfl)
set_option maxHeartbeats 4000000 in
set_option maxRecDepth 100000 in
theorem w_X8_add_L0 {p : Program} {l : Launch} {e : Env} {s : State} {m : MethodId} {args : Array Value} {below : List Frame} {meth : Method} {c : Code} {D : va_G} {cA : Nat → ClassId} {h0 : fSt} {r : (Int32 × fSt)} (M : fM p s m args meth c D cA h0 { frames := 2, cells := fCB h0 - fZ h0, slots := fLB h0 - fL h0, locals := 43 } cX8_add 5 (some (.int)) RX8) (hfl : l.stackTraces = false) (a0 : Option Nat) (a1 : Int32) (a2 : Int32) (a3 : Int32) (a4 : Int32) (h : fSt) (hf : f_X8_add_L0 a0 a1 a2 a3 a4 h = some r) : ∀ (H : Heap) (locs : List Loc) (cells slots : Nat) (ls : Array Slot), fCur D cA s h0 h H locs → lv_has ls 5 [(0, va_rf a0), (1, .int a1), (2, .int a2), (3, .int a3), (4, .int a4)] → W p l e { frames := 2, cells := fCB h0 - fZ h0, slots := fLB h0 - fL h0, locals := 43 } s m args below meth c H locs cells slots (MQ below (fQ D cA h0 r.2 (some (.int r.1))) args s (fCB h0 - fZ h0) (fLB h0 - fL h0) (fA h0)) (F0 m 0 ls []) := by
  obtain ⟨hx, hb, hml, hr, hlocks, hts, hown, K, hR⟩ := id M
  intro H locs cells slots ls hC hl
  refine fr_aload_n hx hb dX8_add_0 rfl (lv_at hl 0 rfl) ?_
  refine lv_iconst (v := (0 : Int32)) hx hb dX8_add_1 (by decide) ?_
  obtain ⟨h55, g56, hf⟩ := obind hf
  refine fr_put hx hb hts hown K hC ct_8 g56 (by decide) kw971 rfl rfl rfl rfl dX8_add_2 (fun H locs hC => ?_)
  refine fr_aload_n hx hb dX8_add_5 rfl (lv_at hl 0 rfl) ?_
  refine lv_iload_n hx hb dX8_add_6 rfl (lv_at hl 1 rfl) ?_
  obtain ⟨b59, q60, hf⟩ := obind hf
  obtain ⟨r57, g58, hf⟩ := obind hf
  refine fr_callV hx hb hml hts hown K hC hR ct_8 (c_X8_isNode hfl D cA g58) 1 q60 kw1063 kw1060 kw1062 kw20 kw62 (by decide +kernel) ⟨by exact Nat.le_of_ble_eq_true rfl, by exact Nat.le_of_ble_eq_true rfl⟩ rfl hl.1 (cat8 _ (by exact Nat.le_of_ble_eq_true rfl)) dX8_add_7 rfl (fun H locs _ _ hC => ?_)
  refine lv_if_ne (tgt := 19) hx hb dX8_add_10 (by decide) (fun c61 => ?_) (fun c61 => ?_)
  · replace hf := oneg c61 hf
    refine lv_iload_n hx hb dX8_add_19 rfl (lv_at hl 2 rfl) ?_
    refine lv_iconst (v := (0 : Int32)) hx hb dX8_add_20 (by decide) ?_
    refine lv_iconst (v := (2 : Int32)) hx hb dX8_add_21 (by decide) ?_
    obtain ⟨r62, g63, hf⟩ := obind hf
    refine fr_callS hx hb hml hts hown K hC hR (c_X8_isIn hfl D cA g63) 3 kw1066 kw1064 kw1065 kw62 (by decide +kernel) ⟨by exact Nat.le_of_ble_eq_true rfl, by exact Nat.le_of_ble_eq_true rfl⟩ rfl hl.1 (cat8 _ (by exact Nat.le_of_ble_eq_true rfl)) dX8_add_22 rfl (fun H locs _ _ hC => ?_)
    refine lv_if_eq (tgt := 55) hx hb dX8_add_25 (by decide) (fun c64 => ?_) (fun c64 => ?_)
    · replace hf := opos c64 hf
      exact w_X8_add_L55 M hfl _ _ hf _ _ _ _ _ hC (lv_sub hl [0] rfl)
    · replace hf := oneg c64 hf
      refine lv_iload_n hx hb dX8_add_28 rfl (lv_at hl 2 rfl) ?_
      refine lv_if_eq (tgt := 61) hx hb dX8_add_29 (by decide) (fun c65 => ?_) (fun c65 => ?_)
      · replace hf := opos c65 hf
        exact w_X8_add_L61 M hfl _ _ _ _ _ _ hf _ _ _ _ _ hC (lv_sub hl [0, 1, 2, 3, 4] rfl)
      · replace hf := oneg c65 hf
        refine lv_iload_n hx hb dX8_add_32 rfl (lv_at hl 3 rfl) ?_
        refine lv_iconst (v := (1 : Int32)) hx hb dX8_add_33 (by decide) ?_
        refine lv_sipush (v := (200 : Int32)) hx hb dX8_add_34 (by decide) ?_
        obtain ⟨r66, g67, hf⟩ := obind hf
        refine fr_callS hx hb hml hts hown K hC hR (c_X8_isIn hfl D cA g67) 3 kw1066 kw1064 kw1065 kw62 (by decide +kernel) ⟨by exact Nat.le_of_ble_eq_true rfl, by exact Nat.le_of_ble_eq_true rfl⟩ rfl hl.1 (cat8 _ (by exact Nat.le_of_ble_eq_true rfl)) dX8_add_37 rfl (fun H locs _ _ hC => ?_)
        refine lv_if_eq (tgt := 55) hx hb dX8_add_40 (by decide) (fun c68 => ?_) (fun c68 => ?_)
        · replace hf := opos c68 hf
          exact w_X8_add_L55 M hfl _ _ hf _ _ _ _ _ hC (lv_sub hl [0] rfl)
        · replace hf := oneg c68 hf
          refine lv_iload hx hb dX8_add_43 (lv_at hl 4 rfl) ?_
          refine lv_iconst (v := (1 : Int32)) hx hb dX8_add_45 (by decide) ?_
          refine lv_sipush (v := (200 : Int32)) hx hb dX8_add_46 (by decide) ?_
          obtain ⟨r69, g70, hf⟩ := obind hf
          refine fr_callS hx hb hml hts hown K hC hR (c_X8_isIn hfl D cA g70) 3 kw1066 kw1064 kw1065 kw62 (by decide +kernel) ⟨by exact Nat.le_of_ble_eq_true rfl, by exact Nat.le_of_ble_eq_true rfl⟩ rfl hl.1 (cat8 _ (by exact Nat.le_of_ble_eq_true rfl)) dX8_add_49 rfl (fun H locs _ _ hC => ?_)
          refine lv_if_ne (tgt := 61) hx hb dX8_add_52 (by decide) (fun c71 => ?_) (fun c71 => ?_)
          · replace hf := oneg c71 hf
            exact w_X8_add_L61 M hfl _ _ _ _ _ _ hf _ _ _ _ _ hC (lv_sub hl [0, 1, 2, 3, 4] rfl)
          · replace hf := opos c71 hf
            exact w_X8_add_L55 M hfl _ _ hf _ _ _ _ _ hC (lv_sub hl [0] rfl)
  · replace hf := opos c61 hf
    refine fr_aload_n hx hb dX8_add_13 rfl (lv_at hl 0 rfl) ?_
    refine lv_iconst (v := (1 : Int32)) hx hb dX8_add_14 (by decide) ?_
    obtain ⟨b74, q75, hf⟩ := obind hf
    obtain ⟨r72, g73, hf⟩ := obind hf
    refine fr_callV hx hb hml hts hown K hC hR ct_8 (c_X8_no hfl D cA g73) 1 q75 kw1070 kw1067 kw1069 kw21 kw62 (by decide +kernel) ⟨by exact Nat.le_of_ble_eq_true rfl, by exact Nat.le_of_ble_eq_true rfl⟩ rfl hl.1 (cat8 _ (by exact Nat.le_of_ble_eq_true rfl)) dX8_add_15 rfl (fun H locs _ _ hC => ?_)
    obtain rfl := Option.some.inj hf
    exact fr_iret hx hb hr hlocks hC dX8_add_18
set_option maxRecDepth 100000 in
theorem c_X8_add {l : Launch} (hfl : l.stackTraces = false) (D : va_G) (cA : Nat → ClassId) {o : Nat} {p0 : Int32} {p1 : Int32} {p2 : Int32} {p3 : Int32} {h : fSt} {r : (Int32 × fSt)} (hf : f_X8_add o p0 p1 p2 p3 h = some r) : fMet l yX8_add (wsC yX8_add cX8_add 5 (some (.int))) (2) (43) D cA [.ref o, .int p0, .int p1, .int p2, .int p3] h r.2 (some (.int r.1)) := by
  exact fMet.of (own := RX8) (by decide +kernel) rfl (lva1 rfl (lva1 rfl (lva1 rfl (lva1 rfl (lva1 rfl lva0))))) (lgl1 rfl (lgl1 rfl (lgl1 rfl (lgl1 rfl (lgl1 rfl lgl0))))) (Nat.le_of_ble_eq_true rfl) (fun p e s m args below meth c ls hnm _ M hC hl => by
    have hl : lv_has ls 5 [(0, va_rf (some o)), (1, .int p0), (2, .int p1), (3, .int p2), (4, .int p3)] := hl
    exact w_X8_add_L0 M hfl _ _ _ _ _ _ hf _ _ _ _ _ hC (lv_sub hl [0, 1, 2, 3, 4] rfl))
set_option maxHeartbeats 4000000 in
set_option maxRecDepth 100000 in
theorem w_X8_ok_L0 {p : Program} {l : Launch} {e : Env} {s : State} {m : MethodId} {args : Array Value} {below : List Frame} {meth : Method} {c : Code} {D : va_G} {cA : Nat → ClassId} {h0 : fSt} {r : (Int32 × fSt)} (M : fM p s m args meth c D cA h0 { frames := 0, cells := fCB h0 - fZ h0, slots := fLB h0 - fL h0, locals := 0 } cX8_ok 2 (some (.int)) RX8) (hfl : l.stackTraces = false) (a0 : Option Nat) (a1 : Int32) (h : fSt) (hf : f_X8_ok_L0 a0 a1 h = some r) : ∀ (H : Heap) (locs : List Loc) (cells slots : Nat) (ls : Array Slot), fCur D cA s h0 h H locs → lv_has ls 2 [(0, va_rf a0), (1, .int a1)] → W p l e { frames := 0, cells := fCB h0 - fZ h0, slots := fLB h0 - fL h0, locals := 0 } s m args below meth c H locs cells slots (MQ below (fQ D cA h0 r.2 (some (.int r.1))) args s (fCB h0 - fZ h0) (fLB h0 - fL h0) (fA h0)) (F0 m 0 ls []) := by
  obtain ⟨hx, hb, hml, hr, hlocks, hts, hown, K, hR⟩ := id M
  intro H locs cells slots ls hC hl
  refine fr_aload_n hx hb dX8_ok_0 rfl (lv_at hl 0 rfl) ?_
  refine lv_iconst (v := (0 : Int32)) hx hb dX8_ok_1 (by decide) ?_
  obtain ⟨h1, g2, hf⟩ := obind hf
  refine fr_put hx hb hts hown K hC ct_8 g2 (by decide) kw971 rfl rfl rfl rfl dX8_ok_2 (fun H locs hC => ?_)
  refine lv_iload_n hx hb dX8_ok_5 rfl (lv_at hl 1 rfl) ?_
  obtain rfl := Option.some.inj hf
  exact fr_iret hx hb hr hlocks hC dX8_ok_6
set_option maxRecDepth 100000 in
theorem c_X8_ok {l : Launch} (hfl : l.stackTraces = false) (D : va_G) (cA : Nat → ClassId) {o : Nat} {p0 : Int32} {h : fSt} {r : (Int32 × fSt)} (hf : f_X8_ok o p0 h = some r) : fMet l yX8_ok (wsC yX8_ok cX8_ok 2 (some (.int))) (0) (0) D cA [.ref o, .int p0] h r.2 (some (.int r.1)) := by
  exact fMet.of (own := RX8) (by decide +kernel) rfl (lva1 rfl (lva1 rfl lva0)) (lgl1 rfl (lgl1 rfl lgl0)) (Nat.le_of_ble_eq_true rfl) (fun p e s m args below meth c ls hnm _ M hC hl => by
    have hl : lv_has ls 2 [(0, va_rf (some o)), (1, .int p0)] := hl
    exact w_X8_ok_L0 M hfl _ _ _ hf _ _ _ _ _ hC (lv_sub hl [0, 1] rfl))
set_option maxHeartbeats 4000000 in
set_option maxRecDepth 100000 in
theorem w_X8_added_L0 {p : Program} {l : Launch} {e : Env} {s : State} {m : MethodId} {args : Array Value} {below : List Frame} {meth : Method} {c : Code} {D : va_G} {cA : Nat → ClassId} {h0 : fSt} {r : (Int32 × fSt)} (M : fM p s m args meth c D cA h0 { frames := 1, cells := fCB h0 - fZ h0, slots := fLB h0 - fL h0, locals := 21 } cX8_added 1 (some (.int)) RX8) (hfl : l.stackTraces = false) (a0 : Option Nat) (h : fSt) (hf : f_X8_added_L0 a0 h = some r) : ∀ (H : Heap) (locs : List Loc) (cells slots : Nat) (ls : Array Slot), fCur D cA s h0 h H locs → lv_has ls 1 [(0, va_rf a0)] → W p l e { frames := 1, cells := fCB h0 - fZ h0, slots := fLB h0 - fL h0, locals := 21 } s m args below meth c H locs cells slots (MQ below (fQ D cA h0 r.2 (some (.int r.1))) args s (fCB h0 - fZ h0) (fLB h0 - fL h0) (fA h0)) (F0 m 0 ls []) := by
  obtain ⟨hx, hb, hml, hr, hlocks, hts, hown, K, hR⟩ := id M
  intro H locs cells slots ls hC hl
  refine fr_aload_n hx hb dX8_added_0 rfl (lv_at hl 0 rfl) ?_
  refine fr_aload_n hx hb dX8_added_1 rfl (lv_at hl 0 rfl) ?_
  obtain ⟨x1, g2, hf⟩ := obind hf
  refine fr_get hx hb hts hown K hC ct_8 (fgI_get g2) (by decide) kw972 rfl dX8_added_2 ?_
  obtain ⟨b5, q6, hf⟩ := obind hf
  obtain ⟨r3, g4, hf⟩ := obind hf
  refine fr_callV hx hb hml hts hown K hC hR ct_8 (c_X8_ok hfl D cA g4) 1 q6 kw1134 kw1131 kw1133 kw27 kw62 (by decide +kernel) ⟨by exact Nat.le_of_ble_eq_true rfl, by exact Nat.le_of_ble_eq_true rfl⟩ rfl hl.1 (cat8 _ (by exact Nat.le_of_ble_eq_true rfl)) dX8_added_5 rfl (fun H locs _ _ hC => ?_)
  obtain rfl := Option.some.inj hf
  exact fr_iret hx hb hr hlocks hC dX8_added_8
set_option maxRecDepth 100000 in
theorem c_X8_added {l : Launch} (hfl : l.stackTraces = false) (D : va_G) (cA : Nat → ClassId) {o : Nat} {h : fSt} {r : (Int32 × fSt)} (hf : f_X8_added o h = some r) : fMet l yX8_added (wsC yX8_added cX8_added 1 (some (.int))) (1) (21) D cA [.ref o] h r.2 (some (.int r.1)) := by
  exact fMet.of (own := RX8) (by decide +kernel) rfl (lva1 rfl lva0) (lgl1 rfl lgl0) (Nat.le_of_ble_eq_true rfl) (fun p e s m args below meth c ls hnm _ M hC hl => by
    have hl : lv_has ls 1 [(0, va_rf (some o))] := hl
    exact w_X8_added_L0 M hfl _ _ hf _ _ _ _ _ hC (lv_sub hl [0] rfl))
set_option maxHeartbeats 4000000 in
set_option maxRecDepth 100000 in
theorem w_X8_asked_L47 {p : Program} {l : Launch} {e : Env} {s : State} {m : MethodId} {args : Array Value} {below : List Frame} {meth : Method} {c : Code} {D : va_G} {cA : Nat → ClassId} {h0 : fSt} {r : (Int32 × fSt)} (M : fM p s m args meth c D cA h0 { frames := 1, cells := fCB h0 - fZ h0, slots := fLB h0 - fL h0, locals := 22 } cX8_asked 5 (some (.int)) RX8) (hfl : l.stackTraces = false) (s0 : Int32) (h : fSt) (hf : f_X8_asked_L47 s0 h = some r) : ∀ (H : Heap) (locs : List Loc) (cells slots : Nat) (ls : Array Slot), fCur D cA s h0 h H locs → lv_has ls 5 [] → W p l e { frames := 1, cells := fCB h0 - fZ h0, slots := fLB h0 - fL h0, locals := 22 } s m args below meth c H locs cells slots (MQ below (fQ D cA h0 r.2 (some (.int r.1))) args s (fCB h0 - fZ h0) (fLB h0 - fL h0) (fA h0)) (F0 m 47 ls [.int s0]) := by
  obtain ⟨hx, hb, hml, hr, hlocks, hts, hown, K, hR⟩ := id M
  intro H locs cells slots ls hC hl
  obtain rfl := Option.some.inj hf
  exact fr_iret hx hb hr hlocks hC dX8_asked_47
set_option maxHeartbeats 4000000 in
set_option maxRecDepth 100000 in
theorem w_X8_asked_L46 {p : Program} {l : Launch} {e : Env} {s : State} {m : MethodId} {args : Array Value} {below : List Frame} {meth : Method} {c : Code} {D : va_G} {cA : Nat → ClassId} {h0 : fSt} {r : (Int32 × fSt)} (M : fM p s m args meth c D cA h0 { frames := 1, cells := fCB h0 - fZ h0, slots := fLB h0 - fL h0, locals := 22 } cX8_asked 5 (some (.int)) RX8) (hfl : l.stackTraces = false)  (h : fSt) (hf : f_X8_asked_L46  h = some r) : ∀ (H : Heap) (locs : List Loc) (cells slots : Nat) (ls : Array Slot), fCur D cA s h0 h H locs → lv_has ls 5 [] → W p l e { frames := 1, cells := fCB h0 - fZ h0, slots := fLB h0 - fL h0, locals := 22 } s m args below meth c H locs cells slots (MQ below (fQ D cA h0 r.2 (some (.int r.1))) args s (fCB h0 - fZ h0) (fLB h0 - fL h0) (fA h0)) (F0 m 46 ls []) := by
  obtain ⟨hx, hb, hml, hr, hlocks, hts, hown, K, hR⟩ := id M
  intro H locs cells slots ls hC hl
  refine lv_iconst (v := (2 : Int32)) hx hb dX8_asked_46 (by decide) ?_
  exact w_X8_asked_L47 M hfl _ _ hf _ _ _ _ _ hC (lv_sub hl [] rfl)
set_option maxHeartbeats 4000000 in
set_option maxRecDepth 100000 in
theorem w_X8_asked_L0 {p : Program} {l : Launch} {e : Env} {s : State} {m : MethodId} {args : Array Value} {below : List Frame} {meth : Method} {c : Code} {D : va_G} {cA : Nat → ClassId} {h0 : fSt} {r : (Int32 × fSt)} (M : fM p s m args meth c D cA h0 { frames := 1, cells := fCB h0 - fZ h0, slots := fLB h0 - fL h0, locals := 22 } cX8_asked 5 (some (.int)) RX8) (hfl : l.stackTraces = false) (a1 : Int32) (a2 : Int32) (a3 : Int32) (a4 : Int32) (h : fSt) (hf : f_X8_asked_L0 a1 a2 a3 a4 h = some r) : ∀ (H : Heap) (locs : List Loc) (cells slots : Nat) (ls : Array Slot), fCur D cA s h0 h H locs → lv_has ls 5 [(1, .int a1), (2, .int a2), (3, .int a3), (4, .int a4)] → W p l e { frames := 1, cells := fCB h0 - fZ h0, slots := fLB h0 - fL h0, locals := 22 } s m args below meth c H locs cells slots (MQ below (fQ D cA h0 r.2 (some (.int r.1))) args s (fCB h0 - fZ h0) (fLB h0 - fL h0) (fA h0)) (F0 m 0 ls []) := by
  obtain ⟨hx, hb, hml, hr, hlocks, hts, hown, K, hR⟩ := id M
  intro H locs cells slots ls hC hl
  refine lv_iload_n hx hb dX8_asked_0 rfl (lv_at hl 0 rfl) ?_
  refine lv_if_ne (tgt := 6) hx hb dX8_asked_1 (by decide) (fun c1 => ?_) (fun c1 => ?_)
  · replace hf := oneg c1 hf
    refine lv_iload_n hx hb dX8_asked_6 rfl (lv_at hl 1 rfl) ?_
    refine lv_sipush (v := (-1000 : Int32)) hx hb dX8_asked_7 (by decide) ?_
    refine lv_sipush (v := (1000 : Int32)) hx hb dX8_asked_10 (by decide) ?_
    obtain ⟨r2, g3, hf⟩ := obind hf
    refine fr_callS hx hb hml hts hown K hC hR (c_X8_isIn hfl D cA g3) 3 kw1066 kw1064 kw1065 kw62 (by decide +kernel) ⟨by exact Nat.le_of_ble_eq_true rfl, by exact Nat.le_of_ble_eq_true rfl⟩ rfl hl.1 (cat8 _ (by exact Nat.le_of_ble_eq_true rfl)) dX8_asked_13 rfl (fun H locs _ _ hC => ?_)
    refine lv_if_eq (tgt := 46) hx hb dX8_asked_16 (by decide) (fun c4 => ?_) (fun c4 => ?_)
    · replace hf := opos c4 hf
      exact w_X8_asked_L46 M hfl _ hf _ _ _ _ _ hC (lv_sub hl [] rfl)
    · replace hf := oneg c4 hf
      refine lv_iload_n hx hb dX8_asked_19 rfl (lv_at hl 2 rfl) ?_
      refine lv_sipush (v := (-1000 : Int32)) hx hb dX8_asked_20 (by decide) ?_
      refine lv_sipush (v := (1000 : Int32)) hx hb dX8_asked_23 (by decide) ?_
      obtain ⟨r5, g6, hf⟩ := obind hf
      refine fr_callS hx hb hml hts hown K hC hR (c_X8_isIn hfl D cA g6) 3 kw1066 kw1064 kw1065 kw62 (by decide +kernel) ⟨by exact Nat.le_of_ble_eq_true rfl, by exact Nat.le_of_ble_eq_true rfl⟩ rfl hl.1 (cat8 _ (by exact Nat.le_of_ble_eq_true rfl)) dX8_asked_26 rfl (fun H locs _ _ hC => ?_)
      refine lv_if_eq (tgt := 46) hx hb dX8_asked_29 (by decide) (fun c7 => ?_) (fun c7 => ?_)
      · replace hf := opos c7 hf
        exact w_X8_asked_L46 M hfl _ hf _ _ _ _ _ hC (lv_sub hl [] rfl)
      · replace hf := oneg c7 hf
        refine lv_iload hx hb dX8_asked_32 (lv_at hl 3 rfl) ?_
        refine lv_iconst (v := (0 : Int32)) hx hb dX8_asked_34 (by decide) ?_
        refine lv_iconst (v := (3 : Int32)) hx hb dX8_asked_35 (by decide) ?_
        obtain ⟨r8, g9, hf⟩ := obind hf
        refine fr_callS hx hb hml hts hown K hC hR (c_X8_isIn hfl D cA g9) 3 kw1066 kw1064 kw1065 kw62 (by decide +kernel) ⟨by exact Nat.le_of_ble_eq_true rfl, by exact Nat.le_of_ble_eq_true rfl⟩ rfl hl.1 (cat8 _ (by exact Nat.le_of_ble_eq_true rfl)) dX8_asked_36 rfl (fun H locs _ _ hC => ?_)
        refine lv_if_eq (tgt := 46) hx hb dX8_asked_39 (by decide) (fun c10 => ?_) (fun c10 => ?_)
        · replace hf := opos c10 hf
          exact w_X8_asked_L46 M hfl _ hf _ _ _ _ _ hC (lv_sub hl [] rfl)
        · replace hf := oneg c10 hf
          refine lv_iconst (v := (0 : Int32)) hx hb dX8_asked_42 (by decide) ?_
          refine lv_goto (tgt := 47) hx hb dX8_asked_43 (by decide) ?_
          exact w_X8_asked_L47 M hfl _ _ hf _ _ _ _ _ hC (lv_sub hl [] rfl)
  · replace hf := opos c1 hf
    refine lv_iconst (v := (1 : Int32)) hx hb dX8_asked_4 (by decide) ?_
    obtain rfl := Option.some.inj hf
    exact fr_iret hx hb hr hlocks hC dX8_asked_5
set_option maxRecDepth 100000 in
theorem c_X8_asked {l : Launch} (hfl : l.stackTraces = false) (D : va_G) (cA : Nat → ClassId) {o : Nat} {p0 : Int32} {p1 : Int32} {p2 : Int32} {p3 : Int32} {h : fSt} {r : (Int32 × fSt)} (hf : f_X8_asked o p0 p1 p2 p3 h = some r) : fMet l yX8_asked (wsC yX8_asked cX8_asked 5 (some (.int))) (1) (22) D cA [.ref o, .int p0, .int p1, .int p2, .int p3] h r.2 (some (.int r.1)) := by
  exact fMet.of (own := RX8) (by decide +kernel) rfl (lva1 rfl (lva1 rfl (lva1 rfl (lva1 rfl (lva1 rfl lva0))))) (lgl1 rfl (lgl1 rfl (lgl1 rfl (lgl1 rfl (lgl1 rfl lgl0))))) (Nat.le_of_ble_eq_true rfl) (fun p e s m args below meth c ls hnm _ M hC hl => by
    have hl : lv_has ls 5 [(0, va_rf (some o)), (1, .int p0), (2, .int p1), (3, .int p2), (4, .int p3)] := hl
    exact w_X8_asked_L0 M hfl _ _ _ _ _ hf _ _ _ _ _ hC (lv_sub hl [1, 2, 3, 4] rfl))
set_option maxHeartbeats 4000000 in
set_option maxRecDepth 100000 in
theorem w_X8_tells_L50 {p : Program} {l : Launch} {e : Env} {s : State} {m : MethodId} {args : Array Value} {below : List Frame} {meth : Method} {c : Code} {D : va_G} {cA : Nat → ClassId} {h0 : fSt} {r : (Int32 × fSt)} (M : fM p s m args meth c D cA h0 { frames := 0, cells := fCB h0 - fZ h0, slots := fLB h0 - fL h0, locals := 0 } cX8_tells 15 (some (.int)) RX8) (hfl : l.stackTraces = false) (a0 : Option Nat) (a3 : Int32) (h : fSt) (hf : f_X8_tells_L50 a0 a3 h = some r) : ∀ (H : Heap) (locs : List Loc) (cells slots : Nat) (ls : Array Slot), fCur D cA s h0 h H locs → lv_has ls 15 [(0, va_rf a0), (3, .int a3)] → W p l e { frames := 0, cells := fCB h0 - fZ h0, slots := fLB h0 - fL h0, locals := 0 } s m args below meth c H locs cells slots (MQ below (fQ D cA h0 r.2 (some (.int r.1))) args s (fCB h0 - fZ h0) (fLB h0 - fL h0) (fA h0)) (F0 m 50 ls []) := by
  obtain ⟨hx, hb, hml, hr, hlocks, hts, hown, K, hR⟩ := id M
  intro H locs cells slots ls hC hl
  refine fr_aload_n hx hb dX8_tells_50 rfl (lv_at hl 0 rfl) ?_
  obtain ⟨x1, g2, hf⟩ := obind hf
  refine fr_get hx hb hts hown K hC ct_8 (fgR_get g2) (by decide) kw995 rfl dX8_tells_51 ?_
  refine lv_iload_n hx hb dX8_tells_54 rfl (lv_at hl 1 rfl) ?_
  obtain ⟨x3, g4, hf⟩ := obind hf
  refine fr_iald hx hb K hC (t := 0) rfl g4 dX8_tells_55 ?_
  obtain rfl := Option.some.inj hf
  exact fr_iret hx hb hr hlocks hC dX8_tells_56
set_option maxHeartbeats 4000000 in
set_option maxRecDepth 100000 in
theorem w_X8_tells_L190 {p : Program} {l : Launch} {e : Env} {s : State} {m : MethodId} {args : Array Value} {below : List Frame} {meth : Method} {c : Code} {D : va_G} {cA : Nat → ClassId} {h0 : fSt} {r : (Int32 × fSt)} (M : fM p s m args meth c D cA h0 { frames := 0, cells := fCB h0 - fZ h0, slots := fLB h0 - fL h0, locals := 0 } cX8_tells 15 (some (.int)) RX8) (hfl : l.stackTraces = false) (a0 : Option Nat) (a8 : Int32) (h : fSt) (hf : f_X8_tells_L190 a0 a8 h = some r) : ∀ (H : Heap) (locs : List Loc) (cells slots : Nat) (ls : Array Slot), fCur D cA s h0 h H locs → lv_has ls 15 [(0, va_rf a0), (8, .int a8)] → W p l e { frames := 0, cells := fCB h0 - fZ h0, slots := fLB h0 - fL h0, locals := 0 } s m args below meth c H locs cells slots (MQ below (fQ D cA h0 r.2 (some (.int r.1))) args s (fCB h0 - fZ h0) (fLB h0 - fL h0) (fA h0)) (F0 m 190 ls []) := by
  obtain ⟨hx, hb, hml, hr, hlocks, hts, hown, K, hR⟩ := id M
  intro H locs cells slots ls hC hl
  refine fr_aload_n hx hb dX8_tells_190 rfl (lv_at hl 0 rfl) ?_
  obtain ⟨x5, g6, hf⟩ := obind hf
  refine fr_get hx hb hts hown K hC ct_8 (fgR_get g6) (by decide) kw995 rfl dX8_tells_191 ?_
  refine lv_iload hx hb dX8_tells_194 (lv_at hl 1 rfl) ?_
  obtain ⟨x7, g8, hf⟩ := obind hf
  refine fr_iald hx hb K hC (t := 0) rfl g8 dX8_tells_196 ?_
  obtain rfl := Option.some.inj hf
  exact fr_iret hx hb hr hlocks hC dX8_tells_197
set_option maxHeartbeats 4000000 in
set_option maxRecDepth 100000 in
theorem w_X8_tells_L310 {p : Program} {l : Launch} {e : Env} {s : State} {m : MethodId} {args : Array Value} {below : List Frame} {meth : Method} {c : Code} {D : va_G} {cA : Nat → ClassId} {h0 : fSt} {r : (Int32 × fSt)} (M : fM p s m args meth c D cA h0 { frames := 0, cells := fCB h0 - fZ h0, slots := fLB h0 - fL h0, locals := 0 } cX8_tells 15 (some (.int)) RX8) (hfl : l.stackTraces = false) (s1 : Int64) (s0 : Int32) (h : fSt) (hf : f_X8_tells_L310 s1 s0 h = some r) : ∀ (H : Heap) (locs : List Loc) (cells slots : Nat) (ls : Array Slot), fCur D cA s h0 h H locs → lv_has ls 15 [] → W p l e { frames := 0, cells := fCB h0 - fZ h0, slots := fLB h0 - fL h0, locals := 0 } s m args below meth c H locs cells slots (MQ below (fQ D cA h0 r.2 (some (.int r.1))) args s (fCB h0 - fZ h0) (fLB h0 - fL h0) (fA h0)) (F0 m 310 ls [.long s1, .int s0]) := by
  obtain ⟨hx, hb, hml, hr, hlocks, hts, hown, K, hR⟩ := id M
  intro H locs cells slots ls hC hl
  refine lv_l2i (v := (Int64.toInt32 s1)) hx hb dX8_tells_310 rfl ?_
  refine lv_iadd hx hb dX8_tells_311 ?_
  obtain rfl := Option.some.inj hf
  exact fr_iret hx hb hr hlocks hC dX8_tells_312
set_option maxHeartbeats 4000000 in
set_option maxRecDepth 100000 in
theorem w_X8_tells_L151 {p : Program} {l : Launch} {e : Env} {s : State} {m : MethodId} {args : Array Value} {below : List Frame} {meth : Method} {c : Code} {D : va_G} {cA : Nat → ClassId} {h0 : fSt} {r : (Int32 × fSt)} (M : fM p s m args meth c D cA h0 { frames := 0, cells := fCB h0 - fZ h0, slots := fLB h0 - fL h0, locals := 0 } cX8_tells 15 (some (.int)) RX8) (hfl : l.stackTraces = false) : ∀ (n : Nat) (a0 : Option Nat) (a1 : Int32) (a7 : Int32) (a8 : Int32) (h : fSt), f_X8_tells_L151 n a0 a1 a7 a8 h = some r → ∀ (H : Heap) (locs : List Loc) (cells slots : Nat) (ls : Array Slot), fCur D cA s h0 h H locs → lv_has ls 15 [(0, va_rf a0), (1, .int a1), (7, .int a7), (8, .int a8)] → W p l e { frames := 0, cells := fCB h0 - fZ h0, slots := fLB h0 - fL h0, locals := 0 } s m args below meth c H locs cells slots (MQ below (fQ D cA h0 r.2 (some (.int r.1))) args s (fCB h0 - fZ h0) (fLB h0 - fL h0) (fA h0)) (F0 m 151 ls []) := by
  obtain ⟨hx, hb, hml, hr, hlocks, hts, hown, K, hR⟩ := id M
  intro n
  induction n with
  | zero =>
    intro a0 a1 a7 a8 h hf
    exact nomatch (show (none : Option (Int32 × fSt)) = some r from hf)
  | succ n hk151 =>
    intro a0 a1 a7 a8 h hf H locs cells slots ls hC hl
    refine fr_aload_n hx hb dX8_tells_151 rfl (lv_at hl 0 rfl) ?_
    obtain ⟨x9, g10, hf⟩ := obind hf
    refine fr_get hx hb hts hown K hC ct_8 (fgR_get g10) (by decide) kw994 rfl dX8_tells_152 ?_
    refine lv_iload hx hb dX8_tells_155 (lv_at hl 3 rfl) ?_
    obtain ⟨x11, g12, hf⟩ := obind hf
    refine fr_iald hx hb K hC (t := 0) rfl g12 dX8_tells_157 ?_
    refine lv_iload hx hb dX8_tells_158 (lv_at hl 2 rfl) ?_
    refine lv_icmp_le (tgt := 169) hx hb dX8_tells_160 (by decide) (fun c13 => ?_) (fun c13 => ?_)
    · replace hf := opos c13 hf
      refine fr_aload_n hx hb dX8_tells_169 rfl (lv_at hl 0 rfl) ?_
      obtain ⟨x14, g15, hf⟩ := obind hf
      refine fr_get hx hb hts hown K hC ct_8 (fgR_get g15) (by decide) kw994 rfl dX8_tells_170 ?_
      refine lv_iload hx hb dX8_tells_173 (lv_at hl 3 rfl) ?_
      obtain ⟨x16, g17, hf⟩ := obind hf
      refine fr_iald hx hb K hC (t := 0) rfl g17 dX8_tells_175 ?_
      refine lv_iload hx hb dX8_tells_176 (lv_at hl 2 rfl) ?_
      refine lv_icmp_eq (tgt := 190) hx hb dX8_tells_178 (by decide) (fun c18 => ?_) (fun c18 => ?_)
      · replace hf := opos c18 hf
        exact w_X8_tells_L190 M hfl _ _ _ hf _ _ _ _ _ hC (lv_sub hl [0, 3] rfl)
      · replace hf := oneg c18 hf
        refine fr_aload_n hx hb dX8_tells_181 rfl (lv_at hl 0 rfl) ?_
        obtain ⟨x19, g20, hf⟩ := obind hf
        refine fr_get hx hb hts hown K hC ct_8 (fgR_get g20) (by decide) kw991 rfl dX8_tells_182 ?_
        refine lv_iload_n hx hb dX8_tells_185 rfl (lv_at hl 1 rfl) ?_
        obtain ⟨x21, g22, hf⟩ := obind hf
        refine fr_iald hx hb K hC (t := 0) rfl g22 dX8_tells_186 ?_
        refine lv_if_ne (tgt := 198) hx hb dX8_tells_187 (by decide) (fun c23 => ?_) (fun c23 => ?_)
        · replace hf := oneg c23 hf
          refine lv_iload hx hb dX8_tells_198 (lv_at hl 2 rfl) ?_
          refine fr_aload_n hx hb dX8_tells_200 rfl (lv_at hl 0 rfl) ?_
          obtain ⟨x24, g25, hf⟩ := obind hf
          refine fr_get hx hb hts hown K hC ct_8 (fgR_get g25) (by decide) kw994 rfl dX8_tells_201 ?_
          refine lv_iload hx hb dX8_tells_204 (lv_at hl 3 rfl) ?_
          obtain ⟨x26, g27, hf⟩ := obind hf
          refine fr_iald hx hb K hC (t := 0) rfl g27 dX8_tells_206 ?_
          refine lv_isub hx hb dX8_tells_207 ?_
          refine lv_i2l (v := (Int32.toInt64 (a7 - x26))) hx hb dX8_tells_208 rfl ?_
          refine lv_lstore (lv' := [(9, .long (Int32.toInt64 (a7 - x26))), (0, va_rf a0), (1, .int a1), (7, .int a7), (8, .int a8)]) hx hb dX8_tells_209 hl (by decide) (congrArg (List.cons _) (flk rfl (flk rfl (flk rfl (flk rfl fln))))) (fun ls hl => ?_)
          refine fr_aload_n hx hb dX8_tells_211 rfl (lv_at hl 1 rfl) ?_
          obtain ⟨x28, g29, hf⟩ := obind hf
          refine fr_get hx hb hts hown K hC ct_8 (fgR_get g29) (by decide) kw994 rfl dX8_tells_212 ?_
          refine lv_iload hx hb dX8_tells_215 (lv_at hl 4 rfl) ?_
          refine lv_iconst (v := (1 : Int32)) hx hb dX8_tells_217 (by decide) ?_
          refine lv_iadd hx hb dX8_tells_218 ?_
          obtain ⟨x30, g31, hf⟩ := obind hf
          refine fr_iald hx hb K hC (t := 0) rfl g31 dX8_tells_219 ?_
          refine fr_aload_n hx hb dX8_tells_220 rfl (lv_at hl 1 rfl) ?_
          obtain ⟨x32, g33, hf⟩ := obind hf
          refine fr_get hx hb hts hown K hC ct_8 (fgR_get g33) (by decide) kw994 rfl dX8_tells_221 ?_
          refine lv_iload hx hb dX8_tells_224 (lv_at hl 4 rfl) ?_
          obtain ⟨x34, g35, hf⟩ := obind hf
          refine fr_iald hx hb K hC (t := 0) rfl g35 dX8_tells_226 ?_
          refine lv_isub hx hb dX8_tells_227 ?_
          refine lv_i2l (v := (Int32.toInt64 (x30 - x34))) hx hb dX8_tells_228 rfl ?_
          refine lv_lstore (lv' := [(11, .long (Int32.toInt64 (x30 - x34))), (9, .long (Int32.toInt64 (a7 - x26))), (0, va_rf a0), (1, .int a1), (7, .int a7), (8, .int a8)]) hx hb dX8_tells_229 hl (by decide) (congrArg (List.cons _) (flk rfl (flk rfl (flk rfl (flk rfl (flk rfl fln)))))) (fun ls hl => ?_)
          refine fr_aload_n hx hb dX8_tells_231 rfl (lv_at hl 2 rfl) ?_
          obtain ⟨x36, g37, hf⟩ := obind hf
          refine fr_get hx hb hts hown K hC ct_8 (fgR_get g37) (by decide) kw995 rfl dX8_tells_232 ?_
          refine lv_iload hx hb dX8_tells_235 (lv_at hl 5 rfl) ?_
          refine lv_iconst (v := (1 : Int32)) hx hb dX8_tells_237 (by decide) ?_
          refine lv_iadd hx hb dX8_tells_238 ?_
          obtain ⟨x38, g39, hf⟩ := obind hf
          refine fr_iald hx hb K hC (t := 0) rfl g39 dX8_tells_239 ?_
          refine fr_aload_n hx hb dX8_tells_240 rfl (lv_at hl 2 rfl) ?_
          obtain ⟨x40, g41, hf⟩ := obind hf
          refine fr_get hx hb hts hown K hC ct_8 (fgR_get g41) (by decide) kw995 rfl dX8_tells_241 ?_
          refine lv_iload hx hb dX8_tells_244 (lv_at hl 5 rfl) ?_
          obtain ⟨x42, g43, hf⟩ := obind hf
          refine fr_iald hx hb K hC (t := 0) rfl g43 dX8_tells_246 ?_
          refine lv_isub hx hb dX8_tells_247 ?_
          refine lv_i2l (v := (Int32.toInt64 (x38 - x42))) hx hb dX8_tells_248 rfl ?_
          refine lv_lstore (lv' := [(13, .long (Int32.toInt64 (x38 - x42))), (11, .long (Int32.toInt64 (x30 - x34))), (9, .long (Int32.toInt64 (a7 - x26))), (0, va_rf a0), (1, .int a1), (7, .int a7), (8, .int a8)]) hx hb dX8_tells_249 hl (by decide) (congrArg (List.cons _) (flk rfl (flk rfl (flk rfl (flk rfl (flk rfl (flk rfl fln))))))) (fun ls hl => ?_)
          refine fr_aload_n hx hb dX8_tells_251 rfl (lv_at hl 3 rfl) ?_
          obtain ⟨x44, g45, hf⟩ := obind hf
          refine fr_get hx hb hts hown K hC ct_8 (fgR_get g45) (by decide) kw995 rfl dX8_tells_252 ?_
          refine lv_iload hx hb dX8_tells_255 (lv_at hl 6 rfl) ?_
          obtain ⟨x46, g47, hf⟩ := obind hf
          refine fr_iald hx hb K hC (t := 0) rfl g47 dX8_tells_257 ?_
          refine fr_aload_n hx hb dX8_tells_258 rfl (lv_at hl 3 rfl) ?_
          obtain ⟨x48, g49, hf⟩ := obind hf
          refine fr_get hx hb hts hown K hC ct_8 (fgR_get g49) (by decide) kw991 rfl dX8_tells_259 ?_
          refine lv_iload_n hx hb dX8_tells_262 rfl (lv_at hl 4 rfl) ?_
          obtain ⟨x50, g51, hf⟩ := obind hf
          refine fr_iald hx hb K hC (t := 0) rfl g51 dX8_tells_263 ?_
          refine lv_iconst (v := (1 : Int32)) hx hb dX8_tells_264 (by decide) ?_
          refine lv_icmp_ne (tgt := 279) hx hb dX8_tells_265 (by decide) (fun c52 => ?_) (fun c52 => ?_)
          · replace hf := oneg c52 hf
            refine lv_lload hx hb dX8_tells_279 (lv_at hl 0 rfl) ?_
            refine lv_lload hx hb dX8_tells_281 (lv_at hl 2 rfl) ?_
            refine lv_lmul hx hb dX8_tells_283 ?_
            refine lv_lload hx hb dX8_tells_284 (lv_at hl 2 rfl) ?_
            refine lv_lmul hx hb dX8_tells_286 ?_
            refine fr_ldc2 (v := (3 : Int64)) hx hb hts hown kw1210 dX8_tells_287 ?_
            refine lv_lload hx hb dX8_tells_290 (lv_at hl 1 rfl) ?_
            refine lv_lmul hx hb dX8_tells_292 ?_
            refine fr_ldc2 (v := (2 : Int64)) hx hb hts hown kw1211 dX8_tells_293 ?_
            refine lv_lload hx hb dX8_tells_296 (lv_at hl 2 rfl) ?_
            refine lv_lmul hx hb dX8_tells_298 ?_
            refine lv_lsub hx hb dX8_tells_299 ?_
            refine lv_lmul hx hb dX8_tells_300 ?_
            refine lv_lload hx hb dX8_tells_301 (lv_at hl 1 rfl) ?_
            refine lv_lload hx hb dX8_tells_303 (lv_at hl 1 rfl) ?_
            refine lv_lmul hx hb dX8_tells_305 ?_
            refine lv_lload hx hb dX8_tells_306 (lv_at hl 1 rfl) ?_
            refine lv_lmul hx hb dX8_tells_308 ?_
            by_cases c53 : (((Int32.toInt64 (x30 - x34)) * (Int32.toInt64 (x30 - x34))) * (Int32.toInt64 (x30 - x34))) = 0
            · exact nomatch (opos c53 hf)
            replace hf := oneg c53 hf
            refine lv_ldiv hx hb dX8_tells_309 c53 ?_
            exact w_X8_tells_L310 M hfl _ _ _ hf _ _ _ _ _ hC (lv_sub hl [] rfl)
          · replace hf := opos c52 hf
            refine lv_lload hx hb dX8_tells_268 (lv_at hl 0 rfl) ?_
            refine lv_lload hx hb dX8_tells_270 (lv_at hl 2 rfl) ?_
            refine lv_lmul hx hb dX8_tells_272 ?_
            refine lv_lload hx hb dX8_tells_273 (lv_at hl 1 rfl) ?_
            by_cases c54 : (Int32.toInt64 (x30 - x34)) = 0
            · exact nomatch (opos c54 hf)
            replace hf := oneg c54 hf
            refine lv_ldiv hx hb dX8_tells_275 c54 ?_
            refine lv_goto (tgt := 310) hx hb dX8_tells_276 (by decide) ?_
            exact w_X8_tells_L310 M hfl _ _ _ hf _ _ _ _ _ hC (lv_sub hl [] rfl)
        · replace hf := opos c23 hf
          exact w_X8_tells_L190 M hfl _ _ _ hf _ _ _ _ _ hC (lv_sub hl [0, 3] rfl)
    · replace hf := oneg c13 hf
      refine lv_iinc (v := (a8 + (-1 : Int32))) (lv' := [(8, .int (a8 + (-1 : Int32))), (0, va_rf a0), (1, .int a1), (7, .int a7)]) hx hb dX8_tells_163 hl (k := 3) rfl rfl (by decide) (congrArg (List.cons _) (flk rfl (flk rfl (flk rfl (fld rfl fln))))) (fun ls hl => ?_)
      refine lv_goto (tgt := 151) hx hb dX8_tells_166 (by decide) ?_
      exact hk151 _ _ _ _ _ hf _ _ _ _ _ hC (lv_sub hl [1, 2, 3, 0] rfl)
set_option maxHeartbeats 4000000 in
set_option maxRecDepth 100000 in
theorem w_X8_tells_L147 {p : Program} {l : Launch} {e : Env} {s : State} {m : MethodId} {args : Array Value} {below : List Frame} {meth : Method} {c : Code} {D : va_G} {cA : Nat → ClassId} {h0 : fSt} {r : (Int32 × fSt)} (M : fM p s m args meth c D cA h0 { frames := 0, cells := fCB h0 - fZ h0, slots := fLB h0 - fL h0, locals := 0 } cX8_tells 15 (some (.int)) RX8) (hfl : l.stackTraces = false) (a0 : Option Nat) (a1 : Int32) (a4 : Int32) (a7 : Int32) (h : fSt) (hf : f_X8_tells_L147 a0 a1 a4 a7 h = some r) : ∀ (H : Heap) (locs : List Loc) (cells slots : Nat) (ls : Array Slot), fCur D cA s h0 h H locs → lv_has ls 15 [(0, va_rf a0), (1, .int a1), (4, .int a4), (7, .int a7)] → W p l e { frames := 0, cells := fCB h0 - fZ h0, slots := fLB h0 - fL h0, locals := 0 } s m args below meth c H locs cells slots (MQ below (fQ D cA h0 r.2 (some (.int r.1))) args s (fCB h0 - fZ h0) (fLB h0 - fL h0) (fA h0)) (F0 m 147 ls []) := by
  obtain ⟨hx, hb, hml, hr, hlocks, hts, hown, K, hR⟩ := id M
  intro H locs cells slots ls hC hl
  refine lv_iload hx hb dX8_tells_147 (lv_at hl 2 rfl) ?_
  refine lv_istore (lv' := [(8, .int a4), (0, va_rf a0), (1, .int a1), (4, .int a4), (7, .int a7)]) hx hb dX8_tells_149 hl (by decide) (congrArg (List.cons _) (flk rfl (flk rfl (flk rfl (flk rfl fln))))) (fun ls hl => ?_)
  exact w_X8_tells_L151 M hfl 4096 _ _ _ _ _ hf _ _ _ _ _ hC (lv_sub hl [1, 2, 4, 0] rfl)
set_option maxHeartbeats 4000000 in
set_option maxRecDepth 100000 in
theorem w_X8_tells_L145 {p : Program} {l : Launch} {e : Env} {s : State} {m : MethodId} {args : Array Value} {below : List Frame} {meth : Method} {c : Code} {D : va_G} {cA : Nat → ClassId} {h0 : fSt} {r : (Int32 × fSt)} (M : fM p s m args meth c D cA h0 { frames := 0, cells := fCB h0 - fZ h0, slots := fLB h0 - fL h0, locals := 0 } cX8_tells 15 (some (.int)) RX8) (hfl : l.stackTraces = false) (a0 : Option Nat) (a1 : Int32) (a4 : Int32) (s0 : Int32) (h : fSt) (hf : f_X8_tells_L145 a0 a1 a4 s0 h = some r) : ∀ (H : Heap) (locs : List Loc) (cells slots : Nat) (ls : Array Slot), fCur D cA s h0 h H locs → lv_has ls 15 [(0, va_rf a0), (1, .int a1), (4, .int a4)] → W p l e { frames := 0, cells := fCB h0 - fZ h0, slots := fLB h0 - fL h0, locals := 0 } s m args below meth c H locs cells slots (MQ below (fQ D cA h0 r.2 (some (.int r.1))) args s (fCB h0 - fZ h0) (fLB h0 - fL h0) (fA h0)) (F0 m 145 ls [.int s0]) := by
  obtain ⟨hx, hb, hml, hr, hlocks, hts, hown, K, hR⟩ := id M
  intro H locs cells slots ls hC hl
  refine lv_istore (lv' := [(7, .int s0), (0, va_rf a0), (1, .int a1), (4, .int a4)]) hx hb dX8_tells_145 hl (by decide) (congrArg (List.cons _) (flk rfl (flk rfl (flk rfl fln)))) (fun ls hl => ?_)
  exact w_X8_tells_L147 M hfl _ _ _ _ _ hf _ _ _ _ _ hC (lv_sub hl [1, 2, 3, 0] rfl)
set_option maxHeartbeats 4000000 in
set_option maxRecDepth 100000 in
theorem w_X8_tells_L111 {p : Program} {l : Launch} {e : Env} {s : State} {m : MethodId} {args : Array Value} {below : List Frame} {meth : Method} {c : Code} {D : va_G} {cA : Nat → ClassId} {h0 : fSt} {r : (Int32 × fSt)} (M : fM p s m args meth c D cA h0 { frames := 0, cells := fCB h0 - fZ h0, slots := fLB h0 - fL h0, locals := 0 } cX8_tells 15 (some (.int)) RX8) (hfl : l.stackTraces = false) (a0 : Option Nat) (a1 : Int32) (a4 : Int32) (a5 : Int32) (a6 : Int32) (s1 : Int32) (s0 : Int32) (h : fSt) (hf : f_X8_tells_L111 a0 a1 a4 a5 a6 s1 s0 h = some r) : ∀ (H : Heap) (locs : List Loc) (cells slots : Nat) (ls : Array Slot), fCur D cA s h0 h H locs → lv_has ls 15 [(0, va_rf a0), (1, .int a1), (4, .int a4), (5, .int a5), (6, .int a6)] → W p l e { frames := 0, cells := fCB h0 - fZ h0, slots := fLB h0 - fL h0, locals := 0 } s m args below meth c H locs cells slots (MQ below (fQ D cA h0 r.2 (some (.int r.1))) args s (fCB h0 - fZ h0) (fLB h0 - fL h0) (fA h0)) (F0 m 111 ls [.int s1, .int s0]) := by
  obtain ⟨hx, hb, hml, hr, hlocks, hts, hown, K, hR⟩ := id M
  intro H locs cells slots ls hC hl
  by_cases c55 : s1 = 0
  · exact nomatch (opos c55 hf)
  replace hf := oneg c55 hf
  refine lv_irem hx hb dX8_tells_111 c55 ?_
  refine lv_istore (lv' := [(8, .int (s0 - s0 / s1 * s1)), (0, va_rf a0), (1, .int a1), (4, .int a4), (5, .int a5), (6, .int a6)]) hx hb dX8_tells_112 hl (by decide) (congrArg (List.cons _) (flk rfl (flk rfl (flk rfl (flk rfl (flk rfl fln)))))) (fun ls hl => ?_)
  refine lv_iload hx hb dX8_tells_114 (lv_at hl 0 rfl) ?_
  refine lv_iload hx hb dX8_tells_116 (lv_at hl 5 rfl) ?_
  refine lv_iload hx hb dX8_tells_118 (lv_at hl 4 rfl) ?_
  refine lv_isub hx hb dX8_tells_120 ?_
  refine lv_icmp_gt (tgt := 132) hx hb dX8_tells_121 (by decide) (fun c56 => ?_) (fun c56 => ?_)
  · replace hf := opos c56 hf
    refine lv_iload hx hb dX8_tells_132 (lv_at hl 4 rfl) ?_
    refine lv_iconst (v := (2 : Int32)) hx hb dX8_tells_134 (by decide) ?_
    refine lv_iload hx hb dX8_tells_135 (lv_at hl 5 rfl) ?_
    refine lv_iload hx hb dX8_tells_137 (lv_at hl 4 rfl) ?_
    refine lv_isub hx hb dX8_tells_139 ?_
    refine lv_imul hx hb dX8_tells_140 ?_
    refine lv_iadd hx hb dX8_tells_141 ?_
    refine lv_iload hx hb dX8_tells_142 (lv_at hl 0 rfl) ?_
    refine lv_isub hx hb dX8_tells_144 ?_
    exact w_X8_tells_L145 M hfl _ _ _ _ _ hf _ _ _ _ _ hC (lv_sub hl [1, 2, 3] rfl)
  · replace hf := oneg c56 hf
    refine lv_iload hx hb dX8_tells_124 (lv_at hl 4 rfl) ?_
    refine lv_iload hx hb dX8_tells_126 (lv_at hl 0 rfl) ?_
    refine lv_iadd hx hb dX8_tells_128 ?_
    refine lv_goto (tgt := 145) hx hb dX8_tells_129 (by decide) ?_
    exact w_X8_tells_L145 M hfl _ _ _ _ _ hf _ _ _ _ _ hC (lv_sub hl [1, 2, 3] rfl)
set_option maxHeartbeats 4000000 in
set_option maxRecDepth 100000 in
theorem w_X8_tells_L0 {p : Program} {l : Launch} {e : Env} {s : State} {m : MethodId} {args : Array Value} {below : List Frame} {meth : Method} {c : Code} {D : va_G} {cA : Nat → ClassId} {h0 : fSt} {r : (Int32 × fSt)} (M : fM p s m args meth c D cA h0 { frames := 0, cells := fCB h0 - fZ h0, slots := fLB h0 - fL h0, locals := 0 } cX8_tells 15 (some (.int)) RX8) (hfl : l.stackTraces = false) (a0 : Option Nat) (a1 : Int32) (a2 : Int32) (h : fSt) (hf : f_X8_tells_L0 a0 a1 a2 h = some r) : ∀ (H : Heap) (locs : List Loc) (cells slots : Nat) (ls : Array Slot), fCur D cA s h0 h H locs → lv_has ls 15 [(0, va_rf a0), (1, .int a1), (2, .int a2)] → W p l e { frames := 0, cells := fCB h0 - fZ h0, slots := fLB h0 - fL h0, locals := 0 } s m args below meth c H locs cells slots (MQ below (fQ D cA h0 r.2 (some (.int r.1))) args s (fCB h0 - fZ h0) (fLB h0 - fL h0) (fA h0)) (F0 m 0 ls []) := by
  obtain ⟨hx, hb, hml, hr, hlocks, hts, hown, K, hR⟩ := id M
  intro H locs cells slots ls hC hl
  refine lv_iload_n hx hb dX8_tells_0 rfl (lv_at hl 1 rfl) ?_
  refine lv_bipush (v := (8 : Int32)) hx hb dX8_tells_1 (by decide) ?_
  refine lv_imul hx hb dX8_tells_3 ?_
  refine lv_istore_n (lv' := [(3, .int (a1 * (8 : Int32))), (0, va_rf a0), (1, .int a1), (2, .int a2)]) hx hb dX8_tells_4 rfl hl (by decide) (congrArg (List.cons _) (flk rfl (flk rfl (flk rfl fln)))) (fun ls hl => ?_)
  refine lv_iload_n hx hb dX8_tells_5 rfl (lv_at hl 0 rfl) ?_
  refine fr_aload_n hx hb dX8_tells_6 rfl (lv_at hl 1 rfl) ?_
  obtain ⟨x57, g58, hf⟩ := obind hf
  refine fr_get hx hb hts hown K hC ct_8 (fgR_get g58) (by decide) kw993 rfl dX8_tells_7 ?_
  refine lv_iload_n hx hb dX8_tells_10 rfl (lv_at hl 2 rfl) ?_
  obtain ⟨x59, g60, hf⟩ := obind hf
  refine fr_iald hx hb K hC (t := 0) rfl g60 dX8_tells_11 ?_
  refine lv_iadd hx hb dX8_tells_12 ?_
  refine lv_iconst (v := (1 : Int32)) hx hb dX8_tells_13 (by decide) ?_
  refine lv_isub hx hb dX8_tells_14 ?_
  refine lv_istore (lv' := [(4, .int (((a1 * (8 : Int32)) + x59) - (1 : Int32))), (3, .int (a1 * (8 : Int32))), (0, va_rf a0), (1, .int a1), (2, .int a2)]) hx hb dX8_tells_15 hl (by decide) (congrArg (List.cons _) (flk rfl (flk rfl (flk rfl (flk rfl fln))))) (fun ls hl => ?_)
  refine fr_aload_n hx hb dX8_tells_17 rfl (lv_at hl 2 rfl) ?_
  obtain ⟨x61, g62, hf⟩ := obind hf
  refine fr_get hx hb hts hown K hC ct_8 (fgR_get g62) (by decide) kw994 rfl dX8_tells_18 ?_
  refine lv_iload_n hx hb dX8_tells_21 rfl (lv_at hl 1 rfl) ?_
  obtain ⟨x63, g64, hf⟩ := obind hf
  refine fr_iald hx hb K hC (t := 0) rfl g64 dX8_tells_22 ?_
  refine lv_istore (lv' := [(5, .int x63), (4, .int (((a1 * (8 : Int32)) + x59) - (1 : Int32))), (3, .int (a1 * (8 : Int32))), (0, va_rf a0), (1, .int a1), (2, .int a2)]) hx hb dX8_tells_23 hl (by decide) (congrArg (List.cons _) (flk rfl (flk rfl (flk rfl (flk rfl (flk rfl fln)))))) (fun ls hl => ?_)
  refine fr_aload_n hx hb dX8_tells_25 rfl (lv_at hl 3 rfl) ?_
  obtain ⟨x65, g66, hf⟩ := obind hf
  refine fr_get hx hb hts hown K hC ct_8 (fgR_get g66) (by decide) kw994 rfl dX8_tells_26 ?_
  refine lv_iload hx hb dX8_tells_29 (lv_at hl 1 rfl) ?_
  obtain ⟨x67, g68, hf⟩ := obind hf
  refine fr_iald hx hb K hC (t := 0) rfl g68 dX8_tells_31 ?_
  refine lv_istore (lv' := [(6, .int x67), (5, .int x63), (4, .int (((a1 * (8 : Int32)) + x59) - (1 : Int32))), (3, .int (a1 * (8 : Int32))), (0, va_rf a0), (1, .int a1), (2, .int a2)]) hx hb dX8_tells_32 hl (by decide) (congrArg (List.cons _) (flk rfl (flk rfl (flk rfl (flk rfl (flk rfl (flk rfl fln))))))) (fun ls hl => ?_)
  refine lv_iload_n hx hb dX8_tells_34 rfl (lv_at hl 6 rfl) ?_
  refine lv_istore (lv' := [(7, .int a2), (6, .int x67), (5, .int x63), (4, .int (((a1 * (8 : Int32)) + x59) - (1 : Int32))), (3, .int (a1 * (8 : Int32))), (0, va_rf a0), (1, .int a1), (2, .int a2)]) hx hb dX8_tells_35 hl (by decide) (congrArg (List.cons _) (flk rfl (flk rfl (flk rfl (flk rfl (flk rfl (flk rfl (flk rfl fln)))))))) (fun ls hl => ?_)
  refine lv_iload hx hb dX8_tells_37 (lv_at hl 0 rfl) ?_
  refine lv_iload hx hb dX8_tells_39 (lv_at hl 2 rfl) ?_
  refine lv_icmp_le (tgt := 50) hx hb dX8_tells_41 (by decide) (fun c69 => ?_) (fun c69 => ?_)
  · replace hf := opos c69 hf
    exact w_X8_tells_L50 M hfl _ _ _ hf _ _ _ _ _ hC (lv_sub hl [5, 4] rfl)
  · replace hf := oneg c69 hf
    refine lv_iload_n hx hb dX8_tells_44 rfl (lv_at hl 4 rfl) ?_
    refine lv_iload hx hb dX8_tells_45 (lv_at hl 3 rfl) ?_
    refine lv_icmp_ne (tgt := 57) hx hb dX8_tells_47 (by decide) (fun c70 => ?_) (fun c70 => ?_)
    · replace hf := oneg c70 hf
      refine lv_iload hx hb dX8_tells_57 (lv_at hl 0 rfl) ?_
      refine lv_iload hx hb dX8_tells_59 (lv_at hl 1 rfl) ?_
      refine lv_icmp_le (tgt := 147) hx hb dX8_tells_61 (by decide) (fun c71 => ?_) (fun c71 => ?_)
      · replace hf := opos c71 hf
        exact w_X8_tells_L147 M hfl _ _ _ _ _ hf _ _ _ _ _ hC (lv_sub hl [5, 6, 3, 0] rfl)
      · replace hf := oneg c71 hf
        refine fr_aload_n hx hb dX8_tells_64 rfl (lv_at hl 5 rfl) ?_
        obtain ⟨x72, g73, hf⟩ := obind hf
        refine fr_get hx hb hts hown K hC ct_8 (fgR_get g73) (by decide) kw992 rfl dX8_tells_65 ?_
        refine lv_iload_n hx hb dX8_tells_68 rfl (lv_at hl 6 rfl) ?_
        obtain ⟨x74, g75, hf⟩ := obind hf
        refine fr_iald hx hb K hC (t := 0) rfl g75 dX8_tells_69 ?_
        refine lv_if_ne (tgt := 81) hx hb dX8_tells_70 (by decide) (fun c76 => ?_) (fun c76 => ?_)
        · replace hf := oneg c76 hf
          refine lv_iload hx hb dX8_tells_81 (lv_at hl 0 rfl) ?_
          refine lv_iload hx hb dX8_tells_83 (lv_at hl 2 rfl) ?_
          refine lv_isub hx hb dX8_tells_85 ?_
          refine fr_aload_n hx hb dX8_tells_86 rfl (lv_at hl 5 rfl) ?_
          obtain ⟨x77, g78, hf⟩ := obind hf
          refine fr_get hx hb hts hown K hC ct_8 (fgR_get g78) (by decide) kw992 rfl dX8_tells_87 ?_
          refine lv_iload_n hx hb dX8_tells_90 rfl (lv_at hl 6 rfl) ?_
          obtain ⟨x79, g80, hf⟩ := obind hf
          refine fr_iald hx hb K hC (t := 0) rfl g80 dX8_tells_91 ?_
          refine lv_iconst (v := (1 : Int32)) hx hb dX8_tells_92 (by decide) ?_
          refine lv_icmp_ne (tgt := 104) hx hb dX8_tells_93 (by decide) (fun c81 => ?_) (fun c81 => ?_)
          · replace hf := oneg c81 hf
            refine lv_iconst (v := (2 : Int32)) hx hb dX8_tells_104 (by decide) ?_
            refine lv_iload hx hb dX8_tells_105 (lv_at hl 1 rfl) ?_
            refine lv_iload hx hb dX8_tells_107 (lv_at hl 2 rfl) ?_
            refine lv_isub hx hb dX8_tells_109 ?_
            refine lv_imul hx hb dX8_tells_110 ?_
            exact w_X8_tells_L111 M hfl _ _ _ _ _ _ _ _ hf _ _ _ _ _ hC (lv_sub hl [5, 6, 3, 2, 1] rfl)
          · replace hf := opos c81 hf
            refine lv_iload hx hb dX8_tells_96 (lv_at hl 1 rfl) ?_
            refine lv_iload hx hb dX8_tells_98 (lv_at hl 2 rfl) ?_
            refine lv_isub hx hb dX8_tells_100 ?_
            refine lv_goto (tgt := 111) hx hb dX8_tells_101 (by decide) ?_
            exact w_X8_tells_L111 M hfl _ _ _ _ _ _ _ _ hf _ _ _ _ _ hC (lv_sub hl [5, 6, 3, 2, 1] rfl)
        · replace hf := opos c76 hf
          refine fr_aload_n hx hb dX8_tells_73 rfl (lv_at hl 5 rfl) ?_
          obtain ⟨x82, g83, hf⟩ := obind hf
          refine fr_get hx hb hts hown K hC ct_8 (fgR_get g83) (by decide) kw995 rfl dX8_tells_74 ?_
          refine lv_iload hx hb dX8_tells_77 (lv_at hl 3 rfl) ?_
          obtain ⟨x84, g85, hf⟩ := obind hf
          refine fr_iald hx hb K hC (t := 0) rfl g85 dX8_tells_79 ?_
          obtain rfl := Option.some.inj hf
          exact fr_iret hx hb hr hlocks hC dX8_tells_80
    · replace hf := opos c70 hf
      exact w_X8_tells_L50 M hfl _ _ _ hf _ _ _ _ _ hC (lv_sub hl [5, 4] rfl)
set_option maxRecDepth 100000 in
theorem c_X8_tells {l : Launch} (hfl : l.stackTraces = false) (D : va_G) (cA : Nat → ClassId) {o : Nat} {p0 : Int32} {p1 : Int32} {h : fSt} {r : (Int32 × fSt)} (hf : f_X8_tells o p0 p1 h = some r) : fMet l yX8_tells (wsC yX8_tells cX8_tells 15 (some (.int))) (0) (0) D cA [.ref o, .int p0, .int p1] h r.2 (some (.int r.1)) := by
  exact fMet.of (own := RX8) (by decide +kernel) rfl (lva1 rfl (lva1 rfl (lva1 rfl lva0))) (lgl1 rfl (lgl1 rfl (lgl1 rfl lgl0))) (Nat.le_of_ble_eq_true rfl) (fun p e s m args below meth c ls hnm _ M hC hl => by
    have hl : lv_has ls 15 [(0, va_rf (some o)), (1, .int p0), (2, .int p1)] := hl
    exact w_X8_tells_L0 M hfl _ _ _ _ hf _ _ _ _ _ hC (lv_sub hl [0, 1, 2] rfl))
set_option maxHeartbeats 4000000 in
set_option maxRecDepth 100000 in
theorem w_X8_trackOf_L32 {p : Program} {l : Launch} {e : Env} {s : State} {m : MethodId} {args : Array Value} {below : List Frame} {meth : Method} {c : Code} {D : va_G} {cA : Nat → ClassId} {h0 : fSt} {r : (Int32 × fSt)} (M : fM p s m args meth c D cA h0 { frames := 0, cells := fCB h0 - fZ h0, slots := fLB h0 - fL h0, locals := 0 } cX8_trackOf 4 (some (.int)) RX8) (hfl : l.stackTraces = false) {k2 : Option Nat → Int32 → Int32 → Int32 → fSt → Option (Int32 × fSt)} (hk2 : ∀ (a0 : Option Nat) (a1 : Int32) (a2 : Int32) (a3 : Int32) (h : fSt), k2 a0 a1 a2 a3 h = some r → ∀ (H : Heap) (locs : List Loc) (cells slots : Nat) (ls : Array Slot), fCur D cA s h0 h H locs → lv_has ls 4 [(0, va_rf a0), (1, .int a1), (2, .int a2), (3, .int a3)] → W p l e { frames := 0, cells := fCB h0 - fZ h0, slots := fLB h0 - fL h0, locals := 0 } s m args below meth c H locs cells slots (MQ below (fQ D cA h0 r.2 (some (.int r.1))) args s (fCB h0 - fZ h0) (fLB h0 - fL h0) (fA h0)) (F0 m 2 ls [])) (a0 : Option Nat) (a1 : Int32) (a2 : Int32) (a3 : Int32) (h : fSt) (hf : f_X8_trackOf_L32 k2 a0 a1 a2 a3 h = some r) : ∀ (H : Heap) (locs : List Loc) (cells slots : Nat) (ls : Array Slot), fCur D cA s h0 h H locs → lv_has ls 4 [(0, va_rf a0), (1, .int a1), (2, .int a2), (3, .int a3)] → W p l e { frames := 0, cells := fCB h0 - fZ h0, slots := fLB h0 - fL h0, locals := 0 } s m args below meth c H locs cells slots (MQ below (fQ D cA h0 r.2 (some (.int r.1))) args s (fCB h0 - fZ h0) (fLB h0 - fL h0) (fA h0)) (F0 m 32 ls []) := by
  obtain ⟨hx, hb, hml, hr, hlocks, hts, hown, K, hR⟩ := id M
  intro H locs cells slots ls hC hl
  refine lv_iinc (v := (a3 + (1 : Int32))) (lv' := [(3, .int (a3 + (1 : Int32))), (0, va_rf a0), (1, .int a1), (2, .int a2)]) hx hb dX8_trackOf_32 hl (k := 3) rfl rfl (by decide) (congrArg (List.cons _) (flk rfl (flk rfl (flk rfl (fld rfl fln))))) (fun ls hl => ?_)
  refine lv_goto (tgt := 2) hx hb dX8_trackOf_35 (by decide) ?_
  exact hk2 _ _ _ _ _ hf _ _ _ _ _ hC (lv_sub hl [1, 2, 3, 0] rfl)
set_option maxHeartbeats 4000000 in
set_option maxRecDepth 100000 in
theorem w_X8_trackOf_L2 {p : Program} {l : Launch} {e : Env} {s : State} {m : MethodId} {args : Array Value} {below : List Frame} {meth : Method} {c : Code} {D : va_G} {cA : Nat → ClassId} {h0 : fSt} {r : (Int32 × fSt)} (M : fM p s m args meth c D cA h0 { frames := 0, cells := fCB h0 - fZ h0, slots := fLB h0 - fL h0, locals := 0 } cX8_trackOf 4 (some (.int)) RX8) (hfl : l.stackTraces = false) : ∀ (n : Nat) (a0 : Option Nat) (a1 : Int32) (a2 : Int32) (a3 : Int32) (h : fSt), f_X8_trackOf_L2 n a0 a1 a2 a3 h = some r → ∀ (H : Heap) (locs : List Loc) (cells slots : Nat) (ls : Array Slot), fCur D cA s h0 h H locs → lv_has ls 4 [(0, va_rf a0), (1, .int a1), (2, .int a2), (3, .int a3)] → W p l e { frames := 0, cells := fCB h0 - fZ h0, slots := fLB h0 - fL h0, locals := 0 } s m args below meth c H locs cells slots (MQ below (fQ D cA h0 r.2 (some (.int r.1))) args s (fCB h0 - fZ h0) (fLB h0 - fL h0) (fA h0)) (F0 m 2 ls []) := by
  obtain ⟨hx, hb, hml, hr, hlocks, hts, hown, K, hR⟩ := id M
  intro n
  induction n with
  | zero =>
    intro a0 a1 a2 a3 h hf
    exact nomatch (show (none : Option (Int32 × fSt)) = some r from hf)
  | succ n hk2 =>
    intro a0 a1 a2 a3 h hf H locs cells slots ls hC hl
    refine lv_iload_n hx hb dX8_trackOf_2 rfl (lv_at hl 3 rfl) ?_
    refine fr_aload_n hx hb dX8_trackOf_3 rfl (lv_at hl 0 rfl) ?_
    obtain ⟨x1, g2, hf⟩ := obind hf
    refine fr_get hx hb hts hown K hC ct_8 (fgI_get g2) (by decide) kw988 rfl dX8_trackOf_4 ?_
    refine lv_icmp_ge (tgt := 38) hx hb dX8_trackOf_7 (by decide) (fun c3 => ?_) (fun c3 => ?_)
    · replace hf := opos c3 hf
      refine lv_iconst (v := (-1 : Int32)) hx hb dX8_trackOf_38 (by decide) ?_
      obtain rfl := Option.some.inj hf
      exact fr_iret hx hb hr hlocks hC dX8_trackOf_39
    · replace hf := oneg c3 hf
      refine fr_aload_n hx hb dX8_trackOf_10 rfl (lv_at hl 0 rfl) ?_
      obtain ⟨x4, g5, hf⟩ := obind hf
      refine fr_get hx hb hts hown K hC ct_8 (fgR_get g5) (by decide) kw989 rfl dX8_trackOf_11 ?_
      refine lv_iload_n hx hb dX8_trackOf_14 rfl (lv_at hl 3 rfl) ?_
      obtain ⟨x6, g7, hf⟩ := obind hf
      refine fr_iald hx hb K hC (t := 0) rfl g7 dX8_trackOf_15 ?_
      refine lv_iload_n hx hb dX8_trackOf_16 rfl (lv_at hl 1 rfl) ?_
      refine lv_icmp_ne (tgt := 32) hx hb dX8_trackOf_17 (by decide) (fun c8 => ?_) (fun c8 => ?_)
      · replace hf := oneg c8 hf
        exact w_X8_trackOf_L32 M hfl hk2 _ _ _ _ _ hf _ _ _ _ _ hC (lv_sub hl [0, 1, 2, 3] rfl)
      · replace hf := opos c8 hf
        refine fr_aload_n hx hb dX8_trackOf_20 rfl (lv_at hl 0 rfl) ?_
        obtain ⟨x9, g10, hf⟩ := obind hf
        refine fr_get hx hb hts hown K hC ct_8 (fgR_get g10) (by decide) kw990 rfl dX8_trackOf_21 ?_
        refine lv_iload_n hx hb dX8_trackOf_24 rfl (lv_at hl 3 rfl) ?_
        obtain ⟨x11, g12, hf⟩ := obind hf
        refine fr_iald hx hb K hC (t := 0) rfl g12 dX8_trackOf_25 ?_
        refine lv_iload_n hx hb dX8_trackOf_26 rfl (lv_at hl 2 rfl) ?_
        refine lv_icmp_ne (tgt := 32) hx hb dX8_trackOf_27 (by decide) (fun c13 => ?_) (fun c13 => ?_)
        · replace hf := oneg c13 hf
          exact w_X8_trackOf_L32 M hfl hk2 _ _ _ _ _ hf _ _ _ _ _ hC (lv_sub hl [0, 1, 2, 3] rfl)
        · replace hf := opos c13 hf
          refine lv_iload_n hx hb dX8_trackOf_30 rfl (lv_at hl 3 rfl) ?_
          obtain rfl := Option.some.inj hf
          exact fr_iret hx hb hr hlocks hC dX8_trackOf_31
set_option maxHeartbeats 4000000 in
set_option maxRecDepth 100000 in
theorem w_X8_trackOf_L0 {p : Program} {l : Launch} {e : Env} {s : State} {m : MethodId} {args : Array Value} {below : List Frame} {meth : Method} {c : Code} {D : va_G} {cA : Nat → ClassId} {h0 : fSt} {r : (Int32 × fSt)} (M : fM p s m args meth c D cA h0 { frames := 0, cells := fCB h0 - fZ h0, slots := fLB h0 - fL h0, locals := 0 } cX8_trackOf 4 (some (.int)) RX8) (hfl : l.stackTraces = false) (a0 : Option Nat) (a1 : Int32) (a2 : Int32) (h : fSt) (hf : f_X8_trackOf_L0 a0 a1 a2 h = some r) : ∀ (H : Heap) (locs : List Loc) (cells slots : Nat) (ls : Array Slot), fCur D cA s h0 h H locs → lv_has ls 4 [(0, va_rf a0), (1, .int a1), (2, .int a2)] → W p l e { frames := 0, cells := fCB h0 - fZ h0, slots := fLB h0 - fL h0, locals := 0 } s m args below meth c H locs cells slots (MQ below (fQ D cA h0 r.2 (some (.int r.1))) args s (fCB h0 - fZ h0) (fLB h0 - fL h0) (fA h0)) (F0 m 0 ls []) := by
  obtain ⟨hx, hb, hml, hr, hlocks, hts, hown, K, hR⟩ := id M
  intro H locs cells slots ls hC hl
  refine lv_iconst (v := (0 : Int32)) hx hb dX8_trackOf_0 (by decide) ?_
  refine lv_istore_n (lv' := [(3, .int (0 : Int32)), (0, va_rf a0), (1, .int a1), (2, .int a2)]) hx hb dX8_trackOf_1 rfl hl (by decide) (congrArg (List.cons _) (flk rfl (flk rfl (flk rfl fln)))) (fun ls hl => ?_)
  exact w_X8_trackOf_L2 M hfl 4096 _ _ _ _ _ hf _ _ _ _ _ hC (lv_sub hl [1, 2, 3, 0] rfl)
set_option maxRecDepth 100000 in
theorem c_X8_trackOf {l : Launch} (hfl : l.stackTraces = false) (D : va_G) (cA : Nat → ClassId) {o : Nat} {p0 : Int32} {p1 : Int32} {h : fSt} {r : (Int32 × fSt)} (hf : f_X8_trackOf o p0 p1 h = some r) : fMet l yX8_trackOf (wsC yX8_trackOf cX8_trackOf 4 (some (.int))) (0) (0) D cA [.ref o, .int p0, .int p1] h r.2 (some (.int r.1)) := by
  exact fMet.of (own := RX8) (by decide +kernel) rfl (lva1 rfl (lva1 rfl (lva1 rfl lva0))) (lgl1 rfl (lgl1 rfl (lgl1 rfl lgl0))) (Nat.le_of_ble_eq_true rfl) (fun p e s m args below meth c ls hnm _ M hC hl => by
    have hl : lv_has ls 4 [(0, va_rf (some o)), (1, .int p0), (2, .int p1)] := hl
    exact w_X8_trackOf_L0 M hfl _ _ _ _ hf _ _ _ _ _ hC (lv_sub hl [0, 1, 2] rfl))
set_option maxHeartbeats 4000000 in
set_option maxRecDepth 100000 in
theorem w_X8_valueAt_L44 {p : Program} {l : Launch} {e : Env} {s : State} {m : MethodId} {args : Array Value} {below : List Frame} {meth : Method} {c : Code} {D : va_G} {cA : Nat → ClassId} {h0 : fSt} {r : (Int32 × fSt)} (M : fM p s m args meth c D cA h0 { frames := 1, cells := fCB h0 - fZ h0, slots := fLB h0 - fL h0, locals := 34 } cX8_valueAt 5 (some (.int)) RX8) (hfl : l.stackTraces = false) (s0 : Int32) (h : fSt) (hf : f_X8_valueAt_L44 s0 h = some r) : ∀ (H : Heap) (locs : List Loc) (cells slots : Nat) (ls : Array Slot), fCur D cA s h0 h H locs → lv_has ls 5 [] → W p l e { frames := 1, cells := fCB h0 - fZ h0, slots := fLB h0 - fL h0, locals := 34 } s m args below meth c H locs cells slots (MQ below (fQ D cA h0 r.2 (some (.int r.1))) args s (fCB h0 - fZ h0) (fLB h0 - fL h0) (fA h0)) (F0 m 44 ls [.int s0]) := by
  obtain ⟨hx, hb, hml, hr, hlocks, hts, hown, K, hR⟩ := id M
  intro H locs cells slots ls hC hl
  obtain rfl := Option.some.inj hf
  exact fr_iret hx hb hr hlocks hC dX8_valueAt_44
set_option maxHeartbeats 4000000 in
set_option maxRecDepth 100000 in
theorem w_X8_valueAt_L24 {p : Program} {l : Launch} {e : Env} {s : State} {m : MethodId} {args : Array Value} {below : List Frame} {meth : Method} {c : Code} {D : va_G} {cA : Nat → ClassId} {h0 : fSt} {r : (Int32 × fSt)} (M : fM p s m args meth c D cA h0 { frames := 1, cells := fCB h0 - fZ h0, slots := fLB h0 - fL h0, locals := 34 } cX8_valueAt 5 (some (.int)) RX8) (hfl : l.stackTraces = false) (a0 : Option Nat) (a1 : Int32) (a2 : Int32) (h : fSt) (hf : f_X8_valueAt_L24 a0 a1 a2 h = some r) : ∀ (H : Heap) (locs : List Loc) (cells slots : Nat) (ls : Array Slot), fCur D cA s h0 h H locs → lv_has ls 5 [(0, va_rf a0), (1, .int a1), (2, .int a2)] → W p l e { frames := 1, cells := fCB h0 - fZ h0, slots := fLB h0 - fL h0, locals := 34 } s m args below meth c H locs cells slots (MQ below (fQ D cA h0 r.2 (some (.int r.1))) args s (fCB h0 - fZ h0) (fLB h0 - fL h0) (fA h0)) (F0 m 24 ls []) := by
  obtain ⟨hx, hb, hml, hr, hlocks, hts, hown, K, hR⟩ := id M
  intro H locs cells slots ls hC hl
  refine fr_aload_n hx hb dX8_valueAt_24 rfl (lv_at hl 0 rfl) ?_
  obtain ⟨x1, g2, hf⟩ := obind hf
  refine fr_get hx hb hts hown K hC ct_8 (fgR_get g2) (by decide) kw985 rfl dX8_valueAt_25 ?_
  refine lv_iload_n hx hb dX8_valueAt_28 rfl (lv_at hl 1 rfl) ?_
  refine lv_iconst (v := (4 : Int32)) hx hb dX8_valueAt_29 (by decide) ?_
  refine lv_imul hx hb dX8_valueAt_30 ?_
  refine lv_iload_n hx hb dX8_valueAt_31 rfl (lv_at hl 2 rfl) ?_
  refine lv_iadd hx hb dX8_valueAt_32 ?_
  obtain ⟨x3, g4, hf⟩ := obind hf
  refine fr_iald hx hb K hC (t := 0) rfl g4 dX8_valueAt_33 ?_
  refine lv_goto (tgt := 44) hx hb dX8_valueAt_34 (by decide) ?_
  exact w_X8_valueAt_L44 M hfl _ _ hf _ _ _ _ _ hC (lv_sub hl [] rfl)
set_option maxHeartbeats 4000000 in
set_option maxRecDepth 100000 in
theorem w_X8_valueAt_L0 {p : Program} {l : Launch} {e : Env} {s : State} {m : MethodId} {args : Array Value} {below : List Frame} {meth : Method} {c : Code} {D : va_G} {cA : Nat → ClassId} {h0 : fSt} {r : (Int32 × fSt)} (M : fM p s m args meth c D cA h0 { frames := 1, cells := fCB h0 - fZ h0, slots := fLB h0 - fL h0, locals := 34 } cX8_valueAt 5 (some (.int)) RX8) (hfl : l.stackTraces = false) (a0 : Option Nat) (a1 : Int32) (a2 : Int32) (a3 : Int32) (h : fSt) (hf : f_X8_valueAt_L0 a0 a1 a2 a3 h = some r) : ∀ (H : Heap) (locs : List Loc) (cells slots : Nat) (ls : Array Slot), fCur D cA s h0 h H locs → lv_has ls 5 [(0, va_rf a0), (1, .int a1), (2, .int a2), (3, .int a3)] → W p l e { frames := 1, cells := fCB h0 - fZ h0, slots := fLB h0 - fL h0, locals := 34 } s m args below meth c H locs cells slots (MQ below (fQ D cA h0 r.2 (some (.int r.1))) args s (fCB h0 - fZ h0) (fLB h0 - fL h0) (fA h0)) (F0 m 0 ls []) := by
  obtain ⟨hx, hb, hml, hr, hlocks, hts, hown, K, hR⟩ := id M
  intro H locs cells slots ls hC hl
  refine fr_aload_n hx hb dX8_valueAt_0 rfl (lv_at hl 0 rfl) ?_
  refine lv_iload_n hx hb dX8_valueAt_1 rfl (lv_at hl 1 rfl) ?_
  refine lv_iload_n hx hb dX8_valueAt_2 rfl (lv_at hl 2 rfl) ?_
  obtain ⟨b7, q8, hf⟩ := obind hf
  obtain ⟨r5, g6, hf⟩ := obind hf
  refine fr_callV hx hb hml hts hown K hC hR ct_8 (c_X8_trackOf hfl D cA g6) 2 q8 kw1162 kw1159 kw1161 kw29 kw62 (by decide +kernel) ⟨by exact Nat.le_of_ble_eq_true rfl, by exact Nat.le_of_ble_eq_true rfl⟩ rfl hl.1 (cat8 _ (by exact Nat.le_of_ble_eq_true rfl)) dX8_valueAt_3 rfl (fun H locs _ _ hC => ?_)
  refine lv_istore (lv' := [(4, .int r5.1), (0, va_rf a0), (1, .int a1), (2, .int a2), (3, .int a3)]) hx hb dX8_valueAt_6 hl (by decide) (congrArg (List.cons _) (flk rfl (flk rfl (flk rfl (flk rfl fln))))) (fun ls hl => ?_)
  refine lv_iload hx hb dX8_valueAt_8 (lv_at hl 0 rfl) ?_
  refine lv_iconst (v := (-1 : Int32)) hx hb dX8_valueAt_10 (by decide) ?_
  refine lv_icmp_eq (tgt := 24) hx hb dX8_valueAt_11 (by decide) (fun c9 => ?_) (fun c9 => ?_)
  · replace hf := opos c9 hf
    exact w_X8_valueAt_L24 M hfl _ _ _ _ hf _ _ _ _ _ hC (lv_sub hl [1, 2, 3] rfl)
  · replace hf := oneg c9 hf
    refine fr_aload_n hx hb dX8_valueAt_14 rfl (lv_at hl 1 rfl) ?_
    obtain ⟨x10, g11, hf⟩ := obind hf
    refine fr_get hx hb hts hown K hC ct_8 (fgR_get g11) (by decide) kw993 rfl dX8_valueAt_15 ?_
    refine lv_iload hx hb dX8_valueAt_18 (lv_at hl 0 rfl) ?_
    obtain ⟨x12, g13, hf⟩ := obind hf
    refine fr_iald hx hb K hC (t := 0) rfl g13 dX8_valueAt_20 ?_
    refine lv_if_ne (tgt := 37) hx hb dX8_valueAt_21 (by decide) (fun c14 => ?_) (fun c14 => ?_)
    · replace hf := oneg c14 hf
      refine fr_aload_n hx hb dX8_valueAt_37 rfl (lv_at hl 1 rfl) ?_
      refine lv_iload hx hb dX8_valueAt_38 (lv_at hl 0 rfl) ?_
      refine lv_iload_n hx hb dX8_valueAt_40 rfl (lv_at hl 4 rfl) ?_
      obtain ⟨b17, q18, hf⟩ := obind hf
      obtain ⟨r15, g16, hf⟩ := obind hf
      refine fr_callV hx hb hml hts hown K hC hR ct_8 (c_X8_tells hfl D cA g16) 2 q18 kw1209 kw1206 kw1208 kw35 kw62 (by decide +kernel) ⟨by exact Nat.le_of_ble_eq_true rfl, by exact Nat.le_of_ble_eq_true rfl⟩ rfl hl.1 (cat8 _ (by exact Nat.le_of_ble_eq_true rfl)) dX8_valueAt_41 rfl (fun H locs _ _ hC => ?_)
      exact w_X8_valueAt_L44 M hfl _ _ hf _ _ _ _ _ hC (lv_sub hl [] rfl)
    · replace hf := opos c14 hf
      exact w_X8_valueAt_L24 M hfl _ _ _ _ hf _ _ _ _ _ hC (lv_sub hl [1, 2, 3] rfl)
set_option maxRecDepth 100000 in
theorem c_X8_valueAt {l : Launch} (hfl : l.stackTraces = false) (D : va_G) (cA : Nat → ClassId) {o : Nat} {p0 : Int32} {p1 : Int32} {p2 : Int32} {h : fSt} {r : (Int32 × fSt)} (hf : f_X8_valueAt o p0 p1 p2 h = some r) : fMet l yX8_valueAt (wsC yX8_valueAt cX8_valueAt 5 (some (.int))) (1) (34) D cA [.ref o, .int p0, .int p1, .int p2] h r.2 (some (.int r.1)) := by
  exact fMet.of (own := RX8) (by decide +kernel) rfl (lva1 rfl (lva1 rfl (lva1 rfl (lva1 rfl lva0)))) (lgl1 rfl (lgl1 rfl (lgl1 rfl (lgl1 rfl lgl0)))) (Nat.le_of_ble_eq_true rfl) (fun p e s m args below meth c ls hnm _ M hC hl => by
    have hl : lv_has ls 5 [(0, va_rf (some o)), (1, .int p0), (2, .int p1), (3, .int p2)] := hl
    exact w_X8_valueAt_L0 M hfl _ _ _ _ _ hf _ _ _ _ _ hC (lv_sub hl [0, 1, 2, 3] rfl))
set_option maxHeartbeats 4000000 in
set_option maxRecDepth 100000 in
theorem w_X8_has_L0 {p : Program} {l : Launch} {e : Env} {s : State} {m : MethodId} {args : Array Value} {below : List Frame} {meth : Method} {c : Code} {D : va_G} {cA : Nat → ClassId} {h0 : fSt} {r : (Int32 × fSt)} (M : fM p s m args meth c D cA h0 { frames := 2, cells := fCB h0 - fZ h0, slots := fLB h0 - fL h0, locals := 58 } cX8_has 3 (some (.int)) RX8) (hfl : l.stackTraces = false) (a0 : Option Nat) (a1 : Int32) (a2 : Int32) (h : fSt) (hf : f_X8_has_L0 a0 a1 a2 h = some r) : ∀ (H : Heap) (locs : List Loc) (cells slots : Nat) (ls : Array Slot), fCur D cA s h0 h H locs → lv_has ls 3 [(0, va_rf a0), (1, .int a1), (2, .int a2)] → W p l e { frames := 2, cells := fCB h0 - fZ h0, slots := fLB h0 - fL h0, locals := 58 } s m args below meth c H locs cells slots (MQ below (fQ D cA h0 r.2 (some (.int r.1))) args s (fCB h0 - fZ h0) (fLB h0 - fL h0) (fA h0)) (F0 m 0 ls []) := by
  obtain ⟨hx, hb, hml, hr, hlocks, hts, hown, K, hR⟩ := id M
  intro H locs cells slots ls hC hl
  refine fr_aload_n hx hb dX8_has_0 rfl (lv_at hl 0 rfl) ?_
  refine lv_iload_n hx hb dX8_has_1 rfl (lv_at hl 1 rfl) ?_
  refine lv_iload_n hx hb dX8_has_2 rfl (lv_at hl 2 rfl) ?_
  refine fr_aload_n hx hb dX8_has_3 rfl (lv_at hl 0 rfl) ?_
  obtain ⟨x1, g2, hf⟩ := obind hf
  refine fr_get hx hb hts hown K hC ct_8 (fgI_get g2) (by decide) kw996 rfl dX8_has_4 ?_
  obtain ⟨b5, q6, hf⟩ := obind hf
  obtain ⟨r3, g4, hf⟩ := obind hf
  refine fr_callV hx hb hml hts hown K hC hR ct_8 (c_X8_valueAt hfl D cA g4) 3 q6 kw1205 kw1202 kw1204 kw34 kw62 (by decide +kernel) ⟨by exact Nat.le_of_ble_eq_true rfl, by exact Nat.le_of_ble_eq_true rfl⟩ rfl hl.1 (cat8 _ (by exact Nat.le_of_ble_eq_true rfl)) dX8_has_7 rfl (fun H locs _ _ hC => ?_)
  obtain rfl := Option.some.inj hf
  exact fr_iret hx hb hr hlocks hC dX8_has_10
set_option maxRecDepth 100000 in
theorem c_X8_has {l : Launch} (hfl : l.stackTraces = false) (D : va_G) (cA : Nat → ClassId) {o : Nat} {p0 : Int32} {p1 : Int32} {h : fSt} {r : (Int32 × fSt)} (hf : f_X8_has o p0 p1 h = some r) : fMet l yX8_has (wsC yX8_has cX8_has 3 (some (.int))) (2) (58) D cA [.ref o, .int p0, .int p1] h r.2 (some (.int r.1)) := by
  exact fMet.of (own := RX8) (by decide +kernel) rfl (lva1 rfl (lva1 rfl (lva1 rfl lva0))) (lgl1 rfl (lgl1 rfl (lgl1 rfl lgl0))) (Nat.le_of_ble_eq_true rfl) (fun p e s m args below meth c ls hnm _ M hC hl => by
    have hl : lv_has ls 3 [(0, va_rf (some o)), (1, .int p0), (2, .int p1)] := hl
    exact w_X8_has_L0 M hfl _ _ _ _ hf _ _ _ _ _ hC (lv_sub hl [0, 1, 2] rfl))
set_option maxHeartbeats 4000000 in
set_option maxRecDepth 100000 in
theorem w_X8_down_L88 {p : Program} {l : Launch} {e : Env} {s : State} {m : MethodId} {args : Array Value} {below : List Frame} {meth : Method} {c : Code} {D : va_G} {cA : Nat → ClassId} {h0 : fSt} {r : (Unit × fSt)} (M : fM p s m args meth c D cA h0 { frames := 3, cells := fCB h0 - fZ h0, slots := fLB h0 - fL h0, locals := 80 } cX8_down 10 none RX8) (hfl : l.stackTraces = false) (a0 : Option Nat) (a1 : Int32) (a2 : Option Nat) (a5 : Int64) (s3 : Int32) (s2 : Int64) (s1 : Int32) (s0 : Option Nat) (h : fSt) (hf : f_X8_down_L88 a0 a1 a2 a5 s3 s2 s1 s0 h = some r) : ∀ (H : Heap) (locs : List Loc) (cells slots : Nat) (ls : Array Slot), fCur D cA s h0 h H locs → lv_has ls 10 [(0, va_rf a0), (1, .int a1), (2, va_rf a2), (5, .long a5)] → W p l e { frames := 3, cells := fCB h0 - fZ h0, slots := fLB h0 - fL h0, locals := 80 } s m args below meth c H locs cells slots (MQ below (fQ D cA h0 r.2 none) args s (fCB h0 - fZ h0) (fLB h0 - fL h0) (fA h0)) (F0 m 88 ls [.int s3, .long s2, .int s1, va_rf s0]) := by
  obtain ⟨hx, hb, hml, hr, hlocks, hts, hown, K, hR⟩ := id M
  intro H locs cells slots ls hC hl
  refine lv_i2l (v := (Int32.toInt64 s3)) hx hb dX8_down_88 rfl ?_
  refine lv_lmul hx hb dX8_down_89 ?_
  obtain ⟨h1, g2, hf⟩ := obind hf
  refine fr_last hx hb K hC (t := 1) rfl g2 dX8_down_90 (fun H locs hC => ?_)
  refine fr_aload_n hx hb dX8_down_91 rfl (lv_at hl 2 rfl) ?_
  refine lv_iconst (v := (1 : Int32)) hx hb dX8_down_92 (by decide) ?_
  refine lv_lload hx hb dX8_down_93 (lv_at hl 3 rfl) ?_
  refine fr_aload_n hx hb dX8_down_95 rfl (lv_at hl 0 rfl) ?_
  obtain ⟨x3, g4, hf⟩ := obind hf
  refine fr_get hx hb hts hown K hC ct_8 (fgR_get g4) (by decide) kw982 rfl dX8_down_96 ?_
  refine lv_iload_n hx hb dX8_down_99 rfl (lv_at hl 1 rfl) ?_
  obtain ⟨x5, g6, hf⟩ := obind hf
  refine fr_iald hx hb K hC (t := 0) rfl g6 dX8_down_100 ?_
  refine lv_i2l (v := (Int32.toInt64 x5)) hx hb dX8_down_101 rfl ?_
  refine lv_lmul hx hb dX8_down_102 ?_
  obtain ⟨h7, g8, hf⟩ := obind hf
  refine fr_last hx hb K hC (t := 1) rfl g8 dX8_down_103 (fun H locs hC => ?_)
  refine fr_aload_n hx hb dX8_down_104 rfl (lv_at hl 2 rfl) ?_
  refine lv_iconst (v := (2 : Int32)) hx hb dX8_down_105 (by decide) ?_
  refine lv_dup2_11 hx hb dX8_down_106 rfl (va_rf_cat _) ?_
  obtain ⟨x9, g10, hf⟩ := obind hf
  refine fr_lald hx hb K hC (t := 1) rfl g10 dX8_down_107 ?_
  refine fr_aload_n hx hb dX8_down_108 rfl (lv_at hl 0 rfl) ?_
  obtain ⟨x11, g12, hf⟩ := obind hf
  refine fr_get hx hb hts hown K hC ct_8 (fgR_get g12) (by decide) kw981 rfl dX8_down_109 ?_
  refine lv_iload_n hx hb dX8_down_112 rfl (lv_at hl 1 rfl) ?_
  obtain ⟨x13, g14, hf⟩ := obind hf
  refine fr_iald hx hb K hC (t := 0) rfl g14 dX8_down_113 ?_
  refine lv_i2l (v := (Int32.toInt64 x13)) hx hb dX8_down_114 rfl ?_
  refine lv_lmul hx hb dX8_down_115 ?_
  obtain ⟨h15, g16, hf⟩ := obind hf
  refine fr_last hx hb K hC (t := 1) rfl g16 dX8_down_116 (fun H locs hC => ?_)
  obtain rfl := Option.some.inj hf
  exact fr_vret hx hb hr hlocks hC dX8_down_117
set_option maxHeartbeats 4000000 in
set_option maxRecDepth 100000 in
theorem w_X8_down_L41 {p : Program} {l : Launch} {e : Env} {s : State} {m : MethodId} {args : Array Value} {below : List Frame} {meth : Method} {c : Code} {D : va_G} {cA : Nat → ClassId} {h0 : fSt} {r : (Unit × fSt)} (M : fM p s m args meth c D cA h0 { frames := 3, cells := fCB h0 - fZ h0, slots := fLB h0 - fL h0, locals := 80 } cX8_down 10 none RX8) (hfl : l.stackTraces = false) : ∀ (n : Nat) (a0 : Option Nat) (a1 : Int32) (a2 : Option Nat) (a3 : Int64) (a5 : Int64) (a7 : Int32) (h : fSt), f_X8_down_L41 n a0 a1 a2 a3 a5 a7 h = some r → ∀ (H : Heap) (locs : List Loc) (cells slots : Nat) (ls : Array Slot), fCur D cA s h0 h H locs → lv_has ls 10 [(0, va_rf a0), (1, .int a1), (2, va_rf a2), (3, .long a3), (5, .long a5), (7, .int a7)] → W p l e { frames := 3, cells := fCB h0 - fZ h0, slots := fLB h0 - fL h0, locals := 80 } s m args below meth c H locs cells slots (MQ below (fQ D cA h0 r.2 none) args s (fCB h0 - fZ h0) (fLB h0 - fL h0) (fA h0)) (F0 m 41 ls []) := by
  obtain ⟨hx, hb, hml, hr, hlocks, hts, hown, K, hR⟩ := id M
  intro n
  induction n with
  | zero =>
    intro a0 a1 a2 a3 a5 a7 h hf
    exact nomatch (show (none : Option (Unit × fSt)) = some r from hf)
  | succ n hk41 =>
    intro a0 a1 a2 a3 a5 a7 h hf H locs cells slots ls hC hl
    refine lv_iload hx hb dX8_down_41 (lv_at hl 5 rfl) ?_
    refine lv_if_le (tgt := 63) hx hb dX8_down_43 (by decide) (fun c17 => ?_) (fun c17 => ?_)
    · replace hf := opos c17 hf
      refine fr_aload_n hx hb dX8_down_63 rfl (lv_at hl 2 rfl) ?_
      refine lv_iconst (v := (0 : Int32)) hx hb dX8_down_64 (by decide) ?_
      refine lv_lload_n hx hb dX8_down_65 rfl (lv_at hl 3 rfl) ?_
      refine fr_aload_n hx hb dX8_down_66 rfl (lv_at hl 0 rfl) ?_
      obtain ⟨x18, g19, hf⟩ := obind hf
      refine fr_get hx hb hts hown K hC ct_8 (fgR_get g19) (by decide) kw982 rfl dX8_down_67 ?_
      refine lv_iload_n hx hb dX8_down_70 rfl (lv_at hl 1 rfl) ?_
      obtain ⟨x20, g21, hf⟩ := obind hf
      refine fr_iald hx hb K hC (t := 0) rfl g21 dX8_down_71 ?_
      refine lv_i2l (v := (Int32.toInt64 x20)) hx hb dX8_down_72 rfl ?_
      refine lv_lmul hx hb dX8_down_73 ?_
      refine fr_aload_n hx hb dX8_down_74 rfl (lv_at hl 0 rfl) ?_
      obtain ⟨x22, g23, hf⟩ := obind hf
      refine fr_get hx hb hts hown K hC ct_8 (fgR_get g23) (by decide) kw974 rfl dX8_down_75 ?_
      refine lv_iload_n hx hb dX8_down_78 rfl (lv_at hl 1 rfl) ?_
      obtain ⟨x24, g25, hf⟩ := obind hf
      refine fr_zald hx hb K hC (t := 2) rfl g25 dX8_down_79 ?_
      refine lv_if_eq (tgt := 87) hx hb dX8_down_80 (by decide) (fun c26 => ?_) (fun c26 => ?_)
      · replace hf := opos c26 hf
        refine lv_iconst (v := (1 : Int32)) hx hb dX8_down_87 (by decide) ?_
        exact w_X8_down_L88 M hfl _ _ _ _ _ _ _ _ _ hf _ _ _ _ _ hC (lv_sub hl [0, 1, 2, 4] rfl)
      · replace hf := oneg c26 hf
        refine lv_iconst (v := (-1 : Int32)) hx hb dX8_down_83 (by decide) ?_
        refine lv_goto (tgt := 88) hx hb dX8_down_84 (by decide) ?_
        exact w_X8_down_L88 M hfl _ _ _ _ _ _ _ _ _ hf _ _ _ _ _ hC (lv_sub hl [0, 1, 2, 4] rfl)
    · replace hf := oneg c17 hf
      refine lv_lload_n hx hb dX8_down_46 rfl (lv_at hl 3 rfl) ?_
      refine lv_lstore (lv' := [(8, .long a3), (0, va_rf a0), (1, .int a1), (2, va_rf a2), (3, .long a3), (5, .long a5), (7, .int a7)]) hx hb dX8_down_47 hl (by decide) (congrArg (List.cons _) (flk rfl (flk rfl (flk rfl (flk rfl (flk rfl (flk rfl fln))))))) (fun ls hl => ?_)
      refine lv_lload hx hb dX8_down_49 (lv_at hl 5 rfl) ?_
      refine lv_lstore_n (lv' := [(3, .long a5), (8, .long a3), (0, va_rf a0), (1, .int a1), (2, va_rf a2), (5, .long a5), (7, .int a7)]) hx hb dX8_down_51 rfl hl (by decide) (congrArg (List.cons _) (flk rfl (flk rfl (flk rfl (flk (adj2 _ _) (fld rfl (flk rfl (flk rfl fln)))))))) (fun ls hl => ?_)
      refine lv_lload hx hb dX8_down_52 (lv_at hl 1 rfl) ?_
      refine lv_lneg hx hb dX8_down_54 ?_
      refine lv_lstore (lv' := [(5, .long (-a3)), (3, .long a5), (8, .long a3), (0, va_rf a0), (1, .int a1), (2, va_rf a2), (7, .int a7)]) hx hb dX8_down_55 hl (by decide) (congrArg (List.cons _) (flk rfl (flk rfl (flk rfl (flk rfl (flk rfl (fld rfl (flk rfl fln)))))))) (fun ls hl => ?_)
      refine lv_iinc (v := (a7 + (-1 : Int32))) (lv' := [(7, .int (a7 + (-1 : Int32))), (5, .long (-a3)), (3, .long a5), (8, .long a3), (0, va_rf a0), (1, .int a1), (2, va_rf a2)]) hx hb dX8_down_57 hl (k := 6) rfl rfl (by decide) (congrArg (List.cons _) (flk rfl (flk rfl (flk rfl (flk rfl (flk rfl (flk rfl (fld rfl fln)))))))) (fun ls hl => ?_)
      refine lv_goto (tgt := 41) hx hb dX8_down_60 (by decide) ?_
      exact hk41 _ _ _ _ _ _ _ hf _ _ _ _ _ hC (lv_sub hl [4, 5, 6, 2, 1, 0] rfl)
set_option maxHeartbeats 4000000 in
set_option maxRecDepth 100000 in
theorem w_X8_down_L0 {p : Program} {l : Launch} {e : Env} {s : State} {m : MethodId} {args : Array Value} {below : List Frame} {meth : Method} {c : Code} {D : va_G} {cA : Nat → ClassId} {h0 : fSt} {r : (Unit × fSt)} (M : fM p s m args meth c D cA h0 { frames := 3, cells := fCB h0 - fZ h0, slots := fLB h0 - fL h0, locals := 80 } cX8_down 10 none RX8) (hfl : l.stackTraces = false) (a0 : Option Nat) (a1 : Int32) (a2 : Option Nat) (h : fSt) (hf : f_X8_down_L0 a0 a1 a2 h = some r) : ∀ (H : Heap) (locs : List Loc) (cells slots : Nat) (ls : Array Slot), fCur D cA s h0 h H locs → lv_has ls 10 [(0, va_rf a0), (1, .int a1), (2, va_rf a2)] → W p l e { frames := 3, cells := fCB h0 - fZ h0, slots := fLB h0 - fL h0, locals := 80 } s m args below meth c H locs cells slots (MQ below (fQ D cA h0 r.2 none) args s (fCB h0 - fZ h0) (fLB h0 - fL h0) (fA h0)) (F0 m 0 ls []) := by
  obtain ⟨hx, hb, hml, hr, hlocks, hts, hown, K, hR⟩ := id M
  intro H locs cells slots ls hC hl
  refine fr_aload_n hx hb dX8_down_0 rfl (lv_at hl 2 rfl) ?_
  refine lv_iconst (v := (0 : Int32)) hx hb dX8_down_1 (by decide) ?_
  obtain ⟨x27, g28, hf⟩ := obind hf
  refine fr_lald hx hb K hC (t := 1) rfl g28 dX8_down_2 ?_
  refine fr_aload_n hx hb dX8_down_3 rfl (lv_at hl 0 rfl) ?_
  refine lv_iload_n hx hb dX8_down_4 rfl (lv_at hl 1 rfl) ?_
  refine lv_iconst (v := (0 : Int32)) hx hb dX8_down_5 (by decide) ?_
  obtain ⟨b31, q32, hf⟩ := obind hf
  obtain ⟨r29, g30, hf⟩ := obind hf
  refine fr_callV hx hb hml hts hown K hC hR ct_8 (c_X8_has hfl D cA g30) 2 q32 kw1201 kw1198 kw1200 kw33 kw62 (by decide +kernel) ⟨by exact Nat.le_of_ble_eq_true rfl, by exact Nat.le_of_ble_eq_true rfl⟩ rfl hl.1 (cat8 _ (by exact Nat.le_of_ble_eq_true rfl)) dX8_down_6 rfl (fun H locs _ _ hC => ?_)
  refine lv_i2l (v := (Int32.toInt64 r29.1)) hx hb dX8_down_9 rfl ?_
  refine fr_aload_n hx hb dX8_down_10 rfl (lv_at hl 2 rfl) ?_
  refine lv_iconst (v := (2 : Int32)) hx hb dX8_down_11 (by decide) ?_
  obtain ⟨x33, g34, hf⟩ := obind hf
  refine fr_lald hx hb K hC (t := 1) rfl g34 dX8_down_12 ?_
  refine lv_lmul hx hb dX8_down_13 ?_
  refine lv_lsub hx hb dX8_down_14 ?_
  refine lv_lstore_n (lv' := [(3, .long (x27 - ((Int32.toInt64 r29.1) * x33))), (0, va_rf a0), (1, .int a1), (2, va_rf a2)]) hx hb dX8_down_15 rfl hl (by decide) (congrArg (List.cons _) (flk rfl (flk rfl (flk (adj2 _ _) fln)))) (fun ls hl => ?_)
  refine fr_aload_n hx hb dX8_down_16 rfl (lv_at hl 3 rfl) ?_
  refine lv_iconst (v := (1 : Int32)) hx hb dX8_down_17 (by decide) ?_
  obtain ⟨x35, g36, hf⟩ := obind hf
  refine fr_lald hx hb K hC (t := 1) rfl g36 dX8_down_18 ?_
  refine fr_aload_n hx hb dX8_down_19 rfl (lv_at hl 1 rfl) ?_
  refine lv_iload_n hx hb dX8_down_20 rfl (lv_at hl 2 rfl) ?_
  refine lv_iconst (v := (1 : Int32)) hx hb dX8_down_21 (by decide) ?_
  obtain ⟨b39, q40, hf⟩ := obind hf
  obtain ⟨r37, g38, hf⟩ := obind hf
  refine fr_callV hx hb hml hts hown K hC hR ct_8 (c_X8_has hfl D cA g38) 2 q40 kw1201 kw1198 kw1200 kw33 kw62 (by decide +kernel) ⟨by exact Nat.le_of_ble_eq_true rfl, by exact Nat.le_of_ble_eq_true rfl⟩ rfl hl.1 (cat8 _ (by exact Nat.le_of_ble_eq_true rfl)) dX8_down_22 rfl (fun H locs _ _ hC => ?_)
  refine lv_i2l (v := (Int32.toInt64 r37.1)) hx hb dX8_down_25 rfl ?_
  refine fr_aload_n hx hb dX8_down_26 rfl (lv_at hl 3 rfl) ?_
  refine lv_iconst (v := (2 : Int32)) hx hb dX8_down_27 (by decide) ?_
  obtain ⟨x41, g42, hf⟩ := obind hf
  refine fr_lald hx hb K hC (t := 1) rfl g42 dX8_down_28 ?_
  refine lv_lmul hx hb dX8_down_29 ?_
  refine lv_lsub hx hb dX8_down_30 ?_
  refine lv_lstore (lv' := [(5, .long (x35 - ((Int32.toInt64 r37.1) * x41))), (3, .long (x27 - ((Int32.toInt64 r29.1) * x33))), (0, va_rf a0), (1, .int a1), (2, va_rf a2)]) hx hb dX8_down_31 hl (by decide) (congrArg (List.cons _) (flk rfl (flk rfl (flk rfl (flk rfl fln))))) (fun ls hl => ?_)
  refine fr_aload_n hx hb dX8_down_33 rfl (lv_at hl 2 rfl) ?_
  refine lv_iload_n hx hb dX8_down_34 rfl (lv_at hl 3 rfl) ?_
  refine lv_iconst (v := (2 : Int32)) hx hb dX8_down_35 (by decide) ?_
  obtain ⟨b45, q46, hf⟩ := obind hf
  obtain ⟨r43, g44, hf⟩ := obind hf
  refine fr_callV hx hb hml hts hown K hC hR ct_8 (c_X8_has hfl D cA g44) 2 q46 kw1201 kw1198 kw1200 kw33 kw62 (by decide +kernel) ⟨by exact Nat.le_of_ble_eq_true rfl, by exact Nat.le_of_ble_eq_true rfl⟩ rfl hl.1 (cat8 _ (by exact Nat.le_of_ble_eq_true rfl)) dX8_down_36 rfl (fun H locs _ _ hC => ?_)
  refine lv_istore (lv' := [(7, .int r43.1), (5, .long (x35 - ((Int32.toInt64 r37.1) * x41))), (3, .long (x27 - ((Int32.toInt64 r29.1) * x33))), (0, va_rf a0), (1, .int a1), (2, va_rf a2)]) hx hb dX8_down_39 hl (by decide) (congrArg (List.cons _) (flk rfl (flk rfl (flk rfl (flk rfl (flk rfl fln)))))) (fun ls hl => ?_)
  exact w_X8_down_L41 M hfl 4096 _ _ _ _ _ _ _ hf _ _ _ _ _ hC (lv_sub hl [3, 4, 5, 2, 1, 0] rfl)
set_option maxRecDepth 100000 in
theorem c_X8_down {l : Launch} (hfl : l.stackTraces = false) (D : va_G) (cA : Nat → ClassId) {o : Nat} {p0 : Int32} {p1 : Option Nat} {h : fSt} {r : (Unit × fSt)} (hf : f_X8_down o p0 p1 h = some r) : fMet l yX8_down (wsC yX8_down cX8_down 10 none) (3) (80) D cA [.ref o, .int p0, va_rf p1] h r.2 none := by
  exact fMet.of (own := RX8) (by decide +kernel) rfl (lva1 rfl (lva1 rfl (lva1 (va_rf_cat _) lva0))) (lgl1 rfl (lgl1 rfl (lgl1 (va_rf_cat _) lgl0))) (Nat.le_of_ble_eq_true rfl) (fun p e s m args below meth c ls hnm _ M hC hl => by
    have hl : lv_has ls 10 [(0, va_rf (some o)), (1, .int p0), (2, va_rf p1)] := hl
    exact w_X8_down_L0 M hfl _ _ _ _ hf _ _ _ _ _ hC (lv_sub hl [0, 1, 2] rfl))
set_option maxHeartbeats 4000000 in
set_option maxRecDepth 100000 in
theorem w_X8_downAll_L0 {p : Program} {l : Launch} {e : Env} {s : State} {m : MethodId} {args : Array Value} {below : List Frame} {meth : Method} {c : Code} {D : va_G} {cA : Nat → ClassId} {h0 : fSt} {self : Nat → Int32 → Option Nat → fSt → Option (Unit × fSt)} {fd ld : Nat} {r : (Unit × fSt)} (hself : ∀ {o : Nat} {p0 : Int32} {p1 : Option Nat} {h : fSt} {r : (Unit × fSt)}, self o p0 p1 h = some r → fMet l yX8_downAll (wsC yX8_downAll cX8_downAll 3 none) fd ld D cA [.ref o, .int p0, va_rf p1] h r.2 none) (M : fM p s m args meth c D cA h0 { frames := fd + 4, cells := fCB h0 - fZ h0, slots := fLB h0 - fL h0, locals := ld + 109 } cX8_downAll 3 none RX8) (hfl : l.stackTraces = false) (a0 : Option Nat) (a1 : Int32) (a2 : Option Nat) (h : fSt) (hf : f_X8_downAll_L0 self a0 a1 a2 h = some r) : ∀ (H : Heap) (locs : List Loc) (cells slots : Nat) (ls : Array Slot), fCur D cA s h0 h H locs → lv_has ls 3 [(0, va_rf a0), (1, .int a1), (2, va_rf a2)] → W p l e { frames := fd + 4, cells := fCB h0 - fZ h0, slots := fLB h0 - fL h0, locals := ld + 109 } s m args below meth c H locs cells slots (MQ below (fQ D cA h0 r.2 none) args s (fCB h0 - fZ h0) (fLB h0 - fL h0) (fA h0)) (F0 m 0 ls []) := by
  obtain ⟨hx, hb, hml, hr, hlocks, hts, hown, K, hR⟩ := id M
  intro H locs cells slots ls hC hl
  refine lv_iload_n hx hb dX8_downAll_0 rfl (lv_at hl 1 rfl) ?_
  refine lv_if_ne (tgt := 5) hx hb dX8_downAll_1 (by decide) (fun c1 => ?_) (fun c1 => ?_)
  · replace hf := oneg c1 hf
    refine fr_aload_n hx hb dX8_downAll_5 rfl (lv_at hl 0 rfl) ?_
    refine fr_aload_n hx hb dX8_downAll_6 rfl (lv_at hl 0 rfl) ?_
    obtain ⟨x2, g3, hf⟩ := obind hf
    refine fr_get hx hb hts hown K hC ct_8 (fgR_get g3) (by decide) kw977 rfl dX8_downAll_7 ?_
    refine lv_iload_n hx hb dX8_downAll_10 rfl (lv_at hl 1 rfl) ?_
    obtain ⟨x4, g5, hf⟩ := obind hf
    refine fr_iald hx hb K hC (t := 0) rfl g5 dX8_downAll_11 ?_
    refine fr_aload_n hx hb dX8_downAll_12 rfl (lv_at hl 2 rfl) ?_
    obtain ⟨b8, q9, hf⟩ := obind hf
    obtain ⟨r6, g7, hf⟩ := obind hf
    refine fr_callV hx hb hml hts hown K hC hR ct_8 (hself g7) 2 q9 kw1261 kw1258 kw1260 kw42 kw62 (by decide +kernel) ⟨by dsimp only; omega, by dsimp only; omega⟩ rfl hl.1 (cat8 _ (by exact Nat.le_of_ble_eq_true rfl)) dX8_downAll_13 rfl (fun H locs _ _ hC => ?_)
    refine fr_aload_n hx hb dX8_downAll_16 rfl (lv_at hl 0 rfl) ?_
    refine lv_iload_n hx hb dX8_downAll_17 rfl (lv_at hl 1 rfl) ?_
    refine fr_aload_n hx hb dX8_downAll_18 rfl (lv_at hl 2 rfl) ?_
    obtain ⟨b12, q13, hf⟩ := obind hf
    obtain ⟨r10, g11, hf⟩ := obind hf
    refine fr_callV hx hb hml hts hown K hC hR ct_8 (c_X8_down hfl D cA g11) 2 q13 kw1265 kw1262 kw1264 kw43 kw62 (by decide +kernel) ⟨by dsimp only; omega, by dsimp only; omega⟩ rfl hl.1 (cat8 _ (by exact Nat.le_of_ble_eq_true rfl)) dX8_downAll_19 rfl (fun H locs _ _ hC => ?_)
    obtain rfl := Option.some.inj hf
    exact fr_vret hx hb hr hlocks hC dX8_downAll_22
  · replace hf := opos c1 hf
    obtain rfl := Option.some.inj hf
    exact fr_vret hx hb hr hlocks hC dX8_downAll_4
set_option maxRecDepth 100000 in
theorem c_X8_downAll {l : Launch} (hfl : l.stackTraces = false) (D : va_G) (cA : Nat → ClassId) (d : Nat) : ∀ {o : Nat} {p0 : Int32} {p1 : Option Nat} {h : fSt} {r : (Unit × fSt)}, f_X8_downAll d o p0 p1 h = some r → fMet l yX8_downAll (wsC yX8_downAll cX8_downAll 3 none) (4 * d) (109 * d) D cA [.ref o, .int p0, va_rf p1] h r.2 none := by
  induction d with
  | zero =>
    intro o p0 p1 h r hf
    exact nomatch (show (none : Option (Unit × fSt)) = some r from hf)
  | succ d hself =>
    intro o p0 p1 h r hf
    have hf : f_X8_downAll_L0 (f_X8_downAll d) (some o) p0 p1 h = some r := hf
    exact fMet.of (own := RX8) (by decide +kernel) rfl (lva1 rfl (lva1 rfl (lva1 (va_rf_cat _) lva0))) (lgl1 rfl (lgl1 rfl (lgl1 (va_rf_cat _) lgl0))) (Nat.le_of_ble_eq_true rfl) (fun p e s m args below meth c ls hnm _ M hC hl => by
    have hl : lv_has ls 3 [(0, va_rf (some o)), (1, .int p0), (2, va_rf p1)] := hl
    exact w_X8_downAll_L0 @hself M hfl _ _ _ _ hf _ _ _ _ _ hC (lv_sub hl [0, 1, 2] rfl))
set_option maxHeartbeats 4000000 in
set_option maxRecDepth 100000 in
theorem w_X8_part_L64 {p : Program} {l : Launch} {e : Env} {s : State} {m : MethodId} {args : Array Value} {below : List Frame} {meth : Method} {c : Code} {D : va_G} {cA : Nat → ClassId} {h0 : fSt} {r : (Int32 × fSt)} (M : fM p s m args meth c D cA h0 { frames := 1, cells := fCB h0 - fZ h0, slots := fLB h0 - fL h0, locals := 21 } cX8_part 12 (some (.int)) RX8) (hfl : l.stackTraces = false) (s0 : Int64) (h : fSt) (hf : f_X8_part_L64 s0 h = some r) : ∀ (H : Heap) (locs : List Loc) (cells slots : Nat) (ls : Array Slot), fCur D cA s h0 h H locs → lv_has ls 12 [] → W p l e { frames := 1, cells := fCB h0 - fZ h0, slots := fLB h0 - fL h0, locals := 21 } s m args below meth c H locs cells slots (MQ below (fQ D cA h0 r.2 (some (.int r.1))) args s (fCB h0 - fZ h0) (fLB h0 - fL h0) (fA h0)) (F0 m 64 ls [.long s0]) := by
  obtain ⟨hx, hb, hml, hr, hlocks, hts, hown, K, hR⟩ := id M
  intro H locs cells slots ls hC hl
  refine lv_l2i (v := (Int64.toInt32 s0)) hx hb dX8_part_64 rfl ?_
  obtain rfl := Option.some.inj hf
  exact fr_iret hx hb hr hlocks hC dX8_part_65
set_option maxHeartbeats 4000000 in
set_option maxRecDepth 100000 in
theorem w_X8_part_L21 {p : Program} {l : Launch} {e : Env} {s : State} {m : MethodId} {args : Array Value} {below : List Frame} {meth : Method} {c : Code} {D : va_G} {cA : Nat → ClassId} {h0 : fSt} {r : (Int32 × fSt)} (M : fM p s m args meth c D cA h0 { frames := 1, cells := fCB h0 - fZ h0, slots := fLB h0 - fL h0, locals := 21 } cX8_part 12 (some (.int)) RX8) (hfl : l.stackTraces = false) : ∀ (n : Nat) (a1 : Int32) (a2 : Int64) (a4 : Int64) (a6 : Int64) (a8 : Int64) (h : fSt), f_X8_part_L21 n a1 a2 a4 a6 a8 h = some r → ∀ (H : Heap) (locs : List Loc) (cells slots : Nat) (ls : Array Slot), fCur D cA s h0 h H locs → lv_has ls 12 [(1, .int a1), (2, .long a2), (4, .long a4), (6, .long a6), (8, .long a8)] → W p l e { frames := 1, cells := fCB h0 - fZ h0, slots := fLB h0 - fL h0, locals := 21 } s m args below meth c H locs cells slots (MQ below (fQ D cA h0 r.2 (some (.int r.1))) args s (fCB h0 - fZ h0) (fLB h0 - fL h0) (fA h0)) (F0 m 21 ls []) := by
  obtain ⟨hx, hb, hml, hr, hlocks, hts, hown, K, hR⟩ := id M
  intro n
  induction n with
  | zero =>
    intro a1 a2 a4 a6 a8 h hf
    exact nomatch (show (none : Option (Int32 × fSt)) = some r from hf)
  | succ n hk21 =>
    intro a1 a2 a4 a6 a8 h hf H locs cells slots ls hC hl
    refine lv_lload hx hb dX8_part_21 (lv_at hl 3 rfl) ?_
    refine lv_lconst (v := (0 : Int64)) hx hb dX8_part_23 (by decide) ?_
    refine fr_lcmp_eq (tgt := 46) hx hb dX8_part_24 dX8_part_25 (by decide) (fun c1 => ?_) (fun c1 => ?_)
    · replace hf := opos c1 hf
      refine lv_iload_n hx hb dX8_part_46 rfl (lv_at hl 0 rfl) ?_
      refine lv_iconst (v := (2 : Int32)) hx hb dX8_part_47 (by decide) ?_
      refine lv_irem hx hb dX8_part_48 (by decide) ?_
      refine lv_if_ne (tgt := 59) hx hb dX8_part_49 (by decide) (fun c2 => ?_) (fun c2 => ?_)
      · replace hf := oneg c2 hf
        refine lv_lload hx hb dX8_part_59 (lv_at hl 2 rfl) ?_
        refine lv_lload hx hb dX8_part_61 (lv_at hl 4 rfl) ?_
        by_cases c3 : a8 = 0
        · exact nomatch (opos c3 hf)
        replace hf := oneg c3 hf
        refine lv_ldiv hx hb dX8_part_63 c3 ?_
        exact w_X8_part_L64 M hfl _ _ hf _ _ _ _ _ hC (lv_sub hl [] rfl)
      · replace hf := opos c2 hf
        refine lv_lload_n hx hb dX8_part_52 rfl (lv_at hl 1 rfl) ?_
        refine lv_lload hx hb dX8_part_53 (lv_at hl 4 rfl) ?_
        by_cases c4 : a8 = 0
        · exact nomatch (opos c4 hf)
        replace hf := oneg c4 hf
        refine lv_ldiv hx hb dX8_part_55 c4 ?_
        refine lv_goto (tgt := 64) hx hb dX8_part_56 (by decide) ?_
        exact w_X8_part_L64 M hfl _ _ hf _ _ _ _ _ hC (lv_sub hl [] rfl)
    · replace hf := oneg c1 hf
      refine lv_lload hx hb dX8_part_28 (lv_at hl 4 rfl) ?_
      refine lv_lload hx hb dX8_part_30 (lv_at hl 3 rfl) ?_
      by_cases c5 : a6 = 0
      · exact nomatch (opos c5 hf)
      replace hf := oneg c5 hf
      refine lv_lrem hx hb dX8_part_32 c5 ?_
      refine lv_lstore (lv' := [(10, .long (a8 - a8 / a6 * a6)), (1, .int a1), (2, .long a2), (4, .long a4), (6, .long a6), (8, .long a8)]) hx hb dX8_part_33 hl (by decide) (congrArg (List.cons _) (flk rfl (flk rfl (flk rfl (flk rfl (flk rfl fln)))))) (fun ls hl => ?_)
      refine lv_lload hx hb dX8_part_35 (lv_at hl 4 rfl) ?_
      refine lv_lstore (lv' := [(8, .long a6), (10, .long (a8 - a8 / a6 * a6)), (1, .int a1), (2, .long a2), (4, .long a4), (6, .long a6)]) hx hb dX8_part_37 hl (by decide) (congrArg (List.cons _) (flk rfl (flk rfl (flk rfl (flk rfl (flk rfl (fld rfl fln))))))) (fun ls hl => ?_)
      refine lv_lload hx hb dX8_part_39 (lv_at hl 1 rfl) ?_
      refine lv_lstore (lv' := [(6, .long (a8 - a8 / a6 * a6)), (8, .long a6), (10, .long (a8 - a8 / a6 * a6)), (1, .int a1), (2, .long a2), (4, .long a4)]) hx hb dX8_part_41 hl (by decide) (congrArg (List.cons _) (flk rfl (flk rfl (flk rfl (flk rfl (flk rfl (fld rfl fln))))))) (fun ls hl => ?_)
      refine lv_goto (tgt := 21) hx hb dX8_part_43 (by decide) ?_
      exact hk21 _ _ _ _ _ _ hf _ _ _ _ _ hC (lv_sub hl [3, 4, 5, 0, 1] rfl)
set_option maxHeartbeats 4000000 in
set_option maxRecDepth 100000 in
theorem w_X8_part_L0 {p : Program} {l : Launch} {e : Env} {s : State} {m : MethodId} {args : Array Value} {below : List Frame} {meth : Method} {c : Code} {D : va_G} {cA : Nat → ClassId} {h0 : fSt} {r : (Int32 × fSt)} (M : fM p s m args meth c D cA h0 { frames := 1, cells := fCB h0 - fZ h0, slots := fLB h0 - fL h0, locals := 21 } cX8_part 12 (some (.int)) RX8) (hfl : l.stackTraces = false) (a0 : Option Nat) (a1 : Int32) (h : fSt) (hf : f_X8_part_L0 a0 a1 h = some r) : ∀ (H : Heap) (locs : List Loc) (cells slots : Nat) (ls : Array Slot), fCur D cA s h0 h H locs → lv_has ls 12 [(0, va_rf a0), (1, .int a1)] → W p l e { frames := 1, cells := fCB h0 - fZ h0, slots := fLB h0 - fL h0, locals := 21 } s m args below meth c H locs cells slots (MQ below (fQ D cA h0 r.2 (some (.int r.1))) args s (fCB h0 - fZ h0) (fLB h0 - fL h0) (fA h0)) (F0 m 0 ls []) := by
  obtain ⟨hx, hb, hml, hr, hlocks, hts, hown, K, hR⟩ := id M
  intro H locs cells slots ls hC hl
  refine fr_aload_n hx hb dX8_part_0 rfl (lv_at hl 0 rfl) ?_
  refine lv_iload_n hx hb dX8_part_1 rfl (lv_at hl 1 rfl) ?_
  refine lv_iconst (v := (2 : Int32)) hx hb dX8_part_2 (by decide) ?_
  refine lv_idiv hx hb dX8_part_3 (by decide) ?_
  obtain ⟨x6, g7, hf⟩ := obind hf
  refine fr_lald hx hb K hC (t := 1) rfl g7 dX8_part_4 ?_
  refine lv_lstore_n (lv' := [(2, .long x6), (0, va_rf a0), (1, .int a1)]) hx hb dX8_part_5 rfl hl (by decide) (congrArg (List.cons _) (flk rfl (flk rfl fln))) (fun ls hl => ?_)
  refine fr_aload_n hx hb dX8_part_6 rfl (lv_at hl 1 rfl) ?_
  refine lv_iconst (v := (2 : Int32)) hx hb dX8_part_7 (by decide) ?_
  obtain ⟨x8, g9, hf⟩ := obind hf
  refine fr_lald hx hb K hC (t := 1) rfl g9 dX8_part_8 ?_
  refine lv_lstore (lv' := [(4, .long x8), (2, .long x6), (0, va_rf a0), (1, .int a1)]) hx hb dX8_part_9 hl (by decide) (congrArg (List.cons _) (flk rfl (flk rfl (flk rfl fln)))) (fun ls hl => ?_)
  refine lv_lload_n hx hb dX8_part_11 rfl (lv_at hl 1 rfl) ?_
  refine fr_mabsl hx hb hml hts hown hC hR kw1246 kw1247 kw69 kw1248 hl.1 (by exact Nat.le_of_ble_eq_true rfl) (catL _ _ (by exact Nat.le_of_ble_eq_true rfl) (by exact Nat.le_of_ble_eq_true rfl)) dX8_part_12 (fun _ _ => ?_)
  refine lv_lstore (lv' := [(6, .long (if 0 < x6 then x6 else -x6)), (4, .long x8), (2, .long x6), (0, va_rf a0), (1, .int a1)]) hx hb dX8_part_15 hl (by decide) (congrArg (List.cons _) (flk rfl (flk rfl (flk rfl (flk rfl fln))))) (fun ls hl => ?_)
  refine lv_lload hx hb dX8_part_17 (lv_at hl 1 rfl) ?_
  refine lv_lstore (lv' := [(8, .long x8), (6, .long (if 0 < x6 then x6 else -x6)), (4, .long x8), (2, .long x6), (0, va_rf a0), (1, .int a1)]) hx hb dX8_part_19 hl (by decide) (congrArg (List.cons _) (flk rfl (flk rfl (flk rfl (flk rfl (flk rfl fln)))))) (fun ls hl => ?_)
  exact w_X8_part_L21 M hfl 4096 _ _ _ _ _ _ hf _ _ _ _ _ hC (lv_sub hl [5, 3, 2, 1, 0] rfl)
set_option maxRecDepth 100000 in
theorem c_X8_part {l : Launch} (hfl : l.stackTraces = false) (D : va_G) (cA : Nat → ClassId) {p0 : Option Nat} {p1 : Int32} {h : fSt} {r : (Int32 × fSt)} (hf : f_X8_part p0 p1 h = some r) : fMet l yX8_part (wsC yX8_part cX8_part 12 (some (.int))) (1) (21) D cA [va_rf p0, .int p1] h r.2 (some (.int r.1)) := by
  exact fMet.of (own := RX8) (by decide +kernel) rfl (lva1 (va_rf_cat _) (lva1 rfl lva0)) (lgl1 (va_rf_cat _) (lgl1 rfl lgl0)) (Nat.le_of_ble_eq_true rfl) (fun p e s m args below meth c ls hnm _ M hC hl => by
    have hl : lv_has ls 12 [(0, va_rf p0), (1, .int p1)] := hl
    exact w_X8_part_L0 M hfl _ _ _ hf _ _ _ _ _ hC (lv_sub hl [0, 1] rfl))
set_option maxHeartbeats 4000000 in
set_option maxRecDepth 100000 in
theorem w_X8_point_L0 {p : Program} {l : Launch} {e : Env} {s : State} {m : MethodId} {args : Array Value} {below : List Frame} {meth : Method} {c : Code} {D : va_G} {cA : Nat → ClassId} {h0 : fSt} {r : (Option Nat × fSt)} (M : fM p s m args meth c D cA h0 { frames := 0, cells := fCB h0 - fZ h0, slots := fLB h0 - fL h0, locals := 0 } cX8_point 7 (some (.array (.long))) RX8) (hfl : l.stackTraces = false) (a0 : Int64) (a2 : Int64) (a4 : Int64) (h : fSt) (hf : f_X8_point_L0 a0 a2 a4 h = some r) : ∀ (H : Heap) (locs : List Loc) (cells slots : Nat) (ls : Array Slot), fCur D cA s h0 h H locs → lv_has ls 7 [(0, .long a0), (2, .long a2), (4, .long a4)] → W p l e { frames := 0, cells := fCB h0 - fZ h0, slots := fLB h0 - fL h0, locals := 0 } s m args below meth c H locs cells slots (MQ below (fQ D cA h0 r.2 (some (va_rf r.1))) args s (fCB h0 - fZ h0) (fLB h0 - fL h0) (fA h0)) (F0 m 0 ls []) := by
  obtain ⟨hx, hb, hml, hr, hlocks, hts, hown, K, hR⟩ := id M
  intro H locs cells slots ls hC hl
  refine lv_iconst (v := (3 : Int32)) hx hb dX8_point_0 (by decide) ?_
  by_cases c1 : (3 : Int32) < 0 ∨ 67000000 < ((3 : Int32)).toNatClampNeg
  · exact nomatch (opos c1 hf)
  obtain ⟨r2, g3, hf⟩ := obind (oneg c1 hf)
  refine fr_newa hx hb hts K hC hR (atype := .long) (t := 1) rfl kw1249 (fun _ => rfl) rfl (fun z => c1 (Or.inl z)) g3 (newa_b (fun z => c1 (Or.inr z)) (Nat.le_of_ble_eq_true rfl)) dX8_point_1 (fun H _ _ hC => ?_)
  refine lv_dup hx hb dX8_point_3 (va_rf_cat _) ?_
  refine lv_iconst (v := (0 : Int32)) hx hb dX8_point_4 (by decide) ?_
  refine lv_lload_n hx hb dX8_point_5 rfl (lv_at hl 0 rfl) ?_
  obtain ⟨h4, g5, hf⟩ := obind hf
  refine fr_last hx hb K hC (t := 1) rfl g5 dX8_point_6 (fun H locs hC => ?_)
  refine lv_dup hx hb dX8_point_7 (va_rf_cat _) ?_
  refine lv_iconst (v := (1 : Int32)) hx hb dX8_point_8 (by decide) ?_
  refine lv_lload_n hx hb dX8_point_9 rfl (lv_at hl 1 rfl) ?_
  obtain ⟨h6, g7, hf⟩ := obind hf
  refine fr_last hx hb K hC (t := 1) rfl g7 dX8_point_10 (fun H locs hC => ?_)
  refine lv_dup hx hb dX8_point_11 (va_rf_cat _) ?_
  refine lv_iconst (v := (2 : Int32)) hx hb dX8_point_12 (by decide) ?_
  refine lv_lload hx hb dX8_point_13 (lv_at hl 2 rfl) ?_
  obtain ⟨h8, g9, hf⟩ := obind hf
  refine fr_last hx hb K hC (t := 1) rfl g9 dX8_point_15 (fun H locs hC => ?_)
  refine fr_astore (lv' := [(6, va_rf (some r2.1)), (0, .long a0), (2, .long a2), (4, .long a4)]) hx hb dX8_point_16 hl (by decide) (congrArg (List.cons _) (flk rfl (flk rfl (flk rfl fln)))) (fun ls hl => ?_)
  refine fr_aload hx hb dX8_point_18 (lv_at hl 0 rfl) ?_
  obtain rfl := Option.some.inj hf
  exact fr_aret hx hb hr (Or.inr ⟨_, rfl⟩) hlocks hC dX8_point_20
set_option maxRecDepth 100000 in
theorem c_X8_point {l : Launch} (hfl : l.stackTraces = false) (D : va_G) (cA : Nat → ClassId) {p0 : Int64} {p1 : Int64} {p2 : Int64} {h : fSt} {r : (Option Nat × fSt)} (hf : f_X8_point p0 p1 p2 h = some r) : fMet l yX8_point (wsC yX8_point cX8_point 7 (some (.array (.long)))) (0) (0) D cA [.long p0, .long p1, .long p2] h r.2 (some (va_rf r.1)) := by
  exact fMet.of (own := RX8) (by decide +kernel) rfl (lva2 rfl (lva2 rfl (lva2 rfl lva0))) (lgl2 rfl (lgl2 rfl (lgl2 rfl lgl0))) (Nat.le_of_ble_eq_true rfl) (fun p e s m args below meth c ls hnm _ M hC hl => by
    have hl : lv_has ls 7 [(0, .long p0), (2, .long p1), (4, .long p2)] := hl
    exact w_X8_point_L0 M hfl _ _ _ _ hf _ _ _ _ _ hC (lv_sub hl [0, 1, 2] rfl))
