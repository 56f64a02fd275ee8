theorem dX8_addTrack_0 : decode cX8_addTrack 0 = .ok (.aload_n 0, 1) := by decide +kernel
theorem dX8_addTrack_1 : decode cX8_addTrack 1 = .ok (.invokevirtual 92, 3) := by decide +kernel
theorem dX8_addTrack_4 : decode cX8_addTrack 4 = .ok (.istore_n 1, 1) := by decide +kernel
theorem dX8_addTrack_5 : decode cX8_addTrack 5 = .ok (.aload_n 0, 1) := by decide +kernel
theorem dX8_addTrack_6 : decode cX8_addTrack 6 = .ok (.iconst 4, 1) := by decide +kernel
theorem dX8_addTrack_7 : decode cX8_addTrack 7 = .ok (.invokevirtual 69, 3) := by decide +kernel
theorem dX8_addTrack_10 : decode cX8_addTrack 10 = .ok (.istore_n 2, 1) := by decide +kernel
theorem dX8_addTrack_11 : decode cX8_addTrack 11 = .ok (.iload_n 1, 1) := by decide +kernel
theorem dX8_addTrack_12 : decode cX8_addTrack 12 = .ok (.ifCond .eq 12, 3) := by decide +kernel
theorem dX8_addTrack_15 : decode cX8_addTrack 15 = .ok (.aload_n 0, 1) := by decide +kernel
theorem dX8_addTrack_16 : decode cX8_addTrack 16 = .ok (.getfield 134, 3) := by decide +kernel
theorem dX8_addTrack_19 : decode cX8_addTrack 19 = .ok (.bipush 12, 2) := by decide +kernel
theorem dX8_addTrack_21 : decode cX8_addTrack 21 = .ok (.if_icmp .ne 5, 3) := by decide +kernel
theorem dX8_addTrack_24 : decode cX8_addTrack 24 = .ok (.iconst 1, 1) := by decide +kernel
theorem dX8_addTrack_25 : decode cX8_addTrack 25 = .ok (.ireturn, 1) := by decide +kernel
theorem dX8_addTrack_26 : decode cX8_addTrack 26 = .ok (.iconst 0, 1) := by decide +kernel
theorem dX8_addTrack_27 : decode cX8_addTrack 27 = .ok (.istore_n 3, 1) := by decide +kernel
theorem dX8_addTrack_28 : decode cX8_addTrack 28 = .ok (.iload_n 3, 1) := by decide +kernel
theorem dX8_addTrack_29 : decode cX8_addTrack 29 = .ok (.aload_n 0, 1) := by decide +kernel
theorem dX8_addTrack_30 : decode cX8_addTrack 30 = .ok (.getfield 134, 3) := by decide +kernel
theorem dX8_addTrack_33 : decode cX8_addTrack 33 = .ok (.if_icmp .ge 39, 3) := by decide +kernel
theorem dX8_addTrack_36 : decode cX8_addTrack 36 = .ok (.aload_n 0, 1) := by decide +kernel
theorem dX8_addTrack_37 : decode cX8_addTrack 37 = .ok (.getfield 39, 3) := by decide +kernel
theorem dX8_addTrack_40 : decode cX8_addTrack 40 = .ok (.iload_n 3, 1) := by decide +kernel
theorem dX8_addTrack_41 : decode cX8_addTrack 41 = .ok (.aaload, 1) := by decide +kernel
theorem dX8_addTrack_42 : decode cX8_addTrack 42 = .ok (.iconst 0, 1) := by decide +kernel
theorem dX8_addTrack_43 : decode cX8_addTrack 43 = .ok (.iaload, 1) := by decide +kernel
theorem dX8_addTrack_44 : decode cX8_addTrack 44 = .ok (.iload_n 1, 1) := by decide +kernel
theorem dX8_addTrack_45 : decode cX8_addTrack 45 = .ok (.if_icmp .ne 21, 3) := by decide +kernel
theorem dX8_addTrack_48 : decode cX8_addTrack 48 = .ok (.aload_n 0, 1) := by decide +kernel
theorem dX8_addTrack_49 : decode cX8_addTrack 49 = .ok (.getfield 39, 3) := by decide +kernel
theorem dX8_addTrack_52 : decode cX8_addTrack 52 = .ok (.iload_n 3, 1) := by decide +kernel
theorem dX8_addTrack_53 : decode cX8_addTrack 53 = .ok (.aaload, 1) := by decide +kernel
theorem dX8_addTrack_54 : decode cX8_addTrack 54 = .ok (.iconst 1, 1) := by decide +kernel
theorem dX8_addTrack_55 : decode cX8_addTrack 55 = .ok (.iaload, 1) := by decide +kernel
theorem dX8_addTrack_56 : decode cX8_addTrack 56 = .ok (.iload_n 2, 1) := by decide +kernel
theorem dX8_addTrack_57 : decode cX8_addTrack 57 = .ok (.if_icmp .ne 9, 3) := by decide +kernel
theorem dX8_addTrack_60 : decode cX8_addTrack 60 = .ok (.aload_n 0, 1) := by decide +kernel
theorem dX8_addTrack_61 : decode cX8_addTrack 61 = .ok (.iload_n 3, 1) := by decide +kernel
theorem dX8_addTrack_62 : decode cX8_addTrack 62 = .ok (.invokevirtual 140, 3) := by decide +kernel
theorem dX8_addTrack_65 : decode cX8_addTrack 65 = .ok (.ireturn, 1) := by decide +kernel
theorem dX8_addTrack_66 : decode cX8_addTrack 66 = .ok (.iinc 3 1, 3) := by decide +kernel
theorem dX8_addTrack_69 : decode cX8_addTrack 69 = .ok (.goto (-41), 3) := by decide +kernel
theorem dX8_addTrack_72 : decode cX8_addTrack 72 = .ok (.iconst 4, 1) := by decide +kernel
theorem dX8_addTrack_73 : decode cX8_addTrack 73 = .ok (.newarray .int, 2) := by decide +kernel
theorem dX8_addTrack_75 : decode cX8_addTrack 75 = .ok (.dup, 1) := by decide +kernel
theorem dX8_addTrack_76 : decode cX8_addTrack 76 = .ok (.iconst 0, 1) := by decide +kernel
theorem dX8_addTrack_77 : decode cX8_addTrack 77 = .ok (.iload_n 1, 1) := by decide +kernel
theorem dX8_addTrack_78 : decode cX8_addTrack 78 = .ok (.iastore, 1) := by decide +kernel
theorem dX8_addTrack_79 : decode cX8_addTrack 79 = .ok (.dup, 1) := by decide +kernel
theorem dX8_addTrack_80 : decode cX8_addTrack 80 = .ok (.iconst 1, 1) := by decide +kernel
theorem dX8_addTrack_81 : decode cX8_addTrack 81 = .ok (.iload_n 2, 1) := by decide +kernel
theorem dX8_addTrack_82 : decode cX8_addTrack 82 = .ok (.iastore, 1) := by decide +kernel
theorem dX8_addTrack_83 : decode cX8_addTrack 83 = .ok (.dup, 1) := by decide +kernel
theorem dX8_addTrack_84 : decode cX8_addTrack 84 = .ok (.iconst 2, 1) := by decide +kernel
theorem dX8_addTrack_85 : decode cX8_addTrack 85 = .ok (.aload_n 0, 1) := by decide +kernel
theorem dX8_addTrack_86 : decode cX8_addTrack 86 = .ok (.iconst 3, 1) := by decide +kernel
theorem dX8_addTrack_87 : decode cX8_addTrack 87 = .ok (.invokevirtual 69, 3) := by decide +kernel
theorem dX8_addTrack_90 : decode cX8_addTrack 90 = .ok (.iastore, 1) := by decide +kernel
theorem dX8_addTrack_91 : decode cX8_addTrack 91 = .ok (.dup, 1) := by decide +kernel
theorem dX8_addTrack_92 : decode cX8_addTrack 92 = .ok (.iconst 3, 1) := by decide +kernel
theorem dX8_addTrack_93 : decode cX8_addTrack 93 = .ok (.aload_n 0, 1) := by decide +kernel
theorem dX8_addTrack_94 : decode cX8_addTrack 94 = .ok (.iconst 3, 1) := by decide +kernel
theorem dX8_addTrack_95 : decode cX8_addTrack 95 = .ok (.invokevirtual 69, 3) := by decide +kernel
theorem dX8_addTrack_98 : decode cX8_addTrack 98 = .ok (.iastore, 1) := by decide +kernel
theorem dX8_addTrack_99 : decode cX8_addTrack 99 = .ok (.astore_n 3, 1) := by decide +kernel
theorem dX8_addTrack_100 : decode cX8_addTrack 100 = .ok (.aload_n 0, 1) := by decide +kernel
theorem dX8_addTrack_101 : decode cX8_addTrack 101 = .ok (.getfield 39, 3) := by decide +kernel
theorem dX8_addTrack_104 : decode cX8_addTrack 104 = .ok (.aload_n 0, 1) := by decide +kernel
theorem dX8_addTrack_105 : decode cX8_addTrack 105 = .ok (.getfield 134, 3) := by decide +kernel
theorem dX8_addTrack_108 : decode cX8_addTrack 108 = .ok (.aload_n 3, 1) := by decide +kernel
theorem dX8_addTrack_109 : decode cX8_addTrack 109 = .ok (.aastore, 1) := by decide +kernel
theorem dX8_addTrack_110 : decode cX8_addTrack 110 = .ok (.aload_n 0, 1) := by decide +kernel
theorem dX8_addTrack_111 : decode cX8_addTrack 111 = .ok (.getfield 10, 3) := by decide +kernel
theorem dX8_addTrack_114 : decode cX8_addTrack 114 = .ok (.iload_n 1, 1) := by decide +kernel
theorem dX8_addTrack_115 : decode cX8_addTrack 115 = .ok (.iload_n 2, 1) := by decide +kernel
theorem dX8_addTrack_116 : decode cX8_addTrack 116 = .ok (.aload_n 3, 1) := by decide +kernel
theorem dX8_addTrack_117 : decode cX8_addTrack 117 = .ok (.iconst 2, 1) := by decide +kernel
theorem dX8_addTrack_118 : decode cX8_addTrack 118 = .ok (.iaload, 1) := by decide +kernel
theorem dX8_addTrack_119 : decode cX8_addTrack 119 = .ok (.aload_n 3, 1) := by decide +kernel
theorem dX8_addTrack_120 : decode cX8_addTrack 120 = .ok (.iconst 3, 1) := by decide +kernel
theorem dX8_addTrack_121 : decode cX8_addTrack 121 = .ok (.iaload, 1) := by decide +kernel
theorem dX8_addTrack_122 : decode cX8_addTrack 122 = .ok (.invokevirtual 143, 3) := by decide +kernel
theorem dX8_addTrack_125 : decode cX8_addTrack 125 = .ok (.aload_n 0, 1) := by decide +kernel
theorem dX8_addTrack_126 : decode cX8_addTrack 126 = .ok (.dup, 1) := by decide +kernel
theorem dX8_addTrack_127 : decode cX8_addTrack 127 = .ok (.getfield 134, 3) := by decide +kernel
theorem dX8_addTrack_130 : decode cX8_addTrack 130 = .ok (.dup_x1, 1) := by decide +kernel
theorem dX8_addTrack_131 : decode cX8_addTrack 131 = .ok (.iconst 1, 1) := by decide +kernel
theorem dX8_addTrack_132 : decode cX8_addTrack 132 = .ok (.iadd, 1) := by decide +kernel
theorem dX8_addTrack_133 : decode cX8_addTrack 133 = .ok (.putfield 134, 3) := by decide +kernel
theorem dX8_addTrack_136 : decode cX8_addTrack 136 = .ok (.if_icmp .ne 46, 3) := by decide +kernel
theorem dX8_addTrack_139 : decode cX8_addTrack 139 = .ok (.aload_n 0, 1) := by decide +kernel
theorem dX8_addTrack_140 : decode cX8_addTrack 140 = .ok (.aload_n 0, 1) := by decide +kernel
theorem dX8_addTrack_141 : decode cX8_addTrack 141 = .ok (.getfield 134, 3) := by decide +kernel
theorem dX8_addTrack_144 : decode cX8_addTrack 144 = .ok (.iconst 1, 1) := by decide +kernel
theorem dX8_addTrack_145 : decode cX8_addTrack 145 = .ok (.isub, 1) := by decide +kernel
theorem dX8_addTrack_146 : decode cX8_addTrack 146 = .ok (.invokevirtual 140, 3) := by decide +kernel
theorem dX8_addTrack_149 : decode cX8_addTrack 149 = .ok (.ifCond .eq 33, 3) := by decide +kernel
theorem dX8_addTrack_152 : decode cX8_addTrack 152 = .ok (.aload_n 0, 1) := by decide +kernel
theorem dX8_addTrack_153 : decode cX8_addTrack 153 = .ok (.aload_n 0, 1) := by decide +kernel
theorem dX8_addTrack_154 : decode cX8_addTrack 154 = .ok (.getfield 134, 3) := by decide +kernel
theorem dX8_addTrack_157 : decode cX8_addTrack 157 = .ok (.iconst 1, 1) := by decide +kernel
theorem dX8_addTrack_158 : decode cX8_addTrack 158 = .ok (.isub, 1) := by decide +kernel
theorem dX8_addTrack_159 : decode cX8_addTrack 159 = .ok (.invokevirtual 140, 3) := by decide +kernel
theorem dX8_addTrack_162 : decode cX8_addTrack 162 = .ok (.ifCond .eq 20, 3) := by decide +kernel
theorem dX8_addTrack_165 : decode cX8_addTrack 165 = .ok (.aload_n 0, 1) := by decide +kernel
theorem dX8_addTrack_166 : decode cX8_addTrack 166 = .ok (.aload_n 0, 1) := by decide +kernel
theorem dX8_addTrack_167 : decode cX8_addTrack 167 = .ok (.getfield 134, 3) := by decide +kernel
theorem dX8_addTrack_170 : decode cX8_addTrack 170 = .ok (.iconst 1, 1) := by decide +kernel
theorem dX8_addTrack_171 : decode cX8_addTrack 171 = .ok (.isub, 1) := by decide +kernel
theorem dX8_addTrack_172 : decode cX8_addTrack 172 = .ok (.invokevirtual 140, 3) := by decide +kernel
theorem dX8_addTrack_175 : decode cX8_addTrack 175 = .ok (.ifCond .eq 7, 3) := by decide +kernel
theorem dX8_addTrack_178 : decode cX8_addTrack 178 = .ok (.iconst 1, 1) := by decide +kernel
theorem dX8_addTrack_179 : decode cX8_addTrack 179 = .ok (.goto 4, 3) := by decide +kernel
theorem dX8_addTrack_182 : decode cX8_addTrack 182 = .ok (.iconst 0, 1) := by decide +kernel
theorem dX8_addTrack_183 : decode cX8_addTrack 183 = .ok (.ireturn, 1) := by decide +kernel
theorem dX7_foundBelowWhole_0 : decode cX7_foundBelowWhole 0 = .ok (.aload_n 0, 1) := by decide +kernel
theorem dX7_foundBelowWhole_1 : decode cX7_foundBelowWhole 1 = .ok (.iload_n 1, 1) := by decide +kernel
theorem dX7_foundBelowWhole_2 : decode cX7_foundBelowWhole 2 = .ok (.invokevirtual 52, 3) := by decide +kernel
theorem dX7_foundBelowWhole_5 : decode cX7_foundBelowWhole 5 = .ok (.astore_n 2, 1) := by decide +kernel
theorem dX7_foundBelowWhole_6 : decode cX7_foundBelowWhole 6 = .ok (.aload_n 2, 1) := by decide +kernel
theorem dX7_foundBelowWhole_7 : decode cX7_foundBelowWhole 7 = .ok (.aload_n 0, 1) := by decide +kernel
theorem dX7_foundBelowWhole_8 : decode cX7_foundBelowWhole 8 = .ok (.getfield 24, 3) := by decide +kernel
theorem dX7_foundBelowWhole_11 : decode cX7_foundBelowWhole 11 = .ok (.if_acmp .ne 14, 3) := by decide +kernel
theorem dX7_foundBelowWhole_14 : decode cX7_foundBelowWhole 14 = .ok (.new 73, 3) := by decide +kernel
theorem dX7_foundBelowWhole_17 : decode cX7_foundBelowWhole 17 = .ok (.dup, 1) := by decide +kernel
theorem dX7_foundBelowWhole_18 : decode cX7_foundBelowWhole 18 = .ok (.ldc_w 345, 3) := by decide +kernel
theorem dX7_foundBelowWhole_21 : decode cX7_foundBelowWhole 21 = .ok (.invokespecial 77, 3) := by decide +kernel
theorem dX7_foundBelowWhole_24 : decode cX7_foundBelowWhole 24 = .ok (.athrow, 1) := by decide +kernel
theorem dX7_foundBelowWhole_25 : decode cX7_foundBelowWhole 25 = .ok (.aload_n 2, 1) := by decide +kernel
theorem dX7_foundBelowWhole_26 : decode cX7_foundBelowWhole 26 = .ok (.areturn, 1) := by decide +kernel
theorem dX7_cut_0 : decode cX7_cut 0 = .ok (.aload_n 0, 1) := by decide +kernel
theorem dX7_cut_1 : decode cX7_cut 1 = .ok (.iload_n 1, 1) := by decide +kernel
theorem dX7_cut_2 : decode cX7_cut 2 = .ok (.invokevirtual 88, 3) := by decide +kernel
theorem dX7_cut_5 : decode cX7_cut 5 = .ok (.astore 6, 2) := by decide +kernel
theorem dX7_cut_7 : decode cX7_cut 7 = .ok (.iload_n 2, 1) := by decide +kernel
theorem dX7_cut_8 : decode cX7_cut 8 = .ok (.sipush (-200), 3) := by decide +kernel
theorem dX7_cut_11 : decode cX7_cut 11 = .ok (.if_icmp .lt 17, 3) := by decide +kernel
theorem dX7_cut_14 : decode cX7_cut 14 = .ok (.iload 4, 2) := by decide +kernel
theorem dX7_cut_16 : decode cX7_cut 16 = .ok (.sipush 200, 3) := by decide +kernel
theorem dX7_cut_19 : decode cX7_cut 19 = .ok (.if_icmp .gt 9, 3) := by decide +kernel
theorem dX7_cut_22 : decode cX7_cut 22 = .ok (.iload_n 2, 1) := by decide +kernel
theorem dX7_cut_23 : decode cX7_cut 23 = .ok (.iload 4, 2) := by decide +kernel
theorem dX7_cut_25 : decode cX7_cut 25 = .ok (.if_icmp .le 13, 3) := by decide +kernel
theorem dX7_cut_28 : decode cX7_cut 28 = .ok (.new 60, 3) := by decide +kernel
theorem dX7_cut_31 : decode cX7_cut 31 = .ok (.dup, 1) := by decide +kernel
theorem dX7_cut_32 : decode cX7_cut 32 = .ok (.ldc 159, 2) := by decide +kernel
theorem dX7_cut_34 : decode cX7_cut 34 = .ok (.invokespecial 64, 3) := by decide +kernel
theorem dX7_cut_37 : decode cX7_cut 37 = .ok (.athrow, 1) := by decide +kernel
theorem dX7_cut_38 : decode cX7_cut 38 = .ok (.iload_n 3, 1) := by decide +kernel
theorem dX7_cut_39 : decode cX7_cut 39 = .ok (.sipush (-200), 3) := by decide +kernel
theorem dX7_cut_42 : decode cX7_cut 42 = .ok (.if_icmp .lt 17, 3) := by decide +kernel
theorem dX7_cut_45 : decode cX7_cut 45 = .ok (.iload 5, 2) := by decide +kernel
theorem dX7_cut_47 : decode cX7_cut 47 = .ok (.sipush 200, 3) := by decide +kernel
theorem dX7_cut_50 : decode cX7_cut 50 = .ok (.if_icmp .gt 9, 3) := by decide +kernel
theorem dX7_cut_53 : decode cX7_cut 53 = .ok (.iload_n 3, 1) := by decide +kernel
theorem dX7_cut_54 : decode cX7_cut 54 = .ok (.iload 5, 2) := by decide +kernel
theorem dX7_cut_56 : decode cX7_cut 56 = .ok (.if_icmp .le 13, 3) := by decide +kernel
theorem dX7_cut_59 : decode cX7_cut 59 = .ok (.new 60, 3) := by decide +kernel
theorem dX7_cut_62 : decode cX7_cut 62 = .ok (.dup, 1) := by decide +kernel
theorem dX7_cut_63 : decode cX7_cut 63 = .ok (.ldc 161, 2) := by decide +kernel
theorem dX7_cut_65 : decode cX7_cut 65 = .ok (.invokespecial 64, 3) := by decide +kernel
theorem dX7_cut_68 : decode cX7_cut 68 = .ok (.athrow, 1) := by decide +kernel
theorem dX7_cut_69 : decode cX7_cut 69 = .ok (.aload 6, 2) := by decide +kernel
theorem dX7_cut_71 : decode cX7_cut 71 = .ok (.getfield 163, 3) := by decide +kernel
theorem dX7_cut_74 : decode cX7_cut 74 = .ok (.ifnull 7, 3) := by decide +kernel
theorem dX7_cut_77 : decode cX7_cut 77 = .ok (.iconst 1, 1) := by decide +kernel
theorem dX7_cut_78 : decode cX7_cut 78 = .ok (.goto 4, 3) := by decide +kernel
theorem dX7_cut_81 : decode cX7_cut 81 = .ok (.iconst 0, 1) := by decide +kernel
theorem dX7_cut_82 : decode cX7_cut 82 = .ok (.istore 7, 2) := by decide +kernel
theorem dX7_cut_84 : decode cX7_cut 84 = .ok (.aload 6, 2) := by decide +kernel
theorem dX7_cut_86 : decode cX7_cut 86 = .ok (.new 167, 3) := by decide +kernel
theorem dX7_cut_89 : decode cX7_cut 89 = .ok (.dup, 1) := by decide +kernel
theorem dX7_cut_90 : decode cX7_cut 90 = .ok (.iload_n 2, 1) := by decide +kernel
theorem dX7_cut_91 : decode cX7_cut 91 = .ok (.iload_n 3, 1) := by decide +kernel
theorem dX7_cut_92 : decode cX7_cut 92 = .ok (.iload 4, 2) := by decide +kernel
theorem dX7_cut_94 : decode cX7_cut 94 = .ok (.iload 5, 2) := by decide +kernel
theorem dX7_cut_96 : decode cX7_cut 96 = .ok (.invokespecial 169, 3) := by decide +kernel
theorem dX7_cut_99 : decode cX7_cut 99 = .ok (.putfield 163, 3) := by decide +kernel
theorem dX7_cut_102 : decode cX7_cut 102 = .ok (.iload 7, 2) := by decide +kernel
theorem dX7_cut_104 : decode cX7_cut 104 = .ok (.ireturn, 1) := by decide +kernel
theorem dX7_look_0 : decode cX7_look 0 = .ok (.aload_n 0, 1) := by decide +kernel
theorem dX7_look_1 : decode cX7_look 1 = .ok (.iload_n 1, 1) := by decide +kernel
theorem dX7_look_2 : decode cX7_look 2 = .ok (.invokevirtual 88, 3) := by decide +kernel
theorem dX7_look_5 : decode cX7_look 5 = .ok (.astore 5, 2) := by decide +kernel
theorem dX7_look_7 : decode cX7_look 7 = .ok (.iload_n 2, 1) := by decide +kernel
theorem dX7_look_8 : decode cX7_look 8 = .ok (.bipush (-9), 2) := by decide +kernel
theorem dX7_look_10 : decode cX7_look 10 = .ok (.bipush 9, 2) := by decide +kernel
theorem dX7_look_12 : decode cX7_look 12 = .ok (.invokestatic 56, 3) := by decide +kernel
theorem dX7_look_15 : decode cX7_look 15 = .ok (.ifCond .eq 15, 3) := by decide +kernel
theorem dX7_look_18 : decode cX7_look 18 = .ok (.aload 5, 2) := by decide +kernel
theorem dX7_look_20 : decode cX7_look 20 = .ok (.getfield 148, 3) := by decide +kernel
theorem dX7_look_23 : decode cX7_look 23 = .ok (.iload_n 3, 1) := by decide +kernel
theorem dX7_look_24 : decode cX7_look 24 = .ok (.invokevirtual 119, 3) := by decide +kernel
theorem dX7_look_27 : decode cX7_look 27 = .ok (.ifCond .ne 13, 3) := by decide +kernel
theorem dX7_look_30 : decode cX7_look 30 = .ok (.new 60, 3) := by decide +kernel
theorem dX7_look_33 : decode cX7_look 33 = .ok (.dup, 1) := by decide +kernel
theorem dX7_look_34 : decode cX7_look 34 = .ok (.ldc 151, 2) := by decide +kernel
theorem dX7_look_36 : decode cX7_look 36 = .ok (.invokespecial 64, 3) := by decide +kernel
theorem dX7_look_39 : decode cX7_look 39 = .ok (.athrow, 1) := by decide +kernel
theorem dX7_look_40 : decode cX7_look 40 = .ok (.aload 5, 2) := by decide +kernel
theorem dX7_look_42 : decode cX7_look 42 = .ok (.getfield 148, 3) := by decide +kernel
theorem dX7_look_45 : decode cX7_look 45 = .ok (.getfield 128, 3) := by decide +kernel
theorem dX7_look_48 : decode cX7_look 48 = .ok (.istore 6, 2) := by decide +kernel
theorem dX7_look_50 : decode cX7_look 50 = .ok (.aload 5, 2) := by decide +kernel
theorem dX7_look_52 : decode cX7_look 52 = .ok (.iload_n 2, 1) := by decide +kernel
theorem dX7_look_53 : decode cX7_look 53 = .ok (.putfield 153, 3) := by decide +kernel
theorem dX7_look_56 : decode cX7_look 56 = .ok (.aload 5, 2) := by decide +kernel
theorem dX7_look_58 : decode cX7_look 58 = .ok (.getfield 148, 3) := by decide +kernel
theorem dX7_look_61 : decode cX7_look 61 = .ok (.iload_n 3, 1) := by decide +kernel
theorem dX7_look_62 : decode cX7_look 62 = .ok (.putfield 128, 3) := by decide +kernel
theorem dX7_look_65 : decode cX7_look 65 = .ok (.aload 5, 2) := by decide +kernel
theorem dX7_look_67 : decode cX7_look 67 = .ok (.iload 4, 2) := by decide +kernel
theorem dX7_look_69 : decode cX7_look 69 = .ok (.putfield 156, 3) := by decide +kernel
theorem dX7_look_72 : decode cX7_look 72 = .ok (.aload_n 0, 1) := by decide +kernel
theorem dX7_look_73 : decode cX7_look 73 = .ok (.invokevirtual 82, 3) := by decide +kernel
theorem dX7_look_76 : decode cX7_look 76 = .ok (.iload 6, 2) := by decide +kernel
theorem dX7_look_78 : decode cX7_look 78 = .ok (.ireturn, 1) := by decide +kernel
theorem dX7_move_0 : decode cX7_move 0 = .ok (.aload_n 0, 1) := by decide +kernel
theorem dX7_move_1 : decode cX7_move 1 = .ok (.iload_n 1, 1) := by decide +kernel
theorem dX7_move_2 : decode cX7_move 2 = .ok (.invokevirtual 88, 3) := by decide +kernel
theorem dX7_move_5 : decode cX7_move 5 = .ok (.astore 4, 2) := by decide +kernel
theorem dX7_move_7 : decode cX7_move 7 = .ok (.aload 4, 2) := by decide +kernel
theorem dX7_move_9 : decode cX7_move 9 = .ok (.getfield 115, 3) := by decide +kernel
theorem dX7_move_12 : decode cX7_move 12 = .ok (.iload_n 2, 1) := by decide +kernel
theorem dX7_move_13 : decode cX7_move 13 = .ok (.invokevirtual 119, 3) := by decide +kernel
theorem dX7_move_16 : decode cX7_move 16 = .ok (.ifCond .eq 15, 3) := by decide +kernel
theorem dX7_move_19 : decode cX7_move 19 = .ok (.aload 4, 2) := by decide +kernel
theorem dX7_move_21 : decode cX7_move 21 = .ok (.getfield 123, 3) := by decide +kernel
theorem dX7_move_24 : decode cX7_move 24 = .ok (.iload_n 3, 1) := by decide +kernel
theorem dX7_move_25 : decode cX7_move 25 = .ok (.invokevirtual 119, 3) := by decide +kernel
theorem dX7_move_28 : decode cX7_move 28 = .ok (.ifCond .ne 13, 3) := by decide +kernel
theorem dX7_move_31 : decode cX7_move 31 = .ok (.new 60, 3) := by decide +kernel
theorem dX7_move_34 : decode cX7_move 34 = .ok (.dup, 1) := by decide +kernel
theorem dX7_move_35 : decode cX7_move 35 = .ok (.ldc 126, 2) := by decide +kernel
theorem dX7_move_37 : decode cX7_move 37 = .ok (.invokespecial 64, 3) := by decide +kernel
theorem dX7_move_40 : decode cX7_move 40 = .ok (.athrow, 1) := by decide +kernel
theorem dX7_move_41 : decode cX7_move 41 = .ok (.aload 4, 2) := by decide +kernel
theorem dX7_move_43 : decode cX7_move 43 = .ok (.getfield 115, 3) := by decide +kernel
theorem dX7_move_46 : decode cX7_move 46 = .ok (.getfield 128, 3) := by decide +kernel
theorem dX7_move_49 : decode cX7_move 49 = .ok (.istore 5, 2) := by decide +kernel
theorem dX7_move_51 : decode cX7_move 51 = .ok (.aload 4, 2) := by decide +kernel
theorem dX7_move_53 : decode cX7_move 53 = .ok (.getfield 115, 3) := by decide +kernel
theorem dX7_move_56 : decode cX7_move 56 = .ok (.iload_n 2, 1) := by decide +kernel
theorem dX7_move_57 : decode cX7_move 57 = .ok (.putfield 128, 3) := by decide +kernel
theorem dX7_move_60 : decode cX7_move 60 = .ok (.aload 4, 2) := by decide +kernel
theorem dX7_move_62 : decode cX7_move 62 = .ok (.getfield 123, 3) := by decide +kernel
theorem dX7_move_65 : decode cX7_move 65 = .ok (.iload_n 3, 1) := by decide +kernel
theorem dX7_move_66 : decode cX7_move 66 = .ok (.putfield 128, 3) := by decide +kernel
theorem dX7_move_69 : decode cX7_move 69 = .ok (.iload 5, 2) := by decide +kernel
theorem dX7_move_71 : decode cX7_move 71 = .ok (.ireturn, 1) := by decide +kernel
theorem dX7_scale_0 : decode cX7_scale 0 = .ok (.aload_n 0, 1) := by decide +kernel
theorem dX7_scale_1 : decode cX7_scale 1 = .ok (.iload_n 1, 1) := by decide +kernel
theorem dX7_scale_2 : decode cX7_scale 2 = .ok (.invokevirtual 88, 3) := by decide +kernel
theorem dX7_scale_5 : decode cX7_scale 5 = .ok (.astore 4, 2) := by decide +kernel
theorem dX7_scale_7 : decode cX7_scale 7 = .ok (.iload_n 2, 1) := by decide +kernel
theorem dX7_scale_8 : decode cX7_scale 8 = .ok (.iconst 1, 1) := by decide +kernel
theorem dX7_scale_9 : decode cX7_scale 9 = .ok (.iconst 4, 1) := by decide +kernel
theorem dX7_scale_10 : decode cX7_scale 10 = .ok (.invokestatic 56, 3) := by decide +kernel
theorem dX7_scale_13 : decode cX7_scale 13 = .ok (.ifCond .eq 12, 3) := by decide +kernel
theorem dX7_scale_16 : decode cX7_scale 16 = .ok (.iload_n 3, 1) := by decide +kernel
theorem dX7_scale_17 : decode cX7_scale 17 = .ok (.iconst 1, 1) := by decide +kernel
theorem dX7_scale_18 : decode cX7_scale 18 = .ok (.iconst 4, 1) := by decide +kernel
theorem dX7_scale_19 : decode cX7_scale 19 = .ok (.invokestatic 56, 3) := by decide +kernel
theorem dX7_scale_22 : decode cX7_scale 22 = .ok (.ifCond .ne 13, 3) := by decide +kernel
theorem dX7_scale_25 : decode cX7_scale 25 = .ok (.new 60, 3) := by decide +kernel
theorem dX7_scale_28 : decode cX7_scale 28 = .ok (.dup, 1) := by decide +kernel
theorem dX7_scale_29 : decode cX7_scale 29 = .ok (.ldc 131, 2) := by decide +kernel
theorem dX7_scale_31 : decode cX7_scale 31 = .ok (.invokespecial 64, 3) := by decide +kernel
theorem dX7_scale_34 : decode cX7_scale 34 = .ok (.athrow, 1) := by decide +kernel
theorem dX7_scale_35 : decode cX7_scale 35 = .ok (.aload 4, 2) := by decide +kernel
theorem dX7_scale_37 : decode cX7_scale 37 = .ok (.getfield 133, 3) := by decide +kernel
theorem dX7_scale_40 : decode cX7_scale 40 = .ok (.bipush 10, 2) := by decide +kernel
theorem dX7_scale_42 : decode cX7_scale 42 = .ok (.imul, 1) := by decide +kernel
theorem dX7_scale_43 : decode cX7_scale 43 = .ok (.aload 4, 2) := by decide +kernel
theorem dX7_scale_45 : decode cX7_scale 45 = .ok (.getfield 136, 3) := by decide +kernel
theorem dX7_scale_48 : decode cX7_scale 48 = .ok (.iadd, 1) := by decide +kernel
theorem dX7_scale_49 : decode cX7_scale 49 = .ok (.istore 5, 2) := by decide +kernel
theorem dX7_scale_51 : decode cX7_scale 51 = .ok (.aload 4, 2) := by decide +kernel
theorem dX7_scale_53 : decode cX7_scale 53 = .ok (.iload_n 2, 1) := by decide +kernel
theorem dX7_scale_54 : decode cX7_scale 54 = .ok (.putfield 133, 3) := by decide +kernel
theorem dX7_scale_57 : decode cX7_scale 57 = .ok (.aload 4, 2) := by decide +kernel
theorem dX7_scale_59 : decode cX7_scale 59 = .ok (.iload_n 3, 1) := by decide +kernel
theorem dX7_scale_60 : decode cX7_scale 60 = .ok (.putfield 136, 3) := by decide +kernel
theorem dX7_scale_63 : decode cX7_scale 63 = .ok (.iload 5, 2) := by decide +kernel
theorem dX7_scale_65 : decode cX7_scale 65 = .ok (.ireturn, 1) := by decide +kernel
theorem dX7_turn_0 : decode cX7_turn 0 = .ok (.aload_n 0, 1) := by decide +kernel
theorem dX7_turn_1 : decode cX7_turn 1 = .ok (.iload_n 1, 1) := by decide +kernel
theorem dX7_turn_2 : decode cX7_turn 2 = .ok (.invokevirtual 88, 3) := by decide +kernel
theorem dX7_turn_5 : decode cX7_turn 5 = .ok (.astore 4, 2) := by decide +kernel
theorem dX7_turn_7 : decode cX7_turn 7 = .ok (.aload 4, 2) := by decide +kernel
theorem dX7_turn_9 : decode cX7_turn 9 = .ok (.getfield 139, 3) := by decide +kernel
theorem dX7_turn_12 : decode cX7_turn 12 = .ok (.iload_n 2, 1) := by decide +kernel
theorem dX7_turn_13 : decode cX7_turn 13 = .ok (.invokevirtual 119, 3) := by decide +kernel
theorem dX7_turn_16 : decode cX7_turn 16 = .ok (.ifCond .ne 13, 3) := by decide +kernel
theorem dX7_turn_19 : decode cX7_turn 19 = .ok (.new 60, 3) := by decide +kernel
theorem dX7_turn_22 : decode cX7_turn 22 = .ok (.dup, 1) := by decide +kernel
theorem dX7_turn_23 : decode cX7_turn 23 = .ok (.ldc 142, 2) := by decide +kernel
theorem dX7_turn_25 : decode cX7_turn 25 = .ok (.invokespecial 64, 3) := by decide +kernel
theorem dX7_turn_28 : decode cX7_turn 28 = .ok (.athrow, 1) := by decide +kernel
theorem dX7_turn_29 : decode cX7_turn 29 = .ok (.aload 4, 2) := by decide +kernel
theorem dX7_turn_31 : decode cX7_turn 31 = .ok (.getfield 139, 3) := by decide +kernel
theorem dX7_turn_34 : decode cX7_turn 34 = .ok (.getfield 128, 3) := by decide +kernel
theorem dX7_turn_37 : decode cX7_turn 37 = .ok (.istore 5, 2) := by decide +kernel
theorem dX7_turn_39 : decode cX7_turn 39 = .ok (.aload 4, 2) := by decide +kernel
theorem dX7_turn_41 : decode cX7_turn 41 = .ok (.getfield 139, 3) := by decide +kernel
theorem dX7_turn_44 : decode cX7_turn 44 = .ok (.iload_n 2, 1) := by decide +kernel
theorem dX7_turn_45 : decode cX7_turn 45 = .ok (.putfield 128, 3) := by decide +kernel
theorem dX7_turn_48 : decode cX7_turn 48 = .ok (.aload 4, 2) := by decide +kernel
theorem dX7_turn_50 : decode cX7_turn 50 = .ok (.iload_n 3, 1) := by decide +kernel
theorem dX7_turn_51 : decode cX7_turn 51 = .ok (.putfield 144, 3) := by decide +kernel
theorem dX7_turn_54 : decode cX7_turn 54 = .ok (.iload 5, 2) := by decide +kernel
theorem dX7_turn_56 : decode cX7_turn 56 = .ok (.ireturn, 1) := by decide +kernel
theorem dX7_uncut_0 : decode cX7_uncut 0 = .ok (.aload_n 0, 1) := by decide +kernel
theorem dX7_uncut_1 : decode cX7_uncut 1 = .ok (.iload_n 1, 1) := by decide +kernel
theorem dX7_uncut_2 : decode cX7_uncut 2 = .ok (.invokevirtual 52, 3) := by decide +kernel
theorem dX7_uncut_5 : decode cX7_uncut 5 = .ok (.astore_n 2, 1) := by decide +kernel
theorem dX7_uncut_6 : decode cX7_uncut 6 = .ok (.aload_n 2, 1) := by decide +kernel
theorem dX7_uncut_7 : decode cX7_uncut 7 = .ok (.getfield 163, 3) := by decide +kernel
theorem dX7_uncut_10 : decode cX7_uncut 10 = .ok (.ifnull 7, 3) := by decide +kernel
theorem dX7_uncut_13 : decode cX7_uncut 13 = .ok (.iconst 1, 1) := by decide +kernel
theorem dX7_uncut_14 : decode cX7_uncut 14 = .ok (.goto 4, 3) := by decide +kernel
theorem dX7_uncut_17 : decode cX7_uncut 17 = .ok (.iconst 0, 1) := by decide +kernel
theorem dX7_uncut_18 : decode cX7_uncut 18 = .ok (.istore_n 3, 1) := by decide +kernel
theorem dX7_uncut_19 : decode cX7_uncut 19 = .ok (.aload_n 2, 1) := by decide +kernel
theorem dX7_uncut_20 : decode cX7_uncut 20 = .ok (.aconst_null, 1) := by decide +kernel
theorem dX7_uncut_21 : decode cX7_uncut 21 = .ok (.putfield 163, 3) := by decide +kernel
theorem dX7_uncut_24 : decode cX7_uncut 24 = .ok (.iload_n 3, 1) := by decide +kernel
theorem dX7_uncut_25 : decode cX7_uncut 25 = .ok (.ireturn, 1) := by decide +kernel
theorem dX4_countHanging_0 : decode cX4_countHanging 0 = .ok (.iconst 0, 1) := by decide +kernel
theorem dX4_countHanging_1 : decode cX4_countHanging 1 = .ok (.istore_n 1, 1) := by decide +kernel
theorem dX4_countHanging_2 : decode cX4_countHanging 2 = .ok (.aload_n 0, 1) := by decide +kernel
theorem dX4_countHanging_3 : decode cX4_countHanging 3 = .ok (.getfield 55, 3) := by decide +kernel
theorem dX4_countHanging_6 : decode cX4_countHanging 6 = .ok (.astore_n 2, 1) := by decide +kernel
theorem dX4_countHanging_7 : decode cX4_countHanging 7 = .ok (.aload_n 2, 1) := by decide +kernel
theorem dX4_countHanging_8 : decode cX4_countHanging 8 = .ok (.ifnull 14, 3) := by decide +kernel
theorem dX4_countHanging_11 : decode cX4_countHanging 11 = .ok (.iinc 1 1, 3) := by decide +kernel
theorem dX4_countHanging_14 : decode cX4_countHanging 14 = .ok (.aload_n 2, 1) := by decide +kernel
theorem dX4_countHanging_15 : decode cX4_countHanging 15 = .ok (.getfield 58, 3) := by decide +kernel
theorem dX4_countHanging_18 : decode cX4_countHanging 18 = .ok (.astore_n 2, 1) := by decide +kernel
theorem dX4_countHanging_19 : decode cX4_countHanging 19 = .ok (.goto (-12), 3) := by decide +kernel
theorem dX4_countHanging_22 : decode cX4_countHanging 22 = .ok (.iload_n 1, 1) := by decide +kernel
theorem dX4_countHanging_23 : decode cX4_countHanging 23 = .ok (.ireturn, 1) := by decide +kernel
theorem dX4_leaveParent_0 : decode cX4_leaveParent 0 = .ok (.aload_n 0, 1) := by decide +kernel
theorem dX4_leaveParent_1 : decode cX4_leaveParent 1 = .ok (.getfield 51, 3) := by decide +kernel
theorem dX4_leaveParent_4 : decode cX4_leaveParent 4 = .ok (.ifnonnull 4, 3) := by decide +kernel
theorem dX4_leaveParent_7 : decode cX4_leaveParent 7 = .ok (.return_, 1) := by decide +kernel
theorem dX4_leaveParent_8 : decode cX4_leaveParent 8 = .ok (.aload_n 0, 1) := by decide +kernel
theorem dX4_leaveParent_9 : decode cX4_leaveParent 9 = .ok (.getfield 51, 3) := by decide +kernel
theorem dX4_leaveParent_12 : decode cX4_leaveParent 12 = .ok (.getfield 55, 3) := by decide +kernel
theorem dX4_leaveParent_15 : decode cX4_leaveParent 15 = .ok (.aload_n 0, 1) := by decide +kernel
theorem dX4_leaveParent_16 : decode cX4_leaveParent 16 = .ok (.if_acmp .ne 14, 3) := by decide +kernel
theorem dX4_leaveParent_19 : decode cX4_leaveParent 19 = .ok (.aload_n 0, 1) := by decide +kernel
theorem dX4_leaveParent_20 : decode cX4_leaveParent 20 = .ok (.getfield 51, 3) := by decide +kernel
theorem dX4_leaveParent_23 : decode cX4_leaveParent 23 = .ok (.aload_n 0, 1) := by decide +kernel
theorem dX4_leaveParent_24 : decode cX4_leaveParent 24 = .ok (.getfield 58, 3) := by decide +kernel
theorem dX4_leaveParent_27 : decode cX4_leaveParent 27 = .ok (.putfield 55, 3) := by decide +kernel
theorem dX4_leaveParent_30 : decode cX4_leaveParent 30 = .ok (.aload_n 0, 1) := by decide +kernel
theorem dX4_leaveParent_31 : decode cX4_leaveParent 31 = .ok (.getfield 51, 3) := by decide +kernel
theorem dX4_leaveParent_34 : decode cX4_leaveParent 34 = .ok (.getfield 55, 3) := by decide +kernel
theorem dX4_leaveParent_37 : decode cX4_leaveParent 37 = .ok (.astore_n 1, 1) := by decide +kernel
theorem dX4_leaveParent_38 : decode cX4_leaveParent 38 = .ok (.aload_n 1, 1) := by decide +kernel
theorem dX4_leaveParent_39 : decode cX4_leaveParent 39 = .ok (.ifnull 27, 3) := by decide +kernel
theorem dX4_leaveParent_42 : decode cX4_leaveParent 42 = .ok (.aload_n 1, 1) := by decide +kernel
theorem dX4_leaveParent_43 : decode cX4_leaveParent 43 = .ok (.getfield 58, 3) := by decide +kernel
theorem dX4_leaveParent_46 : decode cX4_leaveParent 46 = .ok (.aload_n 0, 1) := by decide +kernel
theorem dX4_leaveParent_47 : decode cX4_leaveParent 47 = .ok (.if_acmp .ne 11, 3) := by decide +kernel
theorem dX4_leaveParent_50 : decode cX4_leaveParent 50 = .ok (.aload_n 1, 1) := by decide +kernel
theorem dX4_leaveParent_51 : decode cX4_leaveParent 51 = .ok (.aload_n 0, 1) := by decide +kernel
theorem dX4_leaveParent_52 : decode cX4_leaveParent 52 = .ok (.getfield 58, 3) := by decide +kernel
theorem dX4_leaveParent_55 : decode cX4_leaveParent 55 = .ok (.putfield 58, 3) := by decide +kernel
theorem dX4_leaveParent_58 : decode cX4_leaveParent 58 = .ok (.aload_n 1, 1) := by decide +kernel
theorem dX4_leaveParent_59 : decode cX4_leaveParent 59 = .ok (.getfield 58, 3) := by decide +kernel
theorem dX4_leaveParent_62 : decode cX4_leaveParent 62 = .ok (.astore_n 1, 1) := by decide +kernel
theorem dX4_leaveParent_63 : decode cX4_leaveParent 63 = .ok (.goto (-25), 3) := by decide +kernel
theorem dX4_leaveParent_66 : decode cX4_leaveParent 66 = .ok (.aload_n 0, 1) := by decide +kernel
theorem dX4_leaveParent_67 : decode cX4_leaveParent 67 = .ok (.aconst_null, 1) := by decide +kernel
theorem dX4_leaveParent_68 : decode cX4_leaveParent 68 = .ok (.putfield 58, 3) := by decide +kernel
theorem dX4_leaveParent_71 : decode cX4_leaveParent 71 = .ok (.return_, 1) := by decide +kernel
theorem dX7_depthUnder_0 : decode cX7_depthUnder 0 = .ok (.aload_n 1, 1) := by decide +kernel
theorem dX7_depthUnder_1 : decode cX7_depthUnder 1 = .ok (.invokevirtual 69, 3) := by decide +kernel
theorem dX7_depthUnder_4 : decode cX7_depthUnder 4 = .ok (.istore_n 2, 1) := by decide +kernel
theorem dX7_depthUnder_5 : decode cX7_depthUnder 5 = .ok (.aload_n 0, 1) := by decide +kernel
theorem dX7_depthUnder_6 : decode cX7_depthUnder 6 = .ok (.getfield 46, 3) := by decide +kernel
theorem dX7_depthUnder_9 : decode cX7_depthUnder 9 = .ok (.astore_n 3, 1) := by decide +kernel
theorem dX7_depthUnder_10 : decode cX7_depthUnder 10 = .ok (.aload_n 3, 1) := by decide +kernel
theorem dX7_depthUnder_11 : decode cX7_depthUnder 11 = .ok (.ifnull 28, 3) := by decide +kernel
theorem dX7_depthUnder_14 : decode cX7_depthUnder 14 = .ok (.aload_n 3, 1) := by decide +kernel
theorem dX7_depthUnder_15 : decode cX7_depthUnder 15 = .ok (.aload_n 1, 1) := by decide +kernel
theorem dX7_depthUnder_16 : decode cX7_depthUnder 16 = .ok (.invokevirtual 91, 3) := by decide +kernel
theorem dX7_depthUnder_19 : decode cX7_depthUnder 19 = .ok (.ifCond .eq 12, 3) := by decide +kernel
theorem dX7_depthUnder_22 : decode cX7_depthUnder 22 = .ok (.iload_n 2, 1) := by decide +kernel
theorem dX7_depthUnder_23 : decode cX7_depthUnder 23 = .ok (.aload_n 3, 1) := by decide +kernel
theorem dX7_depthUnder_24 : decode cX7_depthUnder 24 = .ok (.invokevirtual 69, 3) := by decide +kernel
theorem dX7_depthUnder_27 : decode cX7_depthUnder 27 = .ok (.invokestatic 359, 3) := by decide +kernel
theorem dX7_depthUnder_30 : decode cX7_depthUnder 30 = .ok (.istore_n 2, 1) := by decide +kernel
theorem dX7_depthUnder_31 : decode cX7_depthUnder 31 = .ok (.aload_n 3, 1) := by decide +kernel
theorem dX7_depthUnder_32 : decode cX7_depthUnder 32 = .ok (.getfield 98, 3) := by decide +kernel
theorem dX7_depthUnder_35 : decode cX7_depthUnder 35 = .ok (.astore_n 3, 1) := by decide +kernel
theorem dX7_depthUnder_36 : decode cX7_depthUnder 36 = .ok (.goto (-26), 3) := by decide +kernel
theorem dX7_depthUnder_39 : decode cX7_depthUnder 39 = .ok (.iload_n 2, 1) := by decide +kernel
theorem dX7_depthUnder_40 : decode cX7_depthUnder 40 = .ok (.aload_n 1, 1) := by decide +kernel
theorem dX7_depthUnder_41 : decode cX7_depthUnder 41 = .ok (.invokevirtual 69, 3) := by decide +kernel
theorem dX7_depthUnder_44 : decode cX7_depthUnder 44 = .ok (.isub, 1) := by decide +kernel
theorem dX7_depthUnder_45 : decode cX7_depthUnder 45 = .ok (.ireturn, 1) := by decide +kernel
theorem dX7_hang_0 : decode cX7_hang 0 = .ok (.aload_n 0, 1) := by decide +kernel
theorem dX7_hang_1 : decode cX7_hang 1 = .ok (.iload_n 1, 1) := by decide +kernel
theorem dX7_hang_2 : decode cX7_hang 2 = .ok (.invokevirtual 52, 3) := by decide +kernel
theorem dX7_hang_5 : decode cX7_hang 5 = .ok (.astore_n 3, 1) := by decide +kernel
theorem dX7_hang_6 : decode cX7_hang 6 = .ok (.aload_n 0, 1) := by decide +kernel
theorem dX7_hang_7 : decode cX7_hang 7 = .ok (.iload_n 2, 1) := by decide +kernel
theorem dX7_hang_8 : decode cX7_hang 8 = .ok (.invokevirtual 52, 3) := by decide +kernel
theorem dX7_hang_11 : decode cX7_hang 11 = .ok (.astore 4, 2) := by decide +kernel
theorem dX7_hang_13 : decode cX7_hang 13 = .ok (.aload_n 3, 1) := by decide +kernel
theorem dX7_hang_14 : decode cX7_hang 14 = .ok (.aload_n 0, 1) := by decide +kernel
theorem dX7_hang_15 : decode cX7_hang 15 = .ok (.getfield 24, 3) := by decide +kernel
theorem dX7_hang_18 : decode cX7_hang 18 = .ok (.if_acmp .eq 12, 3) := by decide +kernel
theorem dX7_hang_21 : decode cX7_hang 21 = .ok (.aload 4, 2) := by decide +kernel
theorem dX7_hang_23 : decode cX7_hang 23 = .ok (.aload_n 3, 1) := by decide +kernel
theorem dX7_hang_24 : decode cX7_hang 24 = .ok (.invokevirtual 91, 3) := by decide +kernel
theorem dX7_hang_27 : decode cX7_hang 27 = .ok (.ifCond .eq 13, 3) := by decide +kernel
theorem dX7_hang_30 : decode cX7_hang 30 = .ok (.new 73, 3) := by decide +kernel
theorem dX7_hang_33 : decode cX7_hang 33 = .ok (.dup, 1) := by decide +kernel
theorem dX7_hang_34 : decode cX7_hang 34 = .ok (.ldc 104, 2) := by decide +kernel
theorem dX7_hang_36 : decode cX7_hang 36 = .ok (.invokespecial 77, 3) := by decide +kernel
theorem dX7_hang_39 : decode cX7_hang 39 = .ok (.athrow, 1) := by decide +kernel
theorem dX7_hang_40 : decode cX7_hang 40 = .ok (.aload 4, 2) := by decide +kernel
theorem dX7_hang_42 : decode cX7_hang 42 = .ok (.invokevirtual 69, 3) := by decide +kernel
theorem dX7_hang_45 : decode cX7_hang 45 = .ok (.iconst 1, 1) := by decide +kernel
theorem dX7_hang_46 : decode cX7_hang 46 = .ok (.iadd, 1) := by decide +kernel
theorem dX7_hang_47 : decode cX7_hang 47 = .ok (.aload_n 0, 1) := by decide +kernel
theorem dX7_hang_48 : decode cX7_hang 48 = .ok (.aload_n 3, 1) := by decide +kernel
theorem dX7_hang_49 : decode cX7_hang 49 = .ok (.invokevirtual 106, 3) := by decide +kernel
theorem dX7_hang_52 : decode cX7_hang 52 = .ok (.iadd, 1) := by decide +kernel
theorem dX7_hang_53 : decode cX7_hang 53 = .ok (.iconst 4, 1) := by decide +kernel
theorem dX7_hang_54 : decode cX7_hang 54 = .ok (.if_icmp .le 13, 3) := by decide +kernel
theorem dX7_hang_57 : decode cX7_hang 57 = .ok (.new 73, 3) := by decide +kernel
theorem dX7_hang_60 : decode cX7_hang 60 = .ok (.dup, 1) := by decide +kernel
theorem dX7_hang_61 : decode cX7_hang 61 = .ok (.ldc 110, 2) := by decide +kernel
theorem dX7_hang_63 : decode cX7_hang 63 = .ok (.invokespecial 77, 3) := by decide +kernel
theorem dX7_hang_66 : decode cX7_hang 66 = .ok (.athrow, 1) := by decide +kernel
theorem dX7_hang_67 : decode cX7_hang 67 = .ok (.aload_n 3, 1) := by decide +kernel
theorem dX7_hang_68 : decode cX7_hang 68 = .ok (.invokevirtual 101, 3) := by decide +kernel
theorem dX7_hang_71 : decode cX7_hang 71 = .ok (.aload 4, 2) := by decide +kernel
theorem dX7_hang_73 : decode cX7_hang 73 = .ok (.aload_n 3, 1) := by decide +kernel
theorem dX7_hang_74 : decode cX7_hang 74 = .ok (.invokevirtual 78, 3) := by decide +kernel
theorem dX7_hang_77 : decode cX7_hang 77 = .ok (.aload_n 0, 1) := by decide +kernel
theorem dX7_hang_78 : decode cX7_hang 78 = .ok (.invokevirtual 82, 3) := by decide +kernel
theorem dX7_hang_81 : decode cX7_hang 81 = .ok (.aload 4, 2) := by decide +kernel
theorem dX7_hang_83 : decode cX7_hang 83 = .ok (.invokevirtual 112, 3) := by decide +kernel
theorem dX7_hang_86 : decode cX7_hang 86 = .ok (.ireturn, 1) := by decide +kernel
theorem dX8_hanging_0 : decode cX8_hanging 0 = .ok (.iconst 0, 1) := by decide +kernel
theorem dX8_hanging_1 : decode cX8_hanging 1 = .ok (.istore_n 2, 1) := by decide +kernel
theorem dX8_hanging_2 : decode cX8_hanging 2 = .ok (.iconst 1, 1) := by decide +kernel
theorem dX8_hanging_3 : decode cX8_hanging 3 = .ok (.istore_n 3, 1) := by decide +kernel
theorem dX8_hanging_4 : decode cX8_hanging 4 = .ok (.iload_n 3, 1) := by decide +kernel
theorem dX8_hanging_5 : decode cX8_hanging 5 = .ok (.aload_n 0, 1) := by decide +kernel
theorem dX8_hanging_6 : decode cX8_hanging 6 = .ok (.getfield 16, 3) := by decide +kernel
theorem dX8_hanging_9 : decode cX8_hanging 9 = .ok (.if_icmp .ge 37, 3) := by decide +kernel
theorem dX8_hanging_12 : decode cX8_hanging 12 = .ok (.iload_n 2, 1) := by decide +kernel
theorem dX8_hanging_13 : decode cX8_hanging 13 = .ok (.aload_n 0, 1) := by decide +kernel
theorem dX8_hanging_14 : decode cX8_hanging 14 = .ok (.iload_n 3, 1) := by decide +kernel
theorem dX8_hanging_15 : decode cX8_hanging 15 = .ok (.invokevirtual 73, 3) := by decide +kernel
theorem dX8_hanging_18 : decode cX8_hanging 18 = .ok (.ifCond .eq 19, 3) := by decide +kernel
theorem dX8_hanging_21 : decode cX8_hanging 21 = .ok (.aload_n 0, 1) := by decide +kernel
theorem dX8_hanging_22 : decode cX8_hanging 22 = .ok (.getfield 22, 3) := by decide +kernel
theorem dX8_hanging_25 : decode cX8_hanging 25 = .ok (.iload_n 3, 1) := by decide +kernel
theorem dX8_hanging_26 : decode cX8_hanging 26 = .ok (.aaload, 1) := by decide +kernel
theorem dX8_hanging_27 : decode cX8_hanging 27 = .ok (.iconst 0, 1) := by decide +kernel
theorem dX8_hanging_28 : decode cX8_hanging 28 = .ok (.iaload, 1) := by decide +kernel
theorem dX8_hanging_29 : decode cX8_hanging 29 = .ok (.iload_n 1, 1) := by decide +kernel
theorem dX8_hanging_30 : decode cX8_hanging 30 = .ok (.if_icmp .ne 7, 3) := by decide +kernel
theorem dX8_hanging_33 : decode cX8_hanging 33 = .ok (.iconst 1, 1) := by decide +kernel
theorem dX8_hanging_34 : decode cX8_hanging 34 = .ok (.goto 4, 3) := by decide +kernel
theorem dX8_hanging_37 : decode cX8_hanging 37 = .ok (.iconst 0, 1) := by decide +kernel
theorem dX8_hanging_38 : decode cX8_hanging 38 = .ok (.iadd, 1) := by decide +kernel
theorem dX8_hanging_39 : decode cX8_hanging 39 = .ok (.istore_n 2, 1) := by decide +kernel
theorem dX8_hanging_40 : decode cX8_hanging 40 = .ok (.iinc 3 1, 3) := by decide +kernel
theorem dX8_hanging_43 : decode cX8_hanging 43 = .ok (.goto (-39), 3) := by decide +kernel
theorem dX8_hanging_46 : decode cX8_hanging 46 = .ok (.iload_n 2, 1) := by decide +kernel
theorem dX8_hanging_47 : decode cX8_hanging 47 = .ok (.ireturn, 1) := by decide +kernel
theorem dX8_isIn_0 : decode cX8_isIn 0 = .ok (.iload_n 1, 1) := by decide +kernel
theorem dX8_isIn_1 : decode cX8_isIn 1 = .ok (.iload_n 2, 1) := by decide +kernel
theorem dX8_isIn_2 : decode cX8_isIn 2 = .ok (.if_icmp .eq 23, 3) := by decide +kernel
theorem dX8_isIn_5 : decode cX8_isIn 5 = .ok (.iload_n 1, 1) := by decide +kernel
theorem dX8_isIn_6 : decode cX8_isIn 6 = .ok (.ifCond .le 23, 3) := by decide +kernel
theorem dX8_isIn_9 : decode cX8_isIn 9 = .ok (.aload_n 0, 1) := by decide +kernel
theorem dX8_isIn_10 : decode cX8_isIn 10 = .ok (.aload_n 0, 1) := by decide +kernel
theorem dX8_isIn_11 : decode cX8_isIn 11 = .ok (.getfield 22, 3) := by decide +kernel
theorem dX8_isIn_14 : decode cX8_isIn 14 = .ok (.iload_n 1, 1) := by decide +kernel
theorem dX8_isIn_15 : decode cX8_isIn 15 = .ok (.aaload, 1) := by decide +kernel
theorem dX8_isIn_16 : decode cX8_isIn 16 = .ok (.iconst 0, 1) := by decide +kernel
theorem dX8_isIn_17 : decode cX8_isIn 17 = .ok (.iaload, 1) := by decide +kernel
theorem dX8_isIn_18 : decode cX8_isIn 18 = .ok (.iload_n 2, 1) := by decide +kernel
theorem dX8_isIn_19 : decode cX8_isIn 19 = .ok (.invokevirtual 84, 3) := by decide +kernel
theorem dX8_isIn_22 : decode cX8_isIn 22 = .ok (.ifCond .eq 7, 3) := by decide +kernel
theorem dX8_isIn_25 : decode cX8_isIn 25 = .ok (.iconst 1, 1) := by decide +kernel
theorem dX8_isIn_26 : decode cX8_isIn 26 = .ok (.goto 4, 3) := by decide +kernel
theorem dX8_isIn_29 : decode cX8_isIn 29 = .ok (.iconst 0, 1) := by decide +kernel
theorem dX8_isIn_30 : decode cX8_isIn 30 = .ok (.ireturn, 1) := by decide +kernel
theorem dX8_hang_0 : decode cX8_hang 0 = .ok (.iconst 0, 1) := by decide +kernel
theorem dX8_hang_1 : decode cX8_hang 1 = .ok (.istore_n 3, 1) := by decide +kernel
theorem dX8_hang_2 : decode cX8_hang 2 = .ok (.iconst 1, 1) := by decide +kernel
theorem dX8_hang_3 : decode cX8_hang 3 = .ok (.istore 4, 2) := by decide +kernel
theorem dX8_hang_5 : decode cX8_hang 5 = .ok (.iload 4, 2) := by decide +kernel
theorem dX8_hang_7 : decode cX8_hang 7 = .ok (.aload_n 0, 1) := by decide +kernel
theorem dX8_hang_8 : decode cX8_hang 8 = .ok (.getfield 16, 3) := by decide +kernel
theorem dX8_hang_11 : decode cX8_hang 11 = .ok (.if_icmp .ge 45, 3) := by decide +kernel
theorem dX8_hang_14 : decode cX8_hang 14 = .ok (.aload_n 0, 1) := by decide +kernel
theorem dX8_hang_15 : decode cX8_hang 15 = .ok (.iload 4, 2) := by decide +kernel
theorem dX8_hang_17 : decode cX8_hang 17 = .ok (.invokevirtual 73, 3) := by decide +kernel
theorem dX8_hang_20 : decode cX8_hang 20 = .ok (.ifCond .eq 30, 3) := by decide +kernel
theorem dX8_hang_23 : decode cX8_hang 23 = .ok (.aload_n 0, 1) := by decide +kernel
theorem dX8_hang_24 : decode cX8_hang 24 = .ok (.iload 4, 2) := by decide +kernel
theorem dX8_hang_26 : decode cX8_hang 26 = .ok (.iload_n 1, 1) := by decide +kernel
theorem dX8_hang_27 : decode cX8_hang 27 = .ok (.invokevirtual 84, 3) := by decide +kernel
theorem dX8_hang_30 : decode cX8_hang 30 = .ok (.ifCond .eq 20, 3) := by decide +kernel
theorem dX8_hang_33 : decode cX8_hang 33 = .ok (.iload_n 3, 1) := by decide +kernel
theorem dX8_hang_34 : decode cX8_hang 34 = .ok (.aload_n 0, 1) := by decide +kernel
theorem dX8_hang_35 : decode cX8_hang 35 = .ok (.iload 4, 2) := by decide +kernel
theorem dX8_hang_37 : decode cX8_hang 37 = .ok (.invokevirtual 81, 3) := by decide +kernel
theorem dX8_hang_40 : decode cX8_hang 40 = .ok (.aload_n 0, 1) := by decide +kernel
theorem dX8_hang_41 : decode cX8_hang 41 = .ok (.iload_n 1, 1) := by decide +kernel
theorem dX8_hang_42 : decode cX8_hang 42 = .ok (.invokevirtual 81, 3) := by decide +kernel
theorem dX8_hang_45 : decode cX8_hang 45 = .ok (.isub, 1) := by decide +kernel
theorem dX8_hang_46 : decode cX8_hang 46 = .ok (.invokestatic 122, 3) := by decide +kernel
theorem dX8_hang_49 : decode cX8_hang 49 = .ok (.istore_n 3, 1) := by decide +kernel
theorem dX8_hang_50 : decode cX8_hang 50 = .ok (.iinc 4 1, 3) := by decide +kernel
theorem dX8_hang_53 : decode cX8_hang 53 = .ok (.goto (-48), 3) := by decide +kernel
theorem dX8_hang_56 : decode cX8_hang 56 = .ok (.aload_n 0, 1) := by decide +kernel
theorem dX8_hang_57 : decode cX8_hang 57 = .ok (.iload_n 2, 1) := by decide +kernel
theorem dX8_hang_58 : decode cX8_hang 58 = .ok (.iload_n 1, 1) := by decide +kernel
theorem dX8_hang_59 : decode cX8_hang 59 = .ok (.invokevirtual 84, 3) := by decide +kernel
theorem dX8_hang_62 : decode cX8_hang 62 = .ok (.ifCond .ne 20, 3) := by decide +kernel
theorem dX8_hang_65 : decode cX8_hang 65 = .ok (.aload_n 0, 1) := by decide +kernel
theorem dX8_hang_66 : decode cX8_hang 66 = .ok (.iload_n 2, 1) := by decide +kernel
theorem dX8_hang_67 : decode cX8_hang 67 = .ok (.invokevirtual 81, 3) := by decide +kernel
theorem dX8_hang_70 : decode cX8_hang 70 = .ok (.iconst 1, 1) := by decide +kernel
theorem dX8_hang_71 : decode cX8_hang 71 = .ok (.iadd, 1) := by decide +kernel
theorem dX8_hang_72 : decode cX8_hang 72 = .ok (.iload_n 3, 1) := by decide +kernel
theorem dX8_hang_73 : decode cX8_hang 73 = .ok (.iadd, 1) := by decide +kernel
theorem dX8_hang_74 : decode cX8_hang 74 = .ok (.iconst 5, 1) := by decide +kernel
theorem dX8_hang_75 : decode cX8_hang 75 = .ok (.if_icmp .ge 7, 3) := by decide +kernel
theorem dX8_hang_78 : decode cX8_hang 78 = .ok (.iconst 1, 1) := by decide +kernel
theorem dX8_hang_79 : decode cX8_hang 79 = .ok (.goto 4, 3) := by decide +kernel
theorem dX8_hang_82 : decode cX8_hang 82 = .ok (.iconst 0, 1) := by decide +kernel
theorem dX8_hang_83 : decode cX8_hang 83 = .ok (.istore 4, 2) := by decide +kernel
theorem dX8_hang_85 : decode cX8_hang 85 = .ok (.aload_n 0, 1) := by decide +kernel
theorem dX8_hang_86 : decode cX8_hang 86 = .ok (.getfield 10, 3) := by decide +kernel
theorem dX8_hang_89 : decode cX8_hang 89 = .ok (.iload_n 1, 1) := by decide +kernel
theorem dX8_hang_90 : decode cX8_hang 90 = .ok (.iload_n 2, 1) := by decide +kernel
theorem dX8_hang_91 : decode cX8_hang 91 = .ok (.invokevirtual 127, 3) := by decide +kernel
theorem dX8_hang_94 : decode cX8_hang 94 = .ok (.istore 5, 2) := by decide +kernel
theorem dX8_hang_96 : decode cX8_hang 96 = .ok (.aload_n 0, 1) := by decide +kernel
theorem dX8_hang_97 : decode cX8_hang 97 = .ok (.getfield 22, 3) := by decide +kernel
theorem dX8_hang_100 : decode cX8_hang 100 = .ok (.iload_n 1, 1) := by decide +kernel
theorem dX8_hang_101 : decode cX8_hang 101 = .ok (.aaload, 1) := by decide +kernel
theorem dX8_hang_102 : decode cX8_hang 102 = .ok (.iconst 0, 1) := by decide +kernel
theorem dX8_hang_103 : decode cX8_hang 103 = .ok (.iload_n 2, 1) := by decide +kernel
theorem dX8_hang_104 : decode cX8_hang 104 = .ok (.iastore, 1) := by decide +kernel
theorem dX8_hang_105 : decode cX8_hang 105 = .ok (.aload_n 0, 1) := by decide +kernel
theorem dX8_hang_106 : decode cX8_hang 106 = .ok (.getfield 22, 3) := by decide +kernel
theorem dX8_hang_109 : decode cX8_hang 109 = .ok (.iload_n 1, 1) := by decide +kernel
theorem dX8_hang_110 : decode cX8_hang 110 = .ok (.aaload, 1) := by decide +kernel
theorem dX8_hang_111 : decode cX8_hang 111 = .ok (.bipush 7, 2) := by decide +kernel
theorem dX8_hang_113 : decode cX8_hang 113 = .ok (.aload_n 0, 1) := by decide +kernel
theorem dX8_hang_114 : decode cX8_hang 114 = .ok (.dup, 1) := by decide +kernel
theorem dX8_hang_115 : decode cX8_hang 115 = .ok (.getfield 66, 3) := by decide +kernel
theorem dX8_hang_118 : decode cX8_hang 118 = .ok (.dup_x1, 1) := by decide +kernel
theorem dX8_hang_119 : decode cX8_hang 119 = .ok (.iconst 1, 1) := by decide +kernel
theorem dX8_hang_120 : decode cX8_hang 120 = .ok (.iadd, 1) := by decide +kernel
theorem dX8_hang_121 : decode cX8_hang 121 = .ok (.putfield 66, 3) := by decide +kernel
theorem dX8_hang_124 : decode cX8_hang 124 = .ok (.iastore, 1) := by decide +kernel
theorem dX8_hang_125 : decode cX8_hang 125 = .ok (.iload 4, 2) := by decide +kernel
theorem dX8_hang_127 : decode cX8_hang 127 = .ok (.ifCond .eq 17, 3) := by decide +kernel
theorem dX8_hang_130 : decode cX8_hang 130 = .ok (.iload 5, 2) := by decide +kernel
theorem dX8_hang_132 : decode cX8_hang 132 = .ok (.aload_n 0, 1) := by decide +kernel
theorem dX8_hang_133 : decode cX8_hang 133 = .ok (.iload_n 2, 1) := by decide +kernel
theorem dX8_hang_134 : decode cX8_hang 134 = .ok (.invokevirtual 129, 3) := by decide +kernel
theorem dX8_hang_137 : decode cX8_hang 137 = .ok (.if_icmp .ne 7, 3) := by decide +kernel
theorem dX8_hang_140 : decode cX8_hang 140 = .ok (.iconst 1, 1) := by decide +kernel
theorem dX8_hang_141 : decode cX8_hang 141 = .ok (.goto 4, 3) := by decide +kernel
theorem dX8_hang_144 : decode cX8_hang 144 = .ok (.iconst 0, 1) := by decide +kernel
theorem dX8_hang_145 : decode cX8_hang 145 = .ok (.ireturn, 1) := by decide +kernel
theorem dX8_hang_146 : decode cX8_hang 146 = .ok (.astore 5, 2) := by decide +kernel
theorem dX8_hang_148 : decode cX8_hang 148 = .ok (.iload 4, 2) := by decide +kernel
theorem dX8_hang_150 : decode cX8_hang 150 = .ok (.ifCond .ne 7, 3) := by decide +kernel
theorem dX8_hang_153 : decode cX8_hang 153 = .ok (.iconst 1, 1) := by decide +kernel
theorem dX8_hang_154 : decode cX8_hang 154 = .ok (.goto 4, 3) := by decide +kernel
theorem dX8_hang_157 : decode cX8_hang 157 = .ok (.iconst 0, 1) := by decide +kernel
theorem dX8_hang_158 : decode cX8_hang 158 = .ok (.ireturn, 1) := by decide +kernel
noncomputable def f_X8_addTrack_L24  (h : fSt) : Option (Int32 × fSt) := some ((1 : Int32), h)
noncomputable def f_X8_addTrack_L66 (k28 : Option Nat → Int32 → Int32 → Int32 → fSt → Option (Int32 × fSt)) (a0 : Option Nat) (a1 : Int32) (a2 : Int32) (a3 : Int32) (h : fSt) : Option (Int32 × fSt) := k28 a0 a1 a2 (a3 + (1 : Int32)) h
noncomputable def f_X8_addTrack_L183 (s0 : Int32) (h : fSt) : Option (Int32 × fSt) := if s0 = 0 ∨ s0 = 1 then some (s0, h) else none
noncomputable def f_X8_addTrack_L182  (h : fSt) : Option (Int32 × fSt) := f_X8_addTrack_L183 (0 : Int32) h
noncomputable def f_X8_addTrack_L28 (n : Nat) : Option Nat → Int32 → Int32 → Int32 → fSt → Option (Int32 × fSt) := Nat.rec (motive := fun _ => Option Nat → Int32 → Int32 → Int32 → fSt → Option (Int32 × fSt)) (fun _ _ _ _ _ => none) (fun _ k28 (a0 : Option Nat) (a1 : Int32) (a2 : Int32) (a3 : Int32) (h : fSt) => (fgI h a0 8 10).bind fun x2 => (if x2 ≤ a3 then (if (4 : Int32) < 0 ∨ 67000000 < ((4 : Int32)).toNatClampNeg then none else (fnew h (.inr (0, ((4 : Int32)).toNatClampNeg, .inl (fun _ => 0))) ((4 : Int32)).toNatClampNeg).bind fun r6 => (fsI r6.2 (some r6.1) 0 (0 : Int32) a1).bind fun h8 => (fsI h8 (some r6.1) 0 (1 : Int32) a2).bind fun h10 => (fobj h10 a0 8).bind fun b14 => (f_X8_draw b14 (3 : Int32) h10).bind fun r12 => (fsI r12.2 (some r6.1) 0 (2 : Int32) r12.1).bind fun h16 => (fobj h16 a0 8).bind fun b20 => (f_X8_draw b20 (3 : Int32) h16).bind fun r18 => (fsI r18.2 (some r6.1) 0 (3 : Int32) r18.1).bind fun h22 => (fgR h22 a0 8 11).bind fun x24 => (fgI h22 a0 8 10).bind fun x26 => (fsA h22 x24 4 0 x26 (some r6.1)).bind fun h28 => (fgR h28 a0 8 0).bind fun x30 => (faI h28 (some r6.1) 0 (2 : Int32)).bind fun x32 => (faI h28 (some r6.1) 0 (3 : Int32)).bind fun x34 => (fobj h28 x30 7).bind fun b38 => (f_X7_track b38 a1 a2 x32 x34 h28).bind fun r36 => Sum.elim (fun v40 => (fgI r36.2 a0 8 10).bind fun x43 => (fput r36.2 a0 8 10 (.int (x43 + (1 : Int32)))).bind fun h45 => (if v40 = x43 then (fgI h45 a0 8 10).bind fun x48 => (fobj h45 a0 8).bind fun b52 => (f_X8_key b52 (x48 - (1 : Int32)) h45).bind fun r50 => (if r50.1 = 0 then f_X8_addTrack_L182 r50.2 else (fgI r50.2 a0 8 10).bind fun x55 => (fobj r50.2 a0 8).bind fun b59 => (f_X8_key b59 (x55 - (1 : Int32)) r50.2).bind fun r57 => (if r57.1 = 0 then f_X8_addTrack_L182 r57.2 else (fgI r57.2 a0 8 10).bind fun x62 => (fobj r57.2 a0 8).bind fun b66 => (f_X8_key b66 (x62 - (1 : Int32)) r57.2).bind fun r64 => (if r64.1 = 0 then f_X8_addTrack_L182 r64.2 else f_X8_addTrack_L183 (1 : Int32) r64.2))) else f_X8_addTrack_L182 h45)) (fun _ => none) r36.1) else (fgR h a0 8 11).bind fun x69 => (faR h x69 4 a3).bind fun x71 => (faI h x71 0 (0 : Int32)).bind fun x73 => (if x73 = a1 then (fgR h a0 8 11).bind fun x76 => (faR h x76 4 a3).bind fun x78 => (faI h x78 0 (1 : Int32)).bind fun x80 => (if x80 = a2 then (fobj h a0 8).bind fun b85 => (f_X8_key b85 a3 h).bind fun r83 => if r83.1 = 0 ∨ r83.1 = 1 then some (r83.1, r83.2) else none else f_X8_addTrack_L66 k28 a0 a1 a2 a3 h) else f_X8_addTrack_L66 k28 a0 a1 a2 a3 h))) n
noncomputable def f_X8_addTrack_L0 (a0 : Option Nat) (h : fSt) : Option (Int32 × fSt) := (fobj h a0 8).bind fun b90 => (f_X8_one b90 h).bind fun r88 => (fobj r88.2 a0 8).bind fun b94 => (f_X8_draw b94 (4 : Int32) r88.2).bind fun r92 => (if r88.1 = 0 then f_X8_addTrack_L24 r92.2 else (fgI r92.2 a0 8 10).bind fun x97 => (if x97 = (12 : Int32) then f_X8_addTrack_L24 r92.2 else f_X8_addTrack_L28 4096 a0 r88.1 r92.1 (0 : Int32) r92.2))
noncomputable def f_X8_addTrack (o : Nat) (h : fSt) : Option (Int32 × fSt) := f_X8_addTrack_L0 (some o) h
noncomputable def f_X7_foundBelowWhole_L0 (a0 : Option Nat) (a1 : Int32) (h : fSt) : Option ((Option Nat ⊕ Nat) × fSt) := (fobj h a0 7).bind fun b3 => (f_X7_found b3 a1 h).bind fun r1 => Sum.elim (fun v5 => (fgR r1.2 a0 7 2).bind fun x8 => (if v5 = x8 then (fthr r1.2).bind fun h11 => some (.inr 2, h11) else some (.inl v5, r1.2))) (fun k6 => some (.inr k6, r1.2)) r1.1
noncomputable def f_X7_foundBelowWhole (o : Nat) (p0 : Int32) (h : fSt) : Option ((Option Nat ⊕ Nat) × fSt) := f_X7_foundBelowWhole_L0 (some o) p0 h
noncomputable def f_X7_cut_L28  (h : fSt) : Option ((Int32 ⊕ Nat) × fSt) := (fthr h).bind fun h1 => some (.inr 1, h1)
noncomputable def f_X7_cut_L59  (h : fSt) : Option ((Int32 ⊕ Nat) × fSt) := (fthr h).bind fun h3 => some (.inr 1, h3)
noncomputable def f_X7_cut_L82 (a2 : Int32) (a3 : Int32) (a4 : Int32) (a5 : Int32) (a6 : Option Nat) (s0 : Int32) (h : fSt) : Option ((Int32 ⊕ Nat) × fSt) := (fnew h (.inl (2, [.int 0, .int 0, .int 0, .int 0])) 4).bind fun r5 => (f_X2_init r5.1 a2 a3 a4 a5 r5.2).bind fun r7 => (fput r7.2 a6 4 12 (va_rf (some r5.1))).bind fun h9 => if s0 = 0 ∨ s0 = 1 then some (.inl s0, h9) else none
noncomputable def f_X7_cut_L0 (a0 : Option Nat) (a1 : Int32) (a2 : Int32) (a3 : Int32) (a4 : Int32) (a5 : Int32) (h : fSt) : Option ((Int32 ⊕ Nat) × fSt) := (fobj h a0 7).bind fun b14 => (f_X7_foundBelowWhole b14 a1 h).bind fun r12 => Sum.elim (fun v16 => (if a2 < (-200 : Int32) then f_X7_cut_L28 r12.2 else (if (200 : Int32) < a4 then f_X7_cut_L28 r12.2 else (if a2 ≤ a4 then (if a3 < (-200 : Int32) then f_X7_cut_L59 r12.2 else (if (200 : Int32) < a5 then f_X7_cut_L59 r12.2 else (if a3 ≤ a5 then (fgR r12.2 v16 4 12).bind fun x25 => (if x25 = none then f_X7_cut_L82 a2 a3 a4 a5 v16 (0 : Int32) r12.2 else f_X7_cut_L82 a2 a3 a4 a5 v16 (1 : Int32) r12.2) else f_X7_cut_L59 r12.2))) else f_X7_cut_L28 r12.2)))) (fun k17 => some (.inr k17, r12.2)) r12.1
noncomputable def f_X7_cut (o : Nat) (p0 : Int32) (p1 : Int32) (p2 : Int32) (p3 : Int32) (p4 : Int32) (h : fSt) : Option ((Int32 ⊕ Nat) × fSt) := f_X7_cut_L0 (some o) p0 p1 p2 p3 p4 h
noncomputable def f_X7_look_L30  (h : fSt) : Option ((Int32 ⊕ Nat) × fSt) := (fthr h).bind fun h1 => some (.inr 1, h1)
noncomputable def f_X7_look_L0 (a0 : Option Nat) (a1 : Int32) (a2 : Int32) (a3 : Int32) (a4 : Int32) (h : fSt) : Option ((Int32 ⊕ Nat) × fSt) := (fobj h a0 7).bind fun b5 => (f_X7_foundBelowWhole b5 a1 h).bind fun r3 => Sum.elim (fun v7 => (f_X7_isFrom a2 (-9 : Int32) (9 : Int32) r3.2).bind fun r10 => (if r10.1 = 0 then f_X7_look_L30 r10.2 else (fgR r10.2 v7 4 6).bind fun x13 => (fobj r10.2 x13 6).bind fun b17 => (f_X6_allows b17 a3 r10.2).bind fun r15 => (if r15.1 = 0 then f_X7_look_L30 r15.2 else (fgR r15.2 v7 4 6).bind fun x20 => (fgI r15.2 x20 6 2).bind fun x22 => (fput r15.2 v7 4 10 (.int a2)).bind fun h24 => (fgR h24 v7 4 6).bind fun x26 => (fput h24 x26 6 2 (.int a3)).bind fun h28 => (fputZ h28 v7 4 11 a4).bind fun h30 => (fobj h30 a0 7).bind fun b35 => (f_X7_layOrder b35 h30).bind fun r33 => some (.inl x22, r33.2)))) (fun k8 => some (.inr k8, r3.2)) r3.1
noncomputable def f_X7_look (o : Nat) (p0 : Int32) (p1 : Int32) (p2 : Int32) (p3 : Int32) (h : fSt) : Option ((Int32 ⊕ Nat) × fSt) := f_X7_look_L0 (some o) p0 p1 p2 p3 h
noncomputable def f_X7_move_L31  (h : fSt) : Option ((Int32 ⊕ Nat) × fSt) := (fthr h).bind fun h1 => some (.inr 1, h1)
noncomputable def f_X7_move_L0 (a0 : Option Nat) (a1 : Int32) (a2 : Int32) (a3 : Int32) (h : fSt) : Option ((Int32 ⊕ Nat) × fSt) := (fobj h a0 7).bind fun b5 => (f_X7_foundBelowWhole b5 a1 h).bind fun r3 => Sum.elim (fun v7 => (fgR r3.2 v7 4 3).bind fun x10 => (fobj r3.2 x10 6).bind fun b14 => (f_X6_allows b14 a2 r3.2).bind fun r12 => (if r12.1 = 0 then f_X7_move_L31 r12.2 else (fgR r12.2 v7 4 4).bind fun x17 => (fobj r12.2 x17 6).bind fun b21 => (f_X6_allows b21 a3 r12.2).bind fun r19 => (if r19.1 = 0 then f_X7_move_L31 r19.2 else (fgR r19.2 v7 4 3).bind fun x24 => (fgI r19.2 x24 6 2).bind fun x26 => (fgR r19.2 v7 4 3).bind fun x28 => (fput r19.2 x28 6 2 (.int a2)).bind fun h30 => (fgR h30 v7 4 4).bind fun x32 => (fput h30 x32 6 2 (.int a3)).bind fun h34 => some (.inl x26, h34)))) (fun k8 => some (.inr k8, r3.2)) r3.1
noncomputable def f_X7_move (o : Nat) (p0 : Int32) (p1 : Int32) (p2 : Int32) (h : fSt) : Option ((Int32 ⊕ Nat) × fSt) := f_X7_move_L0 (some o) p0 p1 p2 h
noncomputable def f_X7_scale_L25  (h : fSt) : Option ((Int32 ⊕ Nat) × fSt) := (fthr h).bind fun h1 => some (.inr 1, h1)
noncomputable def f_X7_scale_L0 (a0 : Option Nat) (a1 : Int32) (a2 : Int32) (a3 : Int32) (h : fSt) : Option ((Int32 ⊕ Nat) × fSt) := (fobj h a0 7).bind fun b5 => (f_X7_foundBelowWhole b5 a1 h).bind fun r3 => Sum.elim (fun v7 => (f_X7_isFrom a2 (1 : Int32) (4 : Int32) r3.2).bind fun r10 => (if r10.1 = 0 then f_X7_scale_L25 r10.2 else (f_X7_isFrom a3 (1 : Int32) (4 : Int32) r10.2).bind fun r13 => (if r13.1 = 0 then f_X7_scale_L25 r13.2 else (fgI r13.2 v7 4 7).bind fun x16 => (fgI r13.2 v7 4 8).bind fun x18 => (fput r13.2 v7 4 7 (.int a2)).bind fun h20 => (fput h20 v7 4 8 (.int a3)).bind fun h22 => some (.inl ((x16 * (10 : Int32)) + x18), h22)))) (fun k8 => some (.inr k8, r3.2)) r3.1
noncomputable def f_X7_scale (o : Nat) (p0 : Int32) (p1 : Int32) (p2 : Int32) (h : fSt) : Option ((Int32 ⊕ Nat) × fSt) := f_X7_scale_L0 (some o) p0 p1 p2 h
noncomputable def f_X7_turn_L0 (a0 : Option Nat) (a1 : Int32) (a2 : Int32) (a3 : Int32) (h : fSt) : Option ((Int32 ⊕ Nat) × fSt) := (fobj h a0 7).bind fun b3 => (f_X7_foundBelowWhole b3 a1 h).bind fun r1 => Sum.elim (fun v5 => (fgR r1.2 v5 4 5).bind fun x8 => (fobj r1.2 x8 6).bind fun b12 => (f_X6_allows b12 a2 r1.2).bind fun r10 => (if r10.1 = 0 then (fthr r10.2).bind fun h26 => some (.inr 1, h26) else (fgR r10.2 v5 4 5).bind fun x15 => (fgI r10.2 x15 6 2).bind fun x17 => (fgR r10.2 v5 4 5).bind fun x19 => (fput r10.2 x19 6 2 (.int a2)).bind fun h21 => (fputZ h21 v5 4 9 a3).bind fun h23 => some (.inl x17, h23))) (fun k6 => some (.inr k6, r1.2)) r1.1
noncomputable def f_X7_turn (o : Nat) (p0 : Int32) (p1 : Int32) (p2 : Int32) (h : fSt) : Option ((Int32 ⊕ Nat) × fSt) := f_X7_turn_L0 (some o) p0 p1 p2 h
noncomputable def f_X7_uncut_L18 (a2 : Option Nat) (s0 : Int32) (h : fSt) : Option ((Int32 ⊕ Nat) × fSt) := (fput h a2 4 12 (va_rf none)).bind fun h1 => if s0 = 0 ∨ s0 = 1 then some (.inl s0, h1) else none
noncomputable def f_X7_uncut_L0 (a0 : Option Nat) (a1 : Int32) (h : fSt) : Option ((Int32 ⊕ Nat) × fSt) := (fobj h a0 7).bind fun b6 => (f_X7_found b6 a1 h).bind fun r4 => Sum.elim (fun v8 => (fgR r4.2 v8 4 12).bind fun x11 => (if x11 = none then f_X7_uncut_L18 v8 (0 : Int32) r4.2 else f_X7_uncut_L18 v8 (1 : Int32) r4.2)) (fun k9 => some (.inr k9, r4.2)) r4.1
noncomputable def f_X7_uncut (o : Nat) (p0 : Int32) (h : fSt) : Option ((Int32 ⊕ Nat) × fSt) := f_X7_uncut_L0 (some o) p0 h
noncomputable def f_X4_countHanging_L7 (n : Nat) : Int32 → Option Nat → fSt → Option (Int32 × fSt) := Nat.rec (motive := fun _ => Int32 → Option Nat → fSt → Option (Int32 × fSt)) (fun _ _ _ => none) (fun _ k7 (a1 : Int32) (a2 : Option Nat) (h : fSt) => (if a2 = none then some (a1, h) else (fgR h a2 4 16).bind fun x2 => k7 (a1 + (1 : Int32)) x2 h)) n
noncomputable def f_X4_countHanging_L0 (a0 : Option Nat) (h : fSt) : Option (Int32 × fSt) := (fgR h a0 4 15).bind fun x4 => f_X4_countHanging_L7 4096 (0 : Int32) x4 h
noncomputable def f_X4_countHanging (o : Nat) (h : fSt) : Option (Int32 × fSt) := f_X4_countHanging_L0 (some o) h
noncomputable def f_X4_leaveParent_L58 (k38 : Option Nat → Option Nat → fSt → Option (Unit × fSt)) (a0 : Option Nat) (a1 : Option Nat) (h : fSt) : Option (Unit × fSt) := (fgR h a1 4 16).bind fun x1 => k38 a0 x1 h
noncomputable def f_X4_leaveParent_L38 (n : Nat) : Option Nat → Option Nat → fSt → Option (Unit × fSt) := Nat.rec (motive := fun _ => Option Nat → Option Nat → fSt → Option (Unit × fSt)) (fun _ _ _ => none) (fun _ k38 (a0 : Option Nat) (a1 : Option Nat) (h : fSt) => (if a1 = none then (fput h a0 4 16 (va_rf none)).bind fun h4 => some ((), h4) else (fgR h a1 4 16).bind fun x6 => (if x6 = a0 then (fgR h a0 4 16).bind fun x9 => (fput h a1 4 16 (va_rf x9)).bind fun h11 => f_X4_leaveParent_L58 k38 a0 a1 h11 else f_X4_leaveParent_L58 k38 a0 a1 h))) n
noncomputable def f_X4_leaveParent_L30 (a0 : Option Nat) (h : fSt) : Option (Unit × fSt) := (fgR h a0 4 14).bind fun x13 => (fgR h x13 4 15).bind fun x15 => f_X4_leaveParent_L38 4096 a0 x15 h
noncomputable def f_X4_leaveParent_L0 (a0 : Option Nat) (h : fSt) : Option (Unit × fSt) := (fgR h a0 4 14).bind fun x17 => (if x17 = none then some ((), h) else (fgR h a0 4 14).bind fun x20 => (fgR h x20 4 15).bind fun x22 => (if x22 = a0 then (fgR h a0 4 14).bind fun x25 => (fgR h a0 4 16).bind fun x27 => (fput h x25 4 15 (va_rf x27)).bind fun h29 => f_X4_leaveParent_L30 a0 h29 else f_X4_leaveParent_L30 a0 h))
noncomputable def f_X4_leaveParent (o : Nat) (h : fSt) : Option (Unit × fSt) := f_X4_leaveParent_L0 (some o) h
noncomputable def f_X7_depthUnder_L31 (k10 : Option Nat → Int32 → Option Nat → fSt → Option (Int32 × fSt)) (a1 : Option Nat) (a2 : Int32) (a3 : Option Nat) (h : fSt) : Option (Int32 × fSt) := (fgR h a3 4 17).bind fun x1 => k10 a1 a2 x1 h
noncomputable def f_X7_depthUnder_L10 (n : Nat) : Option Nat → Int32 → Option Nat → fSt → Option (Int32 × fSt) := Nat.rec (motive := fun _ => Option Nat → Int32 → Option Nat → fSt → Option (Int32 × fSt)) (fun _ _ _ _ => none) (fun _ k10 (a1 : Option Nat) (a2 : Int32) (a3 : Option Nat) (h : fSt) => (if a3 = none then (fobj h a1 4).bind fun b6 => (f_X4_depth b6 h).bind fun r4 => some ((a2 - r4.1), r4.2) else (fobj h a3 4).bind fun b10 => (f_X4_isWithin b10 a1 h).bind fun r8 => (if r8.1 = 0 then f_X7_depthUnder_L31 k10 a1 a2 a3 r8.2 else (fobj r8.2 a3 4).bind fun b15 => (f_X4_depth b15 r8.2).bind fun r13 => f_X7_depthUnder_L31 k10 a1 (if a2 < r13.1 then r13.1 else a2) a3 r13.2))) n
noncomputable def f_X7_depthUnder_L0 (a0 : Option Nat) (a1 : Option Nat) (h : fSt) : Option (Int32 × fSt) := (fobj h a1 4).bind fun b19 => (f_X4_depth b19 h).bind fun r17 => (fgR r17.2 a0 7 8).bind fun x21 => f_X7_depthUnder_L10 4096 a1 r17.1 x21 r17.2
noncomputable def f_X7_depthUnder (o : Nat) (p0 : Option Nat) (h : fSt) : Option (Int32 × fSt) := f_X7_depthUnder_L0 (some o) p0 h
noncomputable def f_X7_hang_L30  (h : fSt) : Option ((Int32 ⊕ Nat) × fSt) := (fthr h).bind fun h1 => some (.inr 2, h1)
noncomputable def f_X7_hang_L0 (a0 : Option Nat) (a1 : Int32) (a2 : Int32) (h : fSt) : Option ((Int32 ⊕ Nat) × fSt) := (fobj h a0 7).bind fun b5 => (f_X7_found b5 a1 h).bind fun r3 => Sum.elim (fun v7 => (fobj r3.2 a0 7).bind fun b12 => (f_X7_found b12 a2 r3.2).bind fun r10 => Sum.elim (fun v14 => (fgR r10.2 a0 7 2).bind fun x17 => (if v7 = x17 then f_X7_hang_L30 r10.2 else (fobj r10.2 v14 4).bind fun b22 => (f_X4_isWithin b22 v7 r10.2).bind fun r20 => (if r20.1 = 0 then (fobj r20.2 v14 4).bind fun b27 => (f_X4_depth b27 r20.2).bind fun r25 => (fobj r25.2 a0 7).bind fun b31 => (f_X7_depthUnder b31 v7 r25.2).bind fun r29 => (if ((r25.1 + (1 : Int32)) + r29.1) ≤ (4 : Int32) then (fobj r29.2 v7 4).bind fun b36 => (f_X4_leaveParent b36 r29.2).bind fun r34 => (fobj r34.2 v14 4).bind fun b40 => (f_X4_takeIn b40 v7 r34.2).bind fun r38 => (fobj r38.2 a0 7).bind fun b44 => (f_X7_layOrder b44 r38.2).bind fun r42 => (fobj r42.2 v14 4).bind fun b48 => (f_X4_countHanging b48 r42.2).bind fun r46 => some (.inl r46.1, r46.2) else (fthr r29.2).bind fun h50 => some (.inr 2, h50)) else f_X7_hang_L30 r20.2))) (fun k15 => some (.inr k15, r10.2)) r10.1) (fun k8 => some (.inr k8, r3.2)) r3.1
noncomputable def f_X7_hang (o : Nat) (p0 : Int32) (p1 : Int32) (h : fSt) : Option ((Int32 ⊕ Nat) × fSt) := f_X7_hang_L0 (some o) p0 p1 h
noncomputable def f_X8_hanging_L38 (k4 : Option Nat → Int32 → Int32 → Int32 → fSt → Option (Int32 × fSt)) (a0 : Option Nat) (a1 : Int32) (a3 : Int32) (s1 : Int32) (s0 : Int32) (h : fSt) : Option (Int32 × fSt) := k4 a0 a1 (s0 + s1) (a3 + (1 : Int32)) h
noncomputable def f_X8_hanging_L37 (k4 : Option Nat → Int32 → Int32 → Int32 → fSt → Option (Int32 × fSt)) (a0 : Option Nat) (a1 : Int32) (a3 : Int32) (s0 : Int32) (h : fSt) : Option (Int32 × fSt) := f_X8_hanging_L38 k4 a0 a1 a3 (0 : Int32) s0 h
noncomputable def f_X8_hanging_L4 (n : Nat) : Option Nat → Int32 → Int32 → Int32 → fSt → Option (Int32 × fSt) := Nat.rec (motive := fun _ => Option Nat → Int32 → Int32 → Int32 → fSt → Option (Int32 × fSt)) (fun _ _ _ _ _ => none) (fun _ k4 (a0 : Option Nat) (a1 : Int32) (a2 : Int32) (a3 : Int32) (h : fSt) => (fgI h a0 8 3).bind fun x1 => (if x1 ≤ a3 then some (a2, h) else (fobj h a0 8).bind fun b6 => (f_X8_isThere b6 a3 h).bind fun r4 => (if r4.1 = 0 then f_X8_hanging_L37 k4 a0 a1 a3 a2 r4.2 else (fgR r4.2 a0 8 4).bind fun x9 => (faR r4.2 x9 4 a3).bind fun x11 => (faI r4.2 x11 0 (0 : Int32)).bind fun x13 => (if x13 = a1 then f_X8_hanging_L38 k4 a0 a1 a3 (1 : Int32) a2 r4.2 else f_X8_hanging_L37 k4 a0 a1 a3 a2 r4.2)))) n
noncomputable def f_X8_hanging_L0 (a0 : Option Nat) (a1 : Int32) (h : fSt) : Option (Int32 × fSt) := f_X8_hanging_L4 4096 a0 a1 (0 : Int32) (1 : Int32) h
noncomputable def f_X8_hanging (o : Nat) (p0 : Int32) (h : fSt) : Option (Int32 × fSt) := f_X8_hanging_L0 (some o) p0 h
noncomputable def f_X8_isIn_L30 (self : Nat → Int32 → Int32 → fSt → Option (Int32 × fSt)) (s0 : Int32) (h : fSt) : Option (Int32 × fSt) := if s0 = 0 ∨ s0 = 1 then some (s0, h) else none
noncomputable def f_X8_isIn_L25 (self : Nat → Int32 → Int32 → fSt → Option (Int32 × fSt))  (h : fSt) : Option (Int32 × fSt) := f_X8_isIn_L30 self (1 : Int32) h
noncomputable def f_X8_isIn_L29 (self : Nat → Int32 → Int32 → fSt → Option (Int32 × fSt))  (h : fSt) : Option (Int32 × fSt) := f_X8_isIn_L30 self (0 : Int32) h
noncomputable def f_X8_isIn_L0 (self : Nat → Int32 → Int32 → fSt → Option (Int32 × fSt)) (a0 : Option Nat) (a1 : Int32) (a2 : Int32) (h : fSt) : Option (Int32 × fSt) := (if a1 = a2 then f_X8_isIn_L25 self h else (if a1 ≤ 0 then f_X8_isIn_L29 self h else (fgR h a0 8 4).bind fun x4 => (faR h x4 4 a1).bind fun x6 => (faI h x6 0 (0 : Int32)).bind fun x8 => (fobj h a0 8).bind fun b12 => (self b12 x8 a2 h).bind fun r10 => (if r10.1 = 0 then f_X8_isIn_L29 self r10.2 else f_X8_isIn_L25 self r10.2)))
noncomputable def f_X8_isIn (d : Nat) : Nat → Int32 → Int32 → fSt → Option (Int32 × fSt) := Nat.rec (motive := fun _ => Nat → Int32 → Int32 → fSt → Option (Int32 × fSt)) (fun _ _ _ _ => none) (fun _ self (o : Nat) (p0 : Int32) (p1 : Int32) (h : fSt) => f_X8_isIn_L0 self (some o) p0 p1 h) d
noncomputable def f_X8_hang_L158 (s0 : Int32) (h : fSt) : Option ((Int32 ⊕ Nat) × fSt) := if s0 = 0 ∨ s0 = 1 then some (.inl s0, h) else none
noncomputable def f_X8_hang_L50 (k5 : Option Nat → Int32 → Int32 → Int32 → Int32 → fSt → Option ((Int32 ⊕ Nat) × fSt)) (a0 : Option Nat) (a1 : Int32) (a2 : Int32) (a3 : Int32) (a4 : Int32) (h : fSt) : Option ((Int32 ⊕ Nat) × fSt) := k5 a0 a1 a2 a3 (a4 + (1 : Int32)) h
noncomputable def f_X8_hang_L145 (s0 : Int32) (h : fSt) : Option ((Int32 ⊕ Nat) × fSt) := if s0 = 0 ∨ s0 = 1 then some (.inl s0, h) else none
noncomputable def f_X8_hang_L144  (h : fSt) : Option ((Int32 ⊕ Nat) × fSt) := f_X8_hang_L145 (0 : Int32) h
noncomputable def f_X8_hang_L83 (a0 : Option Nat) (a1 : Int32) (a2 : Int32) (s0 : Int32) (h : fSt) : Option ((Int32 ⊕ Nat) × fSt) := (fgR h a0 8 0).bind fun x3 => (fobj h x3 7).bind fun b7 => (f_X7_hang b7 a1 a2 h).bind fun r5 => Sum.elim (fun v9 => (fgR r5.2 a0 8 4).bind fun x12 => (faR r5.2 x12 4 a1).bind fun x14 => (fsI r5.2 x14 0 (0 : Int32) a2).bind fun h16 => (fgR h16 a0 8 4).bind fun x18 => (faR h16 x18 4 a1).bind fun x20 => (fgI h16 a0 8 9).bind fun x22 => (fput h16 a0 8 9 (.int (x22 + (1 : Int32)))).bind fun h24 => (fsI h24 x20 0 (7 : Int32) x22).bind fun h26 => (if s0 = 0 then f_X8_hang_L144 h26 else (fobj h26 a0 8).bind fun b31 => (f_X8_hanging b31 a2 h26).bind fun r29 => (if v9 = r29.1 then f_X8_hang_L145 (1 : Int32) r29.2 else f_X8_hang_L144 r29.2))) (fun k10 => (if k10 = 2 then (if s0 = 0 then f_X8_hang_L158 (1 : Int32) r5.2 else f_X8_hang_L158 (0 : Int32) r5.2) else none)) r5.1
noncomputable def f_X8_hang_L82 (a0 : Option Nat) (a1 : Int32) (a2 : Int32) (h : fSt) : Option ((Int32 ⊕ Nat) × fSt) := f_X8_hang_L83 a0 a1 a2 (0 : Int32) h
noncomputable def f_X8_hang_L5 (n : Nat) : Option Nat → Int32 → Int32 → Int32 → Int32 → fSt → Option ((Int32 ⊕ Nat) × fSt) := Nat.rec (motive := fun _ => Option Nat → Int32 → Int32 → Int32 → Int32 → fSt → Option ((Int32 ⊕ Nat) × fSt)) (fun _ _ _ _ _ _ => none) (fun _ k5 (a0 : Option Nat) (a1 : Int32) (a2 : Int32) (a3 : Int32) (a4 : Int32) (h : fSt) => (fgI h a0 8 3).bind fun x37 => (if x37 ≤ a4 then (fobj h a0 8).bind fun b42 => (f_X8_isIn 8 b42 a2 a1 h).bind fun r40 => (if r40.1 = 0 then (fobj r40.2 a0 8).bind fun b47 => (f_X8_level 8 b47 a2 r40.2).bind fun r45 => (if (5 : Int32) ≤ ((r45.1 + (1 : Int32)) + a3) then f_X8_hang_L82 a0 a1 a2 r45.2 else f_X8_hang_L83 a0 a1 a2 (1 : Int32) r45.2) else f_X8_hang_L82 a0 a1 a2 r40.2) else (fobj h a0 8).bind fun b52 => (f_X8_isThere b52 a4 h).bind fun r50 => (if r50.1 = 0 then f_X8_hang_L50 k5 a0 a1 a2 a3 a4 r50.2 else (fobj r50.2 a0 8).bind fun b57 => (f_X8_isIn 8 b57 a4 a1 r50.2).bind fun r55 => (if r55.1 = 0 then f_X8_hang_L50 k5 a0 a1 a2 a3 a4 r55.2 else (fobj r55.2 a0 8).bind fun b62 => (f_X8_level 8 b62 a4 r55.2).bind fun r60 => (fobj r60.2 a0 8).bind fun b66 => (f_X8_level 8 b66 a1 r60.2).bind fun r64 => f_X8_hang_L50 k5 a0 a1 a2 (if a3 < (r60.1 - r64.1) then (r60.1 - r64.1) else a3) a4 r64.2)))) n
noncomputable def f_X8_hang_L0 (a0 : Option Nat) (a1 : Int32) (a2 : Int32) (h : fSt) : Option ((Int32 ⊕ Nat) × fSt) := f_X8_hang_L5 4096 a0 a1 a2 (0 : Int32) (1 : Int32) h
noncomputable def f_X8_hang (o : Nat) (p0 : Int32) (p1 : Int32) (h : fSt) : Option ((Int32 ⊕ Nat) × fSt) := f_X8_hang_L0 (some o) p0 p1 h
set_option maxHeartbeats 4000000 in
set_option maxRecDepth 100000 in
theorem w_X8_addTrack_L24 {p : Program} {l : Launch} {e : Env} {s : State} {m : MethodId} {args : Array Value} {below : List Frame} {meth : Method} {c : Code} {D : va_G} {cA : Nat → ClassId} {h0 : fSt} {r : (Int32 × fSt)} (M : fM p s m args meth c D cA h0 { frames := 9, cells := fCB h0 - fZ h0, slots := fLB h0 - fL h0, locals := 161 } cX8_addTrack 4 (some (.boolean)) RX8) (hfl : l.stackTraces = false)  (h : fSt) (hf : f_X8_addTrack_L24  h = some r) : ∀ (H : Heap) (locs : List Loc) (cells slots : Nat) (ls : Array Slot), fCur D cA s h0 h H locs → lv_has ls 4 [] → W p l e { frames := 9, cells := fCB h0 - fZ h0, slots := fLB h0 - fL h0, locals := 161 } s m args below meth c H locs cells slots (MQ below (fQ D cA h0 r.2 (some (.int r.1))) args s (fCB h0 - fZ h0) (fLB h0 - fL h0) (fA h0)) (F0 m 24 ls []) := by
  obtain ⟨hx, hb, hml, hr, hlocks, hts, hown, K, hR⟩ := id M
  intro H locs cells slots ls hC hl
  refine lv_iconst (v := (1 : Int32)) hx hb dX8_addTrack_24 (by decide) ?_
  obtain rfl := Option.some.inj hf
  exact fr_zret hx hb hr hlocks hC (Or.inr rfl) dX8_addTrack_25
set_option maxHeartbeats 4000000 in
set_option maxRecDepth 100000 in
theorem w_X8_addTrack_L66 {p : Program} {l : Launch} {e : Env} {s : State} {m : MethodId} {args : Array Value} {below : List Frame} {meth : Method} {c : Code} {D : va_G} {cA : Nat → ClassId} {h0 : fSt} {r : (Int32 × fSt)} (M : fM p s m args meth c D cA h0 { frames := 9, cells := fCB h0 - fZ h0, slots := fLB h0 - fL h0, locals := 161 } cX8_addTrack 4 (some (.boolean)) RX8) (hfl : l.stackTraces = false) {k28 : Option Nat → Int32 → Int32 → Int32 → fSt → Option (Int32 × fSt)} (hk28 : ∀ (a0 : Option Nat) (a1 : Int32) (a2 : Int32) (a3 : Int32) (h : fSt), k28 a0 a1 a2 a3 h = some r → ∀ (H : Heap) (locs : List Loc) (cells slots : Nat) (ls : Array Slot), fCur D cA s h0 h H locs → lv_has ls 4 [(0, va_rf a0), (1, .int a1), (2, .int a2), (3, .int a3)] → W p l e { frames := 9, cells := fCB h0 - fZ h0, slots := fLB h0 - fL h0, locals := 161 } s m args below meth c H locs cells slots (MQ below (fQ D cA h0 r.2 (some (.int r.1))) args s (fCB h0 - fZ h0) (fLB h0 - fL h0) (fA h0)) (F0 m 28 ls [])) (a0 : Option Nat) (a1 : Int32) (a2 : Int32) (a3 : Int32) (h : fSt) (hf : f_X8_addTrack_L66 k28 a0 a1 a2 a3 h = some r) : ∀ (H : Heap) (locs : List Loc) (cells slots : Nat) (ls : Array Slot), fCur D cA s h0 h H locs → lv_has ls 4 [(0, va_rf a0), (1, .int a1), (2, .int a2), (3, .int a3)] → W p l e { frames := 9, cells := fCB h0 - fZ h0, slots := fLB h0 - fL h0, locals := 161 } s m args below meth c H locs cells slots (MQ below (fQ D cA h0 r.2 (some (.int r.1))) args s (fCB h0 - fZ h0) (fLB h0 - fL h0) (fA h0)) (F0 m 66 ls []) := by
  obtain ⟨hx, hb, hml, hr, hlocks, hts, hown, K, hR⟩ := id M
  intro H locs cells slots ls hC hl
  refine lv_iinc (v := (a3 + (1 : Int32))) (lv' := [(3, .int (a3 + (1 : Int32))), (0, va_rf a0), (1, .int a1), (2, .int a2)]) hx hb dX8_addTrack_66 hl (k := 3) rfl rfl (by decide) (congrArg (List.cons _) (flk rfl (flk rfl (flk rfl (fld rfl fln))))) (fun ls hl => ?_)
  refine lv_goto (tgt := 28) hx hb dX8_addTrack_69 (by decide) ?_
  exact hk28 _ _ _ _ _ hf _ _ _ _ _ hC (lv_sub hl [1, 2, 3, 0] rfl)
set_option maxHeartbeats 4000000 in
set_option maxRecDepth 100000 in
theorem w_X8_addTrack_L183 {p : Program} {l : Launch} {e : Env} {s : State} {m : MethodId} {args : Array Value} {below : List Frame} {meth : Method} {c : Code} {D : va_G} {cA : Nat → ClassId} {h0 : fSt} {r : (Int32 × fSt)} (M : fM p s m args meth c D cA h0 { frames := 9, cells := fCB h0 - fZ h0, slots := fLB h0 - fL h0, locals := 161 } cX8_addTrack 4 (some (.boolean)) RX8) (hfl : l.stackTraces = false) (s0 : Int32) (h : fSt) (hf : f_X8_addTrack_L183 s0 h = some r) : ∀ (H : Heap) (locs : List Loc) (cells slots : Nat) (ls : Array Slot), fCur D cA s h0 h H locs → lv_has ls 4 [] → W p l e { frames := 9, cells := fCB h0 - fZ h0, slots := fLB h0 - fL h0, locals := 161 } s m args below meth c H locs cells slots (MQ below (fQ D cA h0 r.2 (some (.int r.1))) args s (fCB h0 - fZ h0) (fLB h0 - fL h0) (fA h0)) (F0 m 183 ls [.int s0]) := by
  obtain ⟨hx, hb, hml, hr, hlocks, hts, hown, K, hR⟩ := id M
  intro H locs cells slots ls hC hl
  by_cases c1 : s0 = 0 ∨ s0 = 1
  rotate_left
  · exact nomatch (oneg c1 hf)
  obtain rfl := Option.some.inj (opos c1 hf)
  exact fr_zret hx hb hr hlocks hC c1 dX8_addTrack_183
set_option maxHeartbeats 4000000 in
set_option maxRecDepth 100000 in
theorem w_X8_addTrack_L182 {p : Program} {l : Launch} {e : Env} {s : State} {m : MethodId} {args : Array Value} {below : List Frame} {meth : Method} {c : Code} {D : va_G} {cA : Nat → ClassId} {h0 : fSt} {r : (Int32 × fSt)} (M : fM p s m args meth c D cA h0 { frames := 9, cells := fCB h0 - fZ h0, slots := fLB h0 - fL h0, locals := 161 } cX8_addTrack 4 (some (.boolean)) RX8) (hfl : l.stackTraces = false)  (h : fSt) (hf : f_X8_addTrack_L182  h = some r) : ∀ (H : Heap) (locs : List Loc) (cells slots : Nat) (ls : Array Slot), fCur D cA s h0 h H locs → lv_has ls 4 [] → W p l e { frames := 9, cells := fCB h0 - fZ h0, slots := fLB h0 - fL h0, locals := 161 } s m args below meth c H locs cells slots (MQ below (fQ D cA h0 r.2 (some (.int r.1))) args s (fCB h0 - fZ h0) (fLB h0 - fL h0) (fA h0)) (F0 m 182 ls []) := by
  obtain ⟨hx, hb, hml, hr, hlocks, hts, hown, K, hR⟩ := id M
  intro H locs cells slots ls hC hl
  refine lv_iconst (v := (0 : Int32)) hx hb dX8_addTrack_182 (by decide) ?_
  exact w_X8_addTrack_L183 M hfl _ _ hf _ _ _ _ _ hC (lv_sub hl [] rfl)
set_option maxHeartbeats 4000000 in
set_option maxRecDepth 100000 in
theorem w_X8_addTrack_L28 {p : Program} {l : Launch} {e : Env} {s : State} {m : MethodId} {args : Array Value} {below : List Frame} {meth : Method} {c : Code} {D : va_G} {cA : Nat → ClassId} {h0 : fSt} {r : (Int32 × fSt)} (M : fM p s m args meth c D cA h0 { frames := 9, cells := fCB h0 - fZ h0, slots := fLB h0 - fL h0, locals := 161 } cX8_addTrack 4 (some (.boolean)) RX8) (hfl : l.stackTraces = false) : ∀ (n : Nat) (a0 : Option Nat) (a1 : Int32) (a2 : Int32) (a3 : Int32) (h : fSt), f_X8_addTrack_L28 n a0 a1 a2 a3 h = some r → ∀ (H : Heap) (locs : List Loc) (cells slots : Nat) (ls : Array Slot), fCur D cA s h0 h H locs → lv_has ls 4 [(0, va_rf a0), (1, .int a1), (2, .int a2), (3, .int a3)] → W p l e { frames := 9, cells := fCB h0 - fZ h0, slots := fLB h0 - fL h0, locals := 161 } s m args below meth c H locs cells slots (MQ below (fQ D cA h0 r.2 (some (.int r.1))) args s (fCB h0 - fZ h0) (fLB h0 - fL h0) (fA h0)) (F0 m 28 ls []) := by
  obtain ⟨hx, hb, hml, hr, hlocks, hts, hown, K, hR⟩ := id M
  intro n
  induction n with
  | zero =>
    intro a0 a1 a2 a3 h hf
    exact nomatch (show (none : Option (Int32 × fSt)) = some r from hf)
  | succ n hk28 =>
    intro a0 a1 a2 a3 h hf H locs cells slots ls hC hl
    refine lv_iload_n hx hb dX8_addTrack_28 rfl (lv_at hl 3 rfl) ?_
    refine fr_aload_n hx hb dX8_addTrack_29 rfl (lv_at hl 0 rfl) ?_
    obtain ⟨x2, g3, hf⟩ := obind hf
    refine fr_get hx hb hts hown K hC ct_8 (fgI_get g3) (by decide) kw668 rfl dX8_addTrack_30 ?_
    refine lv_icmp_ge (tgt := 72) hx hb dX8_addTrack_33 (by decide) (fun c4 => ?_) (fun c4 => ?_)
    · replace hf := opos c4 hf
      refine lv_iconst (v := (4 : Int32)) hx hb dX8_addTrack_72 (by decide) ?_
      by_cases c5 : (4 : Int32) < 0 ∨ 67000000 < ((4 : Int32)).toNatClampNeg
      · exact nomatch (opos c5 hf)
      obtain ⟨r6, g7, hf⟩ := obind (oneg c5 hf)
      refine fr_newa hx hb hts K hC hR (atype := .int) (t := 0) rfl kw702 (fun _ => rfl) rfl (fun z => c5 (Or.inl z)) g7 (newa_b (fun z => c5 (Or.inr z)) (Nat.le_of_ble_eq_true rfl)) dX8_addTrack_73 (fun H _ _ hC => ?_)
      refine lv_dup hx hb dX8_addTrack_75 (va_rf_cat _) ?_
      refine lv_iconst (v := (0 : Int32)) hx hb dX8_addTrack_76 (by decide) ?_
      refine lv_iload_n hx hb dX8_addTrack_77 rfl (lv_at hl 1 rfl) ?_
      obtain ⟨h8, g9, hf⟩ := obind hf
      refine fr_iast hx hb K hC (t := 0) rfl g9 dX8_addTrack_78 (fun H locs hC => ?_)
      refine lv_dup hx hb dX8_addTrack_79 (va_rf_cat _) ?_
      refine lv_iconst (v := (1 : Int32)) hx hb dX8_addTrack_80 (by decide) ?_
      refine lv_iload_n hx hb dX8_addTrack_81 rfl (lv_at hl 2 rfl) ?_
      obtain ⟨h10, g11, hf⟩ := obind hf
      refine fr_iast hx hb K hC (t := 0) rfl g11 dX8_addTrack_82 (fun H locs hC => ?_)
      refine lv_dup hx hb dX8_addTrack_83 (va_rf_cat _) ?_
      refine lv_iconst (v := (2 : Int32)) hx hb dX8_addTrack_84 (by decide) ?_
      refine fr_aload_n hx hb dX8_addTrack_85 rfl (lv_at hl 0 rfl) ?_
      refine lv_iconst (v := (3 : Int32)) hx hb dX8_addTrack_86 (by decide) ?_
      obtain ⟨b14, q15, hf⟩ := obind hf
      obtain ⟨r12, g13, hf⟩ := obind hf
      refine fr_callV hx hb hml hts hown K hC hR ct_8 (c_X8_draw hfl D cA g13) 1 q15 kw706 kw723 kw704 kw705 kw22 (by decide +kernel) ⟨by exact Nat.le_of_ble_eq_true rfl, by exact Nat.le_of_ble_eq_true rfl⟩ rfl hl.1 (cat8 _ (by exact Nat.le_of_ble_eq_true rfl)) dX8_addTrack_87 rfl (fun H locs _ _ hC => ?_)
      obtain ⟨h16, g17, hf⟩ := obind hf
      refine fr_iast hx hb K hC (t := 0) rfl g17 dX8_addTrack_90 (fun H locs hC => ?_)
      refine lv_dup hx hb dX8_addTrack_91 (va_rf_cat _) ?_
      refine lv_iconst (v := (3 : Int32)) hx hb dX8_addTrack_92 (by decide) ?_
      refine fr_aload_n hx hb dX8_addTrack_93 rfl (lv_at hl 0 rfl) ?_
      refine lv_iconst (v := (3 : Int32)) hx hb dX8_addTrack_94 (by decide) ?_
      obtain ⟨b20, q21, hf⟩ := obind hf
      obtain ⟨r18, g19, hf⟩ := obind hf
      refine fr_callV hx hb hml hts hown K hC hR ct_8 (c_X8_draw hfl D cA g19) 1 q21 kw706 kw723 kw704 kw705 kw22 (by decide +kernel) ⟨by exact Nat.le_of_ble_eq_true rfl, by exact Nat.le_of_ble_eq_true rfl⟩ rfl hl.1 (cat8 _ (by exact Nat.le_of_ble_eq_true rfl)) dX8_addTrack_95 rfl (fun H locs _ _ hC => ?_)
      obtain ⟨h22, g23, hf⟩ := obind hf
      refine fr_iast hx hb K hC (t := 0) rfl g23 dX8_addTrack_98 (fun H locs hC => ?_)
      refine fr_astore_n (lv' := [(3, va_rf (some r6.1)), (0, va_rf a0), (1, .int a1), (2, .int a2)]) hx hb dX8_addTrack_99 rfl hl (by decide) (congrArg (List.cons _) (flk rfl (flk rfl (flk rfl (fld rfl fln))))) (fun ls hl => ?_)
      refine fr_aload_n hx hb dX8_addTrack_100 rfl (lv_at hl 1 rfl) ?_
      obtain ⟨x24, g25, hf⟩ := obind hf
      refine fr_get hx hb hts hown K hC ct_8 (fgR_get g25) (by decide) kw669 rfl dX8_addTrack_101 ?_
      refine fr_aload_n hx hb dX8_addTrack_104 rfl (lv_at hl 1 rfl) ?_
      obtain ⟨x26, g27, hf⟩ := obind hf
      refine fr_get hx hb hts hown K hC ct_8 (fgI_get g27) (by decide) kw668 rfl dX8_addTrack_105 ?_
      refine fr_aload_n hx hb dX8_addTrack_108 rfl (lv_at hl 0 rfl) ?_
      obtain ⟨h28, g29, hf⟩ := obind hf
      refine fr_aastA hx hb K hC rfl rfl g29 dX8_addTrack_109 (fun H locs hC => ?_)
      refine fr_aload_n hx hb dX8_addTrack_110 rfl (lv_at hl 1 rfl) ?_
      obtain ⟨x30, g31, hf⟩ := obind hf
      refine fr_get hx hb hts hown K hC ct_8 (fgR_get g31) (by decide) kw655 rfl dX8_addTrack_111 ?_
      refine lv_iload_n hx hb dX8_addTrack_114 rfl (lv_at hl 2 rfl) ?_
      refine lv_iload_n hx hb dX8_addTrack_115 rfl (lv_at hl 3 rfl) ?_
      refine fr_aload_n hx hb dX8_addTrack_116 rfl (lv_at hl 0 rfl) ?_
      refine lv_iconst (v := (2 : Int32)) hx hb dX8_addTrack_117 (by decide) ?_
      obtain ⟨x32, g33, hf⟩ := obind hf
      refine fr_iald hx hb K hC (t := 0) rfl g33 dX8_addTrack_118 ?_
      refine fr_aload_n hx hb dX8_addTrack_119 rfl (lv_at hl 0 rfl) ?_
      refine lv_iconst (v := (3 : Int32)) hx hb dX8_addTrack_120 (by decide) ?_
      obtain ⟨x34, g35, hf⟩ := obind hf
      refine fr_iald hx hb K hC (t := 0) rfl g35 dX8_addTrack_121 ?_
      obtain ⟨b38, q39, hf⟩ := obind hf
      obtain ⟨⟨v40 | k41, h42⟩, g37, hf⟩ := obind hf
      rotate_left
      · exact nomatch (show (none : Option (Int32 × fSt)) = some _ from hf)
      replace hf := fci hf
      refine fr_callVX hx hb hml hts hown K hC hR ct_7 (c_X7_track hfl D cA g37) 4 q39 kw926 kw923 kw924 kw925 kw23 (by decide +kernel) ⟨by exact Nat.le_of_ble_eq_true rfl, by exact Nat.le_of_ble_eq_true rfl⟩ rfl hl.1 (cat8 _ (by exact Nat.le_of_ble_eq_true rfl)) dX8_addTrack_122 rfl (fun H locs _ _ hC => ?_)
      refine fr_aload_n hx hb dX8_addTrack_125 rfl (lv_at hl 1 rfl) ?_
      refine lv_dup hx hb dX8_addTrack_126 (va_rf_cat _) ?_
      obtain ⟨x43, g44, hf⟩ := obind hf
      refine fr_get hx hb hts hown K hC ct_8 (fgI_get g44) (by decide) kw668 rfl dX8_addTrack_127 ?_
      refine lv_dup_x1 hx hb dX8_addTrack_130 rfl (va_rf_cat _) ?_
      refine lv_iconst (v := (1 : Int32)) hx hb dX8_addTrack_131 (by decide) ?_
      refine lv_iadd hx hb dX8_addTrack_132 ?_
      obtain ⟨h45, g46, hf⟩ := obind hf
      refine fr_put hx hb hts hown K hC ct_8 g46 (by decide) kw668 rfl rfl rfl rfl dX8_addTrack_133 (fun H locs hC => ?_)
      refine lv_icmp_ne (tgt := 182) hx hb dX8_addTrack_136 (by decide) (fun c47 => ?_) (fun c47 => ?_)
      · replace hf := oneg c47 hf
        exact w_X8_addTrack_L182 M hfl _ hf _ _ _ _ _ hC (lv_sub hl [] rfl)
      · replace hf := opos c47 hf
        refine fr_aload_n hx hb dX8_addTrack_139 rfl (lv_at hl 1 rfl) ?_
        refine fr_aload_n hx hb dX8_addTrack_140 rfl (lv_at hl 1 rfl) ?_
        obtain ⟨x48, g49, hf⟩ := obind hf
        refine fr_get hx hb hts hown K hC ct_8 (fgI_get g49) (by decide) kw668 rfl dX8_addTrack_141 ?_
        refine lv_iconst (v := (1 : Int32)) hx hb dX8_addTrack_144 (by decide) ?_
        refine lv_isub hx hb dX8_addTrack_145 ?_
        obtain ⟨b52, q53, hf⟩ := obind hf
        obtain ⟨r50, g51, hf⟩ := obind hf
        refine fr_callV hx hb hml hts hown K hC hR ct_8 (c_X8_key hfl D cA g51) 1 q53 kw882 kw879 kw880 kw881 kw22 (by decide +kernel) ⟨by exact Nat.le_of_ble_eq_true rfl, by exact Nat.le_of_ble_eq_true rfl⟩ rfl hl.1 (cat8 _ (by exact Nat.le_of_ble_eq_true rfl)) dX8_addTrack_146 rfl (fun H locs _ _ hC => ?_)
        refine lv_if_eq (tgt := 182) hx hb dX8_addTrack_149 (by decide) (fun c54 => ?_) (fun c54 => ?_)
        · replace hf := opos c54 hf
          exact w_X8_addTrack_L182 M hfl _ hf _ _ _ _ _ hC (lv_sub hl [] rfl)
        · replace hf := oneg c54 hf
          refine fr_aload_n hx hb dX8_addTrack_152 rfl (lv_at hl 1 rfl) ?_
          refine fr_aload_n hx hb dX8_addTrack_153 rfl (lv_at hl 1 rfl) ?_
          obtain ⟨x55, g56, hf⟩ := obind hf
          refine fr_get hx hb hts hown K hC ct_8 (fgI_get g56) (by decide) kw668 rfl dX8_addTrack_154 ?_
          refine lv_iconst (v := (1 : Int32)) hx hb dX8_addTrack_157 (by decide) ?_
          refine lv_isub hx hb dX8_addTrack_158 ?_
          obtain ⟨b59, q60, hf⟩ := obind hf
          obtain ⟨r57, g58, hf⟩ := obind hf
          refine fr_callV hx hb hml hts hown K hC hR ct_8 (c_X8_key hfl D cA g58) 1 q60 kw882 kw879 kw880 kw881 kw22 (by decide +kernel) ⟨by exact Nat.le_of_ble_eq_true rfl, by exact Nat.le_of_ble_eq_true rfl⟩ rfl hl.1 (cat8 _ (by exact Nat.le_of_ble_eq_true rfl)) dX8_addTrack_159 rfl (fun H locs _ _ hC => ?_)
          refine lv_if_eq (tgt := 182) hx hb dX8_addTrack_162 (by decide) (fun c61 => ?_) (fun c61 => ?_)
          · replace hf := opos c61 hf
            exact w_X8_addTrack_L182 M hfl _ hf _ _ _ _ _ hC (lv_sub hl [] rfl)
          · replace hf := oneg c61 hf
            refine fr_aload_n hx hb dX8_addTrack_165 rfl (lv_at hl 1 rfl) ?_
            refine fr_aload_n hx hb dX8_addTrack_166 rfl (lv_at hl 1 rfl) ?_
            obtain ⟨x62, g63, hf⟩ := obind hf
            refine fr_get hx hb hts hown K hC ct_8 (fgI_get g63) (by decide) kw668 rfl dX8_addTrack_167 ?_
            refine lv_iconst (v := (1 : Int32)) hx hb dX8_addTrack_170 (by decide) ?_
            refine lv_isub hx hb dX8_addTrack_171 ?_
            obtain ⟨b66, q67, hf⟩ := obind hf
            obtain ⟨r64, g65, hf⟩ := obind hf
            refine fr_callV hx hb hml hts hown K hC hR ct_8 (c_X8_key hfl D cA g65) 1 q67 kw882 kw879 kw880 kw881 kw22 (by decide +kernel) ⟨by exact Nat.le_of_ble_eq_true rfl, by exact Nat.le_of_ble_eq_true rfl⟩ rfl hl.1 (cat8 _ (by exact Nat.le_of_ble_eq_true rfl)) dX8_addTrack_172 rfl (fun H locs _ _ hC => ?_)
            refine lv_if_eq (tgt := 182) hx hb dX8_addTrack_175 (by decide) (fun c68 => ?_) (fun c68 => ?_)
            · replace hf := opos c68 hf
              exact w_X8_addTrack_L182 M hfl _ hf _ _ _ _ _ hC (lv_sub hl [] rfl)
            · replace hf := oneg c68 hf
              refine lv_iconst (v := (1 : Int32)) hx hb dX8_addTrack_178 (by decide) ?_
              refine lv_goto (tgt := 183) hx hb dX8_addTrack_179 (by decide) ?_
              exact w_X8_addTrack_L183 M hfl _ _ hf _ _ _ _ _ hC (lv_sub hl [] rfl)
    · replace hf := oneg c4 hf
      refine fr_aload_n hx hb dX8_addTrack_36 rfl (lv_at hl 0 rfl) ?_
      obtain ⟨x69, g70, hf⟩ := obind hf
      refine fr_get hx hb hts hown K hC ct_8 (fgR_get g70) (by decide) kw669 rfl dX8_addTrack_37 ?_
      refine lv_iload_n hx hb dX8_addTrack_40 rfl (lv_at hl 3 rfl) ?_
      obtain ⟨x71, g72, hf⟩ := obind hf
      refine fr_aaldA hx hb K hC (t := 4) rfl g72 dX8_addTrack_41 ?_
      refine lv_iconst (v := (0 : Int32)) hx hb dX8_addTrack_42 (by decide) ?_
      obtain ⟨x73, g74, hf⟩ := obind hf
      refine fr_iald hx hb K hC (t := 0) rfl g74 dX8_addTrack_43 ?_
      refine lv_iload_n hx hb dX8_addTrack_44 rfl (lv_at hl 1 rfl) ?_
      refine lv_icmp_ne (tgt := 66) hx hb dX8_addTrack_45 (by decide) (fun c75 => ?_) (fun c75 => ?_)
      · replace hf := oneg c75 hf
        exact w_X8_addTrack_L66 M hfl hk28 _ _ _ _ _ hf _ _ _ _ _ hC (lv_sub hl [0, 1, 2, 3] rfl)
      · replace hf := opos c75 hf
        refine fr_aload_n hx hb dX8_addTrack_48 rfl (lv_at hl 0 rfl) ?_
        obtain ⟨x76, g77, hf⟩ := obind hf
        refine fr_get hx hb hts hown K hC ct_8 (fgR_get g77) (by decide) kw669 rfl dX8_addTrack_49 ?_
        refine lv_iload_n hx hb dX8_addTrack_52 rfl (lv_at hl 3 rfl) ?_
        obtain ⟨x78, g79, hf⟩ := obind hf
        refine fr_aaldA hx hb K hC (t := 4) rfl g79 dX8_addTrack_53 ?_
        refine lv_iconst (v := (1 : Int32)) hx hb dX8_addTrack_54 (by decide) ?_
        obtain ⟨x80, g81, hf⟩ := obind hf
        refine fr_iald hx hb K hC (t := 0) rfl g81 dX8_addTrack_55 ?_
        refine lv_iload_n hx hb dX8_addTrack_56 rfl (lv_at hl 2 rfl) ?_
        refine lv_icmp_ne (tgt := 66) hx hb dX8_addTrack_57 (by decide) (fun c82 => ?_) (fun c82 => ?_)
        · replace hf := oneg c82 hf
          exact w_X8_addTrack_L66 M hfl hk28 _ _ _ _ _ hf _ _ _ _ _ hC (lv_sub hl [0, 1, 2, 3] rfl)
        · replace hf := opos c82 hf
          refine fr_aload_n hx hb dX8_addTrack_60 rfl (lv_at hl 0 rfl) ?_
          refine lv_iload_n hx hb dX8_addTrack_61 rfl (lv_at hl 3 rfl) ?_
          obtain ⟨b85, q86, hf⟩ := obind hf
          obtain ⟨r83, g84, hf⟩ := obind hf
          refine fr_callV hx hb hml hts hown K hC hR ct_8 (c_X8_key hfl D cA g84) 1 q86 kw882 kw879 kw880 kw881 kw22 (by decide +kernel) ⟨by exact Nat.le_of_ble_eq_true rfl, by exact Nat.le_of_ble_eq_true rfl⟩ rfl hl.1 (cat8 _ (by exact Nat.le_of_ble_eq_true rfl)) dX8_addTrack_62 rfl (fun H locs _ _ hC => ?_)
          by_cases c87 : r83.1 = 0 ∨ r83.1 = 1
          rotate_left
          · exact nomatch (oneg c87 hf)
          obtain rfl := Option.some.inj (opos c87 hf)
          exact fr_zret hx hb hr hlocks hC c87 dX8_addTrack_65
set_option maxHeartbeats 4000000 in
set_option maxRecDepth 100000 in
theorem w_X8_addTrack_L0 {p : Program} {l : Launch} {e : Env} {s : State} {m : MethodId} {args : Array Value} {below : List Frame} {meth : Method} {c : Code} {D : va_G} {cA : Nat → ClassId} {h0 : fSt} {r : (Int32 × fSt)} (M : fM p s m args meth c D cA h0 { frames := 9, cells := fCB h0 - fZ h0, slots := fLB h0 - fL h0, locals := 161 } cX8_addTrack 4 (some (.boolean)) RX8) (hfl : l.stackTraces = false) (a0 : Option Nat) (h : fSt) (hf : f_X8_addTrack_L0 a0 h = some r) : ∀ (H : Heap) (locs : List Loc) (cells slots : Nat) (ls : Array Slot), fCur D cA s h0 h H locs → lv_has ls 4 [(0, va_rf a0)] → W p l e { frames := 9, cells := fCB h0 - fZ h0, slots := fLB h0 - fL h0, locals := 161 } s m args below meth c H locs cells slots (MQ below (fQ D cA h0 r.2 (some (.int r.1))) args s (fCB h0 - fZ h0) (fLB h0 - fL h0) (fA h0)) (F0 m 0 ls []) := by
  obtain ⟨hx, hb, hml, hr, hlocks, hts, hown, K, hR⟩ := id M
  intro H locs cells slots ls hC hl
  refine fr_aload_n hx hb dX8_addTrack_0 rfl (lv_at hl 0 rfl) ?_
  obtain ⟨b90, q91, hf⟩ := obind hf
  obtain ⟨r88, g89, hf⟩ := obind hf
  refine fr_callV hx hb hml hts hown K hC hR ct_8 (c_X8_one hfl D cA g89) 0 q91 kw728 kw780 kw726 kw727 kw22 (by decide +kernel) ⟨by exact Nat.le_of_ble_eq_true rfl, by exact Nat.le_of_ble_eq_true rfl⟩ rfl hl.1 (cat8 _ (by exact Nat.le_of_ble_eq_true rfl)) dX8_addTrack_1 rfl (fun H locs _ _ hC => ?_)
  refine lv_istore_n (lv' := [(1, .int r88.1), (0, va_rf a0)]) hx hb dX8_addTrack_4 rfl hl (by decide) (congrArg (List.cons _) (flk (adj1 _ _) fln)) (fun ls hl => ?_)
  refine fr_aload_n hx hb dX8_addTrack_5 rfl (lv_at hl 1 rfl) ?_
  refine lv_iconst (v := (4 : Int32)) hx hb dX8_addTrack_6 (by decide) ?_
  obtain ⟨b94, q95, hf⟩ := obind hf
  obtain ⟨r92, g93, hf⟩ := obind hf
  refine fr_callV hx hb hml hts hown K hC hR ct_8 (c_X8_draw hfl D cA g93) 1 q95 kw706 kw723 kw704 kw705 kw22 (by decide +kernel) ⟨by exact Nat.le_of_ble_eq_true rfl, by exact Nat.le_of_ble_eq_true rfl⟩ rfl hl.1 (cat8 _ (by exact Nat.le_of_ble_eq_true rfl)) dX8_addTrack_7 rfl (fun H locs _ _ hC => ?_)
  refine lv_istore_n (lv' := [(2, .int r92.1), (1, .int r88.1), (0, va_rf a0)]) hx hb dX8_addTrack_10 rfl hl (by decide) (congrArg (List.cons _) (flk rfl (flk rfl fln))) (fun ls hl => ?_)
  refine lv_iload_n hx hb dX8_addTrack_11 rfl (lv_at hl 1 rfl) ?_
  refine lv_if_eq (tgt := 24) hx hb dX8_addTrack_12 (by decide) (fun c96 => ?_) (fun c96 => ?_)
  · replace hf := opos c96 hf
    exact w_X8_addTrack_L24 M hfl _ hf _ _ _ _ _ hC (lv_sub hl [] rfl)
  · replace hf := oneg c96 hf
    refine fr_aload_n hx hb dX8_addTrack_15 rfl (lv_at hl 2 rfl) ?_
    obtain ⟨x97, g98, hf⟩ := obind hf
    refine fr_get hx hb hts hown K hC ct_8 (fgI_get g98) (by decide) kw668 rfl dX8_addTrack_16 ?_
    refine lv_bipush (v := (12 : Int32)) hx hb dX8_addTrack_19 (by decide) ?_
    refine lv_icmp_ne (tgt := 26) hx hb dX8_addTrack_21 (by decide) (fun c99 => ?_) (fun c99 => ?_)
    · replace hf := oneg c99 hf
      refine lv_iconst (v := (0 : Int32)) hx hb dX8_addTrack_26 (by decide) ?_
      refine lv_istore_n (lv' := [(3, .int (0 : Int32)), (2, .int r92.1), (1, .int r88.1), (0, va_rf a0)]) hx hb dX8_addTrack_27 rfl hl (by decide) (congrArg (List.cons _) (flk rfl (flk rfl (flk rfl fln)))) (fun ls hl => ?_)
      exact w_X8_addTrack_L28 M hfl 4096 _ _ _ _ _ hf _ _ _ _ _ hC (lv_sub hl [3, 2, 1, 0] rfl)
    · replace hf := opos c99 hf
      exact w_X8_addTrack_L24 M hfl _ hf _ _ _ _ _ hC (lv_sub hl [] rfl)
set_option maxRecDepth 100000 in
theorem c_X8_addTrack {l : Launch} (hfl : l.stackTraces = false) (D : va_G) (cA : Nat → ClassId) {o : Nat} {h : fSt} {r : (Int32 × fSt)} (hf : f_X8_addTrack o h = some r) : fMet l yX8_addTrack (wsC yX8_addTrack cX8_addTrack 4 (some (.boolean))) (9) (161) D cA [.ref o] h r.2 (some (.int r.1)) := by
  exact fMet.of (own := RX8) (by decide +kernel) rfl (lva1 rfl lva0) (lgl1 rfl lgl0) (Nat.le_of_ble_eq_true rfl) (fun p e s m args below meth c ls hnm _ M hC hl => by
    have hl : lv_has ls 4 [(0, va_rf (some o))] := hl
    exact w_X8_addTrack_L0 M hfl _ _ hf _ _ _ _ _ hC (lv_sub hl [0] rfl))
set_option maxHeartbeats 4000000 in
set_option maxRecDepth 100000 in
theorem w_X7_foundBelowWhole_L0 {p : Program} {l : Launch} {e : Env} {s : State} {m : MethodId} {args : Array Value} {below : List Frame} {meth : Method} {c : Code} {D : va_G} {cA : Nat → ClassId} {h0 : fSt} {r : ((Option Nat ⊕ Nat) × fSt)} (M : fM p s m args meth c D cA h0 { frames := 7, cells := fCB h0 - fZ h0, slots := fLB h0 - fL h0, locals := 112 } cX7_foundBelowWhole 3 (some (.object "TapestryScene$Node")) RX7) (hfl : l.stackTraces = false) (hno : ∀ x ∈ c.exceptionTable.toList, False) (a0 : Option Nat) (a1 : Int32) (h : fSt) (hf : f_X7_foundBelowWhole_L0 a0 a1 h = some r) : ∀ (H : Heap) (locs : List Loc) (cells slots : Nat) (ls : Array Slot), fCur D cA s h0 h H locs → lv_has ls 3 [(0, va_rf a0), (1, .int a1)] → W p l e { frames := 7, cells := fCB h0 - fZ h0, slots := fLB h0 - fL h0, locals := 112 } s m args below meth c H locs cells slots (vx_MQ below (fQX D cA h0 r.2 (rR r.1)) (fXC D cA h0 r.2 (rR r.1)) args s (fCB h0 - fZ h0) (fLB h0 - fL h0) (fA h0)) (F0 m 0 ls []) := by
  obtain ⟨hx, hb, hml, hr, hlocks, hts, hown, K, hR⟩ := id M
  intro H locs cells slots ls hC hl
  refine fr_aload_n hx hb dX7_foundBelowWhole_0 rfl (lv_at hl 0 rfl) ?_
  refine lv_iload_n hx hb dX7_foundBelowWhole_1 rfl (lv_at hl 1 rfl) ?_
  obtain ⟨b3, q4, hf⟩ := obind hf
  obtain ⟨⟨v5 | k6, h7⟩, g2, hf⟩ := obind hf
  · refine fr_callVX hx hb hml hts hown K hC hR ct_7 (c_X7_found hfl D cA g2) 1 q4 kw51 kw47 kw49 kw0 kw23 (by decide +kernel) ⟨by exact Nat.le_of_ble_eq_true rfl, by exact Nat.le_of_ble_eq_true rfl⟩ rfl hl.1 (cat8 _ (by exact Nat.le_of_ble_eq_true rfl)) dX7_foundBelowWhole_2 rfl (fun H locs _ _ hC => ?_)
    refine fr_astore_n (lv' := [(2, va_rf v5), (0, va_rf a0), (1, .int a1)]) hx hb dX7_foundBelowWhole_5 rfl hl (by decide) (congrArg (List.cons _) (flk rfl (flk rfl fln))) (fun ls hl => ?_)
    refine fr_aload_n hx hb dX7_foundBelowWhole_6 rfl (lv_at hl 0 rfl) ?_
    refine fr_aload_n hx hb dX7_foundBelowWhole_7 rfl (lv_at hl 1 rfl) ?_
    obtain ⟨x8, g9, hf⟩ := obind hf
    refine fr_get hx hb hts hown K hC ct_7 (fgR_get g9) (by decide) kw619 rfl dX7_foundBelowWhole_8 ?_
    refine lv_acmp_ne (tgt := 25) hx hb dX7_foundBelowWhole_11 (by decide) (fun c10 => ?_) (fun c10 => ?_)
    · replace hf := oneg c10 hf
      refine fr_aload_n hx hb dX7_foundBelowWhole_25 rfl (lv_at hl 0 rfl) ?_
      obtain rfl := Option.some.inj hf
      exact fr_retQ (fr_aret hx hb hr (Or.inl ⟨_, rfl⟩) hlocks hC dX7_foundBelowWhole_26)
    · replace hf := opos c10 hf
      obtain ⟨h11, g12, hf⟩ := obind hf
      obtain rfl := Option.some.inj hf
      exact fr_throwSW hx hb hml hts hfl hown K hC hR th_RX7_73_77_2 st_RX7_345 hl.1 dX7_foundBelowWhole_14 dX7_foundBelowWhole_17 dX7_foundBelowWhole_18 dX7_foundBelowWhole_21 dX7_foundBelowWhole_24 hno (by exact Nat.le_of_ble_eq_true rfl) (catL _ _ (by exact Nat.le_of_ble_eq_true rfl) (by exact Nat.le_of_ble_eq_true rfl)) hlocks g12
  · obtain rfl := Option.some.inj hf
    refine fr_callVT hx hb hml hts hown K hC hR ct_7 (c_X7_found hfl D cA g2) 1 q4 kw51 kw47 kw49 kw0 kw23 (by decide +kernel) ⟨by exact Nat.le_of_ble_eq_true rfl, by exact Nat.le_of_ble_eq_true rfl⟩ rfl hl.1 (cat8 _ (by exact Nat.le_of_ble_eq_true rfl)) dX7_foundBelowWhole_2 rfl (fun H locs _ _ q ce hC e1 e2 e3 => ?_)
    exact fr_out (fun x hx9 => (hno x hx9).elim) hlocks hC e1 e2 e3
set_option maxRecDepth 100000 in
theorem c_X7_foundBelowWhole {l : Launch} (hfl : l.stackTraces = false) (D : va_G) (cA : Nat → ClassId) {o : Nat} {p0 : Int32} {h : fSt} {r : ((Option Nat ⊕ Nat) × fSt)} (hf : f_X7_foundBelowWhole o p0 h = some r) : fMetX l yX7_foundBelowWhole (wsC yX7_foundBelowWhole cX7_foundBelowWhole 3 (some (.object "TapestryScene$Node"))) (7) (112) D cA [.ref o, .int p0] h r.2 (rR r.1) := by
  exact fMetX.of (own := RX7) (by decide +kernel) rfl (lva1 rfl (lva1 rfl lva0)) (lgl1 rfl (lgl1 rfl lgl0)) (Nat.le_of_ble_eq_true rfl) (fun p e s m args below meth c ls hno M hC hl => by
    have hl : lv_has ls 3 [(0, va_rf (some o)), (1, .int p0)] := hl
    exact w_X7_foundBelowWhole_L0 M hfl hno _ _ _ hf _ _ _ _ _ hC (lv_sub hl [0, 1] rfl))
set_option maxHeartbeats 4000000 in
set_option maxRecDepth 100000 in
theorem w_X7_cut_L28 {p : Program} {l : Launch} {e : Env} {s : State} {m : MethodId} {args : Array Value} {below : List Frame} {meth : Method} {c : Code} {D : va_G} {cA : Nat → ClassId} {h0 : fSt} {r : ((Int32 ⊕ Nat) × fSt)} (M : fM p s m args meth c D cA h0 { frames := 8, cells := fCB h0 - fZ h0, slots := fLB h0 - fL h0, locals := 134 } cX7_cut 8 (some (.boolean)) RX7) (hfl : l.stackTraces = false) (hno : ∀ x ∈ c.exceptionTable.toList, False)  (h : fSt) (hf : f_X7_cut_L28  h = some r) : ∀ (H : Heap) (locs : List Loc) (cells slots : Nat) (ls : Array Slot), fCur D cA s h0 h H locs → lv_has ls 8 [] → W p l e { frames := 8, cells := fCB h0 - fZ h0, slots := fLB h0 - fL h0, locals := 134 } s m args below meth c H locs cells slots (vx_MQ below (fQX D cA h0 r.2 (rI r.1)) (fXC D cA h0 r.2 (rI r.1)) args s (fCB h0 - fZ h0) (fLB h0 - fL h0) (fA h0)) (F0 m 28 ls []) := by
  obtain ⟨hx, hb, hml, hr, hlocks, hts, hown, K, hR⟩ := id M
  intro H locs cells slots ls hC hl
  obtain ⟨h1, g2, hf⟩ := obind hf
  obtain rfl := Option.some.inj hf
  exact fr_throwS hx hb hml hts hfl hown K hC hR th_RX7_60_64_1 st_RX7_159 hl.1 dX7_cut_28 dX7_cut_31 dX7_cut_32 dX7_cut_34 dX7_cut_37 hno (by exact Nat.le_of_ble_eq_true rfl) (catL _ _ (by exact Nat.le_of_ble_eq_true rfl) (by exact Nat.le_of_ble_eq_true rfl)) hlocks g2
set_option maxHeartbeats 4000000 in
set_option maxRecDepth 100000 in
theorem w_X7_cut_L59 {p : Program} {l : Launch} {e : Env} {s : State} {m : MethodId} {args : Array Value} {below : List Frame} {meth : Method} {c : Code} {D : va_G} {cA : Nat → ClassId} {h0 : fSt} {r : ((Int32 ⊕ Nat) × fSt)} (M : fM p s m args meth c D cA h0 { frames := 8, cells := fCB h0 - fZ h0, slots := fLB h0 - fL h0, locals := 134 } cX7_cut 8 (some (.boolean)) RX7) (hfl : l.stackTraces = false) (hno : ∀ x ∈ c.exceptionTable.toList, False)  (h : fSt) (hf : f_X7_cut_L59  h = some r) : ∀ (H : Heap) (locs : List Loc) (cells slots : Nat) (ls : Array Slot), fCur D cA s h0 h H locs → lv_has ls 8 [] → W p l e { frames := 8, cells := fCB h0 - fZ h0, slots := fLB h0 - fL h0, locals := 134 } s m args below meth c H locs cells slots (vx_MQ below (fQX D cA h0 r.2 (rI r.1)) (fXC D cA h0 r.2 (rI r.1)) args s (fCB h0 - fZ h0) (fLB h0 - fL h0) (fA h0)) (F0 m 59 ls []) := by
  obtain ⟨hx, hb, hml, hr, hlocks, hts, hown, K, hR⟩ := id M
  intro H locs cells slots ls hC hl
  obtain ⟨h3, g4, hf⟩ := obind hf
  obtain rfl := Option.some.inj hf
  exact fr_throwS hx hb hml hts hfl hown K hC hR th_RX7_60_64_1 st_RX7_161 hl.1 dX7_cut_59 dX7_cut_62 dX7_cut_63 dX7_cut_65 dX7_cut_68 hno (by exact Nat.le_of_ble_eq_true rfl) (catL _ _ (by exact Nat.le_of_ble_eq_true rfl) (by exact Nat.le_of_ble_eq_true rfl)) hlocks g4
set_option maxHeartbeats 4000000 in
set_option maxRecDepth 100000 in
theorem w_X7_cut_L82 {p : Program} {l : Launch} {e : Env} {s : State} {m : MethodId} {args : Array Value} {below : List Frame} {meth : Method} {c : Code} {D : va_G} {cA : Nat → ClassId} {h0 : fSt} {r : ((Int32 ⊕ Nat) × fSt)} (M : fM p s m args meth c D cA h0 { frames := 8, cells := fCB h0 - fZ h0, slots := fLB h0 - fL h0, locals := 134 } cX7_cut 8 (some (.boolean)) RX7) (hfl : l.stackTraces = false) (hno : ∀ x ∈ c.exceptionTable.toList, False) (a2 : Int32) (a3 : Int32) (a4 : Int32) (a5 : Int32) (a6 : Option Nat) (s0 : Int32) (h : fSt) (hf : f_X7_cut_L82 a2 a3 a4 a5 a6 s0 h = some r) : ∀ (H : Heap) (locs : List Loc) (cells slots : Nat) (ls : Array Slot), fCur D cA s h0 h H locs → lv_has ls 8 [(2, .int a2), (3, .int a3), (4, .int a4), (5, .int a5), (6, va_rf a6)] → W p l e { frames := 8, cells := fCB h0 - fZ h0, slots := fLB h0 - fL h0, locals := 134 } s m args below meth c H locs cells slots (vx_MQ below (fQX D cA h0 r.2 (rI r.1)) (fXC D cA h0 r.2 (rI r.1)) args s (fCB h0 - fZ h0) (fLB h0 - fL h0) (fA h0)) (F0 m 82 ls [.int s0]) := by
  obtain ⟨hx, hb, hml, hr, hlocks, hts, hown, K, hR⟩ := id M
  intro H locs cells slots ls hC hl
  refine lv_istore (lv' := [(7, .int s0), (2, .int a2), (3, .int a3), (4, .int a4), (5, .int a5), (6, va_rf a6)]) hx hb dX7_cut_82 hl (by decide) (congrArg (List.cons _) (flk rfl (flk rfl (flk rfl (flk rfl (flk (adj1 _ _) fln)))))) (fun ls hl => ?_)
  refine fr_aload hx hb dX7_cut_84 (lv_at hl 5 rfl) ?_
  obtain ⟨r5, g6, hf⟩ := obind hf
  refine fr_new hx hb hts hown K hC ct_2 hR g6 dv_2 kw822 kw457 kw26 dX7_cut_86 (fun H _ _ hC => ?_)
  refine lv_dup hx hb dX7_cut_89 (va_rf_cat _) ?_
  refine lv_iload_n hx hb dX7_cut_90 rfl (lv_at hl 1 rfl) ?_
  refine lv_iload_n hx hb dX7_cut_91 rfl (lv_at hl 2 rfl) ?_
  refine lv_iload hx hb dX7_cut_92 (lv_at hl 3 rfl) ?_
  refine lv_iload hx hb dX7_cut_94 (lv_at hl 4 rfl) ?_
  obtain ⟨r7, g8, hf⟩ := obind hf
  refine fr_callI hx hb hml hts hown K hC hR (c_X2_init hfl D cA g8) 4 kw460 kw823 kw459 kw26 rfl (by decide +kernel) ⟨by exact Nat.le_of_ble_eq_true rfl, by exact Nat.le_of_ble_eq_true rfl⟩ rfl hl.1 (cat8 _ (by exact Nat.le_of_ble_eq_true rfl)) dX7_cut_96 rfl (fun H locs _ _ hC => ?_)
  obtain ⟨h9, g10, hf⟩ := obind hf
  refine fr_put hx hb hts hown K hC ct_4 g10 (by decide) kw508 rfl rfl (nR _ _) (fR _ _) dX7_cut_99 (fun H locs hC => ?_)
  refine lv_iload hx hb dX7_cut_102 (lv_at hl 0 rfl) ?_
  by_cases c11 : s0 = 0 ∨ s0 = 1
  rotate_left
  · exact nomatch (oneg c11 hf)
  obtain rfl := Option.some.inj (opos c11 hf)
  exact fr_retQ (fr_zret hx hb hr hlocks hC c11 dX7_cut_104)
set_option maxHeartbeats 4000000 in
set_option maxRecDepth 100000 in
theorem w_X7_cut_L0 {p : Program} {l : Launch} {e : Env} {s : State} {m : MethodId} {args : Array Value} {below : List Frame} {meth : Method} {c : Code} {D : va_G} {cA : Nat → ClassId} {h0 : fSt} {r : ((Int32 ⊕ Nat) × fSt)} (M : fM p s m args meth c D cA h0 { frames := 8, cells := fCB h0 - fZ h0, slots := fLB h0 - fL h0, locals := 134 } cX7_cut 8 (some (.boolean)) RX7) (hfl : l.stackTraces = false) (hno : ∀ x ∈ c.exceptionTable.toList, False) (a0 : Option Nat) (a1 : Int32) (a2 : Int32) (a3 : Int32) (a4 : Int32) (a5 : Int32) (h : fSt) (hf : f_X7_cut_L0 a0 a1 a2 a3 a4 a5 h = some r) : ∀ (H : Heap) (locs : List Loc) (cells slots : Nat) (ls : Array Slot), fCur D cA s h0 h H locs → lv_has ls 8 [(0, va_rf a0), (1, .int a1), (2, .int a2), (3, .int a3), (4, .int a4), (5, .int a5)] → W p l e { frames := 8, cells := fCB h0 - fZ h0, slots := fLB h0 - fL h0, locals := 134 } s m args below meth c H locs cells slots (vx_MQ below (fQX D cA h0 r.2 (rI r.1)) (fXC D cA h0 r.2 (rI r.1)) args s (fCB h0 - fZ h0) (fLB h0 - fL h0) (fA h0)) (F0 m 0 ls []) := by
  obtain ⟨hx, hb, hml, hr, hlocks, hts, hown, K, hR⟩ := id M
  intro H locs cells slots ls hC hl
  refine fr_aload_n hx hb dX7_cut_0 rfl (lv_at hl 0 rfl) ?_
  refine lv_iload_n hx hb dX7_cut_1 rfl (lv_at hl 1 rfl) ?_
  obtain ⟨b14, q15, hf⟩ := obind hf
  obtain ⟨⟨v16 | k17, h18⟩, g13, hf⟩ := obind hf
  · refine fr_callVX hx hb hml hts hown K hC hR ct_7 (c_X7_foundBelowWhole hfl D cA g13) 1 q15 kw789 kw786 kw788 kw18 kw23 (by decide +kernel) ⟨by exact Nat.le_of_ble_eq_true rfl, by exact Nat.le_of_ble_eq_true rfl⟩ rfl hl.1 (cat8 _ (by exact Nat.le_of_ble_eq_true rfl)) dX7_cut_2 rfl (fun H locs _ _ hC => ?_)
    refine fr_astore (lv' := [(6, va_rf v16), (0, va_rf a0), (1, .int a1), (2, .int a2), (3, .int a3), (4, .int a4), (5, .int a5)]) hx hb dX7_cut_5 hl (by decide) (congrArg (List.cons _) (flk rfl (flk rfl (flk rfl (flk rfl (flk rfl (flk rfl fln))))))) (fun ls hl => ?_)
    refine lv_iload_n hx hb dX7_cut_7 rfl (lv_at hl 3 rfl) ?_
    refine lv_sipush (v := (-200 : Int32)) hx hb dX7_cut_8 (by decide) ?_
    refine lv_icmp_lt (tgt := 28) hx hb dX7_cut_11 (by decide) (fun c19 => ?_) (fun c19 => ?_)
    · replace hf := opos c19 hf
      exact w_X7_cut_L28 M hfl hno _ hf _ _ _ _ _ hC (lv_sub hl [] rfl)
    · replace hf := oneg c19 hf
      refine lv_iload hx hb dX7_cut_14 (lv_at hl 5 rfl) ?_
      refine lv_sipush (v := (200 : Int32)) hx hb dX7_cut_16 (by decide) ?_
      refine lv_icmp_gt (tgt := 28) hx hb dX7_cut_19 (by decide) (fun c20 => ?_) (fun c20 => ?_)
      · replace hf := opos c20 hf
        exact w_X7_cut_L28 M hfl hno _ hf _ _ _ _ _ hC (lv_sub hl [] rfl)
      · replace hf := oneg c20 hf
        refine lv_iload_n hx hb dX7_cut_22 rfl (lv_at hl 3 rfl) ?_
        refine lv_iload hx hb dX7_cut_23 (lv_at hl 5 rfl) ?_
        refine lv_icmp_le (tgt := 38) hx hb dX7_cut_25 (by decide) (fun c21 => ?_) (fun c21 => ?_)
        · replace hf := opos c21 hf
          refine lv_iload_n hx hb dX7_cut_38 rfl (lv_at hl 4 rfl) ?_
          refine lv_sipush (v := (-200 : Int32)) hx hb dX7_cut_39 (by decide) ?_
          refine lv_icmp_lt (tgt := 59) hx hb dX7_cut_42 (by decide) (fun c22 => ?_) (fun c22 => ?_)
          · replace hf := opos c22 hf
            exact w_X7_cut_L59 M hfl hno _ hf _ _ _ _ _ hC (lv_sub hl [] rfl)
          · replace hf := oneg c22 hf
            refine lv_iload hx hb dX7_cut_45 (lv_at hl 6 rfl) ?_
            refine lv_sipush (v := (200 : Int32)) hx hb dX7_cut_47 (by decide) ?_
            refine lv_icmp_gt (tgt := 59) hx hb dX7_cut_50 (by decide) (fun c23 => ?_) (fun c23 => ?_)
            · replace hf := opos c23 hf
              exact w_X7_cut_L59 M hfl hno _ hf _ _ _ _ _ hC (lv_sub hl [] rfl)
            · replace hf := oneg c23 hf
              refine lv_iload_n hx hb dX7_cut_53 rfl (lv_at hl 4 rfl) ?_
              refine lv_iload hx hb dX7_cut_54 (lv_at hl 6 rfl) ?_
              refine lv_icmp_le (tgt := 69) hx hb dX7_cut_56 (by decide) (fun c24 => ?_) (fun c24 => ?_)
              · replace hf := opos c24 hf
                refine fr_aload hx hb dX7_cut_69 (lv_at hl 0 rfl) ?_
                obtain ⟨x25, g26, hf⟩ := obind hf
                refine fr_get hx hb hts hown K hC ct_4 (fgR_get g26) (by decide) kw508 rfl dX7_cut_71 ?_
                refine fr_ifnull (tgt := 81) hx hb dX7_cut_74 (by decide) (fun c27 => ?_) (fun c27 => ?_)
                · replace hf := opos c27 hf
                  refine lv_iconst (v := (0 : Int32)) hx hb dX7_cut_81 (by decide) ?_
                  exact w_X7_cut_L82 M hfl hno _ _ _ _ _ _ _ hf _ _ _ _ _ hC (lv_sub hl [3, 4, 5, 6, 0] rfl)
                · replace hf := oneg c27 hf
                  refine lv_iconst (v := (1 : Int32)) hx hb dX7_cut_77 (by decide) ?_
                  refine lv_goto (tgt := 82) hx hb dX7_cut_78 (by decide) ?_
                  exact w_X7_cut_L82 M hfl hno _ _ _ _ _ _ _ hf _ _ _ _ _ hC (lv_sub hl [3, 4, 5, 6, 0] rfl)
              · replace hf := oneg c24 hf
                exact w_X7_cut_L59 M hfl hno _ hf _ _ _ _ _ hC (lv_sub hl [] rfl)
        · replace hf := oneg c21 hf
          exact w_X7_cut_L28 M hfl hno _ hf _ _ _ _ _ hC (lv_sub hl [] rfl)
  · obtain rfl := Option.some.inj hf
    refine fr_callVT hx hb hml hts hown K hC hR ct_7 (c_X7_foundBelowWhole hfl D cA g13) 1 q15 kw789 kw786 kw788 kw18 kw23 (by decide +kernel) ⟨by exact Nat.le_of_ble_eq_true rfl, by exact Nat.le_of_ble_eq_true rfl⟩ rfl hl.1 (cat8 _ (by exact Nat.le_of_ble_eq_true rfl)) dX7_cut_2 rfl (fun H locs _ _ q ce hC e1 e2 e3 => ?_)
    exact fr_out (fun x hx9 => (hno x hx9).elim) hlocks hC e1 e2 e3
set_option maxRecDepth 100000 in
theorem c_X7_cut {l : Launch} (hfl : l.stackTraces = false) (D : va_G) (cA : Nat → ClassId) {o : Nat} {p0 : Int32} {p1 : Int32} {p2 : Int32} {p3 : Int32} {p4 : Int32} {h : fSt} {r : ((Int32 ⊕ Nat) × fSt)} (hf : f_X7_cut o p0 p1 p2 p3 p4 h = some r) : fMetX l yX7_cut (wsC yX7_cut cX7_cut 8 (some (.boolean))) (8) (134) D cA [.ref o, .int p0, .int p1, .int p2, .int p3, .int p4] h r.2 (rI r.1) := by
  exact fMetX.of (own := RX7) (by decide +kernel) rfl (lva1 rfl (lva1 rfl (lva1 rfl (lva1 rfl (lva1 rfl (lva1 rfl lva0)))))) (lgl1 rfl (lgl1 rfl (lgl1 rfl (lgl1 rfl (lgl1 rfl (lgl1 rfl lgl0)))))) (Nat.le_of_ble_eq_true rfl) (fun p e s m args below meth c ls hno M hC hl => by
    have hl : lv_has ls 8 [(0, va_rf (some o)), (1, .int p0), (2, .int p1), (3, .int p2), (4, .int p3), (5, .int p4)] := hl
    exact w_X7_cut_L0 M hfl hno _ _ _ _ _ _ _ hf _ _ _ _ _ hC (lv_sub hl [0, 1, 2, 3, 4, 5] rfl))
set_option maxHeartbeats 4000000 in
set_option maxRecDepth 100000 in
theorem w_X7_look_L30 {p : Program} {l : Launch} {e : Env} {s : State} {m : MethodId} {args : Array Value} {below : List Frame} {meth : Method} {c : Code} {D : va_G} {cA : Nat → ClassId} {h0 : fSt} {r : ((Int32 ⊕ Nat) × fSt)} (M : fM p s m args meth c D cA h0 { frames := 18, cells := fCB h0 - fZ h0, slots := fLB h0 - fL h0, locals := 426 } cX7_look 7 (some (.int)) RX7) (hfl : l.stackTraces = false) (hno : ∀ x ∈ c.exceptionTable.toList, False)  (h : fSt) (hf : f_X7_look_L30  h = some r) : ∀ (H : Heap) (locs : List Loc) (cells slots : Nat) (ls : Array Slot), fCur D cA s h0 h H locs → lv_has ls 7 [] → W p l e { frames := 18, cells := fCB h0 - fZ h0, slots := fLB h0 - fL h0, locals := 426 } s m args below meth c H locs cells slots (vx_MQ below (fQX D cA h0 r.2 (rI r.1)) (fXC D cA h0 r.2 (rI r.1)) args s (fCB h0 - fZ h0) (fLB h0 - fL h0) (fA h0)) (F0 m 30 ls []) := by
  obtain ⟨hx, hb, hml, hr, hlocks, hts, hown, K, hR⟩ := id M
  intro H locs cells slots ls hC hl
  obtain ⟨h1, g2, hf⟩ := obind hf
  obtain rfl := Option.some.inj hf
  exact fr_throwS hx hb hml hts hfl hown K hC hR th_RX7_60_64_1 st_RX7_151 hl.1 dX7_look_30 dX7_look_33 dX7_look_34 dX7_look_36 dX7_look_39 hno (by exact Nat.le_of_ble_eq_true rfl) (catL _ _ (by exact Nat.le_of_ble_eq_true rfl) (by exact Nat.le_of_ble_eq_true rfl)) hlocks g2
set_option maxHeartbeats 4000000 in
set_option maxRecDepth 100000 in
theorem w_X7_look_L0 {p : Program} {l : Launch} {e : Env} {s : State} {m : MethodId} {args : Array Value} {below : List Frame} {meth : Method} {c : Code} {D : va_G} {cA : Nat → ClassId} {h0 : fSt} {r : ((Int32 ⊕ Nat) × fSt)} (M : fM p s m args meth c D cA h0 { frames := 18, cells := fCB h0 - fZ h0, slots := fLB h0 - fL h0, locals := 426 } cX7_look 7 (some (.int)) RX7) (hfl : l.stackTraces = false) (hno : ∀ x ∈ c.exceptionTable.toList, False) (a0 : Option Nat) (a1 : Int32) (a2 : Int32) (a3 : Int32) (a4 : Int32) (h : fSt) (hf : f_X7_look_L0 a0 a1 a2 a3 a4 h = some r) : ∀ (H : Heap) (locs : List Loc) (cells slots : Nat) (ls : Array Slot), fCur D cA s h0 h H locs → lv_has ls 7 [(0, va_rf a0), (1, .int a1), (2, .int a2), (3, .int a3), (4, .int a4)] → W p l e { frames := 18, cells := fCB h0 - fZ h0, slots := fLB h0 - fL h0, locals := 426 } s m args below meth c H locs cells slots (vx_MQ below (fQX D cA h0 r.2 (rI r.1)) (fXC D cA h0 r.2 (rI r.1)) args s (fCB h0 - fZ h0) (fLB h0 - fL h0) (fA h0)) (F0 m 0 ls []) := by
  obtain ⟨hx, hb, hml, hr, hlocks, hts, hown, K, hR⟩ := id M
  intro H locs cells slots ls hC hl
  refine fr_aload_n hx hb dX7_look_0 rfl (lv_at hl 0 rfl) ?_
  refine lv_iload_n hx hb dX7_look_1 rfl (lv_at hl 1 rfl) ?_
  obtain ⟨b5, q6, hf⟩ := obind hf
  obtain ⟨⟨v7 | k8, h9⟩, g4, hf⟩ := obind hf
  · refine fr_callVX hx hb hml hts hown K hC hR ct_7 (c_X7_foundBelowWhole hfl D cA g4) 1 q6 kw789 kw786 kw788 kw18 kw23 (by decide +kernel) ⟨by exact Nat.le_of_ble_eq_true rfl, by exact Nat.le_of_ble_eq_true rfl⟩ rfl hl.1 (cat8 _ (by exact Nat.le_of_ble_eq_true rfl)) dX7_look_2 rfl (fun H locs _ _ hC => ?_)
    refine fr_astore (lv' := [(5, va_rf v7), (0, va_rf a0), (1, .int a1), (2, .int a2), (3, .int a3), (4, .int a4)]) hx hb dX7_look_5 hl (by decide) (congrArg (List.cons _) (flk rfl (flk rfl (flk rfl (flk rfl (flk rfl fln)))))) (fun ls hl => ?_)
    refine lv_iload_n hx hb dX7_look_7 rfl (lv_at hl 3 rfl) ?_
    refine lv_bipush (v := (-9 : Int32)) hx hb dX7_look_8 (by decide) ?_
    refine lv_bipush (v := (9 : Int32)) hx hb dX7_look_10 (by decide) ?_
    obtain ⟨r10, g11, hf⟩ := obind hf
    refine fr_callS hx hb hml hts hown K hC hR (c_X7_isFrom hfl D cA g11) 3 kw154 kw152 kw153 kw23 (by decide +kernel) ⟨by exact Nat.le_of_ble_eq_true rfl, by exact Nat.le_of_ble_eq_true rfl⟩ rfl hl.1 (cat8 _ (by exact Nat.le_of_ble_eq_true rfl)) dX7_look_12 rfl (fun H locs _ _ hC => ?_)
    refine lv_if_eq (tgt := 30) hx hb dX7_look_15 (by decide) (fun c12 => ?_) (fun c12 => ?_)
    · replace hf := opos c12 hf
      exact w_X7_look_L30 M hfl hno _ hf _ _ _ _ _ hC (lv_sub hl [] rfl)
    · replace hf := oneg c12 hf
      refine fr_aload hx hb dX7_look_18 (lv_at hl 0 rfl) ?_
      obtain ⟨x13, g14, hf⟩ := obind hf
      refine fr_get hx hb hts hown K hC ct_4 (fgR_get g14) (by decide) kw495 rfl dX7_look_20 ?_
      refine lv_iload_n hx hb dX7_look_23 rfl (lv_at hl 4 rfl) ?_
      obtain ⟨b17, q18, hf⟩ := obind hf
      obtain ⟨r15, g16, hf⟩ := obind hf
      refine fr_callV hx hb hml hts hown K hC hR ct_6 (c_X6_allows hfl D cA g16) 1 q18 kw794 kw791 kw792 kw793 kw25 (by decide +kernel) ⟨by exact Nat.le_of_ble_eq_true rfl, by exact Nat.le_of_ble_eq_true rfl⟩ rfl hl.1 (cat8 _ (by exact Nat.le_of_ble_eq_true rfl)) dX7_look_24 rfl (fun H locs _ _ hC => ?_)
      refine lv_if_ne (tgt := 40) hx hb dX7_look_27 (by decide) (fun c19 => ?_) (fun c19 => ?_)
      · replace hf := oneg c19 hf
        refine fr_aload hx hb dX7_look_40 (lv_at hl 0 rfl) ?_
        obtain ⟨x20, g21, hf⟩ := obind hf
        refine fr_get hx hb hts hown K hC ct_4 (fgR_get g21) (by decide) kw495 rfl dX7_look_42 ?_
        obtain ⟨x22, g23, hf⟩ := obind hf
        refine fr_get hx hb hts hown K hC ct_6 (fgI_get g23) (by decide) kw426 rfl dX7_look_45 ?_
        refine lv_istore (lv' := [(6, .int x22), (5, va_rf v7), (0, va_rf a0), (1, .int a1), (2, .int a2), (3, .int a3), (4, .int a4)]) hx hb dX7_look_48 hl (by decide) (congrArg (List.cons _) (flk (adj1 _ _) (flk rfl (flk rfl (flk rfl (flk rfl (flk rfl fln))))))) (fun ls hl => ?_)
        refine fr_aload hx hb dX7_look_50 (lv_at hl 1 rfl) ?_
        refine lv_iload_n hx hb dX7_look_52 rfl (lv_at hl 4 rfl) ?_
        obtain ⟨h24, g25, hf⟩ := obind hf
        refine fr_put hx hb hts hown K hC ct_4 g25 (by decide) kw504 rfl rfl rfl rfl dX7_look_53 (fun H locs hC => ?_)
        refine fr_aload hx hb dX7_look_56 (lv_at hl 1 rfl) ?_
        obtain ⟨x26, g27, hf⟩ := obind hf
        refine fr_get hx hb hts hown K hC ct_4 (fgR_get g27) (by decide) kw495 rfl dX7_look_58 ?_
        refine lv_iload_n hx hb dX7_look_61 rfl (lv_at hl 5 rfl) ?_
        obtain ⟨h28, g29, hf⟩ := obind hf
        refine fr_put hx hb hts hown K hC ct_6 g29 (by decide) kw426 rfl rfl rfl rfl dX7_look_62 (fun H locs hC => ?_)
        refine fr_aload hx hb dX7_look_65 (lv_at hl 1 rfl) ?_
        refine lv_iload hx hb dX7_look_67 (lv_at hl 6 rfl) ?_
        obtain ⟨h30, g31, hf⟩ := obind hf
        obtain ⟨z32, g31⟩ := fputZ_inv g31
        refine fr_put hx hb hts hown K hC ct_4 g31 (by decide) kw505 rfl rfl (nZ z32) (fZ9 z32) dX7_look_69 (fun H locs hC => ?_)
        refine fr_aload_n hx hb dX7_look_72 rfl (lv_at hl 2 rfl) ?_
        obtain ⟨b35, q36, hf⟩ := obind hf
        obtain ⟨r33, g34, hf⟩ := obind hf
        refine fr_callV hx hb hml hts hown K hC hR ct_7 (c_X7_layOrder hfl D cA g34) 0 q36 kw767 kw764 kw766 kw15 kw23 (by decide +kernel) ⟨by exact Nat.le_of_ble_eq_true rfl, by exact Nat.le_of_ble_eq_true rfl⟩ rfl hl.1 (cat8 _ (by exact Nat.le_of_ble_eq_true rfl)) dX7_look_73 rfl (fun H locs _ _ hC => ?_)
        refine lv_iload hx hb dX7_look_76 (lv_at hl 0 rfl) ?_
        obtain rfl := Option.some.inj hf
        exact fr_retQ (fr_iret hx hb hr hlocks hC dX7_look_78)
      · replace hf := opos c19 hf
        exact w_X7_look_L30 M hfl hno _ hf _ _ _ _ _ hC (lv_sub hl [] rfl)
  · obtain rfl := Option.some.inj hf
    refine fr_callVT hx hb hml hts hown K hC hR ct_7 (c_X7_foundBelowWhole hfl D cA g4) 1 q6 kw789 kw786 kw788 kw18 kw23 (by decide +kernel) ⟨by exact Nat.le_of_ble_eq_true rfl, by exact Nat.le_of_ble_eq_true rfl⟩ rfl hl.1 (cat8 _ (by exact Nat.le_of_ble_eq_true rfl)) dX7_look_2 rfl (fun H locs _ _ q ce hC e1 e2 e3 => ?_)
    exact fr_out (fun x hx9 => (hno x hx9).elim) hlocks hC e1 e2 e3
set_option maxRecDepth 100000 in
theorem c_X7_look {l : Launch} (hfl : l.stackTraces = false) (D : va_G) (cA : Nat → ClassId) {o : Nat} {p0 : Int32} {p1 : Int32} {p2 : Int32} {p3 : Int32} {h : fSt} {r : ((Int32 ⊕ Nat) × fSt)} (hf : f_X7_look o p0 p1 p2 p3 h = some r) : fMetX l yX7_look (wsC yX7_look cX7_look 7 (some (.int))) (18) (426) D cA [.ref o, .int p0, .int p1, .int p2, .int p3] h r.2 (rI r.1) := by
  exact fMetX.of (own := RX7) (by decide +kernel) rfl (lva1 rfl (lva1 rfl (lva1 rfl (lva1 rfl (lva1 rfl lva0))))) (lgl1 rfl (lgl1 rfl (lgl1 rfl (lgl1 rfl (lgl1 rfl lgl0))))) (Nat.le_of_ble_eq_true rfl) (fun p e s m args below meth c ls hno M hC hl => by
    have hl : lv_has ls 7 [(0, va_rf (some o)), (1, .int p0), (2, .int p1), (3, .int p2), (4, .int p3)] := hl
    exact w_X7_look_L0 M hfl hno _ _ _ _ _ _ hf _ _ _ _ _ hC (lv_sub hl [0, 1, 2, 3, 4] rfl))
set_option maxHeartbeats 4000000 in
set_option maxRecDepth 100000 in
theorem w_X7_move_L31 {p : Program} {l : Launch} {e : Env} {s : State} {m : MethodId} {args : Array Value} {below : List Frame} {meth : Method} {c : Code} {D : va_G} {cA : Nat → ClassId} {h0 : fSt} {r : ((Int32 ⊕ Nat) × fSt)} (M : fM p s m args meth c D cA h0 { frames := 8, cells := fCB h0 - fZ h0, slots := fLB h0 - fL h0, locals := 134 } cX7_move 6 (some (.int)) RX7) (hfl : l.stackTraces = false) (hno : ∀ x ∈ c.exceptionTable.toList, False)  (h : fSt) (hf : f_X7_move_L31  h = some r) : ∀ (H : Heap) (locs : List Loc) (cells slots : Nat) (ls : Array Slot), fCur D cA s h0 h H locs → lv_has ls 6 [] → W p l e { frames := 8, cells := fCB h0 - fZ h0, slots := fLB h0 - fL h0, locals := 134 } s m args below meth c H locs cells slots (vx_MQ below (fQX D cA h0 r.2 (rI r.1)) (fXC D cA h0 r.2 (rI r.1)) args s (fCB h0 - fZ h0) (fLB h0 - fL h0) (fA h0)) (F0 m 31 ls []) := by
  obtain ⟨hx, hb, hml, hr, hlocks, hts, hown, K, hR⟩ := id M
  intro H locs cells slots ls hC hl
  obtain ⟨h1, g2, hf⟩ := obind hf
  obtain rfl := Option.some.inj hf
  exact fr_throwS hx hb hml hts hfl hown K hC hR th_RX7_60_64_1 st_RX7_126 hl.1 dX7_move_31 dX7_move_34 dX7_move_35 dX7_move_37 dX7_move_40 hno (by exact Nat.le_of_ble_eq_true rfl) (catL _ _ (by exact Nat.le_of_ble_eq_true rfl) (by exact Nat.le_of_ble_eq_true rfl)) hlocks g2
set_option maxHeartbeats 4000000 in
set_option maxRecDepth 100000 in
theorem w_X7_move_L0 {p : Program} {l : Launch} {e : Env} {s : State} {m : MethodId} {args : Array Value} {below : List Frame} {meth : Method} {c : Code} {D : va_G} {cA : Nat → ClassId} {h0 : fSt} {r : ((Int32 ⊕ Nat) × fSt)} (M : fM p s m args meth c D cA h0 { frames := 8, cells := fCB h0 - fZ h0, slots := fLB h0 - fL h0, locals := 134 } cX7_move 6 (some (.int)) RX7) (hfl : l.stackTraces = false) (hno : ∀ x ∈ c.exceptionTable.toList, False) (a0 : Option Nat) (a1 : Int32) (a2 : Int32) (a3 : Int32) (h : fSt) (hf : f_X7_move_L0 a0 a1 a2 a3 h = some r) : ∀ (H : Heap) (locs : List Loc) (cells slots : Nat) (ls : Array Slot), fCur D cA s h0 h H locs → lv_has ls 6 [(0, va_rf a0), (1, .int a1), (2, .int a2), (3, .int a3)] → W p l e { frames := 8, cells := fCB h0 - fZ h0, slots := fLB h0 - fL h0, locals := 134 } s m args below meth c H locs cells slots (vx_MQ below (fQX D cA h0 r.2 (rI r.1)) (fXC D cA h0 r.2 (rI r.1)) args s (fCB h0 - fZ h0) (fLB h0 - fL h0) (fA h0)) (F0 m 0 ls []) := by
  obtain ⟨hx, hb, hml, hr, hlocks, hts, hown, K, hR⟩ := id M
  intro H locs cells slots ls hC hl
  refine fr_aload_n hx hb dX7_move_0 rfl (lv_at hl 0 rfl) ?_
  refine lv_iload_n hx hb dX7_move_1 rfl (lv_at hl 1 rfl) ?_
  obtain ⟨b5, q6, hf⟩ := obind hf
  obtain ⟨⟨v7 | k8, h9⟩, g4, hf⟩ := obind hf
  · refine fr_callVX hx hb hml hts hown K hC hR ct_7 (c_X7_foundBelowWhole hfl D cA g4) 1 q6 kw789 kw786 kw788 kw18 kw23 (by decide +kernel) ⟨by exact Nat.le_of_ble_eq_true rfl, by exact Nat.le_of_ble_eq_true rfl⟩ rfl hl.1 (cat8 _ (by exact Nat.le_of_ble_eq_true rfl)) dX7_move_2 rfl (fun H locs _ _ hC => ?_)
    refine fr_astore (lv' := [(4, va_rf v7), (0, va_rf a0), (1, .int a1), (2, .int a2), (3, .int a3)]) hx hb dX7_move_5 hl (by decide) (congrArg (List.cons _) (flk rfl (flk rfl (flk rfl (flk rfl fln))))) (fun ls hl => ?_)
    refine fr_aload hx hb dX7_move_7 (lv_at hl 0 rfl) ?_
    obtain ⟨x10, g11, hf⟩ := obind hf
    refine fr_get hx hb hts hown K hC ct_4 (fgR_get g11) (by decide) kw487 rfl dX7_move_9 ?_
    refine lv_iload_n hx hb dX7_move_12 rfl (lv_at hl 3 rfl) ?_
    obtain ⟨b14, q15, hf⟩ := obind hf
    obtain ⟨r12, g13, hf⟩ := obind hf
    refine fr_callV hx hb hml hts hown K hC hR ct_6 (c_X6_allows hfl D cA g13) 1 q15 kw794 kw791 kw792 kw793 kw25 (by decide +kernel) ⟨by exact Nat.le_of_ble_eq_true rfl, by exact Nat.le_of_ble_eq_true rfl⟩ rfl hl.1 (cat8 _ (by exact Nat.le_of_ble_eq_true rfl)) dX7_move_13 rfl (fun H locs _ _ hC => ?_)
    refine lv_if_eq (tgt := 31) hx hb dX7_move_16 (by decide) (fun c16 => ?_) (fun c16 => ?_)
    · replace hf := opos c16 hf
      exact w_X7_move_L31 M hfl hno _ hf _ _ _ _ _ hC (lv_sub hl [] rfl)
    · replace hf := oneg c16 hf
      refine fr_aload hx hb dX7_move_19 (lv_at hl 0 rfl) ?_
      obtain ⟨x17, g18, hf⟩ := obind hf
      refine fr_get hx hb hts hown K hC ct_4 (fgR_get g18) (by decide) kw490 rfl dX7_move_21 ?_
      refine lv_iload_n hx hb dX7_move_24 rfl (lv_at hl 4 rfl) ?_
      obtain ⟨b21, q22, hf⟩ := obind hf
      obtain ⟨r19, g20, hf⟩ := obind hf
      refine fr_callV hx hb hml hts hown K hC hR ct_6 (c_X6_allows hfl D cA g20) 1 q22 kw794 kw791 kw792 kw793 kw25 (by decide +kernel) ⟨by exact Nat.le_of_ble_eq_true rfl, by exact Nat.le_of_ble_eq_true rfl⟩ rfl hl.1 (cat8 _ (by exact Nat.le_of_ble_eq_true rfl)) dX7_move_25 rfl (fun H locs _ _ hC => ?_)
      refine lv_if_ne (tgt := 41) hx hb dX7_move_28 (by decide) (fun c23 => ?_) (fun c23 => ?_)
      · replace hf := oneg c23 hf
        refine fr_aload hx hb dX7_move_41 (lv_at hl 0 rfl) ?_
        obtain ⟨x24, g25, hf⟩ := obind hf
        refine fr_get hx hb hts hown K hC ct_4 (fgR_get g25) (by decide) kw487 rfl dX7_move_43 ?_
        obtain ⟨x26, g27, hf⟩ := obind hf
        refine fr_get hx hb hts hown K hC ct_6 (fgI_get g27) (by decide) kw426 rfl dX7_move_46 ?_
        refine lv_istore (lv' := [(5, .int x26), (4, va_rf v7), (0, va_rf a0), (1, .int a1), (2, .int a2), (3, .int a3)]) hx hb dX7_move_49 hl (by decide) (congrArg (List.cons _) (flk (adj1 _ _) (flk rfl (flk rfl (flk rfl (flk rfl fln)))))) (fun ls hl => ?_)
        refine fr_aload hx hb dX7_move_51 (lv_at hl 1 rfl) ?_
        obtain ⟨x28, g29, hf⟩ := obind hf
        refine fr_get hx hb hts hown K hC ct_4 (fgR_get g29) (by decide) kw487 rfl dX7_move_53 ?_
        refine lv_iload_n hx hb dX7_move_56 rfl (lv_at hl 4 rfl) ?_
        obtain ⟨h30, g31, hf⟩ := obind hf
        refine fr_put hx hb hts hown K hC ct_6 g31 (by decide) kw426 rfl rfl rfl rfl dX7_move_57 (fun H locs hC => ?_)
        refine fr_aload hx hb dX7_move_60 (lv_at hl 1 rfl) ?_
        obtain ⟨x32, g33, hf⟩ := obind hf
        refine fr_get hx hb hts hown K hC ct_4 (fgR_get g33) (by decide) kw490 rfl dX7_move_62 ?_
        refine lv_iload_n hx hb dX7_move_65 rfl (lv_at hl 5 rfl) ?_
        obtain ⟨h34, g35, hf⟩ := obind hf
        refine fr_put hx hb hts hown K hC ct_6 g35 (by decide) kw426 rfl rfl rfl rfl dX7_move_66 (fun H locs hC => ?_)
        refine lv_iload hx hb dX7_move_69 (lv_at hl 0 rfl) ?_
        obtain rfl := Option.some.inj hf
        exact fr_retQ (fr_iret hx hb hr hlocks hC dX7_move_71)
      · replace hf := opos c23 hf
        exact w_X7_move_L31 M hfl hno _ hf _ _ _ _ _ hC (lv_sub hl [] rfl)
  · obtain rfl := Option.some.inj hf
    refine fr_callVT hx hb hml hts hown K hC hR ct_7 (c_X7_foundBelowWhole hfl D cA g4) 1 q6 kw789 kw786 kw788 kw18 kw23 (by decide +kernel) ⟨by exact Nat.le_of_ble_eq_true rfl, by exact Nat.le_of_ble_eq_true rfl⟩ rfl hl.1 (cat8 _ (by exact Nat.le_of_ble_eq_true rfl)) dX7_move_2 rfl (fun H locs _ _ q ce hC e1 e2 e3 => ?_)
    exact fr_out (fun x hx9 => (hno x hx9).elim) hlocks hC e1 e2 e3
set_option maxRecDepth 100000 in
theorem c_X7_move {l : Launch} (hfl : l.stackTraces = false) (D : va_G) (cA : Nat → ClassId) {o : Nat} {p0 : Int32} {p1 : Int32} {p2 : Int32} {h : fSt} {r : ((Int32 ⊕ Nat) × fSt)} (hf : f_X7_move o p0 p1 p2 h = some r) : fMetX l yX7_move (wsC yX7_move cX7_move 6 (some (.int))) (8) (134) D cA [.ref o, .int p0, .int p1, .int p2] h r.2 (rI r.1) := by
  exact fMetX.of (own := RX7) (by decide +kernel) rfl (lva1 rfl (lva1 rfl (lva1 rfl (lva1 rfl lva0)))) (lgl1 rfl (lgl1 rfl (lgl1 rfl (lgl1 rfl lgl0)))) (Nat.le_of_ble_eq_true rfl) (fun p e s m args below meth c ls hno M hC hl => by
    have hl : lv_has ls 6 [(0, va_rf (some o)), (1, .int p0), (2, .int p1), (3, .int p2)] := hl
    exact w_X7_move_L0 M hfl hno _ _ _ _ _ hf _ _ _ _ _ hC (lv_sub hl [0, 1, 2, 3] rfl))
set_option maxHeartbeats 4000000 in
set_option maxRecDepth 100000 in
theorem w_X7_scale_L25 {p : Program} {l : Launch} {e : Env} {s : State} {m : MethodId} {args : Array Value} {below : List Frame} {meth : Method} {c : Code} {D : va_G} {cA : Nat → ClassId} {h0 : fSt} {r : ((Int32 ⊕ Nat) × fSt)} (M : fM p s m args meth c D cA h0 { frames := 8, cells := fCB h0 - fZ h0, slots := fLB h0 - fL h0, locals := 134 } cX7_scale 6 (some (.int)) RX7) (hfl : l.stackTraces = false) (hno : ∀ x ∈ c.exceptionTable.toList, False)  (h : fSt) (hf : f_X7_scale_L25  h = some r) : ∀ (H : Heap) (locs : List Loc) (cells slots : Nat) (ls : Array Slot), fCur D cA s h0 h H locs → lv_has ls 6 [] → W p l e { frames := 8, cells := fCB h0 - fZ h0, slots := fLB h0 - fL h0, locals := 134 } s m args below meth c H locs cells slots (vx_MQ below (fQX D cA h0 r.2 (rI r.1)) (fXC D cA h0 r.2 (rI r.1)) args s (fCB h0 - fZ h0) (fLB h0 - fL h0) (fA h0)) (F0 m 25 ls []) := by
  obtain ⟨hx, hb, hml, hr, hlocks, hts, hown, K, hR⟩ := id M
  intro H locs cells slots ls hC hl
  obtain ⟨h1, g2, hf⟩ := obind hf
  obtain rfl := Option.some.inj hf
  exact fr_throwS hx hb hml hts hfl hown K hC hR th_RX7_60_64_1 st_RX7_131 hl.1 dX7_scale_25 dX7_scale_28 dX7_scale_29 dX7_scale_31 dX7_scale_34 hno (by exact Nat.le_of_ble_eq_true rfl) (catL _ _ (by exact Nat.le_of_ble_eq_true rfl) (by exact Nat.le_of_ble_eq_true rfl)) hlocks g2
set_option maxHeartbeats 4000000 in
set_option maxRecDepth 100000 in
theorem w_X7_scale_L0 {p : Program} {l : Launch} {e : Env} {s : State} {m : MethodId} {args : Array Value} {below : List Frame} {meth : Method} {c : Code} {D : va_G} {cA : Nat → ClassId} {h0 : fSt} {r : ((Int32 ⊕ Nat) × fSt)} (M : fM p s m args meth c D cA h0 { frames := 8, cells := fCB h0 - fZ h0, slots := fLB h0 - fL h0, locals := 134 } cX7_scale 6 (some (.int)) RX7) (hfl : l.stackTraces = false) (hno : ∀ x ∈ c.exceptionTable.toList, False) (a0 : Option Nat) (a1 : Int32) (a2 : Int32) (a3 : Int32) (h : fSt) (hf : f_X7_scale_L0 a0 a1 a2 a3 h = some r) : ∀ (H : Heap) (locs : List Loc) (cells slots : Nat) (ls : Array Slot), fCur D cA s h0 h H locs → lv_has ls 6 [(0, va_rf a0), (1, .int a1), (2, .int a2), (3, .int a3)] → W p l e { frames := 8, cells := fCB h0 - fZ h0, slots := fLB h0 - fL h0, locals := 134 } s m args below meth c H locs cells slots (vx_MQ below (fQX D cA h0 r.2 (rI r.1)) (fXC D cA h0 r.2 (rI r.1)) args s (fCB h0 - fZ h0) (fLB h0 - fL h0) (fA h0)) (F0 m 0 ls []) := by
  obtain ⟨hx, hb, hml, hr, hlocks, hts, hown, K, hR⟩ := id M
  intro H locs cells slots ls hC hl
  refine fr_aload_n hx hb dX7_scale_0 rfl (lv_at hl 0 rfl) ?_
  refine lv_iload_n hx hb dX7_scale_1 rfl (lv_at hl 1 rfl) ?_
  obtain ⟨b5, q6, hf⟩ := obind hf
  obtain ⟨⟨v7 | k8, h9⟩, g4, hf⟩ := obind hf
  · refine fr_callVX hx hb hml hts hown K hC hR ct_7 (c_X7_foundBelowWhole hfl D cA g4) 1 q6 kw789 kw786 kw788 kw18 kw23 (by decide +kernel) ⟨by exact Nat.le_of_ble_eq_true rfl, by exact Nat.le_of_ble_eq_true rfl⟩ rfl hl.1 (cat8 _ (by exact Nat.le_of_ble_eq_true rfl)) dX7_scale_2 rfl (fun H locs _ _ hC => ?_)
    refine fr_astore (lv' := [(4, va_rf v7), (0, va_rf a0), (1, .int a1), (2, .int a2), (3, .int a3)]) hx hb dX7_scale_5 hl (by decide) (congrArg (List.cons _) (flk rfl (flk rfl (flk rfl (flk rfl fln))))) (fun ls hl => ?_)
    refine lv_iload_n hx hb dX7_scale_7 rfl (lv_at hl 3 rfl) ?_
    refine lv_iconst (v := (1 : Int32)) hx hb dX7_scale_8 (by decide) ?_
    refine lv_iconst (v := (4 : Int32)) hx hb dX7_scale_9 (by decide) ?_
    obtain ⟨r10, g11, hf⟩ := obind hf
    refine fr_callS hx hb hml hts hown K hC hR (c_X7_isFrom hfl D cA g11) 3 kw154 kw152 kw153 kw23 (by decide +kernel) ⟨by exact Nat.le_of_ble_eq_true rfl, by exact Nat.le_of_ble_eq_true rfl⟩ rfl hl.1 (cat8 _ (by exact Nat.le_of_ble_eq_true rfl)) dX7_scale_10 rfl (fun H locs _ _ hC => ?_)
    refine lv_if_eq (tgt := 25) hx hb dX7_scale_13 (by decide) (fun c12 => ?_) (fun c12 => ?_)
    · replace hf := opos c12 hf
      exact w_X7_scale_L25 M hfl hno _ hf _ _ _ _ _ hC (lv_sub hl [] rfl)
    · replace hf := oneg c12 hf
      refine lv_iload_n hx hb dX7_scale_16 rfl (lv_at hl 4 rfl) ?_
      refine lv_iconst (v := (1 : Int32)) hx hb dX7_scale_17 (by decide) ?_
      refine lv_iconst (v := (4 : Int32)) hx hb dX7_scale_18 (by decide) ?_
      obtain ⟨r13, g14, hf⟩ := obind hf
      refine fr_callS hx hb hml hts hown K hC hR (c_X7_isFrom hfl D cA g14) 3 kw154 kw152 kw153 kw23 (by decide +kernel) ⟨by exact Nat.le_of_ble_eq_true rfl, by exact Nat.le_of_ble_eq_true rfl⟩ rfl hl.1 (cat8 _ (by exact Nat.le_of_ble_eq_true rfl)) dX7_scale_19 rfl (fun H locs _ _ hC => ?_)
      refine lv_if_ne (tgt := 35) hx hb dX7_scale_22 (by decide) (fun c15 => ?_) (fun c15 => ?_)
      · replace hf := oneg c15 hf
        refine fr_aload hx hb dX7_scale_35 (lv_at hl 0 rfl) ?_
        obtain ⟨x16, g17, hf⟩ := obind hf
        refine fr_get hx hb hts hown K hC ct_4 (fgI_get g17) (by decide) kw498 rfl dX7_scale_37 ?_
        refine lv_bipush (v := (10 : Int32)) hx hb dX7_scale_40 (by decide) ?_
        refine lv_imul hx hb dX7_scale_42 ?_
        refine fr_aload hx hb dX7_scale_43 (lv_at hl 0 rfl) ?_
        obtain ⟨x18, g19, hf⟩ := obind hf
        refine fr_get hx hb hts hown K hC ct_4 (fgI_get g19) (by decide) kw501 rfl dX7_scale_45 ?_
        refine lv_iadd hx hb dX7_scale_48 ?_
        refine lv_istore (lv' := [(5, .int ((x16 * (10 : Int32)) + x18)), (4, va_rf v7), (0, va_rf a0), (1, .int a1), (2, .int a2), (3, .int a3)]) hx hb dX7_scale_49 hl (by decide) (congrArg (List.cons _) (flk (adj1 _ _) (flk rfl (flk rfl (flk rfl (flk rfl fln)))))) (fun ls hl => ?_)
        refine fr_aload hx hb dX7_scale_51 (lv_at hl 1 rfl) ?_
        refine lv_iload_n hx hb dX7_scale_53 rfl (lv_at hl 4 rfl) ?_
        obtain ⟨h20, g21, hf⟩ := obind hf
        refine fr_put hx hb hts hown K hC ct_4 g21 (by decide) kw498 rfl rfl rfl rfl dX7_scale_54 (fun H locs hC => ?_)
        refine fr_aload hx hb dX7_scale_57 (lv_at hl 1 rfl) ?_
        refine lv_iload_n hx hb dX7_scale_59 rfl (lv_at hl 5 rfl) ?_
        obtain ⟨h22, g23, hf⟩ := obind hf
        refine fr_put hx hb hts hown K hC ct_4 g23 (by decide) kw501 rfl rfl rfl rfl dX7_scale_60 (fun H locs hC => ?_)
        refine lv_iload hx hb dX7_scale_63 (lv_at hl 0 rfl) ?_
        obtain rfl := Option.some.inj hf
        exact fr_retQ (fr_iret hx hb hr hlocks hC dX7_scale_65)
      · replace hf := opos c15 hf
        exact w_X7_scale_L25 M hfl hno _ hf _ _ _ _ _ hC (lv_sub hl [] rfl)
  · obtain rfl := Option.some.inj hf
    refine fr_callVT hx hb hml hts hown K hC hR ct_7 (c_X7_foundBelowWhole hfl D cA g4) 1 q6 kw789 kw786 kw788 kw18 kw23 (by decide +kernel) ⟨by exact Nat.le_of_ble_eq_true rfl, by exact Nat.le_of_ble_eq_true rfl⟩ rfl hl.1 (cat8 _ (by exact Nat.le_of_ble_eq_true rfl)) dX7_scale_2 rfl (fun H locs _ _ q ce hC e1 e2 e3 => ?_)
    exact fr_out (fun x hx9 => (hno x hx9).elim) hlocks hC e1 e2 e3
set_option maxRecDepth 100000 in
theorem c_X7_scale {l : Launch} (hfl : l.stackTraces = false) (D : va_G) (cA : Nat → ClassId) {o : Nat} {p0 : Int32} {p1 : Int32} {p2 : Int32} {h : fSt} {r : ((Int32 ⊕ Nat) × fSt)} (hf : f_X7_scale o p0 p1 p2 h = some r) : fMetX l yX7_scale (wsC yX7_scale cX7_scale 6 (some (.int))) (8) (134) D cA [.ref o, .int p0, .int p1, .int p2] h r.2 (rI r.1) := by
  exact fMetX.of (own := RX7) (by decide +kernel) rfl (lva1 rfl (lva1 rfl (lva1 rfl (lva1 rfl lva0)))) (lgl1 rfl (lgl1 rfl (lgl1 rfl (lgl1 rfl lgl0)))) (Nat.le_of_ble_eq_true rfl) (fun p e s m args below meth c ls hno M hC hl => by
    have hl : lv_has ls 6 [(0, va_rf (some o)), (1, .int p0), (2, .int p1), (3, .int p2)] := hl
    exact w_X7_scale_L0 M hfl hno _ _ _ _ _ hf _ _ _ _ _ hC (lv_sub hl [0, 1, 2, 3] rfl))
set_option maxHeartbeats 4000000 in
set_option maxRecDepth 100000 in
theorem w_X7_turn_L0 {p : Program} {l : Launch} {e : Env} {s : State} {m : MethodId} {args : Array Value} {below : List Frame} {meth : Method} {c : Code} {D : va_G} {cA : Nat → ClassId} {h0 : fSt} {r : ((Int32 ⊕ Nat) × fSt)} (M : fM p s m args meth c D cA h0 { frames := 8, cells := fCB h0 - fZ h0, slots := fLB h0 - fL h0, locals := 134 } cX7_turn 6 (some (.int)) RX7) (hfl : l.stackTraces = false) (hno : ∀ x ∈ c.exceptionTable.toList, False) (a0 : Option Nat) (a1 : Int32) (a2 : Int32) (a3 : Int32) (h : fSt) (hf : f_X7_turn_L0 a0 a1 a2 a3 h = some r) : ∀ (H : Heap) (locs : List Loc) (cells slots : Nat) (ls : Array Slot), fCur D cA s h0 h H locs → lv_has ls 6 [(0, va_rf a0), (1, .int a1), (2, .int a2), (3, .int a3)] → W p l e { frames := 8, cells := fCB h0 - fZ h0, slots := fLB h0 - fL h0, locals := 134 } s m args below meth c H locs cells slots (vx_MQ below (fQX D cA h0 r.2 (rI r.1)) (fXC D cA h0 r.2 (rI r.1)) args s (fCB h0 - fZ h0) (fLB h0 - fL h0) (fA h0)) (F0 m 0 ls []) := by
  obtain ⟨hx, hb, hml, hr, hlocks, hts, hown, K, hR⟩ := id M
  intro H locs cells slots ls hC hl
  refine fr_aload_n hx hb dX7_turn_0 rfl (lv_at hl 0 rfl) ?_
  refine lv_iload_n hx hb dX7_turn_1 rfl (lv_at hl 1 rfl) ?_
  obtain ⟨b3, q4, hf⟩ := obind hf
  obtain ⟨⟨v5 | k6, h7⟩, g2, hf⟩ := obind hf
  · refine fr_callVX hx hb hml hts hown K hC hR ct_7 (c_X7_foundBelowWhole hfl D cA g2) 1 q4 kw789 kw786 kw788 kw18 kw23 (by decide +kernel) ⟨by exact Nat.le_of_ble_eq_true rfl, by exact Nat.le_of_ble_eq_true rfl⟩ rfl hl.1 (cat8 _ (by exact Nat.le_of_ble_eq_true rfl)) dX7_turn_2 rfl (fun H locs _ _ hC => ?_)
    refine fr_astore (lv' := [(4, va_rf v5), (0, va_rf a0), (1, .int a1), (2, .int a2), (3, .int a3)]) hx hb dX7_turn_5 hl (by decide) (congrArg (List.cons _) (flk rfl (flk rfl (flk rfl (flk rfl fln))))) (fun ls hl => ?_)
    refine fr_aload hx hb dX7_turn_7 (lv_at hl 0 rfl) ?_
    obtain ⟨x8, g9, hf⟩ := obind hf
    refine fr_get hx hb hts hown K hC ct_4 (fgR_get g9) (by decide) kw493 rfl dX7_turn_9 ?_
    refine lv_iload_n hx hb dX7_turn_12 rfl (lv_at hl 3 rfl) ?_
    obtain ⟨b12, q13, hf⟩ := obind hf
    obtain ⟨r10, g11, hf⟩ := obind hf
    refine fr_callV hx hb hml hts hown K hC hR ct_6 (c_X6_allows hfl D cA g11) 1 q13 kw794 kw791 kw792 kw793 kw25 (by decide +kernel) ⟨by exact Nat.le_of_ble_eq_true rfl, by exact Nat.le_of_ble_eq_true rfl⟩ rfl hl.1 (cat8 _ (by exact Nat.le_of_ble_eq_true rfl)) dX7_turn_13 rfl (fun H locs _ _ hC => ?_)
    refine lv_if_ne (tgt := 29) hx hb dX7_turn_16 (by decide) (fun c14 => ?_) (fun c14 => ?_)
    · replace hf := oneg c14 hf
      refine fr_aload hx hb dX7_turn_29 (lv_at hl 0 rfl) ?_
      obtain ⟨x15, g16, hf⟩ := obind hf
      refine fr_get hx hb hts hown K hC ct_4 (fgR_get g16) (by decide) kw493 rfl dX7_turn_31 ?_
      obtain ⟨x17, g18, hf⟩ := obind hf
      refine fr_get hx hb hts hown K hC ct_6 (fgI_get g18) (by decide) kw426 rfl dX7_turn_34 ?_
      refine lv_istore (lv' := [(5, .int x17), (4, va_rf v5), (0, va_rf a0), (1, .int a1), (2, .int a2), (3, .int a3)]) hx hb dX7_turn_37 hl (by decide) (congrArg (List.cons _) (flk (adj1 _ _) (flk rfl (flk rfl (flk rfl (flk rfl fln)))))) (fun ls hl => ?_)
      refine fr_aload hx hb dX7_turn_39 (lv_at hl 1 rfl) ?_
      obtain ⟨x19, g20, hf⟩ := obind hf
      refine fr_get hx hb hts hown K hC ct_4 (fgR_get g20) (by decide) kw493 rfl dX7_turn_41 ?_
      refine lv_iload_n hx hb dX7_turn_44 rfl (lv_at hl 4 rfl) ?_
      obtain ⟨h21, g22, hf⟩ := obind hf
      refine fr_put hx hb hts hown K hC ct_6 g22 (by decide) kw426 rfl rfl rfl rfl dX7_turn_45 (fun H locs hC => ?_)
      refine fr_aload hx hb dX7_turn_48 (lv_at hl 1 rfl) ?_
      refine lv_iload_n hx hb dX7_turn_50 rfl (lv_at hl 5 rfl) ?_
      obtain ⟨h23, g24, hf⟩ := obind hf
      obtain ⟨z25, g24⟩ := fputZ_inv g24
      refine fr_put hx hb hts hown K hC ct_4 g24 (by decide) kw503 rfl rfl (nZ z25) (fZ9 z25) dX7_turn_51 (fun H locs hC => ?_)
      refine lv_iload hx hb dX7_turn_54 (lv_at hl 0 rfl) ?_
      obtain rfl := Option.some.inj hf
      exact fr_retQ (fr_iret hx hb hr hlocks hC dX7_turn_56)
    · replace hf := opos c14 hf
      obtain ⟨h26, g27, hf⟩ := obind hf
      obtain rfl := Option.some.inj hf
      exact fr_throwS hx hb hml hts hfl hown K hC hR th_RX7_60_64_1 st_RX7_142 hl.1 dX7_turn_19 dX7_turn_22 dX7_turn_23 dX7_turn_25 dX7_turn_28 hno (by exact Nat.le_of_ble_eq_true rfl) (catL _ _ (by exact Nat.le_of_ble_eq_true rfl) (by exact Nat.le_of_ble_eq_true rfl)) hlocks g27
  · obtain rfl := Option.some.inj hf
    refine fr_callVT hx hb hml hts hown K hC hR ct_7 (c_X7_foundBelowWhole hfl D cA g2) 1 q4 kw789 kw786 kw788 kw18 kw23 (by decide +kernel) ⟨by exact Nat.le_of_ble_eq_true rfl, by exact Nat.le_of_ble_eq_true rfl⟩ rfl hl.1 (cat8 _ (by exact Nat.le_of_ble_eq_true rfl)) dX7_turn_2 rfl (fun H locs _ _ q ce hC e1 e2 e3 => ?_)
    exact fr_out (fun x hx9 => (hno x hx9).elim) hlocks hC e1 e2 e3
set_option maxRecDepth 100000 in
theorem c_X7_turn {l : Launch} (hfl : l.stackTraces = false) (D : va_G) (cA : Nat → ClassId) {o : Nat} {p0 : Int32} {p1 : Int32} {p2 : Int32} {h : fSt} {r : ((Int32 ⊕ Nat) × fSt)} (hf : f_X7_turn o p0 p1 p2 h = some r) : fMetX l yX7_turn (wsC yX7_turn cX7_turn 6 (some (.int))) (8) (134) D cA [.ref o, .int p0, .int p1, .int p2] h r.2 (rI r.1) := by
  exact fMetX.of (own := RX7) (by decide +kernel) rfl (lva1 rfl (lva1 rfl (lva1 rfl (lva1 rfl lva0)))) (lgl1 rfl (lgl1 rfl (lgl1 rfl (lgl1 rfl lgl0)))) (Nat.le_of_ble_eq_true rfl) (fun p e s m args below meth c ls hno M hC hl => by
    have hl : lv_has ls 6 [(0, va_rf (some o)), (1, .int p0), (2, .int p1), (3, .int p2)] := hl
    exact w_X7_turn_L0 M hfl hno _ _ _ _ _ hf _ _ _ _ _ hC (lv_sub hl [0, 1, 2, 3] rfl))
set_option maxHeartbeats 4000000 in
set_option maxRecDepth 100000 in
theorem w_X7_uncut_L18 {p : Program} {l : Launch} {e : Env} {s : State} {m : MethodId} {args : Array Value} {below : List Frame} {meth : Method} {c : Code} {D : va_G} {cA : Nat → ClassId} {h0 : fSt} {r : ((Int32 ⊕ Nat) × fSt)} (M : fM p s m args meth c D cA h0 { frames := 7, cells := fCB h0 - fZ h0, slots := fLB h0 - fL h0, locals := 112 } cX7_uncut 4 (some (.boolean)) RX7) (hfl : l.stackTraces = false) (hno : ∀ x ∈ c.exceptionTable.toList, False) (a2 : Option Nat) (s0 : Int32) (h : fSt) (hf : f_X7_uncut_L18 a2 s0 h = some r) : ∀ (H : Heap) (locs : List Loc) (cells slots : Nat) (ls : Array Slot), fCur D cA s h0 h H locs → lv_has ls 4 [(2, va_rf a2)] → W p l e { frames := 7, cells := fCB h0 - fZ h0, slots := fLB h0 - fL h0, locals := 112 } s m args below meth c H locs cells slots (vx_MQ below (fQX D cA h0 r.2 (rI r.1)) (fXC D cA h0 r.2 (rI r.1)) args s (fCB h0 - fZ h0) (fLB h0 - fL h0) (fA h0)) (F0 m 18 ls [.int s0]) := by
  obtain ⟨hx, hb, hml, hr, hlocks, hts, hown, K, hR⟩ := id M
  intro H locs cells slots ls hC hl
  refine lv_istore_n (lv' := [(3, .int s0), (2, va_rf a2)]) hx hb dX7_uncut_18 rfl hl (by decide) (congrArg (List.cons _) (flk (adj1 _ _) fln)) (fun ls hl => ?_)
  refine fr_aload_n hx hb dX7_uncut_19 rfl (lv_at hl 1 rfl) ?_
  refine fr_null hx hb dX7_uncut_20 ?_
  obtain ⟨h1, g2, hf⟩ := obind hf
  refine fr_put hx hb hts hown K hC ct_4 g2 (by decide) kw508 rfl rfl (nR _ _) (fR _ _) dX7_uncut_21 (fun H locs hC => ?_)
  refine lv_iload_n hx hb dX7_uncut_24 rfl (lv_at hl 0 rfl) ?_
  by_cases c3 : s0 = 0 ∨ s0 = 1
  rotate_left
  · exact nomatch (oneg c3 hf)
  obtain rfl := Option.some.inj (opos c3 hf)
  exact fr_retQ (fr_zret hx hb hr hlocks hC c3 dX7_uncut_25)
set_option maxHeartbeats 4000000 in
set_option maxRecDepth 100000 in
theorem w_X7_uncut_L0 {p : Program} {l : Launch} {e : Env} {s : State} {m : MethodId} {args : Array Value} {below : List Frame} {meth : Method} {c : Code} {D : va_G} {cA : Nat → ClassId} {h0 : fSt} {r : ((Int32 ⊕ Nat) × fSt)} (M : fM p s m args meth c D cA h0 { frames := 7, cells := fCB h0 - fZ h0, slots := fLB h0 - fL h0, locals := 112 } cX7_uncut 4 (some (.boolean)) RX7) (hfl : l.stackTraces = false) (hno : ∀ x ∈ c.exceptionTable.toList, False) (a0 : Option Nat) (a1 : Int32) (h : fSt) (hf : f_X7_uncut_L0 a0 a1 h = some r) : ∀ (H : Heap) (locs : List Loc) (cells slots : Nat) (ls : Array Slot), fCur D cA s h0 h H locs → lv_has ls 4 [(0, va_rf a0), (1, .int a1)] → W p l e { frames := 7, cells := fCB h0 - fZ h0, slots := fLB h0 - fL h0, locals := 112 } s m args below meth c H locs cells slots (vx_MQ below (fQX D cA h0 r.2 (rI r.1)) (fXC D cA h0 r.2 (rI r.1)) args s (fCB h0 - fZ h0) (fLB h0 - fL h0) (fA h0)) (F0 m 0 ls []) := by
  obtain ⟨hx, hb, hml, hr, hlocks, hts, hown, K, hR⟩ := id M
  intro H locs cells slots ls hC hl
  refine fr_aload_n hx hb dX7_uncut_0 rfl (lv_at hl 0 rfl) ?_
  refine lv_iload_n hx hb dX7_uncut_1 rfl (lv_at hl 1 rfl) ?_
  obtain ⟨b6, q7, hf⟩ := obind hf
  obtain ⟨⟨v8 | k9, h10⟩, g5, hf⟩ := obind hf
  · refine fr_callVX hx hb hml hts hown K hC hR ct_7 (c_X7_found hfl D cA g5) 1 q7 kw51 kw47 kw49 kw0 kw23 (by decide +kernel) ⟨by exact Nat.le_of_ble_eq_true rfl, by exact Nat.le_of_ble_eq_true rfl⟩ rfl hl.1 (cat8 _ (by exact Nat.le_of_ble_eq_true rfl)) dX7_uncut_2 rfl (fun H locs _ _ hC => ?_)
    refine fr_astore_n (lv' := [(2, va_rf v8), (0, va_rf a0), (1, .int a1)]) hx hb dX7_uncut_5 rfl hl (by decide) (congrArg (List.cons _) (flk rfl (flk rfl fln))) (fun ls hl => ?_)
    refine fr_aload_n hx hb dX7_uncut_6 rfl (lv_at hl 0 rfl) ?_
    obtain ⟨x11, g12, hf⟩ := obind hf
    refine fr_get hx hb hts hown K hC ct_4 (fgR_get g12) (by decide) kw508 rfl dX7_uncut_7 ?_
    refine fr_ifnull (tgt := 17) hx hb dX7_uncut_10 (by decide) (fun c13 => ?_) (fun c13 => ?_)
    · replace hf := opos c13 hf
      refine lv_iconst (v := (0 : Int32)) hx hb dX7_uncut_17 (by decide) ?_
      exact w_X7_uncut_L18 M hfl hno _ _ _ hf _ _ _ _ _ hC (lv_sub hl [0] rfl)
    · replace hf := oneg c13 hf
      refine lv_iconst (v := (1 : Int32)) hx hb dX7_uncut_13 (by decide) ?_
      refine lv_goto (tgt := 18) hx hb dX7_uncut_14 (by decide) ?_
      exact w_X7_uncut_L18 M hfl hno _ _ _ hf _ _ _ _ _ hC (lv_sub hl [0] rfl)
  · obtain rfl := Option.some.inj hf
    refine fr_callVT hx hb hml hts hown K hC hR ct_7 (c_X7_found hfl D cA g5) 1 q7 kw51 kw47 kw49 kw0 kw23 (by decide +kernel) ⟨by exact Nat.le_of_ble_eq_true rfl, by exact Nat.le_of_ble_eq_true rfl⟩ rfl hl.1 (cat8 _ (by exact Nat.le_of_ble_eq_true rfl)) dX7_uncut_2 rfl (fun H locs _ _ q ce hC e1 e2 e3 => ?_)
    exact fr_out (fun x hx9 => (hno x hx9).elim) hlocks hC e1 e2 e3
set_option maxRecDepth 100000 in
theorem c_X7_uncut {l : Launch} (hfl : l.stackTraces = false) (D : va_G) (cA : Nat → ClassId) {o : Nat} {p0 : Int32} {h : fSt} {r : ((Int32 ⊕ Nat) × fSt)} (hf : f_X7_uncut o p0 h = some r) : fMetX l yX7_uncut (wsC yX7_uncut cX7_uncut 4 (some (.boolean))) (7) (112) D cA [.ref o, .int p0] h r.2 (rI r.1) := by
  exact fMetX.of (own := RX7) (by decide +kernel) rfl (lva1 rfl (lva1 rfl lva0)) (lgl1 rfl (lgl1 rfl lgl0)) (Nat.le_of_ble_eq_true rfl) (fun p e s m args below meth c ls hno M hC hl => by
    have hl : lv_has ls 4 [(0, va_rf (some o)), (1, .int p0)] := hl
    exact w_X7_uncut_L0 M hfl hno _ _ _ hf _ _ _ _ _ hC (lv_sub hl [0, 1] rfl))
set_option maxHeartbeats 4000000 in
set_option maxRecDepth 100000 in
theorem w_X4_countHanging_L7 {p : Program} {l : Launch} {e : Env} {s : State} {m : MethodId} {args : Array Value} {below : List Frame} {meth : Method} {c : Code} {D : va_G} {cA : Nat → ClassId} {h0 : fSt} {r : (Int32 × fSt)} (M : fM p s m args meth c D cA h0 { frames := 0, cells := fCB h0 - fZ h0, slots := fLB h0 - fL h0, locals := 0 } cX4_countHanging 3 (some (.int)) RX4) (hfl : l.stackTraces = false) : ∀ (n : Nat) (a1 : Int32) (a2 : Option Nat) (h : fSt), f_X4_countHanging_L7 n a1 a2 h = some r → ∀ (H : Heap) (locs : List Loc) (cells slots : Nat) (ls : Array Slot), fCur D cA s h0 h H locs → lv_has ls 3 [(1, .int a1), (2, va_rf a2)] → W p l e { frames := 0, cells := fCB h0 - fZ h0, slots := fLB h0 - fL h0, locals := 0 } s m args below meth c H locs cells slots (MQ below (fQ D cA h0 r.2 (some (.int r.1))) args s (fCB h0 - fZ h0) (fLB h0 - fL h0) (fA h0)) (F0 m 7 ls []) := by
  obtain ⟨hx, hb, hml, hr, hlocks, hts, hown, K, hR⟩ := id M
  intro n
  induction n with
  | zero =>
    intro a1 a2 h hf
    exact nomatch (show (none : Option (Int32 × fSt)) = some r from hf)
  | succ n hk7 =>
    intro a1 a2 h hf H locs cells slots ls hC hl
    refine fr_aload_n hx hb dX4_countHanging_7 rfl (lv_at hl 1 rfl) ?_
    refine fr_ifnull (tgt := 22) hx hb dX4_countHanging_8 (by decide) (fun c1 => ?_) (fun c1 => ?_)
    · replace hf := opos c1 hf
      refine lv_iload_n hx hb dX4_countHanging_22 rfl (lv_at hl 0 rfl) ?_
      obtain rfl := Option.some.inj hf
      exact fr_iret hx hb hr hlocks hC dX4_countHanging_23
    · replace hf := oneg c1 hf
      refine lv_iinc (v := (a1 + (1 : Int32))) (lv' := [(1, .int (a1 + (1 : Int32))), (2, va_rf a2)]) hx hb dX4_countHanging_11 hl (k := 0) rfl rfl (by decide) (congrArg (List.cons _) (fld rfl (flk rfl fln))) (fun ls hl => ?_)
      refine fr_aload_n hx hb dX4_countHanging_14 rfl (lv_at hl 1 rfl) ?_
      obtain ⟨x2, g3, hf⟩ := obind hf
      refine fr_get hx hb hts hown K hC ct_4 (fgR_get g3) (by decide) kw515 rfl dX4_countHanging_15 ?_
      refine fr_astore_n (lv' := [(2, va_rf x2), (1, .int (a1 + (1 : Int32)))]) hx hb dX4_countHanging_18 rfl hl (by decide) (congrArg (List.cons _) (flk rfl (fld rfl fln))) (fun ls hl => ?_)
      refine lv_goto (tgt := 7) hx hb dX4_countHanging_19 (by decide) ?_
      exact hk7 _ _ _ hf _ _ _ _ _ hC (lv_sub hl [1, 0] rfl)
set_option maxHeartbeats 4000000 in
set_option maxRecDepth 100000 in
theorem w_X4_countHanging_L0 {p : Program} {l : Launch} {e : Env} {s : State} {m : MethodId} {args : Array Value} {below : List Frame} {meth : Method} {c : Code} {D : va_G} {cA : Nat → ClassId} {h0 : fSt} {r : (Int32 × fSt)} (M : fM p s m args meth c D cA h0 { frames := 0, cells := fCB h0 - fZ h0, slots := fLB h0 - fL h0, locals := 0 } cX4_countHanging 3 (some (.int)) RX4) (hfl : l.stackTraces = false) (a0 : Option Nat) (h : fSt) (hf : f_X4_countHanging_L0 a0 h = some r) : ∀ (H : Heap) (locs : List Loc) (cells slots : Nat) (ls : Array Slot), fCur D cA s h0 h H locs → lv_has ls 3 [(0, va_rf a0)] → W p l e { frames := 0, cells := fCB h0 - fZ h0, slots := fLB h0 - fL h0, locals := 0 } s m args below meth c H locs cells slots (MQ below (fQ D cA h0 r.2 (some (.int r.1))) args s (fCB h0 - fZ h0) (fLB h0 - fL h0) (fA h0)) (F0 m 0 ls []) := by
  obtain ⟨hx, hb, hml, hr, hlocks, hts, hown, K, hR⟩ := id M
  intro H locs cells slots ls hC hl
  refine lv_iconst (v := (0 : Int32)) hx hb dX4_countHanging_0 (by decide) ?_
  refine lv_istore_n (lv' := [(1, .int (0 : Int32)), (0, va_rf a0)]) hx hb dX4_countHanging_1 rfl hl (by decide) (congrArg (List.cons _) (flk (adj1 _ _) fln)) (fun ls hl => ?_)
  refine fr_aload_n hx hb dX4_countHanging_2 rfl (lv_at hl 1 rfl) ?_
  obtain ⟨x4, g5, hf⟩ := obind hf
  refine fr_get hx hb hts hown K hC ct_4 (fgR_get g5) (by decide) kw513 rfl dX4_countHanging_3 ?_
  refine fr_astore_n (lv' := [(2, va_rf x4), (1, .int (0 : Int32)), (0, va_rf a0)]) hx hb dX4_countHanging_6 rfl hl (by decide) (congrArg (List.cons _) (flk rfl (flk rfl fln))) (fun ls hl => ?_)
  exact w_X4_countHanging_L7 M hfl 4096 _ _ _ hf _ _ _ _ _ hC (lv_sub hl [1, 0] rfl)
set_option maxRecDepth 100000 in
theorem c_X4_countHanging {l : Launch} (hfl : l.stackTraces = false) (D : va_G) (cA : Nat → ClassId) {o : Nat} {h : fSt} {r : (Int32 × fSt)} (hf : f_X4_countHanging o h = some r) : fMet l yX4_countHanging (wsC yX4_countHanging cX4_countHanging 3 (some (.int))) (0) (0) D cA [.ref o] h r.2 (some (.int r.1)) := by
  exact fMet.of (own := RX4) (by decide +kernel) rfl (lva1 rfl lva0) (lgl1 rfl lgl0) (Nat.le_of_ble_eq_true rfl) (fun p e s m args below meth c ls hnm _ M hC hl => by
    have hl : lv_has ls 3 [(0, va_rf (some o))] := hl
    exact w_X4_countHanging_L0 M hfl _ _ hf _ _ _ _ _ hC (lv_sub hl [0] rfl))
set_option maxHeartbeats 4000000 in
set_option maxRecDepth 100000 in
theorem w_X4_leaveParent_L58 {p : Program} {l : Launch} {e : Env} {s : State} {m : MethodId} {args : Array Value} {below : List Frame} {meth : Method} {c : Code} {D : va_G} {cA : Nat → ClassId} {h0 : fSt} {r : (Unit × fSt)} (M : fM p s m args meth c D cA h0 { frames := 0, cells := fCB h0 - fZ h0, slots := fLB h0 - fL h0, locals := 0 } cX4_leaveParent 2 none RX4) (hfl : l.stackTraces = false) {k38 : Option Nat → Option Nat → fSt → Option (Unit × fSt)} (hk38 : ∀ (a0 : Option Nat) (a1 : Option Nat) (h : fSt), k38 a0 a1 h = some r → ∀ (H : Heap) (locs : List Loc) (cells slots : Nat) (ls : Array Slot), fCur D cA s h0 h H locs → lv_has ls 2 [(0, va_rf a0), (1, va_rf a1)] → W p l e { frames := 0, cells := fCB h0 - fZ h0, slots := fLB h0 - fL h0, locals := 0 } s m args below meth c H locs cells slots (MQ below (fQ D cA h0 r.2 none) args s (fCB h0 - fZ h0) (fLB h0 - fL h0) (fA h0)) (F0 m 38 ls [])) (a0 : Option Nat) (a1 : Option Nat) (h : fSt) (hf : f_X4_leaveParent_L58 k38 a0 a1 h = some r) : ∀ (H : Heap) (locs : List Loc) (cells slots : Nat) (ls : Array Slot), fCur D cA s h0 h H locs → lv_has ls 2 [(0, va_rf a0), (1, va_rf a1)] → W p l e { frames := 0, cells := fCB h0 - fZ h0, slots := fLB h0 - fL h0, locals := 0 } s m args below meth c H locs cells slots (MQ below (fQ D cA h0 r.2 none) args s (fCB h0 - fZ h0) (fLB h0 - fL h0) (fA h0)) (F0 m 58 ls []) := by
  obtain ⟨hx, hb, hml, hr, hlocks, hts, hown, K, hR⟩ := id M
  intro H locs cells slots ls hC hl
  refine fr_aload_n hx hb dX4_leaveParent_58 rfl (lv_at hl 1 rfl) ?_
  obtain ⟨x1, g2, hf⟩ := obind hf
  refine fr_get hx hb hts hown K hC ct_4 (fgR_get g2) (by decide) kw515 rfl dX4_leaveParent_59 ?_
  refine fr_astore_n (lv' := [(1, va_rf x1), (0, va_rf a0)]) hx hb dX4_leaveParent_62 rfl hl (by decide) (congrArg (List.cons _) (flk (adj1 _ _) (fld rfl fln))) (fun ls hl => ?_)
  refine lv_goto (tgt := 38) hx hb dX4_leaveParent_63 (by decide) ?_
  exact hk38 _ _ _ hf _ _ _ _ _ hC (lv_sub hl [1, 0] rfl)
set_option maxHeartbeats 4000000 in
set_option maxRecDepth 100000 in
theorem w_X4_leaveParent_L38 {p : Program} {l : Launch} {e : Env} {s : State} {m : MethodId} {args : Array Value} {below : List Frame} {meth : Method} {c : Code} {D : va_G} {cA : Nat → ClassId} {h0 : fSt} {r : (Unit × fSt)} (M : fM p s m args meth c D cA h0 { frames := 0, cells := fCB h0 - fZ h0, slots := fLB h0 - fL h0, locals := 0 } cX4_leaveParent 2 none RX4) (hfl : l.stackTraces = false) : ∀ (n : Nat) (a0 : Option Nat) (a1 : Option Nat) (h : fSt), f_X4_leaveParent_L38 n a0 a1 h = some r → ∀ (H : Heap) (locs : List Loc) (cells slots : Nat) (ls : Array Slot), fCur D cA s h0 h H locs → lv_has ls 2 [(0, va_rf a0), (1, va_rf a1)] → W p l e { frames := 0, cells := fCB h0 - fZ h0, slots := fLB h0 - fL h0, locals := 0 } s m args below meth c H locs cells slots (MQ below (fQ D cA h0 r.2 none) args s (fCB h0 - fZ h0) (fLB h0 - fL h0) (fA h0)) (F0 m 38 ls []) := by
  obtain ⟨hx, hb, hml, hr, hlocks, hts, hown, K, hR⟩ := id M
  intro n
  induction n with
  | zero =>
    intro a0 a1 h hf
    exact nomatch (show (none : Option (Unit × fSt)) = some r from hf)
  | succ n hk38 =>
    intro a0 a1 h hf H locs cells slots ls hC hl
    refine fr_aload_n hx hb dX4_leaveParent_38 rfl (lv_at hl 1 rfl) ?_
    refine fr_ifnull (tgt := 66) hx hb dX4_leaveParent_39 (by decide) (fun c3 => ?_) (fun c3 => ?_)
    · replace hf := opos c3 hf
      refine fr_aload_n hx hb dX4_leaveParent_66 rfl (lv_at hl 0 rfl) ?_
      refine fr_null hx hb dX4_leaveParent_67 ?_
      obtain ⟨h4, g5, hf⟩ := obind hf
      refine fr_put hx hb hts hown K hC ct_4 g5 (by decide) kw515 rfl rfl (nR _ _) (fR _ _) dX4_leaveParent_68 (fun H locs hC => ?_)
      obtain rfl := Option.some.inj hf
      exact fr_vret hx hb hr hlocks hC dX4_leaveParent_71
    · replace hf := oneg c3 hf
      refine fr_aload_n hx hb dX4_leaveParent_42 rfl (lv_at hl 1 rfl) ?_
      obtain ⟨x6, g7, hf⟩ := obind hf
      refine fr_get hx hb hts hown K hC ct_4 (fgR_get g7) (by decide) kw515 rfl dX4_leaveParent_43 ?_
      refine fr_aload_n hx hb dX4_leaveParent_46 rfl (lv_at hl 0 rfl) ?_
      refine lv_acmp_ne (tgt := 58) hx hb dX4_leaveParent_47 (by decide) (fun c8 => ?_) (fun c8 => ?_)
      · replace hf := oneg c8 hf
        exact w_X4_leaveParent_L58 M hfl hk38 _ _ _ hf _ _ _ _ _ hC (lv_sub hl [0, 1] rfl)
      · replace hf := opos c8 hf
        refine fr_aload_n hx hb dX4_leaveParent_50 rfl (lv_at hl 1 rfl) ?_
        refine fr_aload_n hx hb dX4_leaveParent_51 rfl (lv_at hl 0 rfl) ?_
        obtain ⟨x9, g10, hf⟩ := obind hf
        refine fr_get hx hb hts hown K hC ct_4 (fgR_get g10) (by decide) kw515 rfl dX4_leaveParent_52 ?_
        obtain ⟨h11, g12, hf⟩ := obind hf
        refine fr_put hx hb hts hown K hC ct_4 g12 (by decide) kw515 rfl rfl (nR _ _) (fR _ _) dX4_leaveParent_55 (fun H locs hC => ?_)
        exact w_X4_leaveParent_L58 M hfl hk38 _ _ _ hf _ _ _ _ _ hC (lv_sub hl [0, 1] rfl)
set_option maxHeartbeats 4000000 in
set_option maxRecDepth 100000 in
theorem w_X4_leaveParent_L30 {p : Program} {l : Launch} {e : Env} {s : State} {m : MethodId} {args : Array Value} {below : List Frame} {meth : Method} {c : Code} {D : va_G} {cA : Nat → ClassId} {h0 : fSt} {r : (Unit × fSt)} (M : fM p s m args meth c D cA h0 { frames := 0, cells := fCB h0 - fZ h0, slots := fLB h0 - fL h0, locals := 0 } cX4_leaveParent 2 none RX4) (hfl : l.stackTraces = false) (a0 : Option Nat) (h : fSt) (hf : f_X4_leaveParent_L30 a0 h = some r) : ∀ (H : Heap) (locs : List Loc) (cells slots : Nat) (ls : Array Slot), fCur D cA s h0 h H locs → lv_has ls 2 [(0, va_rf a0)] → W p l e { frames := 0, cells := fCB h0 - fZ h0, slots := fLB h0 - fL h0, locals := 0 } s m args below meth c H locs cells slots (MQ below (fQ D cA h0 r.2 none) args s (fCB h0 - fZ h0) (fLB h0 - fL h0) (fA h0)) (F0 m 30 ls []) := by
  obtain ⟨hx, hb, hml, hr, hlocks, hts, hown, K, hR⟩ := id M
  intro H locs cells slots ls hC hl
  refine fr_aload_n hx hb dX4_leaveParent_30 rfl (lv_at hl 0 rfl) ?_
  obtain ⟨x13, g14, hf⟩ := obind hf
  refine fr_get hx hb hts hown K hC ct_4 (fgR_get g14) (by decide) kw511 rfl dX4_leaveParent_31 ?_
  obtain ⟨x15, g16, hf⟩ := obind hf
  refine fr_get hx hb hts hown K hC ct_4 (fgR_get g16) (by decide) kw513 rfl dX4_leaveParent_34 ?_
  refine fr_astore_n (lv' := [(1, va_rf x15), (0, va_rf a0)]) hx hb dX4_leaveParent_37 rfl hl (by decide) (congrArg (List.cons _) (flk (adj1 _ _) fln)) (fun ls hl => ?_)
  exact w_X4_leaveParent_L38 M hfl 4096 _ _ _ hf _ _ _ _ _ hC (lv_sub hl [1, 0] rfl)
set_option maxHeartbeats 4000000 in
set_option maxRecDepth 100000 in
theorem w_X4_leaveParent_L0 {p : Program} {l : Launch} {e : Env} {s : State} {m : MethodId} {args : Array Value} {below : List Frame} {meth : Method} {c : Code} {D : va_G} {cA : Nat → ClassId} {h0 : fSt} {r : (Unit × fSt)} (M : fM p s m args meth c D cA h0 { frames := 0, cells := fCB h0 - fZ h0, slots := fLB h0 - fL h0, locals := 0 } cX4_leaveParent 2 none RX4) (hfl : l.stackTraces = false) (a0 : Option Nat) (h : fSt) (hf : f_X4_leaveParent_L0 a0 h = some r) : ∀ (H : Heap) (locs : List Loc) (cells slots : Nat) (ls : Array Slot), fCur D cA s h0 h H locs → lv_has ls 2 [(0, va_rf a0)] → W p l e { frames := 0, cells := fCB h0 - fZ h0, slots := fLB h0 - fL h0, locals := 0 } s m args below meth c H locs cells slots (MQ below (fQ D cA h0 r.2 none) args s (fCB h0 - fZ h0) (fLB h0 - fL h0) (fA h0)) (F0 m 0 ls []) := by
  obtain ⟨hx, hb, hml, hr, hlocks, hts, hown, K, hR⟩ := id M
  intro H locs cells slots ls hC hl
  refine fr_aload_n hx hb dX4_leaveParent_0 rfl (lv_at hl 0 rfl) ?_
  obtain ⟨x17, g18, hf⟩ := obind hf
  refine fr_get hx hb hts hown K hC ct_4 (fgR_get g18) (by decide) kw511 rfl dX4_leaveParent_1 ?_
  refine fr_ifnonnull (tgt := 8) hx hb dX4_leaveParent_4 (by decide) (fun c19 => ?_) (fun c19 => ?_)
  · replace hf := oneg c19 hf
    refine fr_aload_n hx hb dX4_leaveParent_8 rfl (lv_at hl 0 rfl) ?_
    obtain ⟨x20, g21, hf⟩ := obind hf
    refine fr_get hx hb hts hown K hC ct_4 (fgR_get g21) (by decide) kw511 rfl dX4_leaveParent_9 ?_
    obtain ⟨x22, g23, hf⟩ := obind hf
    refine fr_get hx hb hts hown K hC ct_4 (fgR_get g23) (by decide) kw513 rfl dX4_leaveParent_12 ?_
    refine fr_aload_n hx hb dX4_leaveParent_15 rfl (lv_at hl 0 rfl) ?_
    refine lv_acmp_ne (tgt := 30) hx hb dX4_leaveParent_16 (by decide) (fun c24 => ?_) (fun c24 => ?_)
    · replace hf := oneg c24 hf
      exact w_X4_leaveParent_L30 M hfl _ _ hf _ _ _ _ _ hC (lv_sub hl [0] rfl)
    · replace hf := opos c24 hf
      refine fr_aload_n hx hb dX4_leaveParent_19 rfl (lv_at hl 0 rfl) ?_
      obtain ⟨x25, g26, hf⟩ := obind hf
      refine fr_get hx hb hts hown K hC ct_4 (fgR_get g26) (by decide) kw511 rfl dX4_leaveParent_20 ?_
      refine fr_aload_n hx hb dX4_leaveParent_23 rfl (lv_at hl 0 rfl) ?_
      obtain ⟨x27, g28, hf⟩ := obind hf
      refine fr_get hx hb hts hown K hC ct_4 (fgR_get g28) (by decide) kw515 rfl dX4_leaveParent_24 ?_
      obtain ⟨h29, g30, hf⟩ := obind hf
      refine fr_put hx hb hts hown K hC ct_4 g30 (by decide) kw513 rfl rfl (nR _ _) (fR _ _) dX4_leaveParent_27 (fun H locs hC => ?_)
      exact w_X4_leaveParent_L30 M hfl _ _ hf _ _ _ _ _ hC (lv_sub hl [0] rfl)
  · replace hf := opos c19 hf
    obtain rfl := Option.some.inj hf
    exact fr_vret hx hb hr hlocks hC dX4_leaveParent_7
set_option maxRecDepth 100000 in
theorem c_X4_leaveParent {l : Launch} (hfl : l.stackTraces = false) (D : va_G) (cA : Nat → ClassId) {o : Nat} {h : fSt} {r : (Unit × fSt)} (hf : f_X4_leaveParent o h = some r) : fMet l yX4_leaveParent (wsC yX4_leaveParent cX4_leaveParent 2 none) (0) (0) D cA [.ref o] h r.2 none := by
  exact fMet.of (own := RX4) (by decide +kernel) rfl (lva1 rfl lva0) (lgl1 rfl lgl0) (Nat.le_of_ble_eq_true rfl) (fun p e s m args below meth c ls hnm _ M hC hl => by
    have hl : lv_has ls 2 [(0, va_rf (some o))] := hl
    exact w_X4_leaveParent_L0 M hfl _ _ hf _ _ _ _ _ hC (lv_sub hl [0] rfl))
set_option maxHeartbeats 4000000 in
set_option maxRecDepth 100000 in
theorem w_X7_depthUnder_L31 {p : Program} {l : Launch} {e : Env} {s : State} {m : MethodId} {args : Array Value} {below : List Frame} {meth : Method} {c : Code} {D : va_G} {cA : Nat → ClassId} {h0 : fSt} {r : (Int32 × fSt)} (M : fM p s m args meth c D cA h0 { frames := 1, cells := fCB h0 - fZ h0, slots := fLB h0 - fL h0, locals := 22 } cX7_depthUnder 4 (some (.int)) RX7) (hfl : l.stackTraces = false) {k10 : Option Nat → Int32 → Option Nat → fSt → Option (Int32 × fSt)} (hk10 : ∀ (a1 : Option Nat) (a2 : Int32) (a3 : Option Nat) (h : fSt), k10 a1 a2 a3 h = some r → ∀ (H : Heap) (locs : List Loc) (cells slots : Nat) (ls : Array Slot), fCur D cA s h0 h H locs → lv_has ls 4 [(1, va_rf a1), (2, .int a2), (3, va_rf a3)] → W p l e { frames := 1, cells := fCB h0 - fZ h0, slots := fLB h0 - fL h0, locals := 22 } s m args below meth c H locs cells slots (MQ below (fQ D cA h0 r.2 (some (.int r.1))) args s (fCB h0 - fZ h0) (fLB h0 - fL h0) (fA h0)) (F0 m 10 ls [])) (a1 : Option Nat) (a2 : Int32) (a3 : Option Nat) (h : fSt) (hf : f_X7_depthUnder_L31 k10 a1 a2 a3 h = some r) : ∀ (H : Heap) (locs : List Loc) (cells slots : Nat) (ls : Array Slot), fCur D cA s h0 h H locs → lv_has ls 4 [(1, va_rf a1), (2, .int a2), (3, va_rf a3)] → W p l e { frames := 1, cells := fCB h0 - fZ h0, slots := fLB h0 - fL h0, locals := 22 } s m args below meth c H locs cells slots (MQ below (fQ D cA h0 r.2 (some (.int r.1))) args s (fCB h0 - fZ h0) (fLB h0 - fL h0) (fA h0)) (F0 m 31 ls []) := by
  obtain ⟨hx, hb, hml, hr, hlocks, hts, hown, K, hR⟩ := id M
  intro H locs cells slots ls hC hl
  refine fr_aload_n hx hb dX7_depthUnder_31 rfl (lv_at hl 2 rfl) ?_
  obtain ⟨x1, g2, hf⟩ := obind hf
  refine fr_get hx hb hts hown K hC ct_4 (fgR_get g2) (by decide) kw517 rfl dX7_depthUnder_32 ?_
  refine fr_astore_n (lv' := [(3, va_rf x1), (1, va_rf a1), (2, .int a2)]) hx hb dX7_depthUnder_35 rfl hl (by decide) (congrArg (List.cons _) (flk rfl (flk rfl (fld rfl fln)))) (fun ls hl => ?_)
  refine lv_goto (tgt := 10) hx hb dX7_depthUnder_36 (by decide) ?_
  exact hk10 _ _ _ _ hf _ _ _ _ _ hC (lv_sub hl [1, 2, 0] rfl)
set_option maxHeartbeats 4000000 in
set_option maxRecDepth 100000 in
theorem w_X7_depthUnder_L10 {p : Program} {l : Launch} {e : Env} {s : State} {m : MethodId} {args : Array Value} {below : List Frame} {meth : Method} {c : Code} {D : va_G} {cA : Nat → ClassId} {h0 : fSt} {r : (Int32 × fSt)} (M : fM p s m args meth c D cA h0 { frames := 1, cells := fCB h0 - fZ h0, slots := fLB h0 - fL h0, locals := 22 } cX7_depthUnder 4 (some (.int)) RX7) (hfl : l.stackTraces = false) : ∀ (n : Nat) (a1 : Option Nat) (a2 : Int32) (a3 : Option Nat) (h : fSt), f_X7_depthUnder_L10 n a1 a2 a3 h = some r → ∀ (H : Heap) (locs : List Loc) (cells slots : Nat) (ls : Array Slot), fCur D cA s h0 h H locs → lv_has ls 4 [(1, va_rf a1), (2, .int a2), (3, va_rf a3)] → W p l e { frames := 1, cells := fCB h0 - fZ h0, slots := fLB h0 - fL h0, locals := 22 } s m args below meth c H locs cells slots (MQ below (fQ D cA h0 r.2 (some (.int r.1))) args s (fCB h0 - fZ h0) (fLB h0 - fL h0) (fA h0)) (F0 m 10 ls []) := by
  obtain ⟨hx, hb, hml, hr, hlocks, hts, hown, K, hR⟩ := id M
  intro n
  induction n with
  | zero =>
    intro a1 a2 a3 h hf
    exact nomatch (show (none : Option (Int32 × fSt)) = some r from hf)
  | succ n hk10 =>
    intro a1 a2 a3 h hf H locs cells slots ls hC hl
    refine fr_aload_n hx hb dX7_depthUnder_10 rfl (lv_at hl 2 rfl) ?_
    refine fr_ifnull (tgt := 39) hx hb dX7_depthUnder_11 (by decide) (fun c3 => ?_) (fun c3 => ?_)
    · replace hf := opos c3 hf
      refine lv_iload_n hx hb dX7_depthUnder_39 rfl (lv_at hl 1 rfl) ?_
      refine fr_aload_n hx hb dX7_depthUnder_40 rfl (lv_at hl 0 rfl) ?_
      obtain ⟨b6, q7, hf⟩ := obind hf
      obtain ⟨r4, g5, hf⟩ := obind hf
      refine fr_callV hx hb hml hts hown K hC hR ct_4 (c_X4_depth hfl D cA g5) 0 q7 kw136 kw133 kw134 kw135 kw24 (by decide +kernel) ⟨by exact Nat.le_of_ble_eq_true rfl, by exact Nat.le_of_ble_eq_true rfl⟩ rfl hl.1 (cat8 _ (by exact Nat.le_of_ble_eq_true rfl)) dX7_depthUnder_41 rfl (fun H locs _ _ hC => ?_)
      refine lv_isub hx hb dX7_depthUnder_44 ?_
      obtain rfl := Option.some.inj hf
      exact fr_iret hx hb hr hlocks hC dX7_depthUnder_45
    · replace hf := oneg c3 hf
      refine fr_aload_n hx hb dX7_depthUnder_14 rfl (lv_at hl 2 rfl) ?_
      refine fr_aload_n hx hb dX7_depthUnder_15 rfl (lv_at hl 0 rfl) ?_
      obtain ⟨b10, q11, hf⟩ := obind hf
      obtain ⟨r8, g9, hf⟩ := obind hf
      refine fr_callV hx hb hml hts hown K hC hR ct_4 (c_X4_isWithin hfl D cA g9) 1 q11 kw144 kw141 kw142 kw143 kw24 (by decide +kernel) ⟨by exact Nat.le_of_ble_eq_true rfl, by exact Nat.le_of_ble_eq_true rfl⟩ rfl hl.1 (cat8 _ (by exact Nat.le_of_ble_eq_true rfl)) dX7_depthUnder_16 rfl (fun H locs _ _ hC => ?_)
      refine lv_if_eq (tgt := 31) hx hb dX7_depthUnder_19 (by decide) (fun c12 => ?_) (fun c12 => ?_)
      · replace hf := opos c12 hf
        exact w_X7_depthUnder_L31 M hfl hk10 _ _ _ _ hf _ _ _ _ _ hC (lv_sub hl [0, 1, 2] rfl)
      · replace hf := oneg c12 hf
        refine lv_iload_n hx hb dX7_depthUnder_22 rfl (lv_at hl 1 rfl) ?_
        refine fr_aload_n hx hb dX7_depthUnder_23 rfl (lv_at hl 2 rfl) ?_
        obtain ⟨b15, q16, hf⟩ := obind hf
        obtain ⟨r13, g14, hf⟩ := obind hf
        refine fr_callV hx hb hml hts hown K hC hR ct_4 (c_X4_depth hfl D cA g14) 0 q16 kw136 kw133 kw134 kw135 kw24 (by decide +kernel) ⟨by exact Nat.le_of_ble_eq_true rfl, by exact Nat.le_of_ble_eq_true rfl⟩ rfl hl.1 (cat8 _ (by exact Nat.le_of_ble_eq_true rfl)) dX7_depthUnder_24 rfl (fun H locs _ _ hC => ?_)
        refine fr_mmax hx hb hml hts hown hC hR kw845 kw834 kw38 kw835 hl.1 (by exact Nat.le_of_ble_eq_true rfl) (catL _ _ (by exact Nat.le_of_ble_eq_true rfl) (by exact Nat.le_of_ble_eq_true rfl)) dX7_depthUnder_27 (fun _ _ => ?_)
        refine lv_istore_n (lv' := [(2, .int (if a2 < r13.1 then r13.1 else a2)), (1, va_rf a1), (3, va_rf a3)]) hx hb dX7_depthUnder_30 rfl hl (by decide) (congrArg (List.cons _) (flk (adj1 _ _) (fld rfl (flk rfl fln)))) (fun ls hl => ?_)
        exact w_X7_depthUnder_L31 M hfl hk10 _ _ _ _ hf _ _ _ _ _ hC (lv_sub hl [1, 0, 2] rfl)
set_option maxHeartbeats 4000000 in
set_option maxRecDepth 100000 in
theorem w_X7_depthUnder_L0 {p : Program} {l : Launch} {e : Env} {s : State} {m : MethodId} {args : Array Value} {below : List Frame} {meth : Method} {c : Code} {D : va_G} {cA : Nat → ClassId} {h0 : fSt} {r : (Int32 × fSt)} (M : fM p s m args meth c D cA h0 { frames := 1, cells := fCB h0 - fZ h0, slots := fLB h0 - fL h0, locals := 22 } cX7_depthUnder 4 (some (.int)) RX7) (hfl : l.stackTraces = false) (a0 : Option Nat) (a1 : Option Nat) (h : fSt) (hf : f_X7_depthUnder_L0 a0 a1 h = some r) : ∀ (H : Heap) (locs : List Loc) (cells slots : Nat) (ls : Array Slot), fCur D cA s h0 h H locs → lv_has ls 4 [(0, va_rf a0), (1, va_rf a1)] → W p l e { frames := 1, cells := fCB h0 - fZ h0, slots := fLB h0 - fL h0, locals := 22 } s m args below meth c H locs cells slots (MQ below (fQ D cA h0 r.2 (some (.int r.1))) args s (fCB h0 - fZ h0) (fLB h0 - fL h0) (fA h0)) (F0 m 0 ls []) := by
  obtain ⟨hx, hb, hml, hr, hlocks, hts, hown, K, hR⟩ := id M
  intro H locs cells slots ls hC hl
  refine fr_aload_n hx hb dX7_depthUnder_0 rfl (lv_at hl 1 rfl) ?_
  obtain ⟨b19, q20, hf⟩ := obind hf
  obtain ⟨r17, g18, hf⟩ := obind hf
  refine fr_callV hx hb hml hts hown K hC hR ct_4 (c_X4_depth hfl D cA g18) 0 q20 kw136 kw133 kw134 kw135 kw24 (by decide +kernel) ⟨by exact Nat.le_of_ble_eq_true rfl, by exact Nat.le_of_ble_eq_true rfl⟩ rfl hl.1 (cat8 _ (by exact Nat.le_of_ble_eq_true rfl)) dX7_depthUnder_1 rfl (fun H locs _ _ hC => ?_)
  refine lv_istore_n (lv' := [(2, .int r17.1), (0, va_rf a0), (1, va_rf a1)]) hx hb dX7_depthUnder_4 rfl hl (by decide) (congrArg (List.cons _) (flk rfl (flk (adj1 _ _) fln))) (fun ls hl => ?_)
  refine fr_aload_n hx hb dX7_depthUnder_5 rfl (lv_at hl 1 rfl) ?_
  obtain ⟨x21, g22, hf⟩ := obind hf
  refine fr_get hx hb hts hown K hC ct_7 (fgR_get g22) (by decide) kw625 rfl dX7_depthUnder_6 ?_
  refine fr_astore_n (lv' := [(3, va_rf x21), (2, .int r17.1), (0, va_rf a0), (1, va_rf a1)]) hx hb dX7_depthUnder_9 rfl hl (by decide) (congrArg (List.cons _) (flk rfl (flk rfl (flk rfl fln)))) (fun ls hl => ?_)
  exact w_X7_depthUnder_L10 M hfl 4096 _ _ _ _ hf _ _ _ _ _ hC (lv_sub hl [3, 1, 0] rfl)
set_option maxRecDepth 100000 in
theorem c_X7_depthUnder {l : Launch} (hfl : l.stackTraces = false) (D : va_G) (cA : Nat → ClassId) {o : Nat} {p0 : Option Nat} {h : fSt} {r : (Int32 × fSt)} (hf : f_X7_depthUnder o p0 h = some r) : fMet l yX7_depthUnder (wsC yX7_depthUnder cX7_depthUnder 4 (some (.int))) (1) (22) D cA [.ref o, va_rf p0] h r.2 (some (.int r.1)) := by
  exact fMet.of (own := RX7) (by decide +kernel) rfl (lva1 rfl (lva1 (va_rf_cat _) lva0)) (lgl1 rfl (lgl1 (va_rf_cat _) lgl0)) (Nat.le_of_ble_eq_true rfl) (fun p e s m args below meth c ls hnm _ M hC hl => by
    have hl : lv_has ls 4 [(0, va_rf (some o)), (1, va_rf p0)] := hl
    exact w_X7_depthUnder_L0 M hfl _ _ _ hf _ _ _ _ _ hC (lv_sub hl [0, 1] rfl))
set_option maxHeartbeats 4000000 in
set_option maxRecDepth 100000 in
theorem w_X7_hang_L30 {p : Program} {l : Launch} {e : Env} {s : State} {m : MethodId} {args : Array Value} {below : List Frame} {meth : Method} {c : Code} {D : va_G} {cA : Nat → ClassId} {h0 : fSt} {r : ((Int32 ⊕ Nat) × fSt)} (M : fM p s m args meth c D cA h0 { frames := 18, cells := fCB h0 - fZ h0, slots := fLB h0 - fL h0, locals := 426 } cX7_hang 5 (some (.int)) RX7) (hfl : l.stackTraces = false) (hno : ∀ x ∈ c.exceptionTable.toList, False)  (h : fSt) (hf : f_X7_hang_L30  h = some r) : ∀ (H : Heap) (locs : List Loc) (cells slots : Nat) (ls : Array Slot), fCur D cA s h0 h H locs → lv_has ls 5 [] → W p l e { frames := 18, cells := fCB h0 - fZ h0, slots := fLB h0 - fL h0, locals := 426 } s m args below meth c H locs cells slots (vx_MQ below (fQX D cA h0 r.2 (rI r.1)) (fXC D cA h0 r.2 (rI r.1)) args s (fCB h0 - fZ h0) (fLB h0 - fL h0) (fA h0)) (F0 m 30 ls []) := by
  obtain ⟨hx, hb, hml, hr, hlocks, hts, hown, K, hR⟩ := id M
  intro H locs cells slots ls hC hl
  obtain ⟨h1, g2, hf⟩ := obind hf
  obtain rfl := Option.some.inj hf
  exact fr_throwS hx hb hml hts hfl hown K hC hR th_RX7_73_77_2 st_RX7_104 hl.1 dX7_hang_30 dX7_hang_33 dX7_hang_34 dX7_hang_36 dX7_hang_39 hno (by exact Nat.le_of_ble_eq_true rfl) (catL _ _ (by exact Nat.le_of_ble_eq_true rfl) (by exact Nat.le_of_ble_eq_true rfl)) hlocks g2
set_option maxHeartbeats 4000000 in
set_option maxRecDepth 100000 in
theorem w_X7_hang_L0 {p : Program} {l : Launch} {e : Env} {s : State} {m : MethodId} {args : Array Value} {below : List Frame} {meth : Method} {c : Code} {D : va_G} {cA : Nat → ClassId} {h0 : fSt} {r : ((Int32 ⊕ Nat) × fSt)} (M : fM p s m args meth c D cA h0 { frames := 18, cells := fCB h0 - fZ h0, slots := fLB h0 - fL h0, locals := 426 } cX7_hang 5 (some (.int)) RX7) (hfl : l.stackTraces = false) (hno : ∀ x ∈ c.exceptionTable.toList, False) (a0 : Option Nat) (a1 : Int32) (a2 : Int32) (h : fSt) (hf : f_X7_hang_L0 a0 a1 a2 h = some r) : ∀ (H : Heap) (locs : List Loc) (cells slots : Nat) (ls : Array Slot), fCur D cA s h0 h H locs → lv_has ls 5 [(0, va_rf a0), (1, .int a1), (2, .int a2)] → W p l e { frames := 18, cells := fCB h0 - fZ h0, slots := fLB h0 - fL h0, locals := 426 } s m args below meth c H locs cells slots (vx_MQ below (fQX D cA h0 r.2 (rI r.1)) (fXC D cA h0 r.2 (rI r.1)) args s (fCB h0 - fZ h0) (fLB h0 - fL h0) (fA h0)) (F0 m 0 ls []) := by
  obtain ⟨hx, hb, hml, hr, hlocks, hts, hown, K, hR⟩ := id M
  intro H locs cells slots ls hC hl
  refine fr_aload_n hx hb dX7_hang_0 rfl (lv_at hl 0 rfl) ?_
  refine lv_iload_n hx hb dX7_hang_1 rfl (lv_at hl 1 rfl) ?_
  obtain ⟨b5, q6, hf⟩ := obind hf
  obtain ⟨⟨v7 | k8, h9⟩, g4, hf⟩ := obind hf
  · refine fr_callVX hx hb hml hts hown K hC hR ct_7 (c_X7_found hfl D cA g4) 1 q6 kw51 kw47 kw49 kw0 kw23 (by decide +kernel) ⟨by exact Nat.le_of_ble_eq_true rfl, by exact Nat.le_of_ble_eq_true rfl⟩ rfl hl.1 (cat8 _ (by exact Nat.le_of_ble_eq_true rfl)) dX7_hang_2 rfl (fun H locs _ _ hC => ?_)
    refine fr_astore_n (lv' := [(3, va_rf v7), (0, va_rf a0), (1, .int a1), (2, .int a2)]) hx hb dX7_hang_5 rfl hl (by decide) (congrArg (List.cons _) (flk rfl (flk rfl (flk rfl fln)))) (fun ls hl => ?_)
    refine fr_aload_n hx hb dX7_hang_6 rfl (lv_at hl 1 rfl) ?_
    refine lv_iload_n hx hb dX7_hang_7 rfl (lv_at hl 3 rfl) ?_
    obtain ⟨b12, q13, hf⟩ := obind hf
    obtain ⟨⟨v14 | k15, h16⟩, g11, hf⟩ := obind hf
    · refine fr_callVX hx hb hml hts hown K hC hR ct_7 (c_X7_found hfl D cA g11) 1 q13 kw51 kw47 kw49 kw0 kw23 (by decide +kernel) ⟨by exact Nat.le_of_ble_eq_true rfl, by exact Nat.le_of_ble_eq_true rfl⟩ rfl hl.1 (cat8 _ (by exact Nat.le_of_ble_eq_true rfl)) dX7_hang_8 rfl (fun H locs _ _ hC => ?_)
      refine fr_astore (lv' := [(4, va_rf v14), (3, va_rf v7), (0, va_rf a0), (1, .int a1), (2, .int a2)]) hx hb dX7_hang_11 hl (by decide) (congrArg (List.cons _) (flk (adj1 _ _) (flk rfl (flk rfl (flk rfl fln))))) (fun ls hl => ?_)
      refine fr_aload_n hx hb dX7_hang_13 rfl (lv_at hl 1 rfl) ?_
      refine fr_aload_n hx hb dX7_hang_14 rfl (lv_at hl 2 rfl) ?_
      obtain ⟨x17, g18, hf⟩ := obind hf
      refine fr_get hx hb hts hown K hC ct_7 (fgR_get g18) (by decide) kw619 rfl dX7_hang_15 ?_
      refine lv_acmp_eq (tgt := 30) hx hb dX7_hang_18 (by decide) (fun c19 => ?_) (fun c19 => ?_)
      · replace hf := opos c19 hf
        exact w_X7_hang_L30 M hfl hno _ hf _ _ _ _ _ hC (lv_sub hl [] rfl)
      · replace hf := oneg c19 hf
        refine fr_aload hx hb dX7_hang_21 (lv_at hl 0 rfl) ?_
        refine fr_aload_n hx hb dX7_hang_23 rfl (lv_at hl 1 rfl) ?_
        obtain ⟨b22, q23, hf⟩ := obind hf
        obtain ⟨r20, g21, hf⟩ := obind hf
        refine fr_callV hx hb hml hts hown K hC hR ct_4 (c_X4_isWithin hfl D cA g21) 1 q23 kw144 kw141 kw142 kw143 kw24 (by decide +kernel) ⟨by exact Nat.le_of_ble_eq_true rfl, by exact Nat.le_of_ble_eq_true rfl⟩ rfl hl.1 (cat8 _ (by exact Nat.le_of_ble_eq_true rfl)) dX7_hang_24 rfl (fun H locs _ _ hC => ?_)
        refine lv_if_eq (tgt := 40) hx hb dX7_hang_27 (by decide) (fun c24 => ?_) (fun c24 => ?_)
        · replace hf := opos c24 hf
          refine fr_aload hx hb dX7_hang_40 (lv_at hl 0 rfl) ?_
          obtain ⟨b27, q28, hf⟩ := obind hf
          obtain ⟨r25, g26, hf⟩ := obind hf
          refine fr_callV hx hb hml hts hown K hC hR ct_4 (c_X4_depth hfl D cA g26) 0 q28 kw136 kw133 kw134 kw135 kw24 (by decide +kernel) ⟨by exact Nat.le_of_ble_eq_true rfl, by exact Nat.le_of_ble_eq_true rfl⟩ rfl hl.1 (cat8 _ (by exact Nat.le_of_ble_eq_true rfl)) dX7_hang_42 rfl (fun H locs _ _ hC => ?_)
          refine lv_iconst (v := (1 : Int32)) hx hb dX7_hang_45 (by decide) ?_
          refine lv_iadd hx hb dX7_hang_46 ?_
          refine fr_aload_n hx hb dX7_hang_47 rfl (lv_at hl 2 rfl) ?_
          refine fr_aload_n hx hb dX7_hang_48 rfl (lv_at hl 1 rfl) ?_
          obtain ⟨b31, q32, hf⟩ := obind hf
          obtain ⟨r29, g30, hf⟩ := obind hf
          refine fr_callV hx hb hml hts hown K hC hR ct_7 (c_X7_depthUnder hfl D cA g30) 1 q32 kw844 kw841 kw843 kw19 kw23 (by decide +kernel) ⟨by exact Nat.le_of_ble_eq_true rfl, by exact Nat.le_of_ble_eq_true rfl⟩ rfl hl.1 (cat8 _ (by exact Nat.le_of_ble_eq_true rfl)) dX7_hang_49 rfl (fun H locs _ _ hC => ?_)
          refine lv_iadd hx hb dX7_hang_52 ?_
          refine lv_iconst (v := (4 : Int32)) hx hb dX7_hang_53 (by decide) ?_
          refine lv_icmp_le (tgt := 67) hx hb dX7_hang_54 (by decide) (fun c33 => ?_) (fun c33 => ?_)
          · replace hf := opos c33 hf
            refine fr_aload_n hx hb dX7_hang_67 rfl (lv_at hl 1 rfl) ?_
            obtain ⟨b36, q37, hf⟩ := obind hf
            obtain ⟨r34, g35, hf⟩ := obind hf
            refine fr_callV hx hb hml hts hown K hC hR ct_4 (c_X4_leaveParent hfl D cA g35) 0 q37 kw850 kw847 kw848 kw849 kw24 (by decide +kernel) ⟨by exact Nat.le_of_ble_eq_true rfl, by exact Nat.le_of_ble_eq_true rfl⟩ rfl hl.1 (cat8 _ (by exact Nat.le_of_ble_eq_true rfl)) dX7_hang_68 rfl (fun H locs _ _ hC => ?_)
            refine fr_aload hx hb dX7_hang_71 (lv_at hl 0 rfl) ?_
            refine fr_aload_n hx hb dX7_hang_73 rfl (lv_at hl 1 rfl) ?_
            obtain ⟨b40, q41, hf⟩ := obind hf
            obtain ⟨r38, g39, hf⟩ := obind hf
            refine fr_callV hx hb hml hts hown K hC hR ct_4 (c_X4_takeIn hfl D cA g39) 1 q41 kw763 kw760 kw761 kw762 kw24 (by decide +kernel) ⟨by exact Nat.le_of_ble_eq_true rfl, by exact Nat.le_of_ble_eq_true rfl⟩ rfl hl.1 (cat8 _ (by exact Nat.le_of_ble_eq_true rfl)) dX7_hang_74 rfl (fun H locs _ _ hC => ?_)
            refine fr_aload_n hx hb dX7_hang_77 rfl (lv_at hl 2 rfl) ?_
            obtain ⟨b44, q45, hf⟩ := obind hf
            obtain ⟨r42, g43, hf⟩ := obind hf
            refine fr_callV hx hb hml hts hown K hC hR ct_7 (c_X7_layOrder hfl D cA g43) 0 q45 kw767 kw764 kw766 kw15 kw23 (by decide +kernel) ⟨by exact Nat.le_of_ble_eq_true rfl, by exact Nat.le_of_ble_eq_true rfl⟩ rfl hl.1 (cat8 _ (by exact Nat.le_of_ble_eq_true rfl)) dX7_hang_78 rfl (fun H locs _ _ hC => ?_)
            refine fr_aload hx hb dX7_hang_81 (lv_at hl 0 rfl) ?_
            obtain ⟨b48, q49, hf⟩ := obind hf
            obtain ⟨r46, g47, hf⟩ := obind hf
            refine fr_callV hx hb hml hts hown K hC hR ct_4 (c_X4_countHanging hfl D cA g47) 0 q49 kw854 kw851 kw852 kw853 kw24 (by decide +kernel) ⟨by exact Nat.le_of_ble_eq_true rfl, by exact Nat.le_of_ble_eq_true rfl⟩ rfl hl.1 (cat8 _ (by exact Nat.le_of_ble_eq_true rfl)) dX7_hang_83 rfl (fun H locs _ _ hC => ?_)
            obtain rfl := Option.some.inj hf
            exact fr_retQ (fr_iret hx hb hr hlocks hC dX7_hang_86)
          · replace hf := oneg c33 hf
            obtain ⟨h50, g51, hf⟩ := obind hf
            obtain rfl := Option.some.inj hf
            exact fr_throwS hx hb hml hts hfl hown K hC hR th_RX7_73_77_2 st_RX7_110 hl.1 dX7_hang_57 dX7_hang_60 dX7_hang_61 dX7_hang_63 dX7_hang_66 hno (by exact Nat.le_of_ble_eq_true rfl) (catL _ _ (by exact Nat.le_of_ble_eq_true rfl) (by exact Nat.le_of_ble_eq_true rfl)) hlocks g51
        · replace hf := oneg c24 hf
          exact w_X7_hang_L30 M hfl hno _ hf _ _ _ _ _ hC (lv_sub hl [] rfl)
    · obtain rfl := Option.some.inj hf
      refine fr_callVT hx hb hml hts hown K hC hR ct_7 (c_X7_found hfl D cA g11) 1 q13 kw51 kw47 kw49 kw0 kw23 (by decide +kernel) ⟨by exact Nat.le_of_ble_eq_true rfl, by exact Nat.le_of_ble_eq_true rfl⟩ rfl hl.1 (cat8 _ (by exact Nat.le_of_ble_eq_true rfl)) dX7_hang_8 rfl (fun H locs _ _ q ce hC e1 e2 e3 => ?_)
      exact fr_out (fun x hx9 => (hno x hx9).elim) hlocks hC e1 e2 e3
  · obtain rfl := Option.some.inj hf
    refine fr_callVT hx hb hml hts hown K hC hR ct_7 (c_X7_found hfl D cA g4) 1 q6 kw51 kw47 kw49 kw0 kw23 (by decide +kernel) ⟨by exact Nat.le_of_ble_eq_true rfl, by exact Nat.le_of_ble_eq_true rfl⟩ rfl hl.1 (cat8 _ (by exact Nat.le_of_ble_eq_true rfl)) dX7_hang_2 rfl (fun H locs _ _ q ce hC e1 e2 e3 => ?_)
    exact fr_out (fun x hx9 => (hno x hx9).elim) hlocks hC e1 e2 e3
set_option maxRecDepth 100000 in
theorem c_X7_hang {l : Launch} (hfl : l.stackTraces = false) (D : va_G) (cA : Nat → ClassId) {o : Nat} {p0 : Int32} {p1 : Int32} {h : fSt} {r : ((Int32 ⊕ Nat) × fSt)} (hf : f_X7_hang o p0 p1 h = some r) : fMetX l yX7_hang (wsC yX7_hang cX7_hang 5 (some (.int))) (18) (426) D cA [.ref o, .int p0, .int p1] h r.2 (rI r.1) := by
  exact fMetX.of (own := RX7) (by decide +kernel) rfl (lva1 rfl (lva1 rfl (lva1 rfl lva0))) (lgl1 rfl (lgl1 rfl (lgl1 rfl lgl0))) (Nat.le_of_ble_eq_true rfl) (fun p e s m args below meth c ls hno M hC hl => by
    have hl : lv_has ls 5 [(0, va_rf (some o)), (1, .int p0), (2, .int p1)] := hl
    exact w_X7_hang_L0 M hfl hno _ _ _ _ hf _ _ _ _ _ hC (lv_sub hl [0, 1, 2] rfl))
set_option maxHeartbeats 4000000 in
set_option maxRecDepth 100000 in
theorem w_X8_hanging_L38 {p : Program} {l : Launch} {e : Env} {s : State} {m : MethodId} {args : Array Value} {below : List Frame} {meth : Method} {c : Code} {D : va_G} {cA : Nat → ClassId} {h0 : fSt} {r : (Int32 × fSt)} (M : fM p s m args meth c D cA h0 { frames := 1, cells := fCB h0 - fZ h0, slots := fLB h0 - fL h0, locals := 21 } cX8_hanging 4 (some (.int)) RX8) (hfl : l.stackTraces = false) {k4 : Option Nat → Int32 → Int32 → Int32 → fSt → Option (Int32 × fSt)} (hk4 : ∀ (a0 : Option Nat) (a1 : Int32) (a2 : Int32) (a3 : Int32) (h : fSt), k4 a0 a1 a2 a3 h = some r → ∀ (H : Heap) (locs : List Loc) (cells slots : Nat) (ls : Array Slot), fCur D cA s h0 h H locs → lv_has ls 4 [(0, va_rf a0), (1, .int a1), (2, .int a2), (3, .int a3)] → W p l e { frames := 1, cells := fCB h0 - fZ h0, slots := fLB h0 - fL h0, locals := 21 } s m args below meth c H locs cells slots (MQ below (fQ D cA h0 r.2 (some (.int r.1))) args s (fCB h0 - fZ h0) (fLB h0 - fL h0) (fA h0)) (F0 m 4 ls [])) (a0 : Option Nat) (a1 : Int32) (a3 : Int32) (s1 : Int32) (s0 : Int32) (h : fSt) (hf : f_X8_hanging_L38 k4 a0 a1 a3 s1 s0 h = some r) : ∀ (H : Heap) (locs : List Loc) (cells slots : Nat) (ls : Array Slot), fCur D cA s h0 h H locs → lv_has ls 4 [(0, va_rf a0), (1, .int a1), (3, .int a3)] → W p l e { frames := 1, cells := fCB h0 - fZ h0, slots := fLB h0 - fL h0, locals := 21 } s m args below meth c H locs cells slots (MQ below (fQ D cA h0 r.2 (some (.int r.1))) args s (fCB h0 - fZ h0) (fLB h0 - fL h0) (fA h0)) (F0 m 38 ls [.int s1, .int s0]) := by
  obtain ⟨hx, hb, hml, hr, hlocks, hts, hown, K, hR⟩ := id M
  intro H locs cells slots ls hC hl
  refine lv_iadd hx hb dX8_hanging_38 ?_
  refine lv_istore_n (lv' := [(2, .int (s0 + s1)), (0, va_rf a0), (1, .int a1), (3, .int a3)]) hx hb dX8_hanging_39 rfl hl (by decide) (congrArg (List.cons _) (flk rfl (flk rfl (flk rfl fln)))) (fun ls hl => ?_)
  refine lv_iinc (v := (a3 + (1 : Int32))) (lv' := [(3, .int (a3 + (1 : Int32))), (2, .int (s0 + s1)), (0, va_rf a0), (1, .int a1)]) hx hb dX8_hanging_40 hl (k := 3) rfl rfl (by decide) (congrArg (List.cons _) (flk rfl (flk rfl (flk rfl (fld rfl fln))))) (fun ls hl => ?_)
  refine lv_goto (tgt := 4) hx hb dX8_hanging_43 (by decide) ?_
  exact hk4 _ _ _ _ _ hf _ _ _ _ _ hC (lv_sub hl [2, 3, 1, 0] rfl)
set_option maxHeartbeats 4000000 in
set_option maxRecDepth 100000 in
theorem w_X8_hanging_L37 {p : Program} {l : Launch} {e : Env} {s : State} {m : MethodId} {args : Array Value} {below : List Frame} {meth : Method} {c : Code} {D : va_G} {cA : Nat → ClassId} {h0 : fSt} {r : (Int32 × fSt)} (M : fM p s m args meth c D cA h0 { frames := 1, cells := fCB h0 - fZ h0, slots := fLB h0 - fL h0, locals := 21 } cX8_hanging 4 (some (.int)) RX8) (hfl : l.stackTraces = false) {k4 : Option Nat → Int32 → Int32 → Int32 → fSt → Option (Int32 × fSt)} (hk4 : ∀ (a0 : Option Nat) (a1 : Int32) (a2 : Int32) (a3 : Int32) (h : fSt), k4 a0 a1 a2 a3 h = some r → ∀ (H : Heap) (locs : List Loc) (cells slots : Nat) (ls : Array Slot), fCur D cA s h0 h H locs → lv_has ls 4 [(0, va_rf a0), (1, .int a1), (2, .int a2), (3, .int a3)] → W p l e { frames := 1, cells := fCB h0 - fZ h0, slots := fLB h0 - fL h0, locals := 21 } s m args below meth c H locs cells slots (MQ below (fQ D cA h0 r.2 (some (.int r.1))) args s (fCB h0 - fZ h0) (fLB h0 - fL h0) (fA h0)) (F0 m 4 ls [])) (a0 : Option Nat) (a1 : Int32) (a3 : Int32) (s0 : Int32) (h : fSt) (hf : f_X8_hanging_L37 k4 a0 a1 a3 s0 h = some r) : ∀ (H : Heap) (locs : List Loc) (cells slots : Nat) (ls : Array Slot), fCur D cA s h0 h H locs → lv_has ls 4 [(0, va_rf a0), (1, .int a1), (3, .int a3)] → W p l e { frames := 1, cells := fCB h0 - fZ h0, slots := fLB h0 - fL h0, locals := 21 } s m args below meth c H locs cells slots (MQ below (fQ D cA h0 r.2 (some (.int r.1))) args s (fCB h0 - fZ h0) (fLB h0 - fL h0) (fA h0)) (F0 m 37 ls [.int s0]) := by
  obtain ⟨hx, hb, hml, hr, hlocks, hts, hown, K, hR⟩ := id M
  intro H locs cells slots ls hC hl
  refine lv_iconst (v := (0 : Int32)) hx hb dX8_hanging_37 (by decide) ?_
  exact w_X8_hanging_L38 M hfl hk4 _ _ _ _ _ _ hf _ _ _ _ _ hC (lv_sub hl [0, 1, 2] rfl)
set_option maxHeartbeats 4000000 in
set_option maxRecDepth 100000 in
theorem w_X8_hanging_L4 {p : Program} {l : Launch} {e : Env} {s : State} {m : MethodId} {args : Array Value} {below : List Frame} {meth : Method} {c : Code} {D : va_G} {cA : Nat → ClassId} {h0 : fSt} {r : (Int32 × fSt)} (M : fM p s m args meth c D cA h0 { frames := 1, cells := fCB h0 - fZ h0, slots := fLB h0 - fL h0, locals := 21 } cX8_hanging 4 (some (.int)) RX8) (hfl : l.stackTraces = false) : ∀ (n : Nat) (a0 : Option Nat) (a1 : Int32) (a2 : Int32) (a3 : Int32) (h : fSt), f_X8_hanging_L4 n a0 a1 a2 a3 h = some r → ∀ (H : Heap) (locs : List Loc) (cells slots : Nat) (ls : Array Slot), fCur D cA s h0 h H locs → lv_has ls 4 [(0, va_rf a0), (1, .int a1), (2, .int a2), (3, .int a3)] → W p l e { frames := 1, cells := fCB h0 - fZ h0, slots := fLB h0 - fL h0, locals := 21 } s m args below meth c H locs cells slots (MQ below (fQ D cA h0 r.2 (some (.int r.1))) args s (fCB h0 - fZ h0) (fLB h0 - fL h0) (fA h0)) (F0 m 4 ls []) := by
  obtain ⟨hx, hb, hml, hr, hlocks, hts, hown, K, hR⟩ := id M
  intro n
  induction n with
  | zero =>
    intro a0 a1 a2 a3 h hf
    exact nomatch (show (none : Option (Int32 × fSt)) = some r from hf)
  | succ n hk4 =>
    intro a0 a1 a2 a3 h hf H locs cells slots ls hC hl
    refine lv_iload_n hx hb dX8_hanging_4 rfl (lv_at hl 3 rfl) ?_
    refine fr_aload_n hx hb dX8_hanging_5 rfl (lv_at hl 0 rfl) ?_
    obtain ⟨x1, g2, hf⟩ := obind hf
    refine fr_get hx hb hts hown K hC ct_8 (fgI_get g2) (by decide) kw659 rfl dX8_hanging_6 ?_
    refine lv_icmp_ge (tgt := 46) hx hb dX8_hanging_9 (by decide) (fun c3 => ?_) (fun c3 => ?_)
    · replace hf := opos c3 hf
      refine lv_iload_n hx hb dX8_hanging_46 rfl (lv_at hl 2 rfl) ?_
      obtain rfl := Option.some.inj hf
      exact fr_iret hx hb hr hlocks hC dX8_hanging_47
    · replace hf := oneg c3 hf
      refine lv_iload_n hx hb dX8_hanging_12 rfl (lv_at hl 2 rfl) ?_
      refine fr_aload_n hx hb dX8_hanging_13 rfl (lv_at hl 0 rfl) ?_
      refine lv_iload_n hx hb dX8_hanging_14 rfl (lv_at hl 3 rfl) ?_
      obtain ⟨b6, q7, hf⟩ := obind hf
      obtain ⟨r4, g5, hf⟩ := obind hf
      refine fr_callV hx hb hml hts hown K hC hR ct_8 (c_X8_isThere hfl D cA g5) 1 q7 kw718 kw724 kw716 kw717 kw22 (by decide +kernel) ⟨by exact Nat.le_of_ble_eq_true rfl, by exact Nat.le_of_ble_eq_true rfl⟩ rfl hl.1 (cat8 _ (by exact Nat.le_of_ble_eq_true rfl)) dX8_hanging_15 rfl (fun H locs _ _ hC => ?_)
      refine lv_if_eq (tgt := 37) hx hb dX8_hanging_18 (by decide) (fun c8 => ?_) (fun c8 => ?_)
      · replace hf := opos c8 hf
        exact w_X8_hanging_L37 M hfl hk4 _ _ _ _ _ hf _ _ _ _ _ hC (lv_sub hl [0, 1, 3] rfl)
      · replace hf := oneg c8 hf
        refine fr_aload_n hx hb dX8_hanging_21 rfl (lv_at hl 0 rfl) ?_
        obtain ⟨x9, g10, hf⟩ := obind hf
        refine fr_get hx hb hts hown K hC ct_8 (fgR_get g10) (by decide) kw661 rfl dX8_hanging_22 ?_
        refine lv_iload_n hx hb dX8_hanging_25 rfl (lv_at hl 3 rfl) ?_
        obtain ⟨x11, g12, hf⟩ := obind hf
        refine fr_aaldA hx hb K hC (t := 4) rfl g12 dX8_hanging_26 ?_
        refine lv_iconst (v := (0 : Int32)) hx hb dX8_hanging_27 (by decide) ?_
        obtain ⟨x13, g14, hf⟩ := obind hf
        refine fr_iald hx hb K hC (t := 0) rfl g14 dX8_hanging_28 ?_
        refine lv_iload_n hx hb dX8_hanging_29 rfl (lv_at hl 1 rfl) ?_
        refine lv_icmp_ne (tgt := 37) hx hb dX8_hanging_30 (by decide) (fun c15 => ?_) (fun c15 => ?_)
        · replace hf := oneg c15 hf
          exact w_X8_hanging_L37 M hfl hk4 _ _ _ _ _ hf _ _ _ _ _ hC (lv_sub hl [0, 1, 3] rfl)
        · replace hf := opos c15 hf
          refine lv_iconst (v := (1 : Int32)) hx hb dX8_hanging_33 (by decide) ?_
          refine lv_goto (tgt := 38) hx hb dX8_hanging_34 (by decide) ?_
          exact w_X8_hanging_L38 M hfl hk4 _ _ _ _ _ _ hf _ _ _ _ _ hC (lv_sub hl [0, 1, 3] rfl)
set_option maxHeartbeats 4000000 in
set_option maxRecDepth 100000 in
theorem w_X8_hanging_L0 {p : Program} {l : Launch} {e : Env} {s : State} {m : MethodId} {args : Array Value} {below : List Frame} {meth : Method} {c : Code} {D : va_G} {cA : Nat → ClassId} {h0 : fSt} {r : (Int32 × fSt)} (M : fM p s m args meth c D cA h0 { frames := 1, cells := fCB h0 - fZ h0, slots := fLB h0 - fL h0, locals := 21 } cX8_hanging 4 (some (.int)) RX8) (hfl : l.stackTraces = false) (a0 : Option Nat) (a1 : Int32) (h : fSt) (hf : f_X8_hanging_L0 a0 a1 h = some r) : ∀ (H : Heap) (locs : List Loc) (cells slots : Nat) (ls : Array Slot), fCur D cA s h0 h H locs → lv_has ls 4 [(0, va_rf a0), (1, .int a1)] → W p l e { frames := 1, cells := fCB h0 - fZ h0, slots := fLB h0 - fL h0, locals := 21 } s m args below meth c H locs cells slots (MQ below (fQ D cA h0 r.2 (some (.int r.1))) args s (fCB h0 - fZ h0) (fLB h0 - fL h0) (fA h0)) (F0 m 0 ls []) := by
  obtain ⟨hx, hb, hml, hr, hlocks, hts, hown, K, hR⟩ := id M
  intro H locs cells slots ls hC hl
  refine lv_iconst (v := (0 : Int32)) hx hb dX8_hanging_0 (by decide) ?_
  refine lv_istore_n (lv' := [(2, .int (0 : Int32)), (0, va_rf a0), (1, .int a1)]) hx hb dX8_hanging_1 rfl hl (by decide) (congrArg (List.cons _) (flk rfl (flk rfl fln))) (fun ls hl => ?_)
  refine lv_iconst (v := (1 : Int32)) hx hb dX8_hanging_2 (by decide) ?_
  refine lv_istore_n (lv' := [(3, .int (1 : Int32)), (2, .int (0 : Int32)), (0, va_rf a0), (1, .int a1)]) hx hb dX8_hanging_3 rfl hl (by decide) (congrArg (List.cons _) (flk rfl (flk rfl (flk rfl fln)))) (fun ls hl => ?_)
  exact w_X8_hanging_L4 M hfl 4096 _ _ _ _ _ hf _ _ _ _ _ hC (lv_sub hl [2, 3, 1, 0] rfl)
set_option maxRecDepth 100000 in
theorem c_X8_hanging {l : Launch} (hfl : l.stackTraces = false) (D : va_G) (cA : Nat → ClassId) {o : Nat} {p0 : Int32} {h : fSt} {r : (Int32 × fSt)} (hf : f_X8_hanging o p0 h = some r) : fMet l yX8_hanging (wsC yX8_hanging cX8_hanging 4 (some (.int))) (1) (21) D cA [.ref o, .int p0] h r.2 (some (.int r.1)) := by
  exact fMet.of (own := RX8) (by decide +kernel) rfl (lva1 rfl (lva1 rfl lva0)) (lgl1 rfl (lgl1 rfl lgl0)) (Nat.le_of_ble_eq_true rfl) (fun p e s m args below meth c ls hnm _ M hC hl => by
    have hl : lv_has ls 4 [(0, va_rf (some o)), (1, .int p0)] := hl
    exact w_X8_hanging_L0 M hfl _ _ _ hf _ _ _ _ _ hC (lv_sub hl [0, 1] rfl))
set_option maxHeartbeats 4000000 in
set_option maxRecDepth 100000 in
theorem w_X8_isIn_L30 {p : Program} {l : Launch} {e : Env} {s : State} {m : MethodId} {args : Array Value} {below : List Frame} {meth : Method} {c : Code} {D : va_G} {cA : Nat → ClassId} {h0 : fSt} {self : Nat → Int32 → Int32 → fSt → Option (Int32 × fSt)} {fd ld : Nat} {r : (Int32 × fSt)} (hself : ∀ {o : Nat} {p0 : Int32} {p1 : Int32} {h : fSt} {r : (Int32 × fSt)}, self o p0 p1 h = some r → fMet l yX8_isIn (wsC yX8_isIn cX8_isIn 3 (some (.boolean))) fd ld D cA [.ref o, .int p0, .int p1] h r.2 (some (.int r.1))) (M : fM p s m args meth c D cA h0 { frames := fd + 1, cells := fCB h0 - fZ h0, slots := fLB h0 - fL h0, locals := ld + 22 } cX8_isIn 3 (some (.boolean)) RX8) (hfl : l.stackTraces = false) (s0 : Int32) (h : fSt) (hf : f_X8_isIn_L30 self s0 h = some r) : ∀ (H : Heap) (locs : List Loc) (cells slots : Nat) (ls : Array Slot), fCur D cA s h0 h H locs → lv_has ls 3 [] → W p l e { frames := fd + 1, cells := fCB h0 - fZ h0, slots := fLB h0 - fL h0, locals := ld + 22 } s m args below meth c H locs cells slots (MQ below (fQ D cA h0 r.2 (some (.int r.1))) args s (fCB h0 - fZ h0) (fLB h0 - fL h0) (fA h0)) (F0 m 30 ls [.int s0]) := by
  obtain ⟨hx, hb, hml, hr, hlocks, hts, hown, K, hR⟩ := id M
  intro H locs cells slots ls hC hl
  by_cases c1 : s0 = 0 ∨ s0 = 1
  rotate_left
  · exact nomatch (oneg c1 hf)
  obtain rfl := Option.some.inj (opos c1 hf)
  exact fr_zret hx hb hr hlocks hC c1 dX8_isIn_30
set_option maxHeartbeats 4000000 in
set_option maxRecDepth 100000 in
theorem w_X8_isIn_L25 {p : Program} {l : Launch} {e : Env} {s : State} {m : MethodId} {args : Array Value} {below : List Frame} {meth : Method} {c : Code} {D : va_G} {cA : Nat → ClassId} {h0 : fSt} {self : Nat → Int32 → Int32 → fSt → Option (Int32 × fSt)} {fd ld : Nat} {r : (Int32 × fSt)} (hself : ∀ {o : Nat} {p0 : Int32} {p1 : Int32} {h : fSt} {r : (Int32 × fSt)}, self o p0 p1 h = some r → fMet l yX8_isIn (wsC yX8_isIn cX8_isIn 3 (some (.boolean))) fd ld D cA [.ref o, .int p0, .int p1] h r.2 (some (.int r.1))) (M : fM p s m args meth c D cA h0 { frames := fd + 1, cells := fCB h0 - fZ h0, slots := fLB h0 - fL h0, locals := ld + 22 } cX8_isIn 3 (some (.boolean)) RX8) (hfl : l.stackTraces = false)  (h : fSt) (hf : f_X8_isIn_L25 self  h = some r) : ∀ (H : Heap) (locs : List Loc) (cells slots : Nat) (ls : Array Slot), fCur D cA s h0 h H locs → lv_has ls 3 [] → W p l e { frames := fd + 1, cells := fCB h0 - fZ h0, slots := fLB h0 - fL h0, locals := ld + 22 } s m args below meth c H locs cells slots (MQ below (fQ D cA h0 r.2 (some (.int r.1))) args s (fCB h0 - fZ h0) (fLB h0 - fL h0) (fA h0)) (F0 m 25 ls []) := by
  obtain ⟨hx, hb, hml, hr, hlocks, hts, hown, K, hR⟩ := id M
  intro H locs cells slots ls hC hl
  refine lv_iconst (v := (1 : Int32)) hx hb dX8_isIn_25 (by decide) ?_
  refine lv_goto (tgt := 30) hx hb dX8_isIn_26 (by decide) ?_
  exact w_X8_isIn_L30 @hself M hfl _ _ hf _ _ _ _ _ hC (lv_sub hl [] rfl)
set_option maxHeartbeats 4000000 in
set_option maxRecDepth 100000 in
theorem w_X8_isIn_L29 {p : Program} {l : Launch} {e : Env} {s : State} {m : MethodId} {args : Array Value} {below : List Frame} {meth : Method} {c : Code} {D : va_G} {cA : Nat → ClassId} {h0 : fSt} {self : Nat → Int32 → Int32 → fSt → Option (Int32 × fSt)} {fd ld : Nat} {r : (Int32 × fSt)} (hself : ∀ {o : Nat} {p0 : Int32} {p1 : Int32} {h : fSt} {r : (Int32 × fSt)}, self o p0 p1 h = some r → fMet l yX8_isIn (wsC yX8_isIn cX8_isIn 3 (some (.boolean))) fd ld D cA [.ref o, .int p0, .int p1] h r.2 (some (.int r.1))) (M : fM p s m args meth c D cA h0 { frames := fd + 1, cells := fCB h0 - fZ h0, slots := fLB h0 - fL h0, locals := ld + 22 } cX8_isIn 3 (some (.boolean)) RX8) (hfl : l.stackTraces = false)  (h : fSt) (hf : f_X8_isIn_L29 self  h = some r) : ∀ (H : Heap) (locs : List Loc) (cells slots : Nat) (ls : Array Slot), fCur D cA s h0 h H locs → lv_has ls 3 [] → W p l e { frames := fd + 1, cells := fCB h0 - fZ h0, slots := fLB h0 - fL h0, locals := ld + 22 } s m args below meth c H locs cells slots (MQ below (fQ D cA h0 r.2 (some (.int r.1))) args s (fCB h0 - fZ h0) (fLB h0 - fL h0) (fA h0)) (F0 m 29 ls []) := by
  obtain ⟨hx, hb, hml, hr, hlocks, hts, hown, K, hR⟩ := id M
  intro H locs cells slots ls hC hl
  refine lv_iconst (v := (0 : Int32)) hx hb dX8_isIn_29 (by decide) ?_
  exact w_X8_isIn_L30 @hself M hfl _ _ hf _ _ _ _ _ hC (lv_sub hl [] rfl)
set_option maxHeartbeats 4000000 in
set_option maxRecDepth 100000 in
theorem w_X8_isIn_L0 {p : Program} {l : Launch} {e : Env} {s : State} {m : MethodId} {args : Array Value} {below : List Frame} {meth : Method} {c : Code} {D : va_G} {cA : Nat → ClassId} {h0 : fSt} {self : Nat → Int32 → Int32 → fSt → Option (Int32 × fSt)} {fd ld : Nat} {r : (Int32 × fSt)} (hself : ∀ {o : Nat} {p0 : Int32} {p1 : Int32} {h : fSt} {r : (Int32 × fSt)}, self o p0 p1 h = some r → fMet l yX8_isIn (wsC yX8_isIn cX8_isIn 3 (some (.boolean))) fd ld D cA [.ref o, .int p0, .int p1] h r.2 (some (.int r.1))) (M : fM p s m args meth c D cA h0 { frames := fd + 1, cells := fCB h0 - fZ h0, slots := fLB h0 - fL h0, locals := ld + 22 } cX8_isIn 3 (some (.boolean)) RX8) (hfl : l.stackTraces = false) (a0 : Option Nat) (a1 : Int32) (a2 : Int32) (h : fSt) (hf : f_X8_isIn_L0 self a0 a1 a2 h = some r) : ∀ (H : Heap) (locs : List Loc) (cells slots : Nat) (ls : Array Slot), fCur D cA s h0 h H locs → lv_has ls 3 [(0, va_rf a0), (1, .int a1), (2, .int a2)] → W p l e { frames := fd + 1, cells := fCB h0 - fZ h0, slots := fLB h0 - fL h0, locals := ld + 22 } s m args below meth c H locs cells slots (MQ below (fQ D cA h0 r.2 (some (.int r.1))) args s (fCB h0 - fZ h0) (fLB h0 - fL h0) (fA h0)) (F0 m 0 ls []) := by
  obtain ⟨hx, hb, hml, hr, hlocks, hts, hown, K, hR⟩ := id M
  intro H locs cells slots ls hC hl
  refine lv_iload_n hx hb dX8_isIn_0 rfl (lv_at hl 1 rfl) ?_
  refine lv_iload_n hx hb dX8_isIn_1 rfl (lv_at hl 2 rfl) ?_
  refine lv_icmp_eq (tgt := 25) hx hb dX8_isIn_2 (by decide) (fun c2 => ?_) (fun c2 => ?_)
  · replace hf := opos c2 hf
    exact w_X8_isIn_L25 @hself M hfl _ hf _ _ _ _ _ hC (lv_sub hl [] rfl)
  · replace hf := oneg c2 hf
    refine lv_iload_n hx hb dX8_isIn_5 rfl (lv_at hl 1 rfl) ?_
    refine lv_if_le (tgt := 29) hx hb dX8_isIn_6 (by decide) (fun c3 => ?_) (fun c3 => ?_)
    · replace hf := opos c3 hf
      exact w_X8_isIn_L29 @hself M hfl _ hf _ _ _ _ _ hC (lv_sub hl [] rfl)
    · replace hf := oneg c3 hf
      refine fr_aload_n hx hb dX8_isIn_9 rfl (lv_at hl 0 rfl) ?_
      refine fr_aload_n hx hb dX8_isIn_10 rfl (lv_at hl 0 rfl) ?_
      obtain ⟨x4, g5, hf⟩ := obind hf
      refine fr_get hx hb hts hown K hC ct_8 (fgR_get g5) (by decide) kw661 rfl dX8_isIn_11 ?_
      refine lv_iload_n hx hb dX8_isIn_14 rfl (lv_at hl 1 rfl) ?_
      obtain ⟨x6, g7, hf⟩ := obind hf
      refine fr_aaldA hx hb K hC (t := 4) rfl g7 dX8_isIn_15 ?_
      refine lv_iconst (v := (0 : Int32)) hx hb dX8_isIn_16 (by decide) ?_
      obtain ⟨x8, g9, hf⟩ := obind hf
      refine fr_iald hx hb K hC (t := 0) rfl g9 dX8_isIn_17 ?_
      refine lv_iload_n hx hb dX8_isIn_18 rfl (lv_at hl 2 rfl) ?_
      obtain ⟨b12, q13, hf⟩ := obind hf
      obtain ⟨r10, g11, hf⟩ := obind hf
      refine fr_callV hx hb hml hts hown K hC hR ct_8 (hself g11) 2 q13 kw832 kw829 kw830 kw831 kw22 (by decide +kernel) ⟨by dsimp only; omega, by dsimp only; omega⟩ rfl hl.1 (cat8 _ (by exact Nat.le_of_ble_eq_true rfl)) dX8_isIn_19 rfl (fun H locs _ _ hC => ?_)
      refine lv_if_eq (tgt := 29) hx hb dX8_isIn_22 (by decide) (fun c14 => ?_) (fun c14 => ?_)
      · replace hf := opos c14 hf
        exact w_X8_isIn_L29 @hself M hfl _ hf _ _ _ _ _ hC (lv_sub hl [] rfl)
      · replace hf := oneg c14 hf
        exact w_X8_isIn_L25 @hself M hfl _ hf _ _ _ _ _ hC (lv_sub hl [] rfl)
set_option maxRecDepth 100000 in
theorem c_X8_isIn {l : Launch} (hfl : l.stackTraces = false) (D : va_G) (cA : Nat → ClassId) (d : Nat) : ∀ {o : Nat} {p0 : Int32} {p1 : Int32} {h : fSt} {r : (Int32 × fSt)}, f_X8_isIn d o p0 p1 h = some r → fMet l yX8_isIn (wsC yX8_isIn cX8_isIn 3 (some (.boolean))) (1 * d) (22 * d) D cA [.ref o, .int p0, .int p1] h r.2 (some (.int r.1)) := by
  induction d with
  | zero =>
    intro o p0 p1 h r hf
    exact nomatch (show (none : Option (Int32 × fSt)) = some r from hf)
  | succ d hself =>
    intro o p0 p1 h r hf
    have hf : f_X8_isIn_L0 (f_X8_isIn d) (some o) p0 p1 h = some r := hf
    exact fMet.of (own := RX8) (by decide +kernel) rfl (lva1 rfl (lva1 rfl (lva1 rfl lva0))) (lgl1 rfl (lgl1 rfl (lgl1 rfl lgl0))) (Nat.le_of_ble_eq_true rfl) (fun p e s m args below meth c ls hnm _ M hC hl => by
    have hl : lv_has ls 3 [(0, va_rf (some o)), (1, .int p0), (2, .int p1)] := hl
    exact w_X8_isIn_L0 @hself M hfl _ _ _ _ hf _ _ _ _ _ hC (lv_sub hl [0, 1, 2] rfl))
set_option maxHeartbeats 4000000 in
set_option maxRecDepth 100000 in
theorem w_X8_hang_L158 {p : Program} {l : Launch} {e : Env} {s : State} {m : MethodId} {args : Array Value} {below : List Frame} {meth : Method} {c : Code} {D : va_G} {cA : Nat → ClassId} {h0 : fSt} {r : ((Int32 ⊕ Nat) × fSt)} (M : fM p s m args meth c D cA h0 { frames := 19, cells := fCB h0 - fZ h0, slots := fLB h0 - fL h0, locals := 450 } cX8_hang 6 (some (.boolean)) RX8) (hfl : l.stackTraces = false) (hno : c.exceptionTable.toList = tableOf [(85, 145, 146, 132)]) (s0 : Int32) (h : fSt) (hf : f_X8_hang_L158 s0 h = some r) : ∀ (H : Heap) (locs : List Loc) (cells slots : Nat) (ls : Array Slot), fCur D cA s h0 h H locs → lv_has ls 6 [] → W p l e { frames := 19, cells := fCB h0 - fZ h0, slots := fLB h0 - fL h0, locals := 450 } s m args below meth c H locs cells slots (vx_MQ below (fQX D cA h0 r.2 (rI r.1)) (fXC D cA h0 r.2 (rI r.1)) args s (fCB h0 - fZ h0) (fLB h0 - fL h0) (fA h0)) (F0 m 158 ls [.int s0]) := by
  obtain ⟨hx, hb, hml, hr, hlocks, hts, hown, K, hR⟩ := id M
  intro H locs cells slots ls hC hl
  by_cases c1 : s0 = 0 ∨ s0 = 1
  rotate_left
  · exact nomatch (oneg c1 hf)
  obtain rfl := Option.some.inj (opos c1 hf)
  exact fr_retQ (fr_zret hx hb hr hlocks hC c1 dX8_hang_158)
set_option maxHeartbeats 4000000 in
set_option maxRecDepth 100000 in
theorem w_X8_hang_L50 {p : Program} {l : Launch} {e : Env} {s : State} {m : MethodId} {args : Array Value} {below : List Frame} {meth : Method} {c : Code} {D : va_G} {cA : Nat → ClassId} {h0 : fSt} {r : ((Int32 ⊕ Nat) × fSt)} (M : fM p s m args meth c D cA h0 { frames := 19, cells := fCB h0 - fZ h0, slots := fLB h0 - fL h0, locals := 450 } cX8_hang 6 (some (.boolean)) RX8) (hfl : l.stackTraces = false) (hno : c.exceptionTable.toList = tableOf [(85, 145, 146, 132)]) {k5 : Option Nat → Int32 → Int32 → Int32 → Int32 → fSt → Option ((Int32 ⊕ Nat) × fSt)} (hk5 : ∀ (a0 : Option Nat) (a1 : Int32) (a2 : Int32) (a3 : Int32) (a4 : Int32) (h : fSt), k5 a0 a1 a2 a3 a4 h = some r → ∀ (H : Heap) (locs : List Loc) (cells slots : Nat) (ls : Array Slot), fCur D cA s h0 h H locs → lv_has ls 6 [(0, va_rf a0), (1, .int a1), (2, .int a2), (3, .int a3), (4, .int a4)] → W p l e { frames := 19, cells := fCB h0 - fZ h0, slots := fLB h0 - fL h0, locals := 450 } s m args below meth c H locs cells slots (vx_MQ below (fQX D cA h0 r.2 (rI r.1)) (fXC D cA h0 r.2 (rI r.1)) args s (fCB h0 - fZ h0) (fLB h0 - fL h0) (fA h0)) (F0 m 5 ls [])) (a0 : Option Nat) (a1 : Int32) (a2 : Int32) (a3 : Int32) (a4 : Int32) (h : fSt) (hf : f_X8_hang_L50 k5 a0 a1 a2 a3 a4 h = some r) : ∀ (H : Heap) (locs : List Loc) (cells slots : Nat) (ls : Array Slot), fCur D cA s h0 h H locs → lv_has ls 6 [(0, va_rf a0), (1, .int a1), (2, .int a2), (3, .int a3), (4, .int a4)] → W p l e { frames := 19, cells := fCB h0 - fZ h0, slots := fLB h0 - fL h0, locals := 450 } s m args below meth c H locs cells slots (vx_MQ below (fQX D cA h0 r.2 (rI r.1)) (fXC D cA h0 r.2 (rI r.1)) args s (fCB h0 - fZ h0) (fLB h0 - fL h0) (fA h0)) (F0 m 50 ls []) := by
  obtain ⟨hx, hb, hml, hr, hlocks, hts, hown, K, hR⟩ := id M
  intro H locs cells slots ls hC hl
  refine lv_iinc (v := (a4 + (1 : Int32))) (lv' := [(4, .int (a4 + (1 : Int32))), (0, va_rf a0), (1, .int a1), (2, .int a2), (3, .int a3)]) hx hb dX8_hang_50 hl (k := 4) rfl rfl (by decide) (congrArg (List.cons _) (flk rfl (flk rfl (flk rfl (flk rfl (fld rfl fln)))))) (fun ls hl => ?_)
  refine lv_goto (tgt := 5) hx hb dX8_hang_53 (by decide) ?_
  exact hk5 _ _ _ _ _ _ hf _ _ _ _ _ hC (lv_sub hl [1, 2, 3, 4, 0] rfl)
set_option maxHeartbeats 4000000 in
set_option maxRecDepth 100000 in
theorem w_X8_hang_L145 {p : Program} {l : Launch} {e : Env} {s : State} {m : MethodId} {args : Array Value} {below : List Frame} {meth : Method} {c : Code} {D : va_G} {cA : Nat → ClassId} {h0 : fSt} {r : ((Int32 ⊕ Nat) × fSt)} (M : fM p s m args meth c D cA h0 { frames := 19, cells := fCB h0 - fZ h0, slots := fLB h0 - fL h0, locals := 450 } cX8_hang 6 (some (.boolean)) RX8) (hfl : l.stackTraces = false) (hno : c.exceptionTable.toList = tableOf [(85, 145, 146, 132)]) (s0 : Int32) (h : fSt) (hf : f_X8_hang_L145 s0 h = some r) : ∀ (H : Heap) (locs : List Loc) (cells slots : Nat) (ls : Array Slot), fCur D cA s h0 h H locs → lv_has ls 6 [] → W p l e { frames := 19, cells := fCB h0 - fZ h0, slots := fLB h0 - fL h0, locals := 450 } s m args below meth c H locs cells slots (vx_MQ below (fQX D cA h0 r.2 (rI r.1)) (fXC D cA h0 r.2 (rI r.1)) args s (fCB h0 - fZ h0) (fLB h0 - fL h0) (fA h0)) (F0 m 145 ls [.int s0]) := by
  obtain ⟨hx, hb, hml, hr, hlocks, hts, hown, K, hR⟩ := id M
  intro H locs cells slots ls hC hl
  by_cases c2 : s0 = 0 ∨ s0 = 1
  rotate_left
  · exact nomatch (oneg c2 hf)
  obtain rfl := Option.some.inj (opos c2 hf)
  exact fr_retQ (fr_zret hx hb hr hlocks hC c2 dX8_hang_145)
set_option maxHeartbeats 4000000 in
set_option maxRecDepth 100000 in
theorem w_X8_hang_L144 {p : Program} {l : Launch} {e : Env} {s : State} {m : MethodId} {args : Array Value} {below : List Frame} {meth : Method} {c : Code} {D : va_G} {cA : Nat → ClassId} {h0 : fSt} {r : ((Int32 ⊕ Nat) × fSt)} (M : fM p s m args meth c D cA h0 { frames := 19, cells := fCB h0 - fZ h0, slots := fLB h0 - fL h0, locals := 450 } cX8_hang 6 (some (.boolean)) RX8) (hfl : l.stackTraces = false) (hno : c.exceptionTable.toList = tableOf [(85, 145, 146, 132)])  (h : fSt) (hf : f_X8_hang_L144  h = some r) : ∀ (H : Heap) (locs : List Loc) (cells slots : Nat) (ls : Array Slot), fCur D cA s h0 h H locs → lv_has ls 6 [] → W p l e { frames := 19, cells := fCB h0 - fZ h0, slots := fLB h0 - fL h0, locals := 450 } s m args below meth c H locs cells slots (vx_MQ below (fQX D cA h0 r.2 (rI r.1)) (fXC D cA h0 r.2 (rI r.1)) args s (fCB h0 - fZ h0) (fLB h0 - fL h0) (fA h0)) (F0 m 144 ls []) := by
  obtain ⟨hx, hb, hml, hr, hlocks, hts, hown, K, hR⟩ := id M
  intro H locs cells slots ls hC hl
  refine lv_iconst (v := (0 : Int32)) hx hb dX8_hang_144 (by decide) ?_
  exact w_X8_hang_L145 M hfl hno _ _ hf _ _ _ _ _ hC (lv_sub hl [] rfl)
set_option maxHeartbeats 4000000 in
set_option maxRecDepth 100000 in
theorem w_X8_hang_L83 {p : Program} {l : Launch} {e : Env} {s : State} {m : MethodId} {args : Array Value} {below : List Frame} {meth : Method} {c : Code} {D : va_G} {cA : Nat → ClassId} {h0 : fSt} {r : ((Int32 ⊕ Nat) × fSt)} (M : fM p s m args meth c D cA h0 { frames := 19, cells := fCB h0 - fZ h0, slots := fLB h0 - fL h0, locals := 450 } cX8_hang 6 (some (.boolean)) RX8) (hfl : l.stackTraces = false) (hno : c.exceptionTable.toList = tableOf [(85, 145, 146, 132)]) (a0 : Option Nat) (a1 : Int32) (a2 : Int32) (s0 : Int32) (h : fSt) (hf : f_X8_hang_L83 a0 a1 a2 s0 h = some r) : ∀ (H : Heap) (locs : List Loc) (cells slots : Nat) (ls : Array Slot), fCur D cA s h0 h H locs → lv_has ls 6 [(0, va_rf a0), (1, .int a1), (2, .int a2)] → W p l e { frames := 19, cells := fCB h0 - fZ h0, slots := fLB h0 - fL h0, locals := 450 } s m args below meth c H locs cells slots (vx_MQ below (fQX D cA h0 r.2 (rI r.1)) (fXC D cA h0 r.2 (rI r.1)) args s (fCB h0 - fZ h0) (fLB h0 - fL h0) (fA h0)) (F0 m 83 ls [.int s0]) := by
  obtain ⟨hx, hb, hml, hr, hlocks, hts, hown, K, hR⟩ := id M
  intro H locs cells slots ls hC hl
  refine lv_istore (lv' := [(4, .int s0), (0, va_rf a0), (1, .int a1), (2, .int a2)]) hx hb dX8_hang_83 hl (by decide) (congrArg (List.cons _) (flk rfl (flk rfl (flk rfl fln)))) (fun ls hl => ?_)
  refine fr_aload_n hx hb dX8_hang_85 rfl (lv_at hl 1 rfl) ?_
  obtain ⟨x3, g4, hf⟩ := obind hf
  refine fr_get hx hb hts hown K hC ct_8 (fgR_get g4) (by decide) kw655 rfl dX8_hang_86 ?_
  refine lv_iload_n hx hb dX8_hang_89 rfl (lv_at hl 2 rfl) ?_
  refine lv_iload_n hx hb dX8_hang_90 rfl (lv_at hl 3 rfl) ?_
  obtain ⟨b7, q8, hf⟩ := obind hf
  obtain ⟨⟨v9 | k10, h11⟩, g6, hf⟩ := obind hf
  · refine fr_callVX hx hb hml hts hown K hC hR ct_7 (c_X7_hang hfl D cA g6) 2 q8 kw839 kw836 kw837 kw838 kw23 (by decide +kernel) ⟨by exact Nat.le_of_ble_eq_true rfl, by exact Nat.le_of_ble_eq_true rfl⟩ rfl hl.1 (cat8 _ (by exact Nat.le_of_ble_eq_true rfl)) dX8_hang_91 rfl (fun H locs _ _ hC => ?_)
    refine lv_istore (lv' := [(5, .int v9), (4, .int s0), (0, va_rf a0), (1, .int a1), (2, .int a2)]) hx hb dX8_hang_94 hl (by decide) (congrArg (List.cons _) (flk rfl (flk rfl (flk rfl (flk rfl fln))))) (fun ls hl => ?_)
    refine fr_aload_n hx hb dX8_hang_96 rfl (lv_at hl 2 rfl) ?_
    obtain ⟨x12, g13, hf⟩ := obind hf
    refine fr_get hx hb hts hown K hC ct_8 (fgR_get g13) (by decide) kw661 rfl dX8_hang_97 ?_
    refine lv_iload_n hx hb dX8_hang_100 rfl (lv_at hl 3 rfl) ?_
    obtain ⟨x14, g15, hf⟩ := obind hf
    refine fr_aaldA hx hb K hC (t := 4) rfl g15 dX8_hang_101 ?_
    refine lv_iconst (v := (0 : Int32)) hx hb dX8_hang_102 (by decide) ?_
    refine lv_iload_n hx hb dX8_hang_103 rfl (lv_at hl 4 rfl) ?_
    obtain ⟨h16, g17, hf⟩ := obind hf
    refine fr_iast hx hb K hC (t := 0) rfl g17 dX8_hang_104 (fun H locs hC => ?_)
    refine fr_aload_n hx hb dX8_hang_105 rfl (lv_at hl 2 rfl) ?_
    obtain ⟨x18, g19, hf⟩ := obind hf
    refine fr_get hx hb hts hown K hC ct_8 (fgR_get g19) (by decide) kw661 rfl dX8_hang_106 ?_
    refine lv_iload_n hx hb dX8_hang_109 rfl (lv_at hl 3 rfl) ?_
    obtain ⟨x20, g21, hf⟩ := obind hf
    refine fr_aaldA hx hb K hC (t := 4) rfl g21 dX8_hang_110 ?_
    refine lv_bipush (v := (7 : Int32)) hx hb dX8_hang_111 (by decide) ?_
    refine fr_aload_n hx hb dX8_hang_113 rfl (lv_at hl 2 rfl) ?_
    refine lv_dup hx hb dX8_hang_114 (va_rf_cat _) ?_
    obtain ⟨x22, g23, hf⟩ := obind hf
    refine fr_get hx hb hts hown K hC ct_8 (fgI_get g23) (by decide) kw667 rfl dX8_hang_115 ?_
    refine lv_dup_x1 hx hb dX8_hang_118 rfl (va_rf_cat _) ?_
    refine lv_iconst (v := (1 : Int32)) hx hb dX8_hang_119 (by decide) ?_
    refine lv_iadd hx hb dX8_hang_120 ?_
    obtain ⟨h24, g25, hf⟩ := obind hf
    refine fr_put hx hb hts hown K hC ct_8 g25 (by decide) kw667 rfl rfl rfl rfl dX8_hang_121 (fun H locs hC => ?_)
    obtain ⟨h26, g27, hf⟩ := obind hf
    refine fr_iast hx hb K hC (t := 0) rfl g27 dX8_hang_124 (fun H locs hC => ?_)
    refine lv_iload hx hb dX8_hang_125 (lv_at hl 1 rfl) ?_
    refine lv_if_eq (tgt := 144) hx hb dX8_hang_127 (by decide) (fun c28 => ?_) (fun c28 => ?_)
    · replace hf := opos c28 hf
      exact w_X8_hang_L144 M hfl hno _ hf _ _ _ _ _ hC (lv_sub hl [] rfl)
    · replace hf := oneg c28 hf
      refine lv_iload hx hb dX8_hang_130 (lv_at hl 0 rfl) ?_
      refine fr_aload_n hx hb dX8_hang_132 rfl (lv_at hl 2 rfl) ?_
      refine lv_iload_n hx hb dX8_hang_133 rfl (lv_at hl 4 rfl) ?_
      obtain ⟨b31, q32, hf⟩ := obind hf
      obtain ⟨r29, g30, hf⟩ := obind hf
      refine fr_callV hx hb hml hts hown K hC hR ct_8 (c_X8_hanging hfl D cA g30) 1 q32 kw858 kw855 kw856 kw857 kw22 (by decide +kernel) ⟨by exact Nat.le_of_ble_eq_true rfl, by exact Nat.le_of_ble_eq_true rfl⟩ rfl hl.1 (cat8 _ (by exact Nat.le_of_ble_eq_true rfl)) dX8_hang_134 rfl (fun H locs _ _ hC => ?_)
      refine lv_icmp_ne (tgt := 144) hx hb dX8_hang_137 (by decide) (fun c33 => ?_) (fun c33 => ?_)
      · replace hf := oneg c33 hf
        exact w_X8_hang_L144 M hfl hno _ hf _ _ _ _ _ hC (lv_sub hl [] rfl)
      · replace hf := opos c33 hf
        refine lv_iconst (v := (1 : Int32)) hx hb dX8_hang_140 (by decide) ?_
        refine lv_goto (tgt := 145) hx hb dX8_hang_141 (by decide) ?_
        exact w_X8_hang_L145 M hfl hno _ _ hf _ _ _ _ _ hC (lv_sub hl [] rfl)
  · refine fr_callVT hx hb hml hts hown K hC hR ct_7 (c_X7_hang hfl D cA g6) 2 q8 kw839 kw836 kw837 kw838 kw23 (by decide +kernel) ⟨by exact Nat.le_of_ble_eq_true rfl, by exact Nat.le_of_ble_eq_true rfl⟩ rfl hl.1 (cat8 _ (by exact Nat.le_of_ble_eq_true rfl)) dX8_hang_91 rfl (fun H locs _ _ q ce hC e1 e2 e3 => ?_)
    by_cases c34 : k10 = 2
    · replace hf := opos c34 hf
      subst c34
      refine fr_catch (k9 := 2) (name := "java/lang/IllegalStateException") hts K hown [] ⟨85, 145, 146, 132⟩ [] (by rw [hno]; rfl) (fun z hz => nomatch hz) (by decide) (by decide) kw828 kn746 e1 e2 e3 ?_
      refine fr_astore (lv' := [(5, va_rf (some q)), (4, .int s0), (0, va_rf a0), (1, .int a1), (2, .int a2)]) hx hb dX8_hang_146 hl (by decide) (congrArg (List.cons _) (flk rfl (flk rfl (flk rfl (flk rfl fln))))) (fun ls hl => ?_)
      refine lv_iload hx hb dX8_hang_148 (lv_at hl 1 rfl) ?_
      refine lv_if_ne (tgt := 157) hx hb dX8_hang_150 (by decide) (fun c36 => ?_) (fun c36 => ?_)
      · replace hf := oneg c36 hf
        refine lv_iconst (v := (0 : Int32)) hx hb dX8_hang_157 (by decide) ?_
        exact w_X8_hang_L158 M hfl hno _ _ hf _ _ _ _ _ hC (lv_sub hl [] rfl)
      · replace hf := opos c36 hf
        refine lv_iconst (v := (1 : Int32)) hx hb dX8_hang_153 (by decide) ?_
        refine lv_goto (tgt := 158) hx hb dX8_hang_154 (by decide) ?_
        exact w_X8_hang_L158 M hfl hno _ _ hf _ _ _ _ _ hC (lv_sub hl [] rfl)
    replace hf := oneg c34 hf
    exact nomatch hf
set_option maxHeartbeats 4000000 in
set_option maxRecDepth 100000 in
theorem w_X8_hang_L82 {p : Program} {l : Launch} {e : Env} {s : State} {m : MethodId} {args : Array Value} {below : List Frame} {meth : Method} {c : Code} {D : va_G} {cA : Nat → ClassId} {h0 : fSt} {r : ((Int32 ⊕ Nat) × fSt)} (M : fM p s m args meth c D cA h0 { frames := 19, cells := fCB h0 - fZ h0, slots := fLB h0 - fL h0, locals := 450 } cX8_hang 6 (some (.boolean)) RX8) (hfl : l.stackTraces = false) (hno : c.exceptionTable.toList = tableOf [(85, 145, 146, 132)]) (a0 : Option Nat) (a1 : Int32) (a2 : Int32) (h : fSt) (hf : f_X8_hang_L82 a0 a1 a2 h = some r) : ∀ (H : Heap) (locs : List Loc) (cells slots : Nat) (ls : Array Slot), fCur D cA s h0 h H locs → lv_has ls 6 [(0, va_rf a0), (1, .int a1), (2, .int a2)] → W p l e { frames := 19, cells := fCB h0 - fZ h0, slots := fLB h0 - fL h0, locals := 450 } s m args below meth c H locs cells slots (vx_MQ below (fQX D cA h0 r.2 (rI r.1)) (fXC D cA h0 r.2 (rI r.1)) args s (fCB h0 - fZ h0) (fLB h0 - fL h0) (fA h0)) (F0 m 82 ls []) := by
  obtain ⟨hx, hb, hml, hr, hlocks, hts, hown, K, hR⟩ := id M
  intro H locs cells slots ls hC hl
  refine lv_iconst (v := (0 : Int32)) hx hb dX8_hang_82 (by decide) ?_
  exact w_X8_hang_L83 M hfl hno _ _ _ _ _ hf _ _ _ _ _ hC (lv_sub hl [0, 1, 2] rfl)
set_option maxHeartbeats 4000000 in
set_option maxRecDepth 100000 in
theorem w_X8_hang_L5 {p : Program} {l : Launch} {e : Env} {s : State} {m : MethodId} {args : Array Value} {below : List Frame} {meth : Method} {c : Code} {D : va_G} {cA : Nat → ClassId} {h0 : fSt} {r : ((Int32 ⊕ Nat) × fSt)} (M : fM p s m args meth c D cA h0 { frames := 19, cells := fCB h0 - fZ h0, slots := fLB h0 - fL h0, locals := 450 } cX8_hang 6 (some (.boolean)) RX8) (hfl : l.stackTraces = false) (hno : c.exceptionTable.toList = tableOf [(85, 145, 146, 132)]) : ∀ (n : Nat) (a0 : Option Nat) (a1 : Int32) (a2 : Int32) (a3 : Int32) (a4 : Int32) (h : fSt), f_X8_hang_L5 n a0 a1 a2 a3 a4 h = some r → ∀ (H : Heap) (locs : List Loc) (cells slots : Nat) (ls : Array Slot), fCur D cA s h0 h H locs → lv_has ls 6 [(0, va_rf a0), (1, .int a1), (2, .int a2), (3, .int a3), (4, .int a4)] → W p l e { frames := 19, cells := fCB h0 - fZ h0, slots := fLB h0 - fL h0, locals := 450 } s m args below meth c H locs cells slots (vx_MQ below (fQX D cA h0 r.2 (rI r.1)) (fXC D cA h0 r.2 (rI r.1)) args s (fCB h0 - fZ h0) (fLB h0 - fL h0) (fA h0)) (F0 m 5 ls []) := by
  obtain ⟨hx, hb, hml, hr, hlocks, hts, hown, K, hR⟩ := id M
  intro n
  induction n with
  | zero =>
    intro a0 a1 a2 a3 a4 h hf
    exact nomatch (show (none : Option ((Int32 ⊕ Nat) × fSt)) = some r from hf)
  | succ n hk5 =>
    intro a0 a1 a2 a3 a4 h hf H locs cells slots ls hC hl
    refine lv_iload hx hb dX8_hang_5 (lv_at hl 4 rfl) ?_
    refine fr_aload_n hx hb dX8_hang_7 rfl (lv_at hl 0 rfl) ?_
    obtain ⟨x37, g38, hf⟩ := obind hf
    refine fr_get hx hb hts hown K hC ct_8 (fgI_get g38) (by decide) kw659 rfl dX8_hang_8 ?_
    refine lv_icmp_ge (tgt := 56) hx hb dX8_hang_11 (by decide) (fun c39 => ?_) (fun c39 => ?_)
    · replace hf := opos c39 hf
      refine fr_aload_n hx hb dX8_hang_56 rfl (lv_at hl 0 rfl) ?_
      refine lv_iload_n hx hb dX8_hang_57 rfl (lv_at hl 2 rfl) ?_
      refine lv_iload_n hx hb dX8_hang_58 rfl (lv_at hl 1 rfl) ?_
      obtain ⟨b42, q43, hf⟩ := obind hf
      obtain ⟨r40, g41, hf⟩ := obind hf
      refine fr_callV hx hb hml hts hown K hC hR ct_8 (c_X8_isIn hfl D cA 8 g41) 2 q43 kw832 kw829 kw830 kw831 kw22 (by decide +kernel) ⟨by exact Nat.le_of_ble_eq_true rfl, by exact Nat.le_of_ble_eq_true rfl⟩ rfl hl.1 (cat8 _ (by exact Nat.le_of_ble_eq_true rfl)) dX8_hang_59 rfl (fun H locs _ _ hC => ?_)
      refine lv_if_ne (tgt := 82) hx hb dX8_hang_62 (by decide) (fun c44 => ?_) (fun c44 => ?_)
      · replace hf := oneg c44 hf
        exact w_X8_hang_L82 M hfl hno _ _ _ _ hf _ _ _ _ _ hC (lv_sub hl [0, 1, 2] rfl)
      · replace hf := opos c44 hf
        refine fr_aload_n hx hb dX8_hang_65 rfl (lv_at hl 0 rfl) ?_
        refine lv_iload_n hx hb dX8_hang_66 rfl (lv_at hl 2 rfl) ?_
        obtain ⟨b47, q48, hf⟩ := obind hf
        obtain ⟨r45, g46, hf⟩ := obind hf
        refine fr_callV hx hb hml hts hown K hC hR ct_8 (c_X8_level hfl D cA 8 g46) 1 q48 kw737 kw734 kw735 kw736 kw22 (by decide +kernel) ⟨by exact Nat.le_of_ble_eq_true rfl, by exact Nat.le_of_ble_eq_true rfl⟩ rfl hl.1 (cat8 _ (by exact Nat.le_of_ble_eq_true rfl)) dX8_hang_67 rfl (fun H locs _ _ hC => ?_)
        refine lv_iconst (v := (1 : Int32)) hx hb dX8_hang_70 (by decide) ?_
        refine lv_iadd hx hb dX8_hang_71 ?_
        refine lv_iload_n hx hb dX8_hang_72 rfl (lv_at hl 3 rfl) ?_
        refine lv_iadd hx hb dX8_hang_73 ?_
        refine lv_iconst (v := (5 : Int32)) hx hb dX8_hang_74 (by decide) ?_
        refine lv_icmp_ge (tgt := 82) hx hb dX8_hang_75 (by decide) (fun c49 => ?_) (fun c49 => ?_)
        · replace hf := opos c49 hf
          exact w_X8_hang_L82 M hfl hno _ _ _ _ hf _ _ _ _ _ hC (lv_sub hl [0, 1, 2] rfl)
        · replace hf := oneg c49 hf
          refine lv_iconst (v := (1 : Int32)) hx hb dX8_hang_78 (by decide) ?_
          refine lv_goto (tgt := 83) hx hb dX8_hang_79 (by decide) ?_
          exact w_X8_hang_L83 M hfl hno _ _ _ _ _ hf _ _ _ _ _ hC (lv_sub hl [0, 1, 2] rfl)
    · replace hf := oneg c39 hf
      refine fr_aload_n hx hb dX8_hang_14 rfl (lv_at hl 0 rfl) ?_
      refine lv_iload hx hb dX8_hang_15 (lv_at hl 4 rfl) ?_
      obtain ⟨b52, q53, hf⟩ := obind hf
      obtain ⟨r50, g51, hf⟩ := obind hf
      refine fr_callV hx hb hml hts hown K hC hR ct_8 (c_X8_isThere hfl D cA g51) 1 q53 kw718 kw724 kw716 kw717 kw22 (by decide +kernel) ⟨by exact Nat.le_of_ble_eq_true rfl, by exact Nat.le_of_ble_eq_true rfl⟩ rfl hl.1 (cat8 _ (by exact Nat.le_of_ble_eq_true rfl)) dX8_hang_17 rfl (fun H locs _ _ hC => ?_)
      refine lv_if_eq (tgt := 50) hx hb dX8_hang_20 (by decide) (fun c54 => ?_) (fun c54 => ?_)
      · replace hf := opos c54 hf
        exact w_X8_hang_L50 M hfl hno hk5 _ _ _ _ _ _ hf _ _ _ _ _ hC (lv_sub hl [0, 1, 2, 3, 4] rfl)
      · replace hf := oneg c54 hf
        refine fr_aload_n hx hb dX8_hang_23 rfl (lv_at hl 0 rfl) ?_
        refine lv_iload hx hb dX8_hang_24 (lv_at hl 4 rfl) ?_
        refine lv_iload_n hx hb dX8_hang_26 rfl (lv_at hl 1 rfl) ?_
        obtain ⟨b57, q58, hf⟩ := obind hf
        obtain ⟨r55, g56, hf⟩ := obind hf
        refine fr_callV hx hb hml hts hown K hC hR ct_8 (c_X8_isIn hfl D cA 8 g56) 2 q58 kw832 kw829 kw830 kw831 kw22 (by decide +kernel) ⟨by exact Nat.le_of_ble_eq_true rfl, by exact Nat.le_of_ble_eq_true rfl⟩ rfl hl.1 (cat8 _ (by exact Nat.le_of_ble_eq_true rfl)) dX8_hang_27 rfl (fun H locs _ _ hC => ?_)
        refine lv_if_eq (tgt := 50) hx hb dX8_hang_30 (by decide) (fun c59 => ?_) (fun c59 => ?_)
        · replace hf := opos c59 hf
          exact w_X8_hang_L50 M hfl hno hk5 _ _ _ _ _ _ hf _ _ _ _ _ hC (lv_sub hl [0, 1, 2, 3, 4] rfl)
        · replace hf := oneg c59 hf
          refine lv_iload_n hx hb dX8_hang_33 rfl (lv_at hl 3 rfl) ?_
          refine fr_aload_n hx hb dX8_hang_34 rfl (lv_at hl 0 rfl) ?_
          refine lv_iload hx hb dX8_hang_35 (lv_at hl 4 rfl) ?_
          obtain ⟨b62, q63, hf⟩ := obind hf
          obtain ⟨r60, g61, hf⟩ := obind hf
          refine fr_callV hx hb hml hts hown K hC hR ct_8 (c_X8_level hfl D cA 8 g61) 1 q63 kw737 kw734 kw735 kw736 kw22 (by decide +kernel) ⟨by exact Nat.le_of_ble_eq_true rfl, by exact Nat.le_of_ble_eq_true rfl⟩ rfl hl.1 (cat8 _ (by exact Nat.le_of_ble_eq_true rfl)) dX8_hang_37 rfl (fun H locs _ _ hC => ?_)
          refine fr_aload_n hx hb dX8_hang_40 rfl (lv_at hl 0 rfl) ?_
          refine lv_iload_n hx hb dX8_hang_41 rfl (lv_at hl 1 rfl) ?_
          obtain ⟨b66, q67, hf⟩ := obind hf
          obtain ⟨r64, g65, hf⟩ := obind hf
          refine fr_callV hx hb hml hts hown K hC hR ct_8 (c_X8_level hfl D cA 8 g65) 1 q67 kw737 kw734 kw735 kw736 kw22 (by decide +kernel) ⟨by exact Nat.le_of_ble_eq_true rfl, by exact Nat.le_of_ble_eq_true rfl⟩ rfl hl.1 (cat8 _ (by exact Nat.le_of_ble_eq_true rfl)) dX8_hang_42 rfl (fun H locs _ _ hC => ?_)
          refine lv_isub hx hb dX8_hang_45 ?_
          refine fr_mmax hx hb hml hts hown hC hR kw833 kw834 kw38 kw835 hl.1 (by exact Nat.le_of_ble_eq_true rfl) (catL _ _ (by exact Nat.le_of_ble_eq_true rfl) (by exact Nat.le_of_ble_eq_true rfl)) dX8_hang_46 (fun _ _ => ?_)
          refine lv_istore_n (lv' := [(3, .int (if a3 < (r60.1 - r64.1) then (r60.1 - r64.1) else a3)), (0, va_rf a0), (1, .int a1), (2, .int a2), (4, .int a4)]) hx hb dX8_hang_49 rfl hl (by decide) (congrArg (List.cons _) (flk rfl (flk rfl (flk rfl (fld rfl (flk rfl fln)))))) (fun ls hl => ?_)
          exact w_X8_hang_L50 M hfl hno hk5 _ _ _ _ _ _ hf _ _ _ _ _ hC (lv_sub hl [1, 2, 3, 0, 4] rfl)
set_option maxHeartbeats 4000000 in
set_option maxRecDepth 100000 in
theorem w_X8_hang_L0 {p : Program} {l : Launch} {e : Env} {s : State} {m : MethodId} {args : Array Value} {below : List Frame} {meth : Method} {c : Code} {D : va_G} {cA : Nat → ClassId} {h0 : fSt} {r : ((Int32 ⊕ Nat) × fSt)} (M : fM p s m args meth c D cA h0 { frames := 19, cells := fCB h0 - fZ h0, slots := fLB h0 - fL h0, locals := 450 } cX8_hang 6 (some (.boolean)) RX8) (hfl : l.stackTraces = false) (hno : c.exceptionTable.toList = tableOf [(85, 145, 146, 132)]) (a0 : Option Nat) (a1 : Int32) (a2 : Int32) (h : fSt) (hf : f_X8_hang_L0 a0 a1 a2 h = some r) : ∀ (H : Heap) (locs : List Loc) (cells slots : Nat) (ls : Array Slot), fCur D cA s h0 h H locs → lv_has ls 6 [(0, va_rf a0), (1, .int a1), (2, .int a2)] → W p l e { frames := 19, cells := fCB h0 - fZ h0, slots := fLB h0 - fL h0, locals := 450 } s m args below meth c H locs cells slots (vx_MQ below (fQX D cA h0 r.2 (rI r.1)) (fXC D cA h0 r.2 (rI r.1)) args s (fCB h0 - fZ h0) (fLB h0 - fL h0) (fA h0)) (F0 m 0 ls []) := by
  obtain ⟨hx, hb, hml, hr, hlocks, hts, hown, K, hR⟩ := id M
  intro H locs cells slots ls hC hl
  refine lv_iconst (v := (0 : Int32)) hx hb dX8_hang_0 (by decide) ?_
  refine lv_istore_n (lv' := [(3, .int (0 : Int32)), (0, va_rf a0), (1, .int a1), (2, .int a2)]) hx hb dX8_hang_1 rfl hl (by decide) (congrArg (List.cons _) (flk rfl (flk rfl (flk rfl fln)))) (fun ls hl => ?_)
  refine lv_iconst (v := (1 : Int32)) hx hb dX8_hang_2 (by decide) ?_
  refine lv_istore (lv' := [(4, .int (1 : Int32)), (3, .int (0 : Int32)), (0, va_rf a0), (1, .int a1), (2, .int a2)]) hx hb dX8_hang_3 hl (by decide) (congrArg (List.cons _) (flk rfl (flk rfl (flk rfl (flk rfl fln))))) (fun ls hl => ?_)
  exact w_X8_hang_L5 M hfl hno 4096 _ _ _ _ _ _ hf _ _ _ _ _ hC (lv_sub hl [2, 3, 4, 1, 0] rfl)
set_option maxRecDepth 100000 in
theorem c_X8_hang {l : Launch} (hfl : l.stackTraces = false) (D : va_G) (cA : Nat → ClassId) {o : Nat} {p0 : Int32} {p1 : Int32} {h : fSt} {r : ((Int32 ⊕ Nat) × fSt)} (hf : f_X8_hang o p0 p1 h = some r) : fMetX l yX8_hang (wsCH yX8_hang cX8_hang 6 (some (.boolean)) [(85, 145, 146, 132)]) (19) (450) D cA [.ref o, .int p0, .int p1] h r.2 (rI r.1) := by
  exact fMetX.ofH (own := RX8) (by decide +kernel) rfl (lva1 rfl (lva1 rfl (lva1 rfl lva0))) (lgl1 rfl (lgl1 rfl (lgl1 rfl lgl0))) (Nat.le_of_ble_eq_true rfl) (fun p e s m args below meth c ls hno M hC hl => by
    have hl : lv_has ls 6 [(0, va_rf (some o)), (1, .int p0), (2, .int p1)] := hl
    exact w_X8_hang_L0 M hfl hno _ _ _ _ hf _ _ _ _ _ hC (lv_sub hl [0, 1, 2] rfl))
