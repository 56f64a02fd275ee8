theorem dX8_fromWhole_0 : decode cX8_fromWhole 0 = .ok (.aload_n 0, 1) := by decide +kernel
theorem dX8_fromWhole_1 : decode cX8_fromWhole 1 = .ok (.aload_n 0, 1) := by decide +kernel
theorem dX8_fromWhole_2 : decode cX8_fromWhole 2 = .ok (.aload_n 0, 1) := by decide +kernel
theorem dX8_fromWhole_3 : decode cX8_fromWhole 3 = .ok (.iload_n 1, 1) := by decide +kernel
theorem dX8_fromWhole_4 : decode cX8_fromWhole 4 = .ok (.invokevirtual 88, 3) := by decide +kernel
theorem dX8_fromWhole_7 : decode cX8_fromWhole 7 = .ok (.iload_n 2, 1) := by decide +kernel
theorem dX8_fromWhole_8 : decode cX8_fromWhole 8 = .ok (.iload_n 3, 1) := by decide +kernel
theorem dX8_fromWhole_9 : decode cX8_fromWhole 9 = .ok (.iload 4, 2) := by decide +kernel
theorem dX8_fromWhole_11 : decode cX8_fromWhole 11 = .ok (.invokevirtual 195, 3) := by decide +kernel
theorem dX8_fromWhole_14 : decode cX8_fromWhole 14 = .ok (.putfield 81, 3) := by decide +kernel
theorem dX8_fromWhole_17 : decode cX8_fromWhole 17 = .ok (.aload_n 0, 1) := by decide +kernel
theorem dX8_fromWhole_18 : decode cX8_fromWhole 18 = .ok (.getfield 81, 3) := by decide +kernel
theorem dX8_fromWhole_21 : decode cX8_fromWhole 21 = .ok (.ifCond .ne 15, 3) := by decide +kernel
theorem dX8_fromWhole_24 : decode cX8_fromWhole 24 = .ok (.aload_n 0, 1) := by decide +kernel
theorem dX8_fromWhole_25 : decode cX8_fromWhole 25 = .ok (.iload_n 1, 1) := by decide +kernel
theorem dX8_fromWhole_26 : decode cX8_fromWhole 26 = .ok (.iload_n 2, 1) := by decide +kernel
theorem dX8_fromWhole_27 : decode cX8_fromWhole 27 = .ok (.iload_n 3, 1) := by decide +kernel
theorem dX8_fromWhole_28 : decode cX8_fromWhole 28 = .ok (.iload 4, 2) := by decide +kernel
theorem dX8_fromWhole_30 : decode cX8_fromWhole 30 = .ok (.invokevirtual 203, 3) := by decide +kernel
theorem dX8_fromWhole_33 : decode cX8_fromWhole 33 = .ok (.goto 4, 3) := by decide +kernel
theorem dX8_fromWhole_36 : decode cX8_fromWhole 36 = .ok (.iconst 0, 1) := by decide +kernel
theorem dX8_fromWhole_37 : decode cX8_fromWhole 37 = .ok (.ireturn, 1) := by decide +kernel
theorem dX8_hang_0 : decode cX8_hang 0 = .ok (.aload_n 0, 1) := by decide +kernel
theorem dX8_hang_1 : decode cX8_hang 1 = .ok (.iconst 0, 1) := by decide +kernel
theorem dX8_hang_2 : decode cX8_hang 2 = .ok (.putfield 81, 3) := by decide +kernel
theorem dX8_hang_5 : decode cX8_hang 5 = .ok (.aload_n 0, 1) := by decide +kernel
theorem dX8_hang_6 : decode cX8_hang 6 = .ok (.iload_n 1, 1) := by decide +kernel
theorem dX8_hang_7 : decode cX8_hang 7 = .ok (.invokevirtual 88, 3) := by decide +kernel
theorem dX8_hang_10 : decode cX8_hang 10 = .ok (.ifCond .eq 11, 3) := by decide +kernel
theorem dX8_hang_13 : decode cX8_hang 13 = .ok (.aload_n 0, 1) := by decide +kernel
theorem dX8_hang_14 : decode cX8_hang 14 = .ok (.iload_n 2, 1) := by decide +kernel
theorem dX8_hang_15 : decode cX8_hang 15 = .ok (.invokevirtual 88, 3) := by decide +kernel
theorem dX8_hang_18 : decode cX8_hang 18 = .ok (.ifCond .ne 9, 3) := by decide +kernel
theorem dX8_hang_21 : decode cX8_hang 21 = .ok (.aload_n 0, 1) := by decide +kernel
theorem dX8_hang_22 : decode cX8_hang 22 = .ok (.iconst 1, 1) := by decide +kernel
theorem dX8_hang_23 : decode cX8_hang 23 = .ok (.invokevirtual 92, 3) := by decide +kernel
theorem dX8_hang_26 : decode cX8_hang 26 = .ok (.ireturn, 1) := by decide +kernel
theorem dX8_hang_27 : decode cX8_hang 27 = .ok (.iload_n 1, 1) := by decide +kernel
theorem dX8_hang_28 : decode cX8_hang 28 = .ok (.ifCond .eq 12, 3) := by decide +kernel
theorem dX8_hang_31 : decode cX8_hang 31 = .ok (.aload_n 0, 1) := by decide +kernel
theorem dX8_hang_32 : decode cX8_hang 32 = .ok (.iload_n 2, 1) := by decide +kernel
theorem dX8_hang_33 : decode cX8_hang 33 = .ok (.iload_n 1, 1) := by decide +kernel
theorem dX8_hang_34 : decode cX8_hang 34 = .ok (.invokevirtual 99, 3) := by decide +kernel
theorem dX8_hang_37 : decode cX8_hang 37 = .ok (.ifCond .eq 9, 3) := by decide +kernel
theorem dX8_hang_40 : decode cX8_hang 40 = .ok (.aload_n 0, 1) := by decide +kernel
theorem dX8_hang_41 : decode cX8_hang 41 = .ok (.iconst 2, 1) := by decide +kernel
theorem dX8_hang_42 : decode cX8_hang 42 = .ok (.invokevirtual 92, 3) := by decide +kernel
theorem dX8_hang_45 : decode cX8_hang 45 = .ok (.ireturn, 1) := by decide +kernel
theorem dX8_hang_46 : decode cX8_hang 46 = .ok (.iconst 0, 1) := by decide +kernel
theorem dX8_hang_47 : decode cX8_hang 47 = .ok (.istore_n 3, 1) := by decide +kernel
theorem dX8_hang_48 : decode cX8_hang 48 = .ok (.iconst 1, 1) := by decide +kernel
theorem dX8_hang_49 : decode cX8_hang 49 = .ok (.istore 4, 2) := by decide +kernel
theorem dX8_hang_51 : decode cX8_hang 51 = .ok (.iload 4, 2) := by decide +kernel
theorem dX8_hang_53 : decode cX8_hang 53 = .ok (.aload_n 0, 1) := by decide +kernel
theorem dX8_hang_54 : decode cX8_hang 54 = .ok (.getfield 7, 3) := by decide +kernel
theorem dX8_hang_57 : decode cX8_hang 57 = .ok (.if_icmp .ge 46, 3) := by decide +kernel
theorem dX8_hang_60 : decode cX8_hang 60 = .ok (.aload_n 0, 1) := by decide +kernel
theorem dX8_hang_61 : decode cX8_hang 61 = .ok (.getfield 13, 3) := by decide +kernel
theorem dX8_hang_64 : decode cX8_hang 64 = .ok (.iload 4, 2) := by decide +kernel
theorem dX8_hang_66 : decode cX8_hang 66 = .ok (.baload, 1) := by decide +kernel
theorem dX8_hang_67 : decode cX8_hang 67 = .ok (.ifCond .ne 30, 3) := by decide +kernel
theorem dX8_hang_70 : decode cX8_hang 70 = .ok (.aload_n 0, 1) := by decide +kernel
theorem dX8_hang_71 : decode cX8_hang 71 = .ok (.iload 4, 2) := by decide +kernel
theorem dX8_hang_73 : decode cX8_hang 73 = .ok (.iload_n 1, 1) := by decide +kernel
theorem dX8_hang_74 : decode cX8_hang 74 = .ok (.invokevirtual 99, 3) := by decide +kernel
theorem dX8_hang_77 : decode cX8_hang 77 = .ok (.ifCond .eq 20, 3) := by decide +kernel
theorem dX8_hang_80 : decode cX8_hang 80 = .ok (.iload_n 3, 1) := by decide +kernel
theorem dX8_hang_81 : decode cX8_hang 81 = .ok (.aload_n 0, 1) := by decide +kernel
theorem dX8_hang_82 : decode cX8_hang 82 = .ok (.iload 4, 2) := by decide +kernel
theorem dX8_hang_84 : decode cX8_hang 84 = .ok (.invokevirtual 96, 3) := by decide +kernel
theorem dX8_hang_87 : decode cX8_hang 87 = .ok (.aload_n 0, 1) := by decide +kernel
theorem dX8_hang_88 : decode cX8_hang 88 = .ok (.iload_n 1, 1) := by decide +kernel
theorem dX8_hang_89 : decode cX8_hang 89 = .ok (.invokevirtual 96, 3) := by decide +kernel
theorem dX8_hang_92 : decode cX8_hang 92 = .ok (.isub, 1) := by decide +kernel
theorem dX8_hang_93 : decode cX8_hang 93 = .ok (.invokestatic 106, 3) := by decide +kernel
theorem dX8_hang_96 : decode cX8_hang 96 = .ok (.istore_n 3, 1) := by decide +kernel
theorem dX8_hang_97 : decode cX8_hang 97 = .ok (.iinc 4 1, 3) := by decide +kernel
theorem dX8_hang_100 : decode cX8_hang 100 = .ok (.goto (-49), 3) := by decide +kernel
theorem dX8_hang_103 : decode cX8_hang 103 = .ok (.aload_n 0, 1) := by decide +kernel
theorem dX8_hang_104 : decode cX8_hang 104 = .ok (.iload_n 2, 1) := by decide +kernel
theorem dX8_hang_105 : decode cX8_hang 105 = .ok (.invokevirtual 96, 3) := by decide +kernel
theorem dX8_hang_108 : decode cX8_hang 108 = .ok (.iconst 1, 1) := by decide +kernel
theorem dX8_hang_109 : decode cX8_hang 109 = .ok (.iadd, 1) := by decide +kernel
theorem dX8_hang_110 : decode cX8_hang 110 = .ok (.iload_n 3, 1) := by decide +kernel
theorem dX8_hang_111 : decode cX8_hang 111 = .ok (.iadd, 1) := by decide +kernel
theorem dX8_hang_112 : decode cX8_hang 112 = .ok (.iconst 4, 1) := by decide +kernel
theorem dX8_hang_113 : decode cX8_hang 113 = .ok (.if_icmp .le 9, 3) := by decide +kernel
theorem dX8_hang_116 : decode cX8_hang 116 = .ok (.aload_n 0, 1) := by decide +kernel
theorem dX8_hang_117 : decode cX8_hang 117 = .ok (.iconst 2, 1) := by decide +kernel
theorem dX8_hang_118 : decode cX8_hang 118 = .ok (.invokevirtual 92, 3) := by decide +kernel
theorem dX8_hang_121 : decode cX8_hang 121 = .ok (.ireturn, 1) := by decide +kernel
theorem dX8_hang_122 : decode cX8_hang 122 = .ok (.aload_n 0, 1) := by decide +kernel
theorem dX8_hang_123 : decode cX8_hang 123 = .ok (.getfield 26, 3) := by decide +kernel
theorem dX8_hang_126 : decode cX8_hang 126 = .ok (.iload_n 1, 1) := by decide +kernel
theorem dX8_hang_127 : decode cX8_hang 127 = .ok (.iload_n 2, 1) := by decide +kernel
theorem dX8_hang_128 : decode cX8_hang 128 = .ok (.iastore, 1) := by decide +kernel
theorem dX8_hang_129 : decode cX8_hang 129 = .ok (.aload_n 0, 1) := by decide +kernel
theorem dX8_hang_130 : decode cX8_hang 130 = .ok (.getfield 48, 3) := by decide +kernel
theorem dX8_hang_133 : decode cX8_hang 133 = .ok (.iload_n 1, 1) := by decide +kernel
theorem dX8_hang_134 : decode cX8_hang 134 = .ok (.aload_n 0, 1) := by decide +kernel
theorem dX8_hang_135 : decode cX8_hang 135 = .ok (.dup, 1) := by decide +kernel
theorem dX8_hang_136 : decode cX8_hang 136 = .ok (.getfield 57, 3) := by decide +kernel
theorem dX8_hang_139 : decode cX8_hang 139 = .ok (.dup_x1, 1) := by decide +kernel
theorem dX8_hang_140 : decode cX8_hang 140 = .ok (.iconst 1, 1) := by decide +kernel
theorem dX8_hang_141 : decode cX8_hang 141 = .ok (.iadd, 1) := by decide +kernel
theorem dX8_hang_142 : decode cX8_hang 142 = .ok (.putfield 57, 3) := by decide +kernel
theorem dX8_hang_145 : decode cX8_hang 145 = .ok (.iastore, 1) := by decide +kernel
theorem dX8_hang_146 : decode cX8_hang 146 = .ok (.aload_n 0, 1) := by decide +kernel
theorem dX8_hang_147 : decode cX8_hang 147 = .ok (.iload_n 2, 1) := by decide +kernel
theorem dX8_hang_148 : decode cX8_hang 148 = .ok (.invokevirtual 112, 3) := by decide +kernel
theorem dX8_hang_151 : decode cX8_hang 151 = .ok (.ireturn, 1) := by decide +kernel
theorem dX8_init_0 : decode cX8_init 0 = .ok (.aload_n 0, 1) := by decide +kernel
theorem dX8_init_1 : decode cX8_init 1 = .ok (.invokespecial 1, 3) := by decide +kernel
theorem dX8_init_4 : decode cX8_init 4 = .ok (.aload_n 0, 1) := by decide +kernel
theorem dX8_init_5 : decode cX8_init 5 = .ok (.iconst 1, 1) := by decide +kernel
theorem dX8_init_6 : decode cX8_init 6 = .ok (.putfield 7, 3) := by decide +kernel
theorem dX8_init_9 : decode cX8_init 9 = .ok (.aload_n 0, 1) := by decide +kernel
theorem dX8_init_10 : decode cX8_init 10 = .ok (.bipush 30, 2) := by decide +kernel
theorem dX8_init_12 : decode cX8_init 12 = .ok (.newarray .boolean, 2) := by decide +kernel
theorem dX8_init_14 : decode cX8_init 14 = .ok (.putfield 13, 3) := by decide +kernel
theorem dX8_init_17 : decode cX8_init 17 = .ok (.aload_n 0, 1) := by decide +kernel
theorem dX8_init_18 : decode cX8_init 18 = .ok (.bipush 30, 2) := by decide +kernel
theorem dX8_init_20 : decode cX8_init 20 = .ok (.newarray .boolean, 2) := by decide +kernel
theorem dX8_init_22 : decode cX8_init 22 = .ok (.putfield 17, 3) := by decide +kernel
theorem dX8_init_25 : decode cX8_init 25 = .ok (.aload_n 0, 1) := by decide +kernel
theorem dX8_init_26 : decode cX8_init 26 = .ok (.bipush 30, 2) := by decide +kernel
theorem dX8_init_28 : decode cX8_init 28 = .ok (.newarray .boolean, 2) := by decide +kernel
theorem dX8_init_30 : decode cX8_init 30 = .ok (.putfield 20, 3) := by decide +kernel
theorem dX8_init_33 : decode cX8_init 33 = .ok (.aload_n 0, 1) := by decide +kernel
theorem dX8_init_34 : decode cX8_init 34 = .ok (.bipush 30, 2) := by decide +kernel
theorem dX8_init_36 : decode cX8_init 36 = .ok (.newarray .boolean, 2) := by decide +kernel
theorem dX8_init_38 : decode cX8_init 38 = .ok (.putfield 23, 3) := by decide +kernel
theorem dX8_init_41 : decode cX8_init 41 = .ok (.aload_n 0, 1) := by decide +kernel
theorem dX8_init_42 : decode cX8_init 42 = .ok (.bipush 30, 2) := by decide +kernel
theorem dX8_init_44 : decode cX8_init 44 = .ok (.newarray .int, 2) := by decide +kernel
theorem dX8_init_46 : decode cX8_init 46 = .ok (.putfield 26, 3) := by decide +kernel
theorem dX8_init_49 : decode cX8_init 49 = .ok (.aload_n 0, 1) := by decide +kernel
theorem dX8_init_50 : decode cX8_init 50 = .ok (.bipush 30, 2) := by decide +kernel
theorem dX8_init_52 : decode cX8_init 52 = .ok (.newarray .int, 2) := by decide +kernel
theorem dX8_init_54 : decode cX8_init 54 = .ok (.putfield 30, 3) := by decide +kernel
theorem dX8_init_57 : decode cX8_init 57 = .ok (.aload_n 0, 1) := by decide +kernel
theorem dX8_init_58 : decode cX8_init 58 = .ok (.bipush 30, 2) := by decide +kernel
theorem dX8_init_60 : decode cX8_init 60 = .ok (.newarray .int, 2) := by decide +kernel
theorem dX8_init_62 : decode cX8_init 62 = .ok (.putfield 33, 3) := by decide +kernel
theorem dX8_init_65 : decode cX8_init 65 = .ok (.aload_n 0, 1) := by decide +kernel
theorem dX8_init_66 : decode cX8_init 66 = .ok (.bipush 30, 2) := by decide +kernel
theorem dX8_init_68 : decode cX8_init 68 = .ok (.newarray .int, 2) := by decide +kernel
theorem dX8_init_70 : decode cX8_init 70 = .ok (.putfield 36, 3) := by decide +kernel
theorem dX8_init_73 : decode cX8_init 73 = .ok (.aload_n 0, 1) := by decide +kernel
theorem dX8_init_74 : decode cX8_init 74 = .ok (.bipush 30, 2) := by decide +kernel
theorem dX8_init_76 : decode cX8_init 76 = .ok (.newarray .int, 2) := by decide +kernel
theorem dX8_init_78 : decode cX8_init 78 = .ok (.putfield 39, 3) := by decide +kernel
theorem dX8_init_81 : decode cX8_init 81 = .ok (.aload_n 0, 1) := by decide +kernel
theorem dX8_init_82 : decode cX8_init 82 = .ok (.bipush 30, 2) := by decide +kernel
theorem dX8_init_84 : decode cX8_init 84 = .ok (.newarray .int, 2) := by decide +kernel
theorem dX8_init_86 : decode cX8_init 86 = .ok (.putfield 42, 3) := by decide +kernel
theorem dX8_init_89 : decode cX8_init 89 = .ok (.aload_n 0, 1) := by decide +kernel
theorem dX8_init_90 : decode cX8_init 90 = .ok (.bipush 30, 2) := by decide +kernel
theorem dX8_init_92 : decode cX8_init 92 = .ok (.newarray .int, 2) := by decide +kernel
theorem dX8_init_94 : decode cX8_init 94 = .ok (.putfield 45, 3) := by decide +kernel
theorem dX8_init_97 : decode cX8_init 97 = .ok (.aload_n 0, 1) := by decide +kernel
theorem dX8_init_98 : decode cX8_init 98 = .ok (.bipush 30, 2) := by decide +kernel
theorem dX8_init_100 : decode cX8_init 100 = .ok (.newarray .int, 2) := by decide +kernel
theorem dX8_init_102 : decode cX8_init 102 = .ok (.putfield 48, 3) := by decide +kernel
theorem dX8_init_105 : decode cX8_init 105 = .ok (.aload_n 0, 1) := by decide +kernel
theorem dX8_init_106 : decode cX8_init 106 = .ok (.bipush 120, 2) := by decide +kernel
theorem dX8_init_108 : decode cX8_init 108 = .ok (.newarray .int, 2) := by decide +kernel
theorem dX8_init_110 : decode cX8_init 110 = .ok (.putfield 51, 3) := by decide +kernel
theorem dX8_init_113 : decode cX8_init 113 = .ok (.aload_n 0, 1) := by decide +kernel
theorem dX8_init_114 : decode cX8_init 114 = .ok (.bipush 120, 2) := by decide +kernel
theorem dX8_init_116 : decode cX8_init 116 = .ok (.newarray .int, 2) := by decide +kernel
theorem dX8_init_118 : decode cX8_init 118 = .ok (.putfield 54, 3) := by decide +kernel
theorem dX8_init_121 : decode cX8_init 121 = .ok (.aload_n 0, 1) := by decide +kernel
theorem dX8_init_122 : decode cX8_init 122 = .ok (.iconst 1, 1) := by decide +kernel
theorem dX8_init_123 : decode cX8_init 123 = .ok (.putfield 57, 3) := by decide +kernel
theorem dX8_init_126 : decode cX8_init 126 = .ok (.aload_n 0, 1) := by decide +kernel
theorem dX8_init_127 : decode cX8_init 127 = .ok (.bipush 12, 2) := by decide +kernel
theorem dX8_init_129 : decode cX8_init 129 = .ok (.newarray .int, 2) := by decide +kernel
theorem dX8_init_131 : decode cX8_init 131 = .ok (.putfield 60, 3) := by decide +kernel
theorem dX8_init_134 : decode cX8_init 134 = .ok (.aload_n 0, 1) := by decide +kernel
theorem dX8_init_135 : decode cX8_init 135 = .ok (.bipush 12, 2) := by decide +kernel
theorem dX8_init_137 : decode cX8_init 137 = .ok (.newarray .int, 2) := by decide +kernel
theorem dX8_init_139 : decode cX8_init 139 = .ok (.putfield 63, 3) := by decide +kernel
theorem dX8_init_142 : decode cX8_init 142 = .ok (.aload_n 0, 1) := by decide +kernel
theorem dX8_init_143 : decode cX8_init 143 = .ok (.bipush 12, 2) := by decide +kernel
theorem dX8_init_145 : decode cX8_init 145 = .ok (.newarray .int, 2) := by decide +kernel
theorem dX8_init_147 : decode cX8_init 147 = .ok (.putfield 66, 3) := by decide +kernel
theorem dX8_init_150 : decode cX8_init 150 = .ok (.aload_n 0, 1) := by decide +kernel
theorem dX8_init_151 : decode cX8_init 151 = .ok (.bipush 12, 2) := by decide +kernel
theorem dX8_init_153 : decode cX8_init 153 = .ok (.newarray .int, 2) := by decide +kernel
theorem dX8_init_155 : decode cX8_init 155 = .ok (.putfield 69, 3) := by decide +kernel
theorem dX8_init_158 : decode cX8_init 158 = .ok (.aload_n 0, 1) := by decide +kernel
theorem dX8_init_159 : decode cX8_init 159 = .ok (.bipush 12, 2) := by decide +kernel
theorem dX8_init_161 : decode cX8_init 161 = .ok (.newarray .int, 2) := by decide +kernel
theorem dX8_init_163 : decode cX8_init 163 = .ok (.putfield 72, 3) := by decide +kernel
theorem dX8_init_166 : decode cX8_init 166 = .ok (.aload_n 0, 1) := by decide +kernel
theorem dX8_init_167 : decode cX8_init 167 = .ok (.bipush 96, 2) := by decide +kernel
theorem dX8_init_169 : decode cX8_init 169 = .ok (.newarray .int, 2) := by decide +kernel
theorem dX8_init_171 : decode cX8_init 171 = .ok (.putfield 75, 3) := by decide +kernel
theorem dX8_init_174 : decode cX8_init 174 = .ok (.aload_n 0, 1) := by decide +kernel
theorem dX8_init_175 : decode cX8_init 175 = .ok (.bipush 96, 2) := by decide +kernel
theorem dX8_init_177 : decode cX8_init 177 = .ok (.newarray .int, 2) := by decide +kernel
theorem dX8_init_179 : decode cX8_init 179 = .ok (.putfield 78, 3) := by decide +kernel
theorem dX8_init_182 : decode cX8_init 182 = .ok (.aload_n 0, 1) := by decide +kernel
theorem dX8_init_183 : decode cX8_init 183 = .ok (.getfield 26, 3) := by decide +kernel
theorem dX8_init_186 : decode cX8_init 186 = .ok (.iconst 0, 1) := by decide +kernel
theorem dX8_init_187 : decode cX8_init 187 = .ok (.iconst (-1), 1) := by decide +kernel
theorem dX8_init_188 : decode cX8_init 188 = .ok (.iastore, 1) := by decide +kernel
theorem dX8_init_189 : decode cX8_init 189 = .ok (.iconst 0, 1) := by decide +kernel
theorem dX8_init_190 : decode cX8_init 190 = .ok (.istore_n 1, 1) := by decide +kernel
theorem dX8_init_191 : decode cX8_init 191 = .ok (.iload_n 1, 1) := by decide +kernel
theorem dX8_init_192 : decode cX8_init 192 = .ok (.bipush 30, 2) := by decide +kernel
theorem dX8_init_194 : decode cX8_init 194 = .ok (.if_icmp .ge 35, 3) := by decide +kernel
theorem dX8_init_197 : decode cX8_init 197 = .ok (.aload_n 0, 1) := by decide +kernel
theorem dX8_init_198 : decode cX8_init 198 = .ok (.getfield 39, 3) := by decide +kernel
theorem dX8_init_201 : decode cX8_init 201 = .ok (.iload_n 1, 1) := by decide +kernel
theorem dX8_init_202 : decode cX8_init 202 = .ok (.iconst 1, 1) := by decide +kernel
theorem dX8_init_203 : decode cX8_init 203 = .ok (.iastore, 1) := by decide +kernel
theorem dX8_init_204 : decode cX8_init 204 = .ok (.aload_n 0, 1) := by decide +kernel
theorem dX8_init_205 : decode cX8_init 205 = .ok (.getfield 42, 3) := by decide +kernel
theorem dX8_init_208 : decode cX8_init 208 = .ok (.iload_n 1, 1) := by decide +kernel
theorem dX8_init_209 : decode cX8_init 209 = .ok (.iconst 1, 1) := by decide +kernel
theorem dX8_init_210 : decode cX8_init 210 = .ok (.iastore, 1) := by decide +kernel
theorem dX8_init_211 : decode cX8_init 211 = .ok (.aload_n 0, 1) := by decide +kernel
theorem dX8_init_212 : decode cX8_init 212 = .ok (.getfield 51, 3) := by decide +kernel
theorem dX8_init_215 : decode cX8_init 215 = .ok (.iload_n 1, 1) := by decide +kernel
theorem dX8_init_216 : decode cX8_init 216 = .ok (.iconst 4, 1) := by decide +kernel
theorem dX8_init_217 : decode cX8_init 217 = .ok (.imul, 1) := by decide +kernel
theorem dX8_init_218 : decode cX8_init 218 = .ok (.iconst 3, 1) := by decide +kernel
theorem dX8_init_219 : decode cX8_init 219 = .ok (.iadd, 1) := by decide +kernel
theorem dX8_init_220 : decode cX8_init 220 = .ok (.bipush 100, 2) := by decide +kernel
theorem dX8_init_222 : decode cX8_init 222 = .ok (.iastore, 1) := by decide +kernel
theorem dX8_init_223 : decode cX8_init 223 = .ok (.iinc 1 1, 3) := by decide +kernel
theorem dX8_init_226 : decode cX8_init 226 = .ok (.goto (-35), 3) := by decide +kernel
theorem dX8_init_229 : decode cX8_init 229 = .ok (.return_, 1) := by decide +kernel
theorem dX8_isShown_0 : decode cX8_isShown 0 = .ok (.aload_n 0, 1) := by decide +kernel
theorem dX8_isShown_1 : decode cX8_isShown 1 = .ok (.aload_n 0, 1) := by decide +kernel
theorem dX8_isShown_2 : decode cX8_isShown 2 = .ok (.iload_n 1, 1) := by decide +kernel
theorem dX8_isShown_3 : decode cX8_isShown 3 = .ok (.invokevirtual 88, 3) := by decide +kernel
theorem dX8_isShown_6 : decode cX8_isShown 6 = .ok (.ifCond .eq 7, 3) := by decide +kernel
theorem dX8_isShown_9 : decode cX8_isShown 9 = .ok (.iconst 0, 1) := by decide +kernel
theorem dX8_isShown_10 : decode cX8_isShown 10 = .ok (.goto 4, 3) := by decide +kernel
theorem dX8_isShown_13 : decode cX8_isShown 13 = .ok (.iconst 1, 1) := by decide +kernel
theorem dX8_isShown_14 : decode cX8_isShown 14 = .ok (.putfield 81, 3) := by decide +kernel
theorem dX8_isShown_17 : decode cX8_isShown 17 = .ok (.aload_n 0, 1) := by decide +kernel
theorem dX8_isShown_18 : decode cX8_isShown 18 = .ok (.getfield 81, 3) := by decide +kernel
theorem dX8_isShown_21 : decode cX8_isShown 21 = .ok (.ifCond .ne 15, 3) := by decide +kernel
theorem dX8_isShown_24 : decode cX8_isShown 24 = .ok (.aload_n 0, 1) := by decide +kernel
theorem dX8_isShown_25 : decode cX8_isShown 25 = .ok (.iload_n 1, 1) := by decide +kernel
theorem dX8_isShown_26 : decode cX8_isShown 26 = .ok (.invokevirtual 206, 3) := by decide +kernel
theorem dX8_isShown_29 : decode cX8_isShown 29 = .ok (.ifCond .eq 7, 3) := by decide +kernel
theorem dX8_isShown_32 : decode cX8_isShown 32 = .ok (.iconst 1, 1) := by decide +kernel
theorem dX8_isShown_33 : decode cX8_isShown 33 = .ok (.goto 4, 3) := by decide +kernel
theorem dX8_isShown_36 : decode cX8_isShown 36 = .ok (.iconst 0, 1) := by decide +kernel
theorem dX8_isShown_37 : decode cX8_isShown 37 = .ok (.ireturn, 1) := by decide +kernel
theorem dX8_keyPlace_0 : decode cX8_keyPlace 0 = .ok (.iconst 0, 1) := by decide +kernel
theorem dX8_keyPlace_1 : decode cX8_keyPlace 1 = .ok (.istore_n 3, 1) := by decide +kernel
theorem dX8_keyPlace_2 : decode cX8_keyPlace 2 = .ok (.iload_n 3, 1) := by decide +kernel
theorem dX8_keyPlace_3 : decode cX8_keyPlace 3 = .ok (.aload_n 0, 1) := by decide +kernel
theorem dX8_keyPlace_4 : decode cX8_keyPlace 4 = .ok (.getfield 72, 3) := by decide +kernel
theorem dX8_keyPlace_7 : decode cX8_keyPlace 7 = .ok (.iload_n 1, 1) := by decide +kernel
theorem dX8_keyPlace_8 : decode cX8_keyPlace 8 = .ok (.iaload, 1) := by decide +kernel
theorem dX8_keyPlace_9 : decode cX8_keyPlace 9 = .ok (.if_icmp .ge 24, 3) := by decide +kernel
theorem dX8_keyPlace_12 : decode cX8_keyPlace 12 = .ok (.aload_n 0, 1) := by decide +kernel
theorem dX8_keyPlace_13 : decode cX8_keyPlace 13 = .ok (.getfield 75, 3) := by decide +kernel
theorem dX8_keyPlace_16 : decode cX8_keyPlace 16 = .ok (.iload_n 1, 1) := by decide +kernel
theorem dX8_keyPlace_17 : decode cX8_keyPlace 17 = .ok (.bipush 8, 2) := by decide +kernel
theorem dX8_keyPlace_19 : decode cX8_keyPlace 19 = .ok (.imul, 1) := by decide +kernel
theorem dX8_keyPlace_20 : decode cX8_keyPlace 20 = .ok (.iload_n 3, 1) := by decide +kernel
theorem dX8_keyPlace_21 : decode cX8_keyPlace 21 = .ok (.iadd, 1) := by decide +kernel
theorem dX8_keyPlace_22 : decode cX8_keyPlace 22 = .ok (.iaload, 1) := by decide +kernel
theorem dX8_keyPlace_23 : decode cX8_keyPlace 23 = .ok (.iload_n 2, 1) := by decide +kernel
theorem dX8_keyPlace_24 : decode cX8_keyPlace 24 = .ok (.if_icmp .ge 9, 3) := by decide +kernel
theorem dX8_keyPlace_27 : decode cX8_keyPlace 27 = .ok (.iinc 3 1, 3) := by decide +kernel
theorem dX8_keyPlace_30 : decode cX8_keyPlace 30 = .ok (.goto (-28), 3) := by decide +kernel
theorem dX8_keyPlace_33 : decode cX8_keyPlace 33 = .ok (.iload_n 3, 1) := by decide +kernel
theorem dX8_keyPlace_34 : decode cX8_keyPlace 34 = .ok (.ireturn, 1) := by decide +kernel
theorem dX8_hasKey_0 : decode cX8_hasKey 0 = .ok (.aload_n 0, 1) := by decide +kernel
theorem dX8_hasKey_1 : decode cX8_hasKey 1 = .ok (.iload_n 1, 1) := by decide +kernel
theorem dX8_hasKey_2 : decode cX8_hasKey 2 = .ok (.iload_n 2, 1) := by decide +kernel
theorem dX8_hasKey_3 : decode cX8_hasKey 3 = .ok (.invokevirtual 138, 3) := by decide +kernel
theorem dX8_hasKey_6 : decode cX8_hasKey 6 = .ok (.istore_n 3, 1) := by decide +kernel
theorem dX8_hasKey_7 : decode cX8_hasKey 7 = .ok (.iload_n 3, 1) := by decide +kernel
theorem dX8_hasKey_8 : decode cX8_hasKey 8 = .ok (.aload_n 0, 1) := by decide +kernel
theorem dX8_hasKey_9 : decode cX8_hasKey 9 = .ok (.getfield 72, 3) := by decide +kernel
theorem dX8_hasKey_12 : decode cX8_hasKey 12 = .ok (.iload_n 1, 1) := by decide +kernel
theorem dX8_hasKey_13 : decode cX8_hasKey 13 = .ok (.iaload, 1) := by decide +kernel
theorem dX8_hasKey_14 : decode cX8_hasKey 14 = .ok (.if_icmp .ge 22, 3) := by decide +kernel
theorem dX8_hasKey_17 : decode cX8_hasKey 17 = .ok (.aload_n 0, 1) := by decide +kernel
theorem dX8_hasKey_18 : decode cX8_hasKey 18 = .ok (.getfield 75, 3) := by decide +kernel
theorem dX8_hasKey_21 : decode cX8_hasKey 21 = .ok (.iload_n 1, 1) := by decide +kernel
theorem dX8_hasKey_22 : decode cX8_hasKey 22 = .ok (.bipush 8, 2) := by decide +kernel
theorem dX8_hasKey_24 : decode cX8_hasKey 24 = .ok (.imul, 1) := by decide +kernel
theorem dX8_hasKey_25 : decode cX8_hasKey 25 = .ok (.iload_n 3, 1) := by decide +kernel
theorem dX8_hasKey_26 : decode cX8_hasKey 26 = .ok (.iadd, 1) := by decide +kernel
theorem dX8_hasKey_27 : decode cX8_hasKey 27 = .ok (.iaload, 1) := by decide +kernel
theorem dX8_hasKey_28 : decode cX8_hasKey 28 = .ok (.iload_n 2, 1) := by decide +kernel
theorem dX8_hasKey_29 : decode cX8_hasKey 29 = .ok (.if_icmp .ne 7, 3) := by decide +kernel
theorem dX8_hasKey_32 : decode cX8_hasKey 32 = .ok (.iconst 1, 1) := by decide +kernel
theorem dX8_hasKey_33 : decode cX8_hasKey 33 = .ok (.goto 4, 3) := by decide +kernel
theorem dX8_hasKey_36 : decode cX8_hasKey 36 = .ok (.iconst 0, 1) := by decide +kernel
theorem dX8_hasKey_37 : decode cX8_hasKey 37 = .ok (.ireturn, 1) := by decide +kernel
theorem dX8_isTrack_0 : decode cX8_isTrack 0 = .ok (.iload_n 1, 1) := by decide +kernel
theorem dX8_isTrack_1 : decode cX8_isTrack 1 = .ok (.iconst 0, 1) := by decide +kernel
theorem dX8_isTrack_2 : decode cX8_isTrack 2 = .ok (.aload_n 0, 1) := by decide +kernel
theorem dX8_isTrack_3 : decode cX8_isTrack 3 = .ok (.getfield 103, 3) := by decide +kernel
theorem dX8_isTrack_6 : decode cX8_isTrack 6 = .ok (.iconst 1, 1) := by decide +kernel
theorem dX8_isTrack_7 : decode cX8_isTrack 7 = .ok (.isub, 1) := by decide +kernel
theorem dX8_isTrack_8 : decode cX8_isTrack 8 = .ok (.invokestatic 84, 3) := by decide +kernel
theorem dX8_isTrack_11 : decode cX8_isTrack 11 = .ok (.ireturn, 1) := by decide +kernel
theorem dX8_isValue_0 : decode cX8_isValue 0 = .ok (.iload_n 0, 1) := by decide +kernel
theorem dX8_isValue_1 : decode cX8_isValue 1 = .ok (.lookupswitch 42 #[(2, 27), (3, 34)], 27) := by decide +kernel
theorem dX8_isValue_28 : decode cX8_isValue 28 = .ok (.iload_n 1, 1) := by decide +kernel
theorem dX8_isValue_29 : decode cX8_isValue 29 = .ok (.iconst 0, 1) := by decide +kernel
theorem dX8_isValue_30 : decode cX8_isValue 30 = .ok (.iconst 3, 1) := by decide +kernel
theorem dX8_isValue_31 : decode cX8_isValue 31 = .ok (.invokestatic 84, 3) := by decide +kernel
theorem dX8_isValue_34 : decode cX8_isValue 34 = .ok (.ireturn, 1) := by decide +kernel
theorem dX8_isValue_35 : decode cX8_isValue 35 = .ok (.iload_n 1, 1) := by decide +kernel
theorem dX8_isValue_36 : decode cX8_isValue 36 = .ok (.iconst 0, 1) := by decide +kernel
theorem dX8_isValue_37 : decode cX8_isValue 37 = .ok (.bipush 100, 2) := by decide +kernel
theorem dX8_isValue_39 : decode cX8_isValue 39 = .ok (.invokestatic 84, 3) := by decide +kernel
theorem dX8_isValue_42 : decode cX8_isValue 42 = .ok (.ireturn, 1) := by decide +kernel
theorem dX8_isValue_43 : decode cX8_isValue 43 = .ok (.iload_n 1, 1) := by decide +kernel
theorem dX8_isValue_44 : decode cX8_isValue 44 = .ok (.sipush (-200), 3) := by decide +kernel
theorem dX8_isValue_47 : decode cX8_isValue 47 = .ok (.sipush 200, 3) := by decide +kernel
theorem dX8_isValue_50 : decode cX8_isValue 50 = .ok (.invokestatic 84, 3) := by decide +kernel
theorem dX8_isValue_53 : decode cX8_isValue 53 = .ok (.ireturn, 1) := by decide +kernel
theorem dX8_key_0 : decode cX8_key 0 = .ok (.aload_n 0, 1) := by decide +kernel
theorem dX8_key_1 : decode cX8_key 1 = .ok (.iconst 0, 1) := by decide +kernel
theorem dX8_key_2 : decode cX8_key 2 = .ok (.putfield 81, 3) := by decide +kernel
theorem dX8_key_5 : decode cX8_key 5 = .ok (.aload_n 0, 1) := by decide +kernel
theorem dX8_key_6 : decode cX8_key 6 = .ok (.iload_n 1, 1) := by decide +kernel
theorem dX8_key_7 : decode cX8_key 7 = .ok (.invokevirtual 141, 3) := by decide +kernel
theorem dX8_key_10 : decode cX8_key 10 = .ok (.ifCond .ne 9, 3) := by decide +kernel
theorem dX8_key_13 : decode cX8_key 13 = .ok (.aload_n 0, 1) := by decide +kernel
theorem dX8_key_14 : decode cX8_key 14 = .ok (.iconst 1, 1) := by decide +kernel
theorem dX8_key_15 : decode cX8_key 15 = .ok (.invokevirtual 92, 3) := by decide +kernel
theorem dX8_key_18 : decode cX8_key 18 = .ok (.ireturn, 1) := by decide +kernel
theorem dX8_key_19 : decode cX8_key 19 = .ok (.iload_n 2, 1) := by decide +kernel
theorem dX8_key_20 : decode cX8_key 20 = .ok (.iconst 0, 1) := by decide +kernel
theorem dX8_key_21 : decode cX8_key 21 = .ok (.sipush 999, 3) := by decide +kernel
theorem dX8_key_24 : decode cX8_key 24 = .ok (.invokestatic 84, 3) := by decide +kernel
theorem dX8_key_27 : decode cX8_key 27 = .ok (.ifCond .eq 16, 3) := by decide +kernel
theorem dX8_key_30 : decode cX8_key 30 = .ok (.aload_n 0, 1) := by decide +kernel
theorem dX8_key_31 : decode cX8_key 31 = .ok (.getfield 63, 3) := by decide +kernel
theorem dX8_key_34 : decode cX8_key 34 = .ok (.iload_n 1, 1) := by decide +kernel
theorem dX8_key_35 : decode cX8_key 35 = .ok (.iaload, 1) := by decide +kernel
theorem dX8_key_36 : decode cX8_key 36 = .ok (.iload_n 3, 1) := by decide +kernel
theorem dX8_key_37 : decode cX8_key 37 = .ok (.invokestatic 144, 3) := by decide +kernel
theorem dX8_key_40 : decode cX8_key 40 = .ok (.ifCond .ne 9, 3) := by decide +kernel
theorem dX8_key_43 : decode cX8_key 43 = .ok (.aload_n 0, 1) := by decide +kernel
theorem dX8_key_44 : decode cX8_key 44 = .ok (.iconst 2, 1) := by decide +kernel
theorem dX8_key_45 : decode cX8_key 45 = .ok (.invokevirtual 92, 3) := by decide +kernel
theorem dX8_key_48 : decode cX8_key 48 = .ok (.ireturn, 1) := by decide +kernel
theorem dX8_key_49 : decode cX8_key 49 = .ok (.aload_n 0, 1) := by decide +kernel
theorem dX8_key_50 : decode cX8_key 50 = .ok (.getfield 13, 3) := by decide +kernel
theorem dX8_key_53 : decode cX8_key 53 = .ok (.aload_n 0, 1) := by decide +kernel
theorem dX8_key_54 : decode cX8_key 54 = .ok (.getfield 60, 3) := by decide +kernel
theorem dX8_key_57 : decode cX8_key 57 = .ok (.iload_n 1, 1) := by decide +kernel
theorem dX8_key_58 : decode cX8_key 58 = .ok (.iaload, 1) := by decide +kernel
theorem dX8_key_59 : decode cX8_key 59 = .ok (.baload, 1) := by decide +kernel
theorem dX8_key_60 : decode cX8_key 60 = .ok (.ifCond .ne 23, 3) := by decide +kernel
theorem dX8_key_63 : decode cX8_key 63 = .ok (.aload_n 0, 1) := by decide +kernel
theorem dX8_key_64 : decode cX8_key 64 = .ok (.getfield 72, 3) := by decide +kernel
theorem dX8_key_67 : decode cX8_key 67 = .ok (.iload_n 1, 1) := by decide +kernel
theorem dX8_key_68 : decode cX8_key 68 = .ok (.iaload, 1) := by decide +kernel
theorem dX8_key_69 : decode cX8_key 69 = .ok (.bipush 8, 2) := by decide +kernel
theorem dX8_key_71 : decode cX8_key 71 = .ok (.if_icmp .ne 18, 3) := by decide +kernel
theorem dX8_key_74 : decode cX8_key 74 = .ok (.aload_n 0, 1) := by decide +kernel
theorem dX8_key_75 : decode cX8_key 75 = .ok (.iload_n 1, 1) := by decide +kernel
theorem dX8_key_76 : decode cX8_key 76 = .ok (.iload_n 2, 1) := by decide +kernel
theorem dX8_key_77 : decode cX8_key 77 = .ok (.invokevirtual 147, 3) := by decide +kernel
theorem dX8_key_80 : decode cX8_key 80 = .ok (.ifCond .ne 9, 3) := by decide +kernel
theorem dX8_key_83 : decode cX8_key 83 = .ok (.aload_n 0, 1) := by decide +kernel
theorem dX8_key_84 : decode cX8_key 84 = .ok (.iconst 3, 1) := by decide +kernel
theorem dX8_key_85 : decode cX8_key 85 = .ok (.invokevirtual 92, 3) := by decide +kernel
theorem dX8_key_88 : decode cX8_key 88 = .ok (.ireturn, 1) := by decide +kernel
theorem dX8_key_89 : decode cX8_key 89 = .ok (.iload_n 1, 1) := by decide +kernel
theorem dX8_key_90 : decode cX8_key 90 = .ok (.bipush 8, 2) := by decide +kernel
theorem dX8_key_92 : decode cX8_key 92 = .ok (.imul, 1) := by decide +kernel
theorem dX8_key_93 : decode cX8_key 93 = .ok (.aload_n 0, 1) := by decide +kernel
theorem dX8_key_94 : decode cX8_key 94 = .ok (.iload_n 1, 1) := by decide +kernel
theorem dX8_key_95 : decode cX8_key 95 = .ok (.iload_n 2, 1) := by decide +kernel
theorem dX8_key_96 : decode cX8_key 96 = .ok (.invokevirtual 138, 3) := by decide +kernel
theorem dX8_key_99 : decode cX8_key 99 = .ok (.iadd, 1) := by decide +kernel
theorem dX8_key_100 : decode cX8_key 100 = .ok (.istore 4, 2) := by decide +kernel
theorem dX8_key_102 : decode cX8_key 102 = .ok (.aload_n 0, 1) := by decide +kernel
theorem dX8_key_103 : decode cX8_key 103 = .ok (.iload_n 1, 1) := by decide +kernel
theorem dX8_key_104 : decode cX8_key 104 = .ok (.iload_n 2, 1) := by decide +kernel
theorem dX8_key_105 : decode cX8_key 105 = .ok (.invokevirtual 147, 3) := by decide +kernel
theorem dX8_key_108 : decode cX8_key 108 = .ok (.ifCond .ne 74, 3) := by decide +kernel
theorem dX8_key_111 : decode cX8_key 111 = .ok (.iload 4, 2) := by decide +kernel
theorem dX8_key_113 : decode cX8_key 113 = .ok (.iload_n 1, 1) := by decide +kernel
theorem dX8_key_114 : decode cX8_key 114 = .ok (.bipush 8, 2) := by decide +kernel
theorem dX8_key_116 : decode cX8_key 116 = .ok (.imul, 1) := by decide +kernel
theorem dX8_key_117 : decode cX8_key 117 = .ok (.isub, 1) := by decide +kernel
theorem dX8_key_118 : decode cX8_key 118 = .ok (.istore 5, 2) := by decide +kernel
theorem dX8_key_120 : decode cX8_key 120 = .ok (.aload_n 0, 1) := by decide +kernel
theorem dX8_key_121 : decode cX8_key 121 = .ok (.getfield 75, 3) := by decide +kernel
theorem dX8_key_124 : decode cX8_key 124 = .ok (.iload 4, 2) := by decide +kernel
theorem dX8_key_126 : decode cX8_key 126 = .ok (.aload_n 0, 1) := by decide +kernel
theorem dX8_key_127 : decode cX8_key 127 = .ok (.getfield 75, 3) := by decide +kernel
theorem dX8_key_130 : decode cX8_key 130 = .ok (.iload 4, 2) := by decide +kernel
theorem dX8_key_132 : decode cX8_key 132 = .ok (.iconst 1, 1) := by decide +kernel
theorem dX8_key_133 : decode cX8_key 133 = .ok (.iadd, 1) := by decide +kernel
theorem dX8_key_134 : decode cX8_key 134 = .ok (.aload_n 0, 1) := by decide +kernel
theorem dX8_key_135 : decode cX8_key 135 = .ok (.getfield 72, 3) := by decide +kernel
theorem dX8_key_138 : decode cX8_key 138 = .ok (.iload_n 1, 1) := by decide +kernel
theorem dX8_key_139 : decode cX8_key 139 = .ok (.iaload, 1) := by decide +kernel
theorem dX8_key_140 : decode cX8_key 140 = .ok (.iload 5, 2) := by decide +kernel
theorem dX8_key_142 : decode cX8_key 142 = .ok (.isub, 1) := by decide +kernel
theorem dX8_key_143 : decode cX8_key 143 = .ok (.invokestatic 119, 3) := by decide +kernel
theorem dX8_key_146 : decode cX8_key 146 = .ok (.aload_n 0, 1) := by decide +kernel
theorem dX8_key_147 : decode cX8_key 147 = .ok (.getfield 78, 3) := by decide +kernel
theorem dX8_key_150 : decode cX8_key 150 = .ok (.iload 4, 2) := by decide +kernel
theorem dX8_key_152 : decode cX8_key 152 = .ok (.aload_n 0, 1) := by decide +kernel
theorem dX8_key_153 : decode cX8_key 153 = .ok (.getfield 78, 3) := by decide +kernel
theorem dX8_key_156 : decode cX8_key 156 = .ok (.iload 4, 2) := by decide +kernel
theorem dX8_key_158 : decode cX8_key 158 = .ok (.iconst 1, 1) := by decide +kernel
theorem dX8_key_159 : decode cX8_key 159 = .ok (.iadd, 1) := by decide +kernel
theorem dX8_key_160 : decode cX8_key 160 = .ok (.aload_n 0, 1) := by decide +kernel
theorem dX8_key_161 : decode cX8_key 161 = .ok (.getfield 72, 3) := by decide +kernel
theorem dX8_key_164 : decode cX8_key 164 = .ok (.iload_n 1, 1) := by decide +kernel
theorem dX8_key_165 : decode cX8_key 165 = .ok (.iaload, 1) := by decide +kernel
theorem dX8_key_166 : decode cX8_key 166 = .ok (.iload 5, 2) := by decide +kernel
theorem dX8_key_168 : decode cX8_key 168 = .ok (.isub, 1) := by decide +kernel
theorem dX8_key_169 : decode cX8_key 169 = .ok (.invokestatic 119, 3) := by decide +kernel
theorem dX8_key_172 : decode cX8_key 172 = .ok (.aload_n 0, 1) := by decide +kernel
theorem dX8_key_173 : decode cX8_key 173 = .ok (.getfield 72, 3) := by decide +kernel
theorem dX8_key_176 : decode cX8_key 176 = .ok (.iload_n 1, 1) := by decide +kernel
theorem dX8_key_177 : decode cX8_key 177 = .ok (.dup2, 1) := by decide +kernel
theorem dX8_key_178 : decode cX8_key 178 = .ok (.iaload, 1) := by decide +kernel
theorem dX8_key_179 : decode cX8_key 179 = .ok (.iconst 1, 1) := by decide +kernel
theorem dX8_key_180 : decode cX8_key 180 = .ok (.iadd, 1) := by decide +kernel
theorem dX8_key_181 : decode cX8_key 181 = .ok (.iastore, 1) := by decide +kernel
theorem dX8_key_182 : decode cX8_key 182 = .ok (.aload_n 0, 1) := by decide +kernel
theorem dX8_key_183 : decode cX8_key 183 = .ok (.getfield 75, 3) := by decide +kernel
theorem dX8_key_186 : decode cX8_key 186 = .ok (.iload 4, 2) := by decide +kernel
theorem dX8_key_188 : decode cX8_key 188 = .ok (.iload_n 2, 1) := by decide +kernel
theorem dX8_key_189 : decode cX8_key 189 = .ok (.iastore, 1) := by decide +kernel
theorem dX8_key_190 : decode cX8_key 190 = .ok (.aload_n 0, 1) := by decide +kernel
theorem dX8_key_191 : decode cX8_key 191 = .ok (.getfield 78, 3) := by decide +kernel
theorem dX8_key_194 : decode cX8_key 194 = .ok (.iload 4, 2) := by decide +kernel
theorem dX8_key_196 : decode cX8_key 196 = .ok (.iload_n 3, 1) := by decide +kernel
theorem dX8_key_197 : decode cX8_key 197 = .ok (.iastore, 1) := by decide +kernel
theorem dX8_key_198 : decode cX8_key 198 = .ok (.aload_n 0, 1) := by decide +kernel
theorem dX8_key_199 : decode cX8_key 199 = .ok (.getfield 72, 3) := by decide +kernel
theorem dX8_key_202 : decode cX8_key 202 = .ok (.iload_n 1, 1) := by decide +kernel
theorem dX8_key_203 : decode cX8_key 203 = .ok (.iaload, 1) := by decide +kernel
theorem dX8_key_204 : decode cX8_key 204 = .ok (.ireturn, 1) := by decide +kernel
theorem dX8_level_0 : decode cX8_level 0 = .ok (.aload_n 0, 1) := by decide +kernel
theorem dX8_level_1 : decode cX8_level 1 = .ok (.iconst 0, 1) := by decide +kernel
theorem dX8_level_2 : decode cX8_level 2 = .ok (.putfield 81, 3) := by decide +kernel
theorem dX8_level_5 : decode cX8_level 5 = .ok (.aload_n 0, 1) := by decide +kernel
theorem dX8_level_6 : decode cX8_level 6 = .ok (.iload_n 1, 1) := by decide +kernel
theorem dX8_level_7 : decode cX8_level 7 = .ok (.invokevirtual 88, 3) := by decide +kernel
theorem dX8_level_10 : decode cX8_level 10 = .ok (.ifCond .eq 11, 3) := by decide +kernel
theorem dX8_level_13 : decode cX8_level 13 = .ok (.aload_n 0, 1) := by decide +kernel
theorem dX8_level_14 : decode cX8_level 14 = .ok (.iload_n 1, 1) := by decide +kernel
theorem dX8_level_15 : decode cX8_level 15 = .ok (.invokevirtual 96, 3) := by decide +kernel
theorem dX8_level_18 : decode cX8_level 18 = .ok (.goto 8, 3) := by decide +kernel
theorem dX8_level_21 : decode cX8_level 21 = .ok (.aload_n 0, 1) := by decide +kernel
theorem dX8_level_22 : decode cX8_level 22 = .ok (.iconst 1, 1) := by decide +kernel
theorem dX8_level_23 : decode cX8_level 23 = .ok (.invokevirtual 92, 3) := by decide +kernel
theorem dX8_level_26 : decode cX8_level 26 = .ok (.ireturn, 1) := by decide +kernel
theorem dX8_look_0 : decode cX8_look 0 = .ok (.aload_n 0, 1) := by decide +kernel
theorem dX8_look_1 : decode cX8_look 1 = .ok (.aload_n 0, 1) := by decide +kernel
theorem dX8_look_2 : decode cX8_look 2 = .ok (.iload_n 1, 1) := by decide +kernel
theorem dX8_look_3 : decode cX8_look 3 = .ok (.iload_n 2, 1) := by decide +kernel
theorem dX8_look_4 : decode cX8_look 4 = .ok (.bipush (-9), 2) := by decide +kernel
theorem dX8_look_6 : decode cX8_look 6 = .ok (.bipush 9, 2) := by decide +kernel
theorem dX8_look_8 : decode cX8_look 8 = .ok (.invokestatic 84, 3) := by decide +kernel
theorem dX8_look_11 : decode cX8_look 11 = .ok (.ifCond .eq 17, 3) := by decide +kernel
theorem dX8_look_14 : decode cX8_look 14 = .ok (.iload_n 3, 1) := by decide +kernel
theorem dX8_look_15 : decode cX8_look 15 = .ok (.iconst 0, 1) := by decide +kernel
theorem dX8_look_16 : decode cX8_look 16 = .ok (.bipush 100, 2) := by decide +kernel
theorem dX8_look_18 : decode cX8_look 18 = .ok (.invokestatic 84, 3) := by decide +kernel
theorem dX8_look_21 : decode cX8_look 21 = .ok (.ifCond .eq 7, 3) := by decide +kernel
theorem dX8_look_24 : decode cX8_look 24 = .ok (.iconst 1, 1) := by decide +kernel
theorem dX8_look_25 : decode cX8_look 25 = .ok (.goto 4, 3) := by decide +kernel
theorem dX8_look_28 : decode cX8_look 28 = .ok (.iconst 0, 1) := by decide +kernel
theorem dX8_look_29 : decode cX8_look 29 = .ok (.invokevirtual 115, 3) := by decide +kernel
theorem dX8_look_32 : decode cX8_look 32 = .ok (.putfield 81, 3) := by decide +kernel
theorem dX8_look_35 : decode cX8_look 35 = .ok (.aload_n 0, 1) := by decide +kernel
theorem dX8_look_36 : decode cX8_look 36 = .ok (.getfield 81, 3) := by decide +kernel
theorem dX8_look_39 : decode cX8_look 39 = .ok (.ifCond .eq 5, 3) := by decide +kernel
theorem dX8_look_42 : decode cX8_look 42 = .ok (.iconst 0, 1) := by decide +kernel
theorem dX8_look_43 : decode cX8_look 43 = .ok (.ireturn, 1) := by decide +kernel
theorem dX8_look_44 : decode cX8_look 44 = .ok (.aload_n 0, 1) := by decide +kernel
theorem dX8_look_45 : decode cX8_look 45 = .ok (.getfield 51, 3) := by decide +kernel
theorem dX8_look_48 : decode cX8_look 48 = .ok (.iload_n 1, 1) := by decide +kernel
theorem dX8_look_49 : decode cX8_look 49 = .ok (.iconst 4, 1) := by decide +kernel
theorem dX8_look_50 : decode cX8_look 50 = .ok (.imul, 1) := by decide +kernel
theorem dX8_look_51 : decode cX8_look 51 = .ok (.iconst 3, 1) := by decide +kernel
theorem dX8_look_52 : decode cX8_look 52 = .ok (.iadd, 1) := by decide +kernel
theorem dX8_look_53 : decode cX8_look 53 = .ok (.iaload, 1) := by decide +kernel
theorem dX8_look_54 : decode cX8_look 54 = .ok (.istore 5, 2) := by decide +kernel
theorem dX8_look_56 : decode cX8_look 56 = .ok (.aload_n 0, 1) := by decide +kernel
theorem dX8_look_57 : decode cX8_look 57 = .ok (.getfield 51, 3) := by decide +kernel
theorem dX8_look_60 : decode cX8_look 60 = .ok (.iload_n 1, 1) := by decide +kernel
theorem dX8_look_61 : decode cX8_look 61 = .ok (.iconst 4, 1) := by decide +kernel
theorem dX8_look_62 : decode cX8_look 62 = .ok (.imul, 1) := by decide +kernel
theorem dX8_look_63 : decode cX8_look 63 = .ok (.iconst 3, 1) := by decide +kernel
theorem dX8_look_64 : decode cX8_look 64 = .ok (.iadd, 1) := by decide +kernel
theorem dX8_look_65 : decode cX8_look 65 = .ok (.iload_n 3, 1) := by decide +kernel
theorem dX8_look_66 : decode cX8_look 66 = .ok (.iastore, 1) := by decide +kernel
theorem dX8_look_67 : decode cX8_look 67 = .ok (.aload_n 0, 1) := by decide +kernel
theorem dX8_look_68 : decode cX8_look 68 = .ok (.getfield 45, 3) := by decide +kernel
theorem dX8_look_71 : decode cX8_look 71 = .ok (.iload_n 1, 1) := by decide +kernel
theorem dX8_look_72 : decode cX8_look 72 = .ok (.iload_n 2, 1) := by decide +kernel
theorem dX8_look_73 : decode cX8_look 73 = .ok (.iastore, 1) := by decide +kernel
theorem dX8_look_74 : decode cX8_look 74 = .ok (.aload_n 0, 1) := by decide +kernel
theorem dX8_look_75 : decode cX8_look 75 = .ok (.getfield 20, 3) := by decide +kernel
theorem dX8_look_78 : decode cX8_look 78 = .ok (.iload_n 1, 1) := by decide +kernel
theorem dX8_look_79 : decode cX8_look 79 = .ok (.iload 4, 2) := by decide +kernel
theorem dX8_look_81 : decode cX8_look 81 = .ok (.bastore, 1) := by decide +kernel
theorem dX8_look_82 : decode cX8_look 82 = .ok (.iload 5, 2) := by decide +kernel
theorem dX8_look_84 : decode cX8_look 84 = .ok (.ireturn, 1) := by decide +kernel
theorem dX8_many_0 : decode cX8_many 0 = .ok (.aload_n 0, 1) := by decide +kernel
theorem dX8_many_1 : decode cX8_many 1 = .ok (.iconst 0, 1) := by decide +kernel
theorem dX8_many_2 : decode cX8_many 2 = .ok (.putfield 81, 3) := by decide +kernel
theorem dX8_many_5 : decode cX8_many 5 = .ok (.iload_n 1, 1) := by decide +kernel
theorem dX8_many_6 : decode cX8_many 6 = .ok (.iload_n 2, 1) := by decide +kernel
theorem dX8_many_7 : decode cX8_many 7 = .ok (.iload_n 3, 1) := by decide +kernel
theorem dX8_many_8 : decode cX8_many 8 = .ok (.invokestatic 231, 3) := by decide +kernel
theorem dX8_many_11 : decode cX8_many 11 = .ok (.ifCond .ne 9, 3) := by decide +kernel
theorem dX8_many_14 : decode cX8_many 14 = .ok (.aload_n 0, 1) := by decide +kernel
theorem dX8_many_15 : decode cX8_many 15 = .ok (.iconst 1, 1) := by decide +kernel
theorem dX8_many_16 : decode cX8_many 16 = .ok (.invokevirtual 92, 3) := by decide +kernel
theorem dX8_many_19 : decode cX8_many 19 = .ok (.ireturn, 1) := by decide +kernel
theorem dX8_many_20 : decode cX8_many 20 = .ok (.iconst 0, 1) := by decide +kernel
theorem dX8_many_21 : decode cX8_many 21 = .ok (.istore 4, 2) := by decide +kernel
theorem dX8_many_23 : decode cX8_many 23 = .ok (.iconst 1, 1) := by decide +kernel
theorem dX8_many_24 : decode cX8_many 24 = .ok (.istore 5, 2) := by decide +kernel
theorem dX8_many_26 : decode cX8_many 26 = .ok (.iload 5, 2) := by decide +kernel
theorem dX8_many_28 : decode cX8_many 28 = .ok (.aload_n 0, 1) := by decide +kernel
theorem dX8_many_29 : decode cX8_many 29 = .ok (.getfield 7, 3) := by decide +kernel
theorem dX8_many_32 : decode cX8_many 32 = .ok (.if_icmp .ge 41, 3) := by decide +kernel
theorem dX8_many_35 : decode cX8_many 35 = .ok (.iload 4, 2) := by decide +kernel
theorem dX8_many_37 : decode cX8_many 37 = .ok (.aload_n 0, 1) := by decide +kernel
theorem dX8_many_38 : decode cX8_many 38 = .ok (.getfield 13, 3) := by decide +kernel
theorem dX8_many_41 : decode cX8_many 41 = .ok (.iload 5, 2) := by decide +kernel
theorem dX8_many_43 : decode cX8_many 43 = .ok (.baload, 1) := by decide +kernel
theorem dX8_many_44 : decode cX8_many 44 = .ok (.ifCond .ne 19, 3) := by decide +kernel
theorem dX8_many_47 : decode cX8_many 47 = .ok (.aload_n 0, 1) := by decide +kernel
theorem dX8_many_48 : decode cX8_many 48 = .ok (.iload 5, 2) := by decide +kernel
theorem dX8_many_50 : decode cX8_many 50 = .ok (.iload_n 1, 1) := by decide +kernel
theorem dX8_many_51 : decode cX8_many 51 = .ok (.iload_n 2, 1) := by decide +kernel
theorem dX8_many_52 : decode cX8_many 52 = .ok (.iload_n 3, 1) := by decide +kernel
theorem dX8_many_53 : decode cX8_many 53 = .ok (.invokevirtual 234, 3) := by decide +kernel
theorem dX8_many_56 : decode cX8_many 56 = .ok (.ifCond .eq 7, 3) := by decide +kernel
theorem dX8_many_59 : decode cX8_many 59 = .ok (.iconst 1, 1) := by decide +kernel
theorem dX8_many_60 : decode cX8_many 60 = .ok (.goto 4, 3) := by decide +kernel
theorem dX8_many_63 : decode cX8_many 63 = .ok (.iconst 0, 1) := by decide +kernel
theorem dX8_many_64 : decode cX8_many 64 = .ok (.iadd, 1) := by decide +kernel
theorem dX8_many_65 : decode cX8_many 65 = .ok (.istore 4, 2) := by decide +kernel
theorem dX8_many_67 : decode cX8_many 67 = .ok (.iinc 5 1, 3) := by decide +kernel
theorem dX8_many_70 : decode cX8_many 70 = .ok (.goto (-44), 3) := by decide +kernel
theorem dX8_many_73 : decode cX8_many 73 = .ok (.iload 4, 2) := by decide +kernel
theorem dX8_many_75 : decode cX8_many 75 = .ok (.ireturn, 1) := by decide +kernel
theorem dX8_move_0 : decode cX8_move 0 = .ok (.aload_n 0, 1) := by decide +kernel
theorem dX8_move_1 : decode cX8_move 1 = .ok (.aload_n 0, 1) := by decide +kernel
theorem dX8_move_2 : decode cX8_move 2 = .ok (.iload_n 1, 1) := by decide +kernel
theorem dX8_move_3 : decode cX8_move 3 = .ok (.iload_n 2, 1) := by decide +kernel
theorem dX8_move_4 : decode cX8_move 4 = .ok (.sipush (-200), 3) := by decide +kernel
theorem dX8_move_7 : decode cX8_move 7 = .ok (.sipush 200, 3) := by decide +kernel
theorem dX8_move_10 : decode cX8_move 10 = .ok (.invokestatic 84, 3) := by decide +kernel
theorem dX8_move_13 : decode cX8_move 13 = .ok (.ifCond .eq 20, 3) := by decide +kernel
theorem dX8_move_16 : decode cX8_move 16 = .ok (.iload_n 3, 1) := by decide +kernel
theorem dX8_move_17 : decode cX8_move 17 = .ok (.sipush (-200), 3) := by decide +kernel
theorem dX8_move_20 : decode cX8_move 20 = .ok (.sipush 200, 3) := by decide +kernel
theorem dX8_move_23 : decode cX8_move 23 = .ok (.invokestatic 84, 3) := by decide +kernel
theorem dX8_move_26 : decode cX8_move 26 = .ok (.ifCond .eq 7, 3) := by decide +kernel
theorem dX8_move_29 : decode cX8_move 29 = .ok (.iconst 1, 1) := by decide +kernel
theorem dX8_move_30 : decode cX8_move 30 = .ok (.goto 4, 3) := by decide +kernel
theorem dX8_move_33 : decode cX8_move 33 = .ok (.iconst 0, 1) := by decide +kernel
theorem dX8_move_34 : decode cX8_move 34 = .ok (.invokevirtual 115, 3) := by decide +kernel
theorem dX8_move_37 : decode cX8_move 37 = .ok (.putfield 81, 3) := by decide +kernel
theorem dX8_move_40 : decode cX8_move 40 = .ok (.aload_n 0, 1) := by decide +kernel
theorem dX8_move_41 : decode cX8_move 41 = .ok (.getfield 81, 3) := by decide +kernel
theorem dX8_move_44 : decode cX8_move 44 = .ok (.ifCond .eq 5, 3) := by decide +kernel
theorem dX8_move_47 : decode cX8_move 47 = .ok (.iconst 0, 1) := by decide +kernel
theorem dX8_move_48 : decode cX8_move 48 = .ok (.ireturn, 1) := by decide +kernel
theorem dX8_move_49 : decode cX8_move 49 = .ok (.aload_n 0, 1) := by decide +kernel
theorem dX8_move_50 : decode cX8_move 50 = .ok (.getfield 51, 3) := by decide +kernel
theorem dX8_move_53 : decode cX8_move 53 = .ok (.iload_n 1, 1) := by decide +kernel
theorem dX8_move_54 : decode cX8_move 54 = .ok (.iconst 4, 1) := by decide +kernel
theorem dX8_move_55 : decode cX8_move 55 = .ok (.imul, 1) := by decide +kernel
theorem dX8_move_56 : decode cX8_move 56 = .ok (.iconst 0, 1) := by decide +kernel
theorem dX8_move_57 : decode cX8_move 57 = .ok (.iadd, 1) := by decide +kernel
theorem dX8_move_58 : decode cX8_move 58 = .ok (.iaload, 1) := by decide +kernel
theorem dX8_move_59 : decode cX8_move 59 = .ok (.istore 4, 2) := by decide +kernel
theorem dX8_move_61 : decode cX8_move 61 = .ok (.aload_n 0, 1) := by decide +kernel
theorem dX8_move_62 : decode cX8_move 62 = .ok (.getfield 51, 3) := by decide +kernel
theorem dX8_move_65 : decode cX8_move 65 = .ok (.iload_n 1, 1) := by decide +kernel
theorem dX8_move_66 : decode cX8_move 66 = .ok (.iconst 4, 1) := by decide +kernel
theorem dX8_move_67 : decode cX8_move 67 = .ok (.imul, 1) := by decide +kernel
theorem dX8_move_68 : decode cX8_move 68 = .ok (.iconst 0, 1) := by decide +kernel
theorem dX8_move_69 : decode cX8_move 69 = .ok (.iadd, 1) := by decide +kernel
theorem dX8_move_70 : decode cX8_move 70 = .ok (.iload_n 2, 1) := by decide +kernel
theorem dX8_move_71 : decode cX8_move 71 = .ok (.iastore, 1) := by decide +kernel
theorem dX8_move_72 : decode cX8_move 72 = .ok (.aload_n 0, 1) := by decide +kernel
theorem dX8_move_73 : decode cX8_move 73 = .ok (.getfield 51, 3) := by decide +kernel
theorem dX8_move_76 : decode cX8_move 76 = .ok (.iload_n 1, 1) := by decide +kernel
theorem dX8_move_77 : decode cX8_move 77 = .ok (.iconst 4, 1) := by decide +kernel
theorem dX8_move_78 : decode cX8_move 78 = .ok (.imul, 1) := by decide +kernel
theorem dX8_move_79 : decode cX8_move 79 = .ok (.iconst 1, 1) := by decide +kernel
theorem dX8_move_80 : decode cX8_move 80 = .ok (.iadd, 1) := by decide +kernel
theorem dX8_move_81 : decode cX8_move 81 = .ok (.iload_n 3, 1) := by decide +kernel
theorem dX8_move_82 : decode cX8_move 82 = .ok (.iastore, 1) := by decide +kernel
theorem dX8_move_83 : decode cX8_move 83 = .ok (.iload 4, 2) := by decide +kernel
theorem dX8_move_85 : decode cX8_move 85 = .ok (.ireturn, 1) := by decide +kernel
theorem dX8_nextKey_0 : decode cX8_nextKey 0 = .ok (.aload_n 0, 1) := by decide +kernel
theorem dX8_nextKey_1 : decode cX8_nextKey 1 = .ok (.aload_n 0, 1) := by decide +kernel
theorem dX8_nextKey_2 : decode cX8_nextKey 2 = .ok (.invokevirtual 167, 3) := by decide +kernel
theorem dX8_nextKey_5 : decode cX8_nextKey 5 = .ok (.invokevirtual 128, 3) := by decide +kernel
theorem dX8_nextKey_8 : decode cX8_nextKey 8 = .ok (.ireturn, 1) := by decide +kernel
theorem dX8_nextPick_0 : decode cX8_nextPick 0 = .ok (.aload_n 0, 1) := by decide +kernel
theorem dX8_nextPick_1 : decode cX8_nextPick 1 = .ok (.iconst 0, 1) := by decide +kernel
theorem dX8_nextPick_2 : decode cX8_nextPick 2 = .ok (.putfield 81, 3) := by decide +kernel
theorem dX8_nextPick_5 : decode cX8_nextPick 5 = .ok (.iload_n 1, 1) := by decide +kernel
theorem dX8_nextPick_6 : decode cX8_nextPick 6 = .ok (.iload_n 2, 1) := by decide +kernel
theorem dX8_nextPick_7 : decode cX8_nextPick 7 = .ok (.iload_n 3, 1) := by decide +kernel
theorem dX8_nextPick_8 : decode cX8_nextPick 8 = .ok (.invokestatic 231, 3) := by decide +kernel
theorem dX8_nextPick_11 : decode cX8_nextPick 11 = .ok (.ifCond .eq 14, 3) := by decide +kernel
theorem dX8_nextPick_14 : decode cX8_nextPick 14 = .ok (.iload 4, 2) := by decide +kernel
theorem dX8_nextPick_16 : decode cX8_nextPick 16 = .ok (.iconst 1, 1) := by decide +kernel
theorem dX8_nextPick_17 : decode cX8_nextPick 17 = .ok (.bipush 100, 2) := by decide +kernel
theorem dX8_nextPick_19 : decode cX8_nextPick 19 = .ok (.invokestatic 84, 3) := by decide +kernel
theorem dX8_nextPick_22 : decode cX8_nextPick 22 = .ok (.ifCond .ne 9, 3) := by decide +kernel
theorem dX8_nextPick_25 : decode cX8_nextPick 25 = .ok (.aload_n 0, 1) := by decide +kernel
theorem dX8_nextPick_26 : decode cX8_nextPick 26 = .ok (.iconst 1, 1) := by decide +kernel
theorem dX8_nextPick_27 : decode cX8_nextPick 27 = .ok (.invokevirtual 92, 3) := by decide +kernel
theorem dX8_nextPick_30 : decode cX8_nextPick 30 = .ok (.ireturn, 1) := by decide +kernel
theorem dX8_nextPick_31 : decode cX8_nextPick 31 = .ok (.aload_n 0, 1) := by decide +kernel
theorem dX8_nextPick_32 : decode cX8_nextPick 32 = .ok (.getfield 150, 3) := by decide +kernel
theorem dX8_nextPick_35 : decode cX8_nextPick 35 = .ok (.istore 5, 2) := by decide +kernel
theorem dX8_nextPick_37 : decode cX8_nextPick 37 = .ok (.aload_n 0, 1) := by decide +kernel
theorem dX8_nextPick_38 : decode cX8_nextPick 38 = .ok (.iload_n 1, 1) := by decide +kernel
theorem dX8_nextPick_39 : decode cX8_nextPick 39 = .ok (.iload_n 2, 1) := by decide +kernel
theorem dX8_nextPick_40 : decode cX8_nextPick 40 = .ok (.iload_n 3, 1) := by decide +kernel
theorem dX8_nextPick_41 : decode cX8_nextPick 41 = .ok (.invokevirtual 238, 3) := by decide +kernel
theorem dX8_nextPick_44 : decode cX8_nextPick 44 = .ok (.istore 6, 2) := by decide +kernel
theorem dX8_nextPick_46 : decode cX8_nextPick 46 = .ok (.iconst (-1), 1) := by decide +kernel
theorem dX8_nextPick_47 : decode cX8_nextPick 47 = .ok (.istore 7, 2) := by decide +kernel
theorem dX8_nextPick_49 : decode cX8_nextPick 49 = .ok (.iconst 1, 1) := by decide +kernel
theorem dX8_nextPick_50 : decode cX8_nextPick 50 = .ok (.istore 8, 2) := by decide +kernel
theorem dX8_nextPick_52 : decode cX8_nextPick 52 = .ok (.iload 8, 2) := by decide +kernel
theorem dX8_nextPick_54 : decode cX8_nextPick 54 = .ok (.iload 4, 2) := by decide +kernel
theorem dX8_nextPick_56 : decode cX8_nextPick 56 = .ok (.if_icmp .gt 53, 3) := by decide +kernel
theorem dX8_nextPick_59 : decode cX8_nextPick 59 = .ok (.iload 5, 2) := by decide +kernel
theorem dX8_nextPick_61 : decode cX8_nextPick 61 = .ok (.iload 8, 2) := by decide +kernel
theorem dX8_nextPick_63 : decode cX8_nextPick 63 = .ok (.iadd, 1) := by decide +kernel
theorem dX8_nextPick_64 : decode cX8_nextPick 64 = .ok (.sipush 9999, 3) := by decide +kernel
theorem dX8_nextPick_67 : decode cX8_nextPick 67 = .ok (.if_icmp .gt 42, 3) := by decide +kernel
theorem dX8_nextPick_70 : decode cX8_nextPick 70 = .ok (.iload 7, 2) := by decide +kernel
theorem dX8_nextPick_72 : decode cX8_nextPick 72 = .ok (.iconst (-1), 1) := by decide +kernel
theorem dX8_nextPick_73 : decode cX8_nextPick 73 = .ok (.if_icmp .ne 36, 3) := by decide +kernel
theorem dX8_nextPick_76 : decode cX8_nextPick 76 = .ok (.aload_n 0, 1) := by decide +kernel
theorem dX8_nextPick_77 : decode cX8_nextPick 77 = .ok (.iload 5, 2) := by decide +kernel
theorem dX8_nextPick_79 : decode cX8_nextPick 79 = .ok (.iload 8, 2) := by decide +kernel
theorem dX8_nextPick_81 : decode cX8_nextPick 81 = .ok (.iadd, 1) := by decide +kernel
theorem dX8_nextPick_82 : decode cX8_nextPick 82 = .ok (.putfield 150, 3) := by decide +kernel
theorem dX8_nextPick_85 : decode cX8_nextPick 85 = .ok (.aload_n 0, 1) := by decide +kernel
theorem dX8_nextPick_86 : decode cX8_nextPick 86 = .ok (.iload_n 1, 1) := by decide +kernel
theorem dX8_nextPick_87 : decode cX8_nextPick 87 = .ok (.iload_n 2, 1) := by decide +kernel
theorem dX8_nextPick_88 : decode cX8_nextPick 88 = .ok (.iload_n 3, 1) := by decide +kernel
theorem dX8_nextPick_89 : decode cX8_nextPick 89 = .ok (.invokevirtual 238, 3) := by decide +kernel
theorem dX8_nextPick_92 : decode cX8_nextPick 92 = .ok (.iload 6, 2) := by decide +kernel
theorem dX8_nextPick_94 : decode cX8_nextPick 94 = .ok (.if_icmp .eq 9, 3) := by decide +kernel
theorem dX8_nextPick_97 : decode cX8_nextPick 97 = .ok (.aload_n 0, 1) := by decide +kernel
theorem dX8_nextPick_98 : decode cX8_nextPick 98 = .ok (.getfield 150, 3) := by decide +kernel
theorem dX8_nextPick_101 : decode cX8_nextPick 101 = .ok (.istore 7, 2) := by decide +kernel
theorem dX8_nextPick_103 : decode cX8_nextPick 103 = .ok (.iinc 8 1, 3) := by decide +kernel
theorem dX8_nextPick_106 : decode cX8_nextPick 106 = .ok (.goto (-54), 3) := by decide +kernel
theorem dX8_nextPick_109 : decode cX8_nextPick 109 = .ok (.aload_n 0, 1) := by decide +kernel
theorem dX8_nextPick_110 : decode cX8_nextPick 110 = .ok (.iload 5, 2) := by decide +kernel
theorem dX8_nextPick_112 : decode cX8_nextPick 112 = .ok (.putfield 150, 3) := by decide +kernel
theorem dX8_nextPick_115 : decode cX8_nextPick 115 = .ok (.iload 7, 2) := by decide +kernel
theorem dX8_nextPick_117 : decode cX8_nextPick 117 = .ok (.ireturn, 1) := by decide +kernel
theorem dX8_nodes_0 : decode cX8_nodes 0 = .ok (.aload_n 0, 1) := by decide +kernel
theorem dX8_nodes_1 : decode cX8_nodes 1 = .ok (.aload_n 0, 1) := by decide +kernel
theorem dX8_nodes_2 : decode cX8_nodes 2 = .ok (.invokevirtual 131, 3) := by decide +kernel
theorem dX8_nodes_5 : decode cX8_nodes 5 = .ok (.invokevirtual 128, 3) := by decide +kernel
theorem dX8_nodes_8 : decode cX8_nodes 8 = .ok (.ireturn, 1) := by decide +kernel
noncomputable def f_X8_fromWhole_L37 (s0 : Int32) (h : fSt) : Option (Int32 × fSt) := some (s0, h)
noncomputable def f_X8_fromWhole_L0 (a0 : Option Nat) (a1 : Int32) (a2 : Int32) (a3 : Int32) (a4 : Int32) (h : fSt) : Option (Int32 × fSt) := (fobj h a0 8).bind fun b3 => (f_X8_isNode b3 a1 h).bind fun r1 => (fobj r1.2 a0 8).bind fun b7 => (f_X8_asked b7 r1.1 a2 a3 a4 r1.2).bind fun r5 => (fput r5.2 a0 8 0 (.int r5.1)).bind fun h9 => (fgI h9 a0 8 0).bind fun x11 => (if x11 = 0 then (fobj h9 a0 8).bind fun b16 => (f_X8_fromWholeNow b16 a1 a2 a3 a4 h9).bind fun r14 => f_X8_fromWhole_L37 r14.1 r14.2 else f_X8_fromWhole_L37 (0 : Int32) h9)
noncomputable def f_X8_fromWhole (o : Nat) (p0 : Int32) (p1 : Int32) (p2 : Int32) (p3 : Int32) (h : fSt) : Option (Int32 × fSt) := f_X8_fromWhole_L0 (some o) p0 p1 p2 p3 h
noncomputable def f_X8_hang_L21 (a0 : Option Nat) (h : fSt) : Option (Int32 × fSt) := (fobj h a0 8).bind fun b3 => (f_X8_no b3 (1 : Int32) h).bind fun r1 => some (r1.1, r1.2)
noncomputable def f_X8_hang_L40 (a0 : Option Nat) (h : fSt) : Option (Int32 × fSt) := (fobj h a0 8).bind fun b7 => (f_X8_no b7 (2 : Int32) h).bind fun r5 => some (r5.1, r5.2)
noncomputable def f_X8_hang_L97 (k51 : Option Nat → Int32 → Int32 → Int32 → Int32 → fSt → Option (Int32 × fSt)) (a0 : Option Nat) (a1 : Int32) (a2 : Int32) (a3 : Int32) (a4 : Int32) (h : fSt) : Option (Int32 × fSt) := k51 a0 a1 a2 a3 (a4 + (1 : Int32)) h
noncomputable def f_X8_hang_L51 (n : Nat) : Option Nat → Int32 → Int32 → Int32 → Int32 → fSt → Option (Int32 × fSt) := Nat.rec (motive := fun _ => Option Nat → Int32 → Int32 → Int32 → Int32 → fSt → Option (Int32 × fSt)) (fun _ _ _ _ _ _ => none) (fun _ k51 (a0 : Option Nat) (a1 : Int32) (a2 : Int32) (a3 : Int32) (a4 : Int32) (h : fSt) => (fgI h a0 8 1).bind fun x9 => (if x9 ≤ a4 then (fobj h a0 8).bind fun b14 => (f_X8_levelNow b14 a2 h).bind fun r12 => (if ((r12.1 + (1 : Int32)) + a3) ≤ (4 : Int32) then (fgR r12.2 a0 8 6).bind fun x17 => (fsI r12.2 x17 0 a1 a2).bind fun h19 => (fgR h19 a0 8 13).bind fun x21 => (fgI h19 a0 8 16).bind fun x23 => (fput h19 a0 8 16 (.int (x23 + (1 : Int32)))).bind fun h25 => (fsI h25 x21 0 a1 x23).bind fun h27 => (fobj h27 a0 8).bind fun b31 => (f_X8_hanging b31 a2 h27).bind fun r29 => some (r29.1, r29.2) else (fobj r12.2 a0 8).bind fun b35 => (f_X8_no b35 (2 : Int32) r12.2).bind fun r33 => some (r33.1, r33.2)) else (fgR h a0 8 2).bind fun x37 => (faI h x37 2 a4).bind fun x39 => (if x39 = 0 then (fobj h a0 8).bind fun b44 => (f_X8_isWithin b44 a4 a1 h).bind fun r42 => (if r42.1 = 0 then f_X8_hang_L97 k51 a0 a1 a2 a3 a4 r42.2 else (fobj r42.2 a0 8).bind fun b49 => (f_X8_levelNow b49 a4 r42.2).bind fun r47 => (fobj r47.2 a0 8).bind fun b53 => (f_X8_levelNow b53 a1 r47.2).bind fun r51 => f_X8_hang_L97 k51 a0 a1 a2 (if a3 < (r47.1 - r51.1) then (r47.1 - r51.1) else a3) a4 r51.2) else f_X8_hang_L97 k51 a0 a1 a2 a3 a4 h))) n
noncomputable def f_X8_hang_L0 (a0 : Option Nat) (a1 : Int32) (a2 : Int32) (h : fSt) : Option (Int32 × fSt) := (fput h a0 8 0 (.int (0 : Int32))).bind fun h55 => (fobj h55 a0 8).bind fun b59 => (f_X8_isNode b59 a1 h55).bind fun r57 => (if r57.1 = 0 then f_X8_hang_L21 a0 r57.2 else (fobj r57.2 a0 8).bind fun b64 => (f_X8_isNode b64 a2 r57.2).bind fun r62 => (if r62.1 = 0 then f_X8_hang_L21 a0 r62.2 else (if a1 = 0 then f_X8_hang_L40 a0 r62.2 else (fobj r62.2 a0 8).bind fun b70 => (f_X8_isWithin b70 a2 a1 r62.2).bind fun r68 => (if r68.1 = 0 then f_X8_hang_L51 4096 a0 a1 a2 (0 : Int32) (1 : Int32) r68.2 else f_X8_hang_L40 a0 r68.2))))
noncomputable def f_X8_hang (o : Nat) (p0 : Int32) (p1 : Int32) (h : fSt) : Option (Int32 × fSt) := f_X8_hang_L0 (some o) p0 p1 h
noncomputable def f_X8_init_L191 (n : Nat) : Option Nat → Int32 → fSt → Option (Unit × fSt) := Nat.rec (motive := fun _ => Option Nat → Int32 → fSt → Option (Unit × fSt)) (fun _ _ _ => none) (fun _ k191 (a0 : Option Nat) (a1 : Int32) (h : fSt) => (if (30 : Int32) ≤ a1 then some ((), h) else (fgR h a0 8 10).bind fun x2 => (fsI h x2 0 a1 (1 : Int32)).bind fun h4 => (fgR h4 a0 8 11).bind fun x6 => (fsI h4 x6 0 a1 (1 : Int32)).bind fun h8 => (fgR h8 a0 8 14).bind fun x10 => (fsI h8 x10 0 ((a1 * (4 : Int32)) + (3 : Int32)) (100 : Int32)).bind fun h12 => k191 a0 (a1 + (1 : Int32)) h12)) n
noncomputable def f_X8_init_L0 (a0 : Option Nat) (h : fSt) : Option (Unit × fSt) := (fobj h a0 8).bind fun b14 => (fput h a0 8 1 (.int (1 : Int32))).bind fun h16 => (if (30 : Int32) < 0 ∨ 67000000 < ((30 : Int32)).toNatClampNeg then none else (fnew h16 (.inr (2, ((30 : Int32)).toNatClampNeg, .inl (fun _ => 0))) ((30 : Int32)).toNatClampNeg).bind fun r19 => (fput r19.2 a0 8 2 (va_rf (some r19.1))).bind fun h21 => (if (30 : Int32) < 0 ∨ 67000000 < ((30 : Int32)).toNatClampNeg then none else (fnew h21 (.inr (2, ((30 : Int32)).toNatClampNeg, .inl (fun _ => 0))) ((30 : Int32)).toNatClampNeg).bind fun r24 => (fput r24.2 a0 8 3 (va_rf (some r24.1))).bind fun h26 => (if (30 : Int32) < 0 ∨ 67000000 < ((30 : Int32)).toNatClampNeg then none else (fnew h26 (.inr (2, ((30 : Int32)).toNatClampNeg, .inl (fun _ => 0))) ((30 : Int32)).toNatClampNeg).bind fun r29 => (fput r29.2 a0 8 4 (va_rf (some r29.1))).bind fun h31 => (if (30 : Int32) < 0 ∨ 67000000 < ((30 : Int32)).toNatClampNeg then none else (fnew h31 (.inr (2, ((30 : Int32)).toNatClampNeg, .inl (fun _ => 0))) ((30 : Int32)).toNatClampNeg).bind fun r34 => (fput r34.2 a0 8 5 (va_rf (some r34.1))).bind fun h36 => (if (30 : Int32) < 0 ∨ 67000000 < ((30 : Int32)).toNatClampNeg then none else (fnew h36 (.inr (0, ((30 : Int32)).toNatClampNeg, .inl (fun _ => 0))) ((30 : Int32)).toNatClampNeg).bind fun r39 => (fput r39.2 a0 8 6 (va_rf (some r39.1))).bind fun h41 => (if (30 : Int32) < 0 ∨ 67000000 < ((30 : Int32)).toNatClampNeg then none else (fnew h41 (.inr (0, ((30 : Int32)).toNatClampNeg, .inl (fun _ => 0))) ((30 : Int32)).toNatClampNeg).bind fun r44 => (fput r44.2 a0 8 7 (va_rf (some r44.1))).bind fun h46 => (if (30 : Int32) < 0 ∨ 67000000 < ((30 : Int32)).toNatClampNeg then none else (fnew h46 (.inr (0, ((30 : Int32)).toNatClampNeg, .inl (fun _ => 0))) ((30 : Int32)).toNatClampNeg).bind fun r49 => (fput r49.2 a0 8 8 (va_rf (some r49.1))).bind fun h51 => (if (30 : Int32) < 0 ∨ 67000000 < ((30 : Int32)).toNatClampNeg then none else (fnew h51 (.inr (0, ((30 : Int32)).toNatClampNeg, .inl (fun _ => 0))) ((30 : Int32)).toNatClampNeg).bind fun r54 => (fput r54.2 a0 8 9 (va_rf (some r54.1))).bind fun h56 => (if (30 : Int32) < 0 ∨ 67000000 < ((30 : Int32)).toNatClampNeg then none else (fnew h56 (.inr (0, ((30 : Int32)).toNatClampNeg, .inl (fun _ => 0))) ((30 : Int32)).toNatClampNeg).bind fun r59 => (fput r59.2 a0 8 10 (va_rf (some r59.1))).bind fun h61 => (if (30 : Int32) < 0 ∨ 67000000 < ((30 : Int32)).toNatClampNeg then none else (fnew h61 (.inr (0, ((30 : Int32)).toNatClampNeg, .inl (fun _ => 0))) ((30 : Int32)).toNatClampNeg).bind fun r64 => (fput r64.2 a0 8 11 (va_rf (some r64.1))).bind fun h66 => (if (30 : Int32) < 0 ∨ 67000000 < ((30 : Int32)).toNatClampNeg then none else (fnew h66 (.inr (0, ((30 : Int32)).toNatClampNeg, .inl (fun _ => 0))) ((30 : Int32)).toNatClampNeg).bind fun r69 => (fput r69.2 a0 8 12 (va_rf (some r69.1))).bind fun h71 => (if (30 : Int32) < 0 ∨ 67000000 < ((30 : Int32)).toNatClampNeg then none else (fnew h71 (.inr (0, ((30 : Int32)).toNatClampNeg, .inl (fun _ => 0))) ((30 : Int32)).toNatClampNeg).bind fun r74 => (fput r74.2 a0 8 13 (va_rf (some r74.1))).bind fun h76 => (if (120 : Int32) < 0 ∨ 67000000 < ((120 : Int32)).toNatClampNeg then none else (fnew h76 (.inr (0, ((120 : Int32)).toNatClampNeg, .inl (fun _ => 0))) ((120 : Int32)).toNatClampNeg).bind fun r79 => (fput r79.2 a0 8 14 (va_rf (some r79.1))).bind fun h81 => (if (120 : Int32) < 0 ∨ 67000000 < ((120 : Int32)).toNatClampNeg then none else (fnew h81 (.inr (0, ((120 : Int32)).toNatClampNeg, .inl (fun _ => 0))) ((120 : Int32)).toNatClampNeg).bind fun r84 => (fput r84.2 a0 8 15 (va_rf (some r84.1))).bind fun h86 => (fput h86 a0 8 16 (.int (1 : Int32))).bind fun h88 => (if (12 : Int32) < 0 ∨ 67000000 < ((12 : Int32)).toNatClampNeg then none else (fnew h88 (.inr (0, ((12 : Int32)).toNatClampNeg, .inl (fun _ => 0))) ((12 : Int32)).toNatClampNeg).bind fun r91 => (fput r91.2 a0 8 18 (va_rf (some r91.1))).bind fun h93 => (if (12 : Int32) < 0 ∨ 67000000 < ((12 : Int32)).toNatClampNeg then none else (fnew h93 (.inr (0, ((12 : Int32)).toNatClampNeg, .inl (fun _ => 0))) ((12 : Int32)).toNatClampNeg).bind fun r96 => (fput r96.2 a0 8 19 (va_rf (some r96.1))).bind fun h98 => (if (12 : Int32) < 0 ∨ 67000000 < ((12 : Int32)).toNatClampNeg then none else (fnew h98 (.inr (0, ((12 : Int32)).toNatClampNeg, .inl (fun _ => 0))) ((12 : Int32)).toNatClampNeg).bind fun r101 => (fput r101.2 a0 8 20 (va_rf (some r101.1))).bind fun h103 => (if (12 : Int32) < 0 ∨ 67000000 < ((12 : Int32)).toNatClampNeg then none else (fnew h103 (.inr (0, ((12 : Int32)).toNatClampNeg, .inl (fun _ => 0))) ((12 : Int32)).toNatClampNeg).bind fun r106 => (fput r106.2 a0 8 21 (va_rf (some r106.1))).bind fun h108 => (if (12 : Int32) < 0 ∨ 67000000 < ((12 : Int32)).toNatClampNeg then none else (fnew h108 (.inr (0, ((12 : Int32)).toNatClampNeg, .inl (fun _ => 0))) ((12 : Int32)).toNatClampNeg).bind fun r111 => (fput r111.2 a0 8 22 (va_rf (some r111.1))).bind fun h113 => (if (96 : Int32) < 0 ∨ 67000000 < ((96 : Int32)).toNatClampNeg then none else (fnew h113 (.inr (0, ((96 : Int32)).toNatClampNeg, .inl (fun _ => 0))) ((96 : Int32)).toNatClampNeg).bind fun r116 => (fput r116.2 a0 8 23 (va_rf (some r116.1))).bind fun h118 => (if (96 : Int32) < 0 ∨ 67000000 < ((96 : Int32)).toNatClampNeg then none else (fnew h118 (.inr (0, ((96 : Int32)).toNatClampNeg, .inl (fun _ => 0))) ((96 : Int32)).toNatClampNeg).bind fun r121 => (fput r121.2 a0 8 24 (va_rf (some r121.1))).bind fun h123 => (fgR h123 a0 8 6).bind fun x125 => (fsI h123 x125 0 (0 : Int32) (-1 : Int32)).bind fun h127 => f_X8_init_L191 4096 a0 (0 : Int32) h127)))))))))))))))))))))
noncomputable def f_X8_init (o : Nat) (h : fSt) : Option (Unit × fSt) := f_X8_init_L0 (some o) h
noncomputable def f_X8_isShown_L37 (s0 : Int32) (h : fSt) : Option (Int32 × fSt) := if s0 = 0 ∨ s0 = 1 then some (s0, h) else none
noncomputable def f_X8_isShown_L36  (h : fSt) : Option (Int32 × fSt) := f_X8_isShown_L37 (0 : Int32) h
noncomputable def f_X8_isShown_L14 (a0 : Option Nat) (a1 : Int32) (s1 : Int32) (s0 : Option Nat) (h : fSt) : Option (Int32 × fSt) := (fput h s0 8 0 (.int s1)).bind fun h2 => (fgI h2 a0 8 0).bind fun x4 => (if x4 = 0 then (fobj h2 a0 8).bind fun b9 => (f_X8_isShownNow b9 a1 h2).bind fun r7 => (if r7.1 = 0 then f_X8_isShown_L36 r7.2 else f_X8_isShown_L37 (1 : Int32) r7.2) else f_X8_isShown_L36 h2)
noncomputable def f_X8_isShown_L0 (a0 : Option Nat) (a1 : Int32) (h : fSt) : Option (Int32 × fSt) := (fobj h a0 8).bind fun b14 => (f_X8_isNode b14 a1 h).bind fun r12 => (if r12.1 = 0 then f_X8_isShown_L14 a0 a1 (1 : Int32) a0 r12.2 else f_X8_isShown_L14 a0 a1 (0 : Int32) a0 r12.2)
noncomputable def f_X8_isShown (o : Nat) (p0 : Int32) (h : fSt) : Option (Int32 × fSt) := f_X8_isShown_L0 (some o) p0 h
noncomputable def f_X8_keyPlace_L33 (a3 : Int32) (h : fSt) : Option (Int32 × fSt) := some (a3, h)
noncomputable def f_X8_keyPlace_L2 (n : Nat) : Option Nat → Int32 → Int32 → Int32 → fSt → Option (Int32 × fSt) := Nat.rec (motive := fun _ => Option Nat → Int32 → Int32 → Int32 → fSt → Option (Int32 × fSt)) (fun _ _ _ _ _ => none) (fun _ k2 (a0 : Option Nat) (a1 : Int32) (a2 : Int32) (a3 : Int32) (h : fSt) => (fgR h a0 8 22).bind fun x1 => (faI h x1 0 a1).bind fun x3 => (if x3 ≤ a3 then f_X8_keyPlace_L33 a3 h else (fgR h a0 8 23).bind fun x6 => (faI h x6 0 ((a1 * (8 : Int32)) + a3)).bind fun x8 => (if a2 ≤ x8 then f_X8_keyPlace_L33 a3 h else k2 a0 a1 a2 (a3 + (1 : Int32)) h))) n
noncomputable def f_X8_keyPlace_L0 (a0 : Option Nat) (a1 : Int32) (a2 : Int32) (h : fSt) : Option (Int32 × fSt) := f_X8_keyPlace_L2 4096 a0 a1 a2 (0 : Int32) h
noncomputable def f_X8_keyPlace (o : Nat) (p0 : Int32) (p1 : Int32) (h : fSt) : Option (Int32 × fSt) := f_X8_keyPlace_L0 (some o) p0 p1 h
noncomputable def f_X8_hasKey_L37 (s0 : Int32) (h : fSt) : Option (Int32 × fSt) := if s0 = 0 ∨ s0 = 1 then some (s0, h) else none
noncomputable def f_X8_hasKey_L36  (h : fSt) : Option (Int32 × fSt) := f_X8_hasKey_L37 (0 : Int32) h
noncomputable def f_X8_hasKey_L0 (a0 : Option Nat) (a1 : Int32) (a2 : Int32) (h : fSt) : Option (Int32 × fSt) := (fobj h a0 8).bind fun b4 => (f_X8_keyPlace b4 a1 a2 h).bind fun r2 => (fgR r2.2 a0 8 22).bind fun x6 => (faI r2.2 x6 0 a1).bind fun x8 => (if x8 ≤ r2.1 then f_X8_hasKey_L36 r2.2 else (fgR r2.2 a0 8 23).bind fun x11 => (faI r2.2 x11 0 ((a1 * (8 : Int32)) + r2.1)).bind fun x13 => (if x13 = a2 then f_X8_hasKey_L37 (1 : Int32) r2.2 else f_X8_hasKey_L36 r2.2))
noncomputable def f_X8_hasKey (o : Nat) (p0 : Int32) (p1 : Int32) (h : fSt) : Option (Int32 × fSt) := f_X8_hasKey_L0 (some o) p0 p1 h
noncomputable def f_X8_isTrack_L0 (a0 : Option Nat) (a1 : Int32) (h : fSt) : Option (Int32 × fSt) := (fgI h a0 8 17).bind fun x1 => (f_X8_isIn a1 (0 : Int32) (x1 - (1 : Int32)) h).bind fun r3 => if r3.1 = 0 ∨ r3.1 = 1 then some (r3.1, r3.2) else none
noncomputable def f_X8_isTrack (o : Nat) (p0 : Int32) (h : fSt) : Option (Int32 × fSt) := f_X8_isTrack_L0 (some o) p0 h
noncomputable def f_X8_isValue_L0 (a0 : Int32) (a1 : Int32) (h : fSt) : Option (Int32 × fSt) := (if a0 = (2 : Int32) then (f_X8_isIn a1 (0 : Int32) (3 : Int32) h).bind fun r2 => if r2.1 = 0 ∨ r2.1 = 1 then some (r2.1, r2.2) else none else (if a0 = (3 : Int32) then (f_X8_isIn a1 (0 : Int32) (100 : Int32) h).bind fun r6 => if r6.1 = 0 ∨ r6.1 = 1 then some (r6.1, r6.2) else none else (f_X8_isIn a1 (-200 : Int32) (200 : Int32) h).bind fun r9 => if r9.1 = 0 ∨ r9.1 = 1 then some (r9.1, r9.2) else none))
noncomputable def f_X8_isValue (p0 : Int32) (p1 : Int32) (h : fSt) : Option (Int32 × fSt) := f_X8_isValue_L0 p0 p1 h
noncomputable def f_X8_key_L43 (a0 : Option Nat) (h : fSt) : Option (Int32 × fSt) := (fobj h a0 8).bind fun b3 => (f_X8_no b3 (2 : Int32) h).bind fun r1 => some (r1.1, r1.2)
noncomputable def f_X8_key_L83 (a0 : Option Nat) (h : fSt) : Option (Int32 × fSt) := (fobj h a0 8).bind fun b7 => (f_X8_no b7 (3 : Int32) h).bind fun r5 => some (r5.1, r5.2)
noncomputable def f_X8_key_L182 (a0 : Option Nat) (a1 : Int32) (a2 : Int32) (a3 : Int32) (a4 : Int32) (h : fSt) : Option (Int32 × fSt) := (fgR h a0 8 23).bind fun x9 => (fsI h x9 0 a4 a2).bind fun h11 => (fgR h11 a0 8 24).bind fun x13 => (fsI h11 x13 0 a4 a3).bind fun h15 => (fgR h15 a0 8 22).bind fun x17 => (faI h15 x17 0 a1).bind fun x19 => some (x19, h15)
noncomputable def f_X8_key_L89 (a0 : Option Nat) (a1 : Int32) (a2 : Int32) (a3 : Int32) (h : fSt) : Option (Int32 × fSt) := (fobj h a0 8).bind fun b23 => (f_X8_keyPlace b23 a1 a2 h).bind fun r21 => (fobj r21.2 a0 8).bind fun b27 => (f_X8_hasKey b27 a1 a2 r21.2).bind fun r25 => (if r25.1 = 0 then (fgR r25.2 a0 8 23).bind fun x30 => (fgR r25.2 a0 8 23).bind fun x32 => (fgR r25.2 a0 8 22).bind fun x34 => (faI r25.2 x34 0 a1).bind fun x36 => (fcpy r25.2 x30 ((a1 * (8 : Int32)) + r21.1) x32 (((a1 * (8 : Int32)) + r21.1) + (1 : Int32)) (x36 - (((a1 * (8 : Int32)) + r21.1) - (a1 * (8 : Int32)))) 0).bind fun h38 => (fgR h38 a0 8 24).bind fun x40 => (fgR h38 a0 8 24).bind fun x42 => (fgR h38 a0 8 22).bind fun x44 => (faI h38 x44 0 a1).bind fun x46 => (fcpy h38 x40 ((a1 * (8 : Int32)) + r21.1) x42 (((a1 * (8 : Int32)) + r21.1) + (1 : Int32)) (x46 - (((a1 * (8 : Int32)) + r21.1) - (a1 * (8 : Int32)))) 0).bind fun h48 => (fgR h48 a0 8 22).bind fun x50 => (faI h48 x50 0 a1).bind fun x52 => (fsI h48 x50 0 a1 (x52 + (1 : Int32))).bind fun h54 => f_X8_key_L182 a0 a1 a2 a3 ((a1 * (8 : Int32)) + r21.1) h54 else f_X8_key_L182 a0 a1 a2 a3 ((a1 * (8 : Int32)) + r21.1) r25.2)
noncomputable def f_X8_key_L0 (a0 : Option Nat) (a1 : Int32) (a2 : Int32) (a3 : Int32) (h : fSt) : Option (Int32 × fSt) := (fput h a0 8 0 (.int (0 : Int32))).bind fun h56 => (fobj h56 a0 8).bind fun b60 => (f_X8_isTrack b60 a1 h56).bind fun r58 => (if r58.1 = 0 then (fobj r58.2 a0 8).bind fun b94 => (f_X8_no b94 (1 : Int32) r58.2).bind fun r92 => some (r92.1, r92.2) else (f_X8_isIn a2 (0 : Int32) (999 : Int32) r58.2).bind fun r63 => (if r63.1 = 0 then f_X8_key_L43 a0 r63.2 else (fgR r63.2 a0 8 19).bind fun x66 => (faI r63.2 x66 0 a1).bind fun x68 => (f_X8_isValue x68 a3 r63.2).bind fun r70 => (if r70.1 = 0 then f_X8_key_L43 a0 r70.2 else (fgR r70.2 a0 8 2).bind fun x73 => (fgR r70.2 a0 8 18).bind fun x75 => (faI r70.2 x75 0 a1).bind fun x77 => (faI r70.2 x73 2 x77).bind fun x79 => (if x79 = 0 then (fgR r70.2 a0 8 22).bind fun x82 => (faI r70.2 x82 0 a1).bind fun x84 => (if x84 = (8 : Int32) then (fobj r70.2 a0 8).bind fun b89 => (f_X8_hasKey b89 a1 a2 r70.2).bind fun r87 => (if r87.1 = 0 then f_X8_key_L83 a0 r87.2 else f_X8_key_L89 a0 a1 a2 a3 r87.2) else f_X8_key_L89 a0 a1 a2 a3 r70.2) else f_X8_key_L83 a0 r70.2))))
noncomputable def f_X8_key (o : Nat) (p0 : Int32) (p1 : Int32) (p2 : Int32) (h : fSt) : Option (Int32 × fSt) := f_X8_key_L0 (some o) p0 p1 p2 h
noncomputable def f_X8_level_L26 (s0 : Int32) (h : fSt) : Option (Int32 × fSt) := some (s0, h)
noncomputable def f_X8_level_L0 (a0 : Option Nat) (a1 : Int32) (h : fSt) : Option (Int32 × fSt) := (fput h a0 8 0 (.int (0 : Int32))).bind fun h1 => (fobj h1 a0 8).bind fun b5 => (f_X8_isNode b5 a1 h1).bind fun r3 => (if r3.1 = 0 then (fobj r3.2 a0 8).bind fun b10 => (f_X8_no b10 (1 : Int32) r3.2).bind fun r8 => f_X8_level_L26 r8.1 r8.2 else (fobj r3.2 a0 8).bind fun b14 => (f_X8_levelNow b14 a1 r3.2).bind fun r12 => f_X8_level_L26 r12.1 r12.2)
noncomputable def f_X8_level (o : Nat) (p0 : Int32) (h : fSt) : Option (Int32 × fSt) := f_X8_level_L0 (some o) p0 h
noncomputable def f_X8_look_L29 (a0 : Option Nat) (a1 : Int32) (a2 : Int32) (a3 : Int32) (a4 : Int32) (s3 : Int32) (s2 : Int32) (s1 : Option Nat) (s0 : Option Nat) (h : fSt) : Option (Int32 × fSt) := (fobj h s1 8).bind fun b3 => (f_X8_refusal b3 s2 s3 h).bind fun r1 => (fput r1.2 s0 8 0 (.int r1.1)).bind fun h5 => (fgI h5 a0 8 0).bind fun x7 => (if x7 = 0 then (fgR h5 a0 8 14).bind fun x10 => (faI h5 x10 0 ((a1 * (4 : Int32)) + (3 : Int32))).bind fun x12 => (fgR h5 a0 8 14).bind fun x14 => (fsI h5 x14 0 ((a1 * (4 : Int32)) + (3 : Int32)) a3).bind fun h16 => (fgR h16 a0 8 12).bind fun x18 => (fsI h16 x18 0 a1 a2).bind fun h20 => (fgR h20 a0 8 4).bind fun x22 => (fsI h20 x22 2 a1 (vp_nar .boolean a4)).bind fun h24 => some (x12, h24) else some ((0 : Int32), h5))
noncomputable def f_X8_look_L28 (a0 : Option Nat) (a1 : Int32) (a2 : Int32) (a3 : Int32) (a4 : Int32) (s2 : Int32) (s1 : Option Nat) (s0 : Option Nat) (h : fSt) : Option (Int32 × fSt) := f_X8_look_L29 a0 a1 a2 a3 a4 (0 : Int32) s2 s1 s0 h
noncomputable def f_X8_look_L0 (a0 : Option Nat) (a1 : Int32) (a2 : Int32) (a3 : Int32) (a4 : Int32) (h : fSt) : Option (Int32 × fSt) := (f_X8_isIn a2 (-9 : Int32) (9 : Int32) h).bind fun r26 => (if r26.1 = 0 then f_X8_look_L28 a0 a1 a2 a3 a4 a1 a0 a0 r26.2 else (f_X8_isIn a3 (0 : Int32) (100 : Int32) r26.2).bind fun r29 => (if r29.1 = 0 then f_X8_look_L28 a0 a1 a2 a3 a4 a1 a0 a0 r29.2 else f_X8_look_L29 a0 a1 a2 a3 a4 (1 : Int32) a1 a0 a0 r29.2))
noncomputable def f_X8_look (o : Nat) (p0 : Int32) (p1 : Int32) (p2 : Int32) (p3 : Int32) (h : fSt) : Option (Int32 × fSt) := f_X8_look_L0 (some o) p0 p1 p2 p3 h
noncomputable def f_X8_many_L64 (k26 : Option Nat → Int32 → Int32 → Int32 → Int32 → Int32 → fSt → Option (Int32 × fSt)) (a0 : Option Nat) (a1 : Int32) (a2 : Int32) (a3 : Int32) (a5 : Int32) (s1 : Int32) (s0 : Int32) (h : fSt) : Option (Int32 × fSt) := k26 a0 a1 a2 a3 (s0 + s1) (a5 + (1 : Int32)) h
noncomputable def f_X8_many_L63 (k26 : Option Nat → Int32 → Int32 → Int32 → Int32 → Int32 → fSt → Option (Int32 × fSt)) (a0 : Option Nat) (a1 : Int32) (a2 : Int32) (a3 : Int32) (a5 : Int32) (s0 : Int32) (h : fSt) : Option (Int32 × fSt) := f_X8_many_L64 k26 a0 a1 a2 a3 a5 (0 : Int32) s0 h
noncomputable def f_X8_many_L26 (n : Nat) : Option Nat → Int32 → Int32 → Int32 → Int32 → Int32 → fSt → Option (Int32 × fSt) := Nat.rec (motive := fun _ => Option Nat → Int32 → Int32 → Int32 → Int32 → Int32 → fSt → Option (Int32 × fSt)) (fun _ _ _ _ _ _ _ => none) (fun _ k26 (a0 : Option Nat) (a1 : Int32) (a2 : Int32) (a3 : Int32) (a4 : Int32) (a5 : Int32) (h : fSt) => (fgI h a0 8 1).bind fun x1 => (if x1 ≤ a5 then some (a4, h) else (fgR h a0 8 2).bind fun x4 => (faI h x4 2 a5).bind fun x6 => (if x6 = 0 then (fobj h a0 8).bind fun b11 => (f_X8_coversNow b11 a5 a1 a2 a3 h).bind fun r9 => (if r9.1 = 0 then f_X8_many_L63 k26 a0 a1 a2 a3 a5 a4 r9.2 else f_X8_many_L64 k26 a0 a1 a2 a3 a5 (1 : Int32) a4 r9.2) else f_X8_many_L63 k26 a0 a1 a2 a3 a5 a4 h))) n
noncomputable def f_X8_many_L0 (a0 : Option Nat) (a1 : Int32) (a2 : Int32) (a3 : Int32) (h : fSt) : Option (Int32 × fSt) := (fput h a0 8 0 (.int (0 : Int32))).bind fun h14 => (f_X8_isPoint a1 a2 a3 h14).bind fun r16 => (if r16.1 = 0 then (fobj r16.2 a0 8).bind fun b21 => (f_X8_no b21 (1 : Int32) r16.2).bind fun r19 => some (r19.1, r19.2) else f_X8_many_L26 4096 a0 a1 a2 a3 (0 : Int32) (1 : Int32) r16.2)
noncomputable def f_X8_many (o : Nat) (p0 : Int32) (p1 : Int32) (p2 : Int32) (h : fSt) : Option (Int32 × fSt) := f_X8_many_L0 (some o) p0 p1 p2 h
noncomputable def f_X8_move_L34 (a0 : Option Nat) (a1 : Int32) (a2 : Int32) (a3 : Int32) (s3 : Int32) (s2 : Int32) (s1 : Option Nat) (s0 : Option Nat) (h : fSt) : Option (Int32 × fSt) := (fobj h s1 8).bind fun b3 => (f_X8_refusal b3 s2 s3 h).bind fun r1 => (fput r1.2 s0 8 0 (.int r1.1)).bind fun h5 => (fgI h5 a0 8 0).bind fun x7 => (if x7 = 0 then (fgR h5 a0 8 14).bind fun x10 => (faI h5 x10 0 ((a1 * (4 : Int32)) + (0 : Int32))).bind fun x12 => (fgR h5 a0 8 14).bind fun x14 => (fsI h5 x14 0 ((a1 * (4 : Int32)) + (0 : Int32)) a2).bind fun h16 => (fgR h16 a0 8 14).bind fun x18 => (fsI h16 x18 0 ((a1 * (4 : Int32)) + (1 : Int32)) a3).bind fun h20 => some (x12, h20) else some ((0 : Int32), h5))
noncomputable def f_X8_move_L33 (a0 : Option Nat) (a1 : Int32) (a2 : Int32) (a3 : Int32) (s2 : Int32) (s1 : Option Nat) (s0 : Option Nat) (h : fSt) : Option (Int32 × fSt) := f_X8_move_L34 a0 a1 a2 a3 (0 : Int32) s2 s1 s0 h
noncomputable def f_X8_move_L0 (a0 : Option Nat) (a1 : Int32) (a2 : Int32) (a3 : Int32) (h : fSt) : Option (Int32 × fSt) := (f_X8_isIn a2 (-200 : Int32) (200 : Int32) h).bind fun r22 => (if r22.1 = 0 then f_X8_move_L33 a0 a1 a2 a3 a1 a0 a0 r22.2 else (f_X8_isIn a3 (-200 : Int32) (200 : Int32) r22.2).bind fun r25 => (if r25.1 = 0 then f_X8_move_L33 a0 a1 a2 a3 a1 a0 a0 r25.2 else f_X8_move_L34 a0 a1 a2 a3 (1 : Int32) a1 a0 a0 r25.2))
noncomputable def f_X8_move (o : Nat) (p0 : Int32) (p1 : Int32) (p2 : Int32) (h : fSt) : Option (Int32 × fSt) := f_X8_move_L0 (some o) p0 p1 p2 h
noncomputable def f_X8_nextKey_L0 (a0 : Option Nat) (h : fSt) : Option (Int32 × fSt) := (fobj h a0 8).bind fun b3 => (f_X8_nextKeyNow b3 h).bind fun r1 => (fobj r1.2 a0 8).bind fun b7 => (f_X8_ok b7 r1.1 r1.2).bind fun r5 => some (r5.1, r5.2)
noncomputable def f_X8_nextKey (o : Nat) (h : fSt) : Option (Int32 × fSt) := f_X8_nextKey_L0 (some o) h
noncomputable def f_X8_nextPick_L25 (a0 : Option Nat) (h : fSt) : Option (Int32 × fSt) := (fobj h a0 8).bind fun b3 => (f_X8_no b3 (1 : Int32) h).bind fun r1 => some (r1.1, r1.2)
noncomputable def f_X8_nextPick_L103 (k52 : Option Nat → Int32 → Int32 → Int32 → Int32 → Int32 → Int32 → Int32 → Int32 → fSt → Option (Int32 × fSt)) (a0 : Option Nat) (a1 : Int32) (a2 : Int32) (a3 : Int32) (a4 : Int32) (a5 : Int32) (a6 : Int32) (a7 : Int32) (a8 : Int32) (h : fSt) : Option (Int32 × fSt) := k52 a0 a1 a2 a3 a4 a5 a6 a7 (a8 + (1 : Int32)) h
noncomputable def f_X8_nextPick_L109 (a0 : Option Nat) (a5 : Int32) (a7 : Int32) (h : fSt) : Option (Int32 × fSt) := (fput h a0 8 25 (.int a5)).bind fun h5 => some (a7, h5)
noncomputable def f_X8_nextPick_L52 (n : Nat) : Option Nat → Int32 → Int32 → Int32 → Int32 → Int32 → Int32 → Int32 → Int32 → fSt → Option (Int32 × fSt) := Nat.rec (motive := fun _ => Option Nat → Int32 → Int32 → Int32 → Int32 → Int32 → Int32 → Int32 → Int32 → fSt → Option (Int32 × fSt)) (fun _ _ _ _ _ _ _ _ _ _ => none) (fun _ k52 (a0 : Option Nat) (a1 : Int32) (a2 : Int32) (a3 : Int32) (a4 : Int32) (a5 : Int32) (a6 : Int32) (a7 : Int32) (a8 : Int32) (h : fSt) => (if a4 < a8 then f_X8_nextPick_L109 a0 a5 a7 h else (if (9999 : Int32) < (a5 + a8) then f_X8_nextPick_L109 a0 a5 a7 h else (if a7 = (-1 : Int32) then (fput h a0 8 25 (.int (a5 + a8))).bind fun h10 => (fobj h10 a0 8).bind fun b14 => (f_X8_pickNow b14 a1 a2 a3 h10).bind fun r12 => (if r12.1 = a6 then f_X8_nextPick_L103 k52 a0 a1 a2 a3 a4 a5 a6 a7 a8 r12.2 else (fgI r12.2 a0 8 25).bind fun x17 => f_X8_nextPick_L103 k52 a0 a1 a2 a3 a4 a5 a6 x17 a8 r12.2) else f_X8_nextPick_L109 a0 a5 a7 h)))) n
noncomputable def f_X8_nextPick_L0 (a0 : Option Nat) (a1 : Int32) (a2 : Int32) (a3 : Int32) (a4 : Int32) (h : fSt) : Option (Int32 × fSt) := (fput h a0 8 0 (.int (0 : Int32))).bind fun h19 => (f_X8_isPoint a1 a2 a3 h19).bind fun r21 => (if r21.1 = 0 then f_X8_nextPick_L25 a0 r21.2 else (f_X8_isIn a4 (1 : Int32) (100 : Int32) r21.2).bind fun r24 => (if r24.1 = 0 then f_X8_nextPick_L25 a0 r24.2 else (fgI r24.2 a0 8 25).bind fun x27 => (fobj r24.2 a0 8).bind fun b31 => (f_X8_pickNow b31 a1 a2 a3 r24.2).bind fun r29 => f_X8_nextPick_L52 4096 a0 a1 a2 a3 a4 x27 r29.1 (-1 : Int32) (1 : Int32) r29.2))
noncomputable def f_X8_nextPick (o : Nat) (p0 : Int32) (p1 : Int32) (p2 : Int32) (p3 : Int32) (h : fSt) : Option (Int32 × fSt) := f_X8_nextPick_L0 (some o) p0 p1 p2 p3 h
noncomputable def f_X8_nodes_L0 (a0 : Option Nat) (h : fSt) : Option (Int32 × fSt) := (fobj h a0 8).bind fun b3 => (f_X8_nodesNow b3 h).bind fun r1 => (fobj r1.2 a0 8).bind fun b7 => (f_X8_ok b7 r1.1 r1.2).bind fun r5 => some (r5.1, r5.2)
noncomputable def f_X8_nodes (o : Nat) (h : fSt) : Option (Int32 × fSt) := f_X8_nodes_L0 (some o) h
set_option maxHeartbeats 4000000 in
set_option maxRecDepth 100000 in
theorem w_X8_fromWhole_L37 {p : Program} {l : Launch} {e : Env} {s : State} {m : MethodId} {args : Array Value} {below : List Frame} {meth : Method} {c : Code} {D : va_G} {cA : Nat → ClassId} {h0 : fSt} {r : (Int32 × fSt)} (M : fM p s m args meth c D cA h0 { frames := 34, cells := fCB h0 - fZ h0, slots := fLB h0 - fL h0, locals := 919 } cX8_fromWhole 5 (some (.int)) RX8) (hfl : l.stackTraces = false) (s0 : Int32) (h : fSt) (hf : f_X8_fromWhole_L37 s0 h = some r) : ∀ (H : Heap) (locs : List Loc) (cells slots : Nat) (ls : Array Slot), fCur D cA s h0 h H locs → lv_has ls 5 [] → W p l e { frames := 34, cells := fCB h0 - fZ h0, slots := fLB h0 - fL h0, locals := 919 } s m args below meth c H locs cells slots (MQ below (fQ D cA h0 r.2 (some (.int r.1))) args s (fCB h0 - fZ h0) (fLB h0 - fL h0) (fA h0)) (F0 m 37 ls [.int s0]) := by
  obtain ⟨hx, hb, hml, hr, hlocks, hts, hown, K, hR⟩ := id M
  intro H locs cells slots ls hC hl
  obtain rfl := Option.some.inj hf
  exact fr_iret hx hb hr hlocks hC dX8_fromWhole_37
set_option maxHeartbeats 4000000 in
set_option maxRecDepth 100000 in
theorem w_X8_fromWhole_L0 {p : Program} {l : Launch} {e : Env} {s : State} {m : MethodId} {args : Array Value} {below : List Frame} {meth : Method} {c : Code} {D : va_G} {cA : Nat → ClassId} {h0 : fSt} {r : (Int32 × fSt)} (M : fM p s m args meth c D cA h0 { frames := 34, cells := fCB h0 - fZ h0, slots := fLB h0 - fL h0, locals := 919 } cX8_fromWhole 5 (some (.int)) RX8) (hfl : l.stackTraces = false) (a0 : Option Nat) (a1 : Int32) (a2 : Int32) (a3 : Int32) (a4 : Int32) (h : fSt) (hf : f_X8_fromWhole_L0 a0 a1 a2 a3 a4 h = some r) : ∀ (H : Heap) (locs : List Loc) (cells slots : Nat) (ls : Array Slot), fCur D cA s h0 h H locs → lv_has ls 5 [(0, va_rf a0), (1, .int a1), (2, .int a2), (3, .int a3), (4, .int a4)] → W p l e { frames := 34, cells := fCB h0 - fZ h0, slots := fLB h0 - fL h0, locals := 919 } s m args below meth c H locs cells slots (MQ below (fQ D cA h0 r.2 (some (.int r.1))) args s (fCB h0 - fZ h0) (fLB h0 - fL h0) (fA h0)) (F0 m 0 ls []) := by
  obtain ⟨hx, hb, hml, hr, hlocks, hts, hown, K, hR⟩ := id M
  intro H locs cells slots ls hC hl
  refine fr_aload_n hx hb dX8_fromWhole_0 rfl (lv_at hl 0 rfl) ?_
  refine fr_aload_n hx hb dX8_fromWhole_1 rfl (lv_at hl 0 rfl) ?_
  refine fr_aload_n hx hb dX8_fromWhole_2 rfl (lv_at hl 0 rfl) ?_
  refine lv_iload_n hx hb dX8_fromWhole_3 rfl (lv_at hl 1 rfl) ?_
  obtain ⟨b3, q4, hf⟩ := obind hf
  obtain ⟨r1, g2, hf⟩ := obind hf
  refine fr_callV hx hb hml hts hown K hC hR ct_8 (c_X8_isNode hfl D cA g2) 1 q4 kw1063 kw1060 kw1062 kw20 kw62 (by decide +kernel) ⟨by exact Nat.le_of_ble_eq_true rfl, by exact Nat.le_of_ble_eq_true rfl⟩ rfl hl.1 (cat8 _ (by exact Nat.le_of_ble_eq_true rfl)) dX8_fromWhole_4 rfl (fun H locs _ _ hC => ?_)
  refine lv_iload_n hx hb dX8_fromWhole_7 rfl (lv_at hl 2 rfl) ?_
  refine lv_iload_n hx hb dX8_fromWhole_8 rfl (lv_at hl 3 rfl) ?_
  refine lv_iload hx hb dX8_fromWhole_9 (lv_at hl 4 rfl) ?_
  obtain ⟨b7, q8, hf⟩ := obind hf
  obtain ⟨r5, g6, hf⟩ := obind hf
  refine fr_callV hx hb hml hts hown K hC hR ct_8 (c_X8_asked hfl D cA g6) 4 q8 kw1227 kw1224 kw1226 kw37 kw62 (by decide +kernel) ⟨by exact Nat.le_of_ble_eq_true rfl, by exact Nat.le_of_ble_eq_true rfl⟩ rfl hl.1 (cat8 _ (by exact Nat.le_of_ble_eq_true rfl)) dX8_fromWhole_11 rfl (fun H locs _ _ hC => ?_)
  obtain ⟨h9, g10, hf⟩ := obind hf
  refine fr_put hx hb hts hown K hC ct_8 g10 (by decide) kw971 rfl rfl rfl rfl dX8_fromWhole_14 (fun H locs hC => ?_)
  refine fr_aload_n hx hb dX8_fromWhole_17 rfl (lv_at hl 0 rfl) ?_
  obtain ⟨x11, g12, hf⟩ := obind hf
  refine fr_get hx hb hts hown K hC ct_8 (fgI_get g12) (by decide) kw971 rfl dX8_fromWhole_18 ?_
  refine lv_if_ne (tgt := 36) hx hb dX8_fromWhole_21 (by decide) (fun c13 => ?_) (fun c13 => ?_)
  · replace hf := oneg c13 hf
    refine lv_iconst (v := (0 : Int32)) hx hb dX8_fromWhole_36 (by decide) ?_
    exact w_X8_fromWhole_L37 M hfl _ _ hf _ _ _ _ _ hC (lv_sub hl [] rfl)
  · replace hf := opos c13 hf
    refine fr_aload_n hx hb dX8_fromWhole_24 rfl (lv_at hl 0 rfl) ?_
    refine lv_iload_n hx hb dX8_fromWhole_25 rfl (lv_at hl 1 rfl) ?_
    refine lv_iload_n hx hb dX8_fromWhole_26 rfl (lv_at hl 2 rfl) ?_
    refine lv_iload_n hx hb dX8_fromWhole_27 rfl (lv_at hl 3 rfl) ?_
    refine lv_iload hx hb dX8_fromWhole_28 (lv_at hl 4 rfl) ?_
    obtain ⟨b16, q17, hf⟩ := obind hf
    obtain ⟨r14, g15, hf⟩ := obind hf
    refine fr_callV hx hb hml hts hown K hC hR ct_8 (c_X8_fromWholeNow hfl D cA g15) 4 q17 kw1257 kw1254 kw1256 kw41 kw62 (by decide +kernel) ⟨by exact Nat.le_of_ble_eq_true rfl, by exact Nat.le_of_ble_eq_true rfl⟩ rfl hl.1 (cat8 _ (by exact Nat.le_of_ble_eq_true rfl)) dX8_fromWhole_30 rfl (fun H locs _ _ hC => ?_)
    refine lv_goto (tgt := 37) hx hb dX8_fromWhole_33 (by decide) ?_
    exact w_X8_fromWhole_L37 M hfl _ _ hf _ _ _ _ _ hC (lv_sub hl [] rfl)
set_option maxRecDepth 100000 in
theorem c_X8_fromWhole {l : Launch} (hfl : l.stackTraces = false) (D : va_G) (cA : Nat → ClassId) {o : Nat} {p0 : Int32} {p1 : Int32} {p2 : Int32} {p3 : Int32} {h : fSt} {r : (Int32 × fSt)} (hf : f_X8_fromWhole o p0 p1 p2 p3 h = some r) : fMet l yX8_fromWhole (wsC yX8_fromWhole cX8_fromWhole 5 (some (.int))) (34) (919) D cA [.ref o, .int p0, .int p1, .int p2, .int p3] h r.2 (some (.int r.1)) := by
  exact fMet.of (own := RX8) (by decide +kernel) rfl (lva1 rfl (lva1 rfl (lva1 rfl (lva1 rfl (lva1 rfl lva0))))) (lgl1 rfl (lgl1 rfl (lgl1 rfl (lgl1 rfl (lgl1 rfl lgl0))))) (Nat.le_of_ble_eq_true rfl) (fun p e s m args below meth c ls hnm _ M hC hl => by
    have hl : lv_has ls 5 [(0, va_rf (some o)), (1, .int p0), (2, .int p1), (3, .int p2), (4, .int p3)] := hl
    exact w_X8_fromWhole_L0 M hfl _ _ _ _ _ _ hf _ _ _ _ _ hC (lv_sub hl [0, 1, 2, 3, 4] rfl))
set_option maxHeartbeats 4000000 in
set_option maxRecDepth 100000 in
theorem w_X8_hang_L21 {p : Program} {l : Launch} {e : Env} {s : State} {m : MethodId} {args : Array Value} {below : List Frame} {meth : Method} {c : Code} {D : va_G} {cA : Nat → ClassId} {h0 : fSt} {r : (Int32 × fSt)} (M : fM p s m args meth c D cA h0 { frames := 2, cells := fCB h0 - fZ h0, slots := fLB h0 - fL h0, locals := 43 } cX8_hang 5 (some (.int)) RX8) (hfl : l.stackTraces = false) (a0 : Option Nat) (h : fSt) (hf : f_X8_hang_L21 a0 h = some r) : ∀ (H : Heap) (locs : List Loc) (cells slots : Nat) (ls : Array Slot), fCur D cA s h0 h H locs → lv_has ls 5 [(0, va_rf a0)] → W p l e { frames := 2, cells := fCB h0 - fZ h0, slots := fLB h0 - fL h0, locals := 43 } s m args below meth c H locs cells slots (MQ below (fQ D cA h0 r.2 (some (.int r.1))) args s (fCB h0 - fZ h0) (fLB h0 - fL h0) (fA h0)) (F0 m 21 ls []) := by
  obtain ⟨hx, hb, hml, hr, hlocks, hts, hown, K, hR⟩ := id M
  intro H locs cells slots ls hC hl
  refine fr_aload_n hx hb dX8_hang_21 rfl (lv_at hl 0 rfl) ?_
  refine lv_iconst (v := (1 : Int32)) hx hb dX8_hang_22 (by decide) ?_
  obtain ⟨b3, q4, hf⟩ := obind hf
  obtain ⟨r1, g2, hf⟩ := obind hf
  refine fr_callV hx hb hml hts hown K hC hR ct_8 (c_X8_no hfl D cA g2) 1 q4 kw1070 kw1067 kw1069 kw21 kw62 (by decide +kernel) ⟨by exact Nat.le_of_ble_eq_true rfl, by exact Nat.le_of_ble_eq_true rfl⟩ rfl hl.1 (cat8 _ (by exact Nat.le_of_ble_eq_true rfl)) dX8_hang_23 rfl (fun H locs _ _ hC => ?_)
  obtain rfl := Option.some.inj hf
  exact fr_iret hx hb hr hlocks hC dX8_hang_26
set_option maxHeartbeats 4000000 in
set_option maxRecDepth 100000 in
theorem w_X8_hang_L40 {p : Program} {l : Launch} {e : Env} {s : State} {m : MethodId} {args : Array Value} {below : List Frame} {meth : Method} {c : Code} {D : va_G} {cA : Nat → ClassId} {h0 : fSt} {r : (Int32 × fSt)} (M : fM p s m args meth c D cA h0 { frames := 2, cells := fCB h0 - fZ h0, slots := fLB h0 - fL h0, locals := 43 } cX8_hang 5 (some (.int)) RX8) (hfl : l.stackTraces = false) (a0 : Option Nat) (h : fSt) (hf : f_X8_hang_L40 a0 h = some r) : ∀ (H : Heap) (locs : List Loc) (cells slots : Nat) (ls : Array Slot), fCur D cA s h0 h H locs → lv_has ls 5 [(0, va_rf a0)] → W p l e { frames := 2, cells := fCB h0 - fZ h0, slots := fLB h0 - fL h0, locals := 43 } s m args below meth c H locs cells slots (MQ below (fQ D cA h0 r.2 (some (.int r.1))) args s (fCB h0 - fZ h0) (fLB h0 - fL h0) (fA h0)) (F0 m 40 ls []) := by
  obtain ⟨hx, hb, hml, hr, hlocks, hts, hown, K, hR⟩ := id M
  intro H locs cells slots ls hC hl
  refine fr_aload_n hx hb dX8_hang_40 rfl (lv_at hl 0 rfl) ?_
  refine lv_iconst (v := (2 : Int32)) hx hb dX8_hang_41 (by decide) ?_
  obtain ⟨b7, q8, hf⟩ := obind hf
  obtain ⟨r5, g6, hf⟩ := obind hf
  refine fr_callV hx hb hml hts hown K hC hR ct_8 (c_X8_no hfl D cA g6) 1 q8 kw1070 kw1067 kw1069 kw21 kw62 (by decide +kernel) ⟨by exact Nat.le_of_ble_eq_true rfl, by exact Nat.le_of_ble_eq_true rfl⟩ rfl hl.1 (cat8 _ (by exact Nat.le_of_ble_eq_true rfl)) dX8_hang_42 rfl (fun H locs _ _ hC => ?_)
  obtain rfl := Option.some.inj hf
  exact fr_iret hx hb hr hlocks hC dX8_hang_45
set_option maxHeartbeats 4000000 in
set_option maxRecDepth 100000 in
theorem w_X8_hang_L97 {p : Program} {l : Launch} {e : Env} {s : State} {m : MethodId} {args : Array Value} {below : List Frame} {meth : Method} {c : Code} {D : va_G} {cA : Nat → ClassId} {h0 : fSt} {r : (Int32 × fSt)} (M : fM p s m args meth c D cA h0 { frames := 2, cells := fCB h0 - fZ h0, slots := fLB h0 - fL h0, locals := 43 } cX8_hang 5 (some (.int)) RX8) (hfl : l.stackTraces = false) {k51 : Option Nat → Int32 → Int32 → Int32 → Int32 → fSt → Option (Int32 × fSt)} (hk51 : ∀ (a0 : Option Nat) (a1 : Int32) (a2 : Int32) (a3 : Int32) (a4 : Int32) (h : fSt), k51 a0 a1 a2 a3 a4 h = some r → ∀ (H : Heap) (locs : List Loc) (cells slots : Nat) (ls : Array Slot), fCur D cA s h0 h H locs → lv_has ls 5 [(0, va_rf a0), (1, .int a1), (2, .int a2), (3, .int a3), (4, .int a4)] → W p l e { frames := 2, cells := fCB h0 - fZ h0, slots := fLB h0 - fL h0, locals := 43 } s m args below meth c H locs cells slots (MQ below (fQ D cA h0 r.2 (some (.int r.1))) args s (fCB h0 - fZ h0) (fLB h0 - fL h0) (fA h0)) (F0 m 51 ls [])) (a0 : Option Nat) (a1 : Int32) (a2 : Int32) (a3 : Int32) (a4 : Int32) (h : fSt) (hf : f_X8_hang_L97 k51 a0 a1 a2 a3 a4 h = some r) : ∀ (H : Heap) (locs : List Loc) (cells slots : Nat) (ls : Array Slot), fCur D cA s h0 h H locs → lv_has ls 5 [(0, va_rf a0), (1, .int a1), (2, .int a2), (3, .int a3), (4, .int a4)] → W p l e { frames := 2, cells := fCB h0 - fZ h0, slots := fLB h0 - fL h0, locals := 43 } s m args below meth c H locs cells slots (MQ below (fQ D cA h0 r.2 (some (.int r.1))) args s (fCB h0 - fZ h0) (fLB h0 - fL h0) (fA h0)) (F0 m 97 ls []) := by
  obtain ⟨hx, hb, hml, hr, hlocks, hts, hown, K, hR⟩ := id M
  intro H locs cells slots ls hC hl
  refine lv_iinc (v := (a4 + (1 : Int32))) (lv' := [(4, .int (a4 + (1 : Int32))), (0, va_rf a0), (1, .int a1), (2, .int a2), (3, .int a3)]) hx hb dX8_hang_97 hl (k := 4) rfl rfl (by decide) (congrArg (List.cons _) (flk rfl (flk rfl (flk rfl (flk rfl (fld rfl fln)))))) (fun ls hl => ?_)
  refine lv_goto (tgt := 51) hx hb dX8_hang_100 (by decide) ?_
  exact hk51 _ _ _ _ _ _ hf _ _ _ _ _ hC (lv_sub hl [1, 2, 3, 4, 0] rfl)
set_option maxHeartbeats 4000000 in
set_option maxRecDepth 100000 in
theorem w_X8_hang_L51 {p : Program} {l : Launch} {e : Env} {s : State} {m : MethodId} {args : Array Value} {below : List Frame} {meth : Method} {c : Code} {D : va_G} {cA : Nat → ClassId} {h0 : fSt} {r : (Int32 × fSt)} (M : fM p s m args meth c D cA h0 { frames := 2, cells := fCB h0 - fZ h0, slots := fLB h0 - fL h0, locals := 43 } cX8_hang 5 (some (.int)) RX8) (hfl : l.stackTraces = false) : ∀ (n : Nat) (a0 : Option Nat) (a1 : Int32) (a2 : Int32) (a3 : Int32) (a4 : Int32) (h : fSt), f_X8_hang_L51 n a0 a1 a2 a3 a4 h = some r → ∀ (H : Heap) (locs : List Loc) (cells slots : Nat) (ls : Array Slot), fCur D cA s h0 h H locs → lv_has ls 5 [(0, va_rf a0), (1, .int a1), (2, .int a2), (3, .int a3), (4, .int a4)] → W p l e { frames := 2, cells := fCB h0 - fZ h0, slots := fLB h0 - fL h0, locals := 43 } s m args below meth c H locs cells slots (MQ below (fQ D cA h0 r.2 (some (.int r.1))) args s (fCB h0 - fZ h0) (fLB h0 - fL h0) (fA h0)) (F0 m 51 ls []) := by
  obtain ⟨hx, hb, hml, hr, hlocks, hts, hown, K, hR⟩ := id M
  intro n
  induction n with
  | zero =>
    intro a0 a1 a2 a3 a4 h hf
    exact nomatch (show (none : Option (Int32 × fSt)) = some r from hf)
  | succ n hk51 =>
    intro a0 a1 a2 a3 a4 h hf H locs cells slots ls hC hl
    refine lv_iload hx hb dX8_hang_51 (lv_at hl 4 rfl) ?_
    refine fr_aload_n hx hb dX8_hang_53 rfl (lv_at hl 0 rfl) ?_
    obtain ⟨x9, g10, hf⟩ := obind hf
    refine fr_get hx hb hts hown K hC ct_8 (fgI_get g10) (by decide) kw972 rfl dX8_hang_54 ?_
    refine lv_icmp_ge (tgt := 103) hx hb dX8_hang_57 (by decide) (fun c11 => ?_) (fun c11 => ?_)
    · replace hf := opos c11 hf
      refine fr_aload_n hx hb dX8_hang_103 rfl (lv_at hl 0 rfl) ?_
      refine lv_iload_n hx hb dX8_hang_104 rfl (lv_at hl 2 rfl) ?_
      obtain ⟨b14, q15, hf⟩ := obind hf
      obtain ⟨r12, g13, hf⟩ := obind hf
      refine fr_callV hx hb hml hts hown K hC hR ct_8 (c_X8_levelNow hfl D cA g13) 1 q15 kw1074 kw1071 kw1073 kw22 kw62 (by decide +kernel) ⟨by exact Nat.le_of_ble_eq_true rfl, by exact Nat.le_of_ble_eq_true rfl⟩ rfl hl.1 (cat8 _ (by exact Nat.le_of_ble_eq_true rfl)) dX8_hang_105 rfl (fun H locs _ _ hC => ?_)
      refine lv_iconst (v := (1 : Int32)) hx hb dX8_hang_108 (by decide) ?_
      refine lv_iadd hx hb dX8_hang_109 ?_
      refine lv_iload_n hx hb dX8_hang_110 rfl (lv_at hl 3 rfl) ?_
      refine lv_iadd hx hb dX8_hang_111 ?_
      refine lv_iconst (v := (4 : Int32)) hx hb dX8_hang_112 (by decide) ?_
      refine lv_icmp_le (tgt := 122) hx hb dX8_hang_113 (by decide) (fun c16 => ?_) (fun c16 => ?_)
      · replace hf := opos c16 hf
        refine fr_aload_n hx hb dX8_hang_122 rfl (lv_at hl 0 rfl) ?_
        obtain ⟨x17, g18, hf⟩ := obind hf
        refine fr_get hx hb hts hown K hC ct_8 (fgR_get g18) (by decide) kw977 rfl dX8_hang_123 ?_
        refine lv_iload_n hx hb dX8_hang_126 rfl (lv_at hl 1 rfl) ?_
        refine lv_iload_n hx hb dX8_hang_127 rfl (lv_at hl 2 rfl) ?_
        obtain ⟨h19, g20, hf⟩ := obind hf
        refine fr_iast hx hb K hC (t := 0) rfl g20 dX8_hang_128 (fun H locs hC => ?_)
        refine fr_aload_n hx hb dX8_hang_129 rfl (lv_at hl 0 rfl) ?_
        obtain ⟨x21, g22, hf⟩ := obind hf
        refine fr_get hx hb hts hown K hC ct_8 (fgR_get g22) (by decide) kw984 rfl dX8_hang_130 ?_
        refine lv_iload_n hx hb dX8_hang_133 rfl (lv_at hl 1 rfl) ?_
        refine fr_aload_n hx hb dX8_hang_134 rfl (lv_at hl 0 rfl) ?_
        refine lv_dup hx hb dX8_hang_135 (va_rf_cat _) ?_
        obtain ⟨x23, g24, hf⟩ := obind hf
        refine fr_get hx hb hts hown K hC ct_8 (fgI_get g24) (by decide) kw987 rfl dX8_hang_136 ?_
        refine lv_dup_x1 hx hb dX8_hang_139 rfl (va_rf_cat _) ?_
        refine lv_iconst (v := (1 : Int32)) hx hb dX8_hang_140 (by decide) ?_
        refine lv_iadd hx hb dX8_hang_141 ?_
        obtain ⟨h25, g26, hf⟩ := obind hf
        refine fr_put hx hb hts hown K hC ct_8 g26 (by decide) kw987 rfl rfl rfl rfl dX8_hang_142 (fun H locs hC => ?_)
        obtain ⟨h27, g28, hf⟩ := obind hf
        refine fr_iast hx hb K hC (t := 0) rfl g28 dX8_hang_145 (fun H locs hC => ?_)
        refine fr_aload_n hx hb dX8_hang_146 rfl (lv_at hl 0 rfl) ?_
        refine lv_iload_n hx hb dX8_hang_147 rfl (lv_at hl 2 rfl) ?_
        obtain ⟨b31, q32, hf⟩ := obind hf
        obtain ⟨r29, g30, hf⟩ := obind hf
        refine fr_callV hx hb hml hts hown K hC hR ct_8 (c_X8_hanging hfl D cA g30) 1 q32 kw1091 kw1088 kw1090 kw24 kw62 (by decide +kernel) ⟨by exact Nat.le_of_ble_eq_true rfl, by exact Nat.le_of_ble_eq_true rfl⟩ rfl hl.1 (cat8 _ (by exact Nat.le_of_ble_eq_true rfl)) dX8_hang_148 rfl (fun H locs _ _ hC => ?_)
        obtain rfl := Option.some.inj hf
        exact fr_iret hx hb hr hlocks hC dX8_hang_151
      · replace hf := oneg c16 hf
        refine fr_aload_n hx hb dX8_hang_116 rfl (lv_at hl 0 rfl) ?_
        refine lv_iconst (v := (2 : Int32)) hx hb dX8_hang_117 (by decide) ?_
        obtain ⟨b35, q36, hf⟩ := obind hf
        obtain ⟨r33, g34, hf⟩ := obind hf
        refine fr_callV hx hb hml hts hown K hC hR ct_8 (c_X8_no hfl D cA g34) 1 q36 kw1070 kw1067 kw1069 kw21 kw62 (by decide +kernel) ⟨by exact Nat.le_of_ble_eq_true rfl, by exact Nat.le_of_ble_eq_true rfl⟩ rfl hl.1 (cat8 _ (by exact Nat.le_of_ble_eq_true rfl)) dX8_hang_118 rfl (fun H locs _ _ hC => ?_)
        obtain rfl := Option.some.inj hf
        exact fr_iret hx hb hr hlocks hC dX8_hang_121
    · replace hf := oneg c11 hf
      refine fr_aload_n hx hb dX8_hang_60 rfl (lv_at hl 0 rfl) ?_
      obtain ⟨x37, g38, hf⟩ := obind hf
      refine fr_get hx hb hts hown K hC ct_8 (fgR_get g38) (by decide) kw973 rfl dX8_hang_61 ?_
      refine lv_iload hx hb dX8_hang_64 (lv_at hl 4 rfl) ?_
      obtain ⟨x39, g40, hf⟩ := obind hf
      refine fr_zald hx hb K hC (t := 2) rfl g40 dX8_hang_66 ?_
      refine lv_if_ne (tgt := 97) hx hb dX8_hang_67 (by decide) (fun c41 => ?_) (fun c41 => ?_)
      · replace hf := oneg c41 hf
        exact w_X8_hang_L97 M hfl hk51 _ _ _ _ _ _ hf _ _ _ _ _ hC (lv_sub hl [0, 1, 2, 3, 4] rfl)
      · replace hf := opos c41 hf
        refine fr_aload_n hx hb dX8_hang_70 rfl (lv_at hl 0 rfl) ?_
        refine lv_iload hx hb dX8_hang_71 (lv_at hl 4 rfl) ?_
        refine lv_iload_n hx hb dX8_hang_73 rfl (lv_at hl 1 rfl) ?_
        obtain ⟨b44, q45, hf⟩ := obind hf
        obtain ⟨r42, g43, hf⟩ := obind hf
        refine fr_callV hx hb hml hts hown K hC hR ct_8 (c_X8_isWithin hfl D cA g43) 2 q45 kw1082 kw1079 kw1081 kw23 kw62 (by decide +kernel) ⟨by exact Nat.le_of_ble_eq_true rfl, by exact Nat.le_of_ble_eq_true rfl⟩ rfl hl.1 (cat8 _ (by exact Nat.le_of_ble_eq_true rfl)) dX8_hang_74 rfl (fun H locs _ _ hC => ?_)
        refine lv_if_eq (tgt := 97) hx hb dX8_hang_77 (by decide) (fun c46 => ?_) (fun c46 => ?_)
        · replace hf := opos c46 hf
          exact w_X8_hang_L97 M hfl hk51 _ _ _ _ _ _ hf _ _ _ _ _ hC (lv_sub hl [0, 1, 2, 3, 4] rfl)
        · replace hf := oneg c46 hf
          refine lv_iload_n hx hb dX8_hang_80 rfl (lv_at hl 3 rfl) ?_
          refine fr_aload_n hx hb dX8_hang_81 rfl (lv_at hl 0 rfl) ?_
          refine lv_iload hx hb dX8_hang_82 (lv_at hl 4 rfl) ?_
          obtain ⟨b49, q50, hf⟩ := obind hf
          obtain ⟨r47, g48, hf⟩ := obind hf
          refine fr_callV hx hb hml hts hown K hC hR ct_8 (c_X8_levelNow hfl D cA g48) 1 q50 kw1074 kw1071 kw1073 kw22 kw62 (by decide +kernel) ⟨by exact Nat.le_of_ble_eq_true rfl, by exact Nat.le_of_ble_eq_true rfl⟩ rfl hl.1 (cat8 _ (by exact Nat.le_of_ble_eq_true rfl)) dX8_hang_84 rfl (fun H locs _ _ hC => ?_)
          refine fr_aload_n hx hb dX8_hang_87 rfl (lv_at hl 0 rfl) ?_
          refine lv_iload_n hx hb dX8_hang_88 rfl (lv_at hl 1 rfl) ?_
          obtain ⟨b53, q54, hf⟩ := obind hf
          obtain ⟨r51, g52, hf⟩ := obind hf
          refine fr_callV hx hb hml hts hown K hC hR ct_8 (c_X8_levelNow hfl D cA g52) 1 q54 kw1074 kw1071 kw1073 kw22 kw62 (by decide +kernel) ⟨by exact Nat.le_of_ble_eq_true rfl, by exact Nat.le_of_ble_eq_true rfl⟩ rfl hl.1 (cat8 _ (by exact Nat.le_of_ble_eq_true rfl)) dX8_hang_89 rfl (fun H locs _ _ hC => ?_)
          refine lv_isub hx hb dX8_hang_92 ?_
          refine fr_mmax hx hb hml hts hown hC hR kw1087 kw671 kw69 kw672 hl.1 (by exact Nat.le_of_ble_eq_true rfl) (catL _ _ (by exact Nat.le_of_ble_eq_true rfl) (by exact Nat.le_of_ble_eq_true rfl)) dX8_hang_93 (fun _ _ => ?_)
          refine lv_istore_n (lv' := [(3, .int (if a3 < (r47.1 - r51.1) then (r47.1 - r51.1) else a3)), (0, va_rf a0), (1, .int a1), (2, .int a2), (4, .int a4)]) hx hb dX8_hang_96 rfl hl (by decide) (congrArg (List.cons _) (flk rfl (flk rfl (flk rfl (fld rfl (flk rfl fln)))))) (fun ls hl => ?_)
          exact w_X8_hang_L97 M hfl hk51 _ _ _ _ _ _ hf _ _ _ _ _ hC (lv_sub hl [1, 2, 3, 0, 4] rfl)
set_option maxHeartbeats 4000000 in
set_option maxRecDepth 100000 in
theorem w_X8_hang_L0 {p : Program} {l : Launch} {e : Env} {s : State} {m : MethodId} {args : Array Value} {below : List Frame} {meth : Method} {c : Code} {D : va_G} {cA : Nat → ClassId} {h0 : fSt} {r : (Int32 × fSt)} (M : fM p s m args meth c D cA h0 { frames := 2, cells := fCB h0 - fZ h0, slots := fLB h0 - fL h0, locals := 43 } cX8_hang 5 (some (.int)) RX8) (hfl : l.stackTraces = false) (a0 : Option Nat) (a1 : Int32) (a2 : Int32) (h : fSt) (hf : f_X8_hang_L0 a0 a1 a2 h = some r) : ∀ (H : Heap) (locs : List Loc) (cells slots : Nat) (ls : Array Slot), fCur D cA s h0 h H locs → lv_has ls 5 [(0, va_rf a0), (1, .int a1), (2, .int a2)] → W p l e { frames := 2, cells := fCB h0 - fZ h0, slots := fLB h0 - fL h0, locals := 43 } s m args below meth c H locs cells slots (MQ below (fQ D cA h0 r.2 (some (.int r.1))) args s (fCB h0 - fZ h0) (fLB h0 - fL h0) (fA h0)) (F0 m 0 ls []) := by
  obtain ⟨hx, hb, hml, hr, hlocks, hts, hown, K, hR⟩ := id M
  intro H locs cells slots ls hC hl
  refine fr_aload_n hx hb dX8_hang_0 rfl (lv_at hl 0 rfl) ?_
  refine lv_iconst (v := (0 : Int32)) hx hb dX8_hang_1 (by decide) ?_
  obtain ⟨h55, g56, hf⟩ := obind hf
  refine fr_put hx hb hts hown K hC ct_8 g56 (by decide) kw971 rfl rfl rfl rfl dX8_hang_2 (fun H locs hC => ?_)
  refine fr_aload_n hx hb dX8_hang_5 rfl (lv_at hl 0 rfl) ?_
  refine lv_iload_n hx hb dX8_hang_6 rfl (lv_at hl 1 rfl) ?_
  obtain ⟨b59, q60, hf⟩ := obind hf
  obtain ⟨r57, g58, hf⟩ := obind hf
  refine fr_callV hx hb hml hts hown K hC hR ct_8 (c_X8_isNode hfl D cA g58) 1 q60 kw1063 kw1060 kw1062 kw20 kw62 (by decide +kernel) ⟨by exact Nat.le_of_ble_eq_true rfl, by exact Nat.le_of_ble_eq_true rfl⟩ rfl hl.1 (cat8 _ (by exact Nat.le_of_ble_eq_true rfl)) dX8_hang_7 rfl (fun H locs _ _ hC => ?_)
  refine lv_if_eq (tgt := 21) hx hb dX8_hang_10 (by decide) (fun c61 => ?_) (fun c61 => ?_)
  · replace hf := opos c61 hf
    exact w_X8_hang_L21 M hfl _ _ hf _ _ _ _ _ hC (lv_sub hl [0] rfl)
  · replace hf := oneg c61 hf
    refine fr_aload_n hx hb dX8_hang_13 rfl (lv_at hl 0 rfl) ?_
    refine lv_iload_n hx hb dX8_hang_14 rfl (lv_at hl 2 rfl) ?_
    obtain ⟨b64, q65, hf⟩ := obind hf
    obtain ⟨r62, g63, hf⟩ := obind hf
    refine fr_callV hx hb hml hts hown K hC hR ct_8 (c_X8_isNode hfl D cA g63) 1 q65 kw1063 kw1060 kw1062 kw20 kw62 (by decide +kernel) ⟨by exact Nat.le_of_ble_eq_true rfl, by exact Nat.le_of_ble_eq_true rfl⟩ rfl hl.1 (cat8 _ (by exact Nat.le_of_ble_eq_true rfl)) dX8_hang_15 rfl (fun H locs _ _ hC => ?_)
    refine lv_if_ne (tgt := 27) hx hb dX8_hang_18 (by decide) (fun c66 => ?_) (fun c66 => ?_)
    · replace hf := oneg c66 hf
      refine lv_iload_n hx hb dX8_hang_27 rfl (lv_at hl 1 rfl) ?_
      refine lv_if_eq (tgt := 40) hx hb dX8_hang_28 (by decide) (fun c67 => ?_) (fun c67 => ?_)
      · replace hf := opos c67 hf
        exact w_X8_hang_L40 M hfl _ _ hf _ _ _ _ _ hC (lv_sub hl [0] rfl)
      · replace hf := oneg c67 hf
        refine fr_aload_n hx hb dX8_hang_31 rfl (lv_at hl 0 rfl) ?_
        refine lv_iload_n hx hb dX8_hang_32 rfl (lv_at hl 2 rfl) ?_
        refine lv_iload_n hx hb dX8_hang_33 rfl (lv_at hl 1 rfl) ?_
        obtain ⟨b70, q71, hf⟩ := obind hf
        obtain ⟨r68, g69, hf⟩ := obind hf
        refine fr_callV hx hb hml hts hown K hC hR ct_8 (c_X8_isWithin hfl D cA g69) 2 q71 kw1082 kw1079 kw1081 kw23 kw62 (by decide +kernel) ⟨by exact Nat.le_of_ble_eq_true rfl, by exact Nat.le_of_ble_eq_true rfl⟩ rfl hl.1 (cat8 _ (by exact Nat.le_of_ble_eq_true rfl)) dX8_hang_34 rfl (fun H locs _ _ hC => ?_)
        refine lv_if_eq (tgt := 46) hx hb dX8_hang_37 (by decide) (fun c72 => ?_) (fun c72 => ?_)
        · replace hf := opos c72 hf
          refine lv_iconst (v := (0 : Int32)) hx hb dX8_hang_46 (by decide) ?_
          refine lv_istore_n (lv' := [(3, .int (0 : Int32)), (0, va_rf a0), (1, .int a1), (2, .int a2)]) hx hb dX8_hang_47 rfl hl (by decide) (congrArg (List.cons _) (flk rfl (flk rfl (flk rfl fln)))) (fun ls hl => ?_)
          refine lv_iconst (v := (1 : Int32)) hx hb dX8_hang_48 (by decide) ?_
          refine lv_istore (lv' := [(4, .int (1 : Int32)), (3, .int (0 : Int32)), (0, va_rf a0), (1, .int a1), (2, .int a2)]) hx hb dX8_hang_49 hl (by decide) (congrArg (List.cons _) (flk rfl (flk rfl (flk rfl (flk rfl fln))))) (fun ls hl => ?_)
          exact w_X8_hang_L51 M hfl 4096 _ _ _ _ _ _ hf _ _ _ _ _ hC (lv_sub hl [2, 3, 4, 1, 0] rfl)
        · replace hf := oneg c72 hf
          exact w_X8_hang_L40 M hfl _ _ hf _ _ _ _ _ hC (lv_sub hl [0] rfl)
    · replace hf := opos c66 hf
      exact w_X8_hang_L21 M hfl _ _ hf _ _ _ _ _ hC (lv_sub hl [0] rfl)
set_option maxRecDepth 100000 in
theorem c_X8_hang {l : Launch} (hfl : l.stackTraces = false) (D : va_G) (cA : Nat → ClassId) {o : Nat} {p0 : Int32} {p1 : Int32} {h : fSt} {r : (Int32 × fSt)} (hf : f_X8_hang o p0 p1 h = some r) : fMet l yX8_hang (wsC yX8_hang cX8_hang 5 (some (.int))) (2) (43) D cA [.ref o, .int p0, .int p1] h r.2 (some (.int r.1)) := by
  exact fMet.of (own := RX8) (by decide +kernel) rfl (lva1 rfl (lva1 rfl (lva1 rfl lva0))) (lgl1 rfl (lgl1 rfl (lgl1 rfl lgl0))) (Nat.le_of_ble_eq_true rfl) (fun p e s m args below meth c ls hnm _ M hC hl => by
    have hl : lv_has ls 5 [(0, va_rf (some o)), (1, .int p0), (2, .int p1)] := hl
    exact w_X8_hang_L0 M hfl _ _ _ _ hf _ _ _ _ _ hC (lv_sub hl [0, 1, 2] rfl))
set_option maxHeartbeats 4000000 in
set_option maxRecDepth 100000 in
theorem w_X8_init_L191 {p : Program} {l : Launch} {e : Env} {s : State} {m : MethodId} {args : Array Value} {below : List Frame} {meth : Method} {c : Code} {D : va_G} {cA : Nat → ClassId} {h0 : fSt} {r : (Unit × fSt)} (M : fM p s m args meth c D cA h0 { frames := 1, cells := fCB h0 - fZ h0, slots := fLB h0 - fL h0, locals := 20 } cX8_init 2 none RX8) (hfl : l.stackTraces = false) (hnm : meth.name = "<init>") : ∀ (n : Nat) (a0 : Option Nat) (a1 : Int32) (h : fSt), f_X8_init_L191 n a0 a1 h = some r → ∀ (H : Heap) (locs : List Loc) (cells slots : Nat) (ls : Array Slot), fCur D cA s h0 h H locs → lv_has ls 2 [(0, va_rf a0), (1, .int a1)] → W p l e { frames := 1, cells := fCB h0 - fZ h0, slots := fLB h0 - fL h0, locals := 20 } s m args below meth c H locs cells slots (MQ below (fQ D cA h0 r.2 none) args s (fCB h0 - fZ h0) (fLB h0 - fL h0) (fA h0)) (F0 m 191 ls []) := by
  obtain ⟨hx, hb, hml, hr, hlocks, hts, hown, K, hR⟩ := id M
  intro n
  induction n with
  | zero =>
    intro a0 a1 h hf
    exact nomatch (show (none : Option (Unit × fSt)) = some r from hf)
  | succ n hk191 =>
    intro a0 a1 h hf H locs cells slots ls hC hl
    refine lv_iload_n hx hb dX8_init_191 rfl (lv_at hl 1 rfl) ?_
    refine lv_bipush (v := (30 : Int32)) hx hb dX8_init_192 (by decide) ?_
    refine lv_icmp_ge (tgt := 229) hx hb dX8_init_194 (by decide) (fun c1 => ?_) (fun c1 => ?_)
    · replace hf := opos c1 hf
      obtain rfl := Option.some.inj hf
      exact fr_vret hx hb hr hlocks hC dX8_init_229
    · replace hf := oneg c1 hf
      refine fr_aload_n hx hb dX8_init_197 rfl (lv_at hl 0 rfl) ?_
      obtain ⟨x2, g3, hf⟩ := obind hf
      refine fr_get hx hb hts hown K hC ct_8 (fgR_get g3) (by decide) kw981 rfl dX8_init_198 ?_
      refine lv_iload_n hx hb dX8_init_201 rfl (lv_at hl 1 rfl) ?_
      refine lv_iconst (v := (1 : Int32)) hx hb dX8_init_202 (by decide) ?_
      obtain ⟨h4, g5, hf⟩ := obind hf
      refine fr_iast hx hb K hC (t := 0) rfl g5 dX8_init_203 (fun H locs hC => ?_)
      refine fr_aload_n hx hb dX8_init_204 rfl (lv_at hl 0 rfl) ?_
      obtain ⟨x6, g7, hf⟩ := obind hf
      refine fr_get hx hb hts hown K hC ct_8 (fgR_get g7) (by decide) kw982 rfl dX8_init_205 ?_
      refine lv_iload_n hx hb dX8_init_208 rfl (lv_at hl 1 rfl) ?_
      refine lv_iconst (v := (1 : Int32)) hx hb dX8_init_209 (by decide) ?_
      obtain ⟨h8, g9, hf⟩ := obind hf
      refine fr_iast hx hb K hC (t := 0) rfl g9 dX8_init_210 (fun H locs hC => ?_)
      refine fr_aload_n hx hb dX8_init_211 rfl (lv_at hl 0 rfl) ?_
      obtain ⟨x10, g11, hf⟩ := obind hf
      refine fr_get hx hb hts hown K hC ct_8 (fgR_get g11) (by decide) kw985 rfl dX8_init_212 ?_
      refine lv_iload_n hx hb dX8_init_215 rfl (lv_at hl 1 rfl) ?_
      refine lv_iconst (v := (4 : Int32)) hx hb dX8_init_216 (by decide) ?_
      refine lv_imul hx hb dX8_init_217 ?_
      refine lv_iconst (v := (3 : Int32)) hx hb dX8_init_218 (by decide) ?_
      refine lv_iadd hx hb dX8_init_219 ?_
      refine lv_bipush (v := (100 : Int32)) hx hb dX8_init_220 (by decide) ?_
      obtain ⟨h12, g13, hf⟩ := obind hf
      refine fr_iast hx hb K hC (t := 0) rfl g13 dX8_init_222 (fun H locs hC => ?_)
      refine lv_iinc (v := (a1 + (1 : Int32))) (lv' := [(1, .int (a1 + (1 : Int32))), (0, va_rf a0)]) hx hb dX8_init_223 hl (k := 1) rfl rfl (by decide) (congrArg (List.cons _) (flk (adj1 _ _) (fld rfl fln))) (fun ls hl => ?_)
      refine lv_goto (tgt := 191) hx hb dX8_init_226 (by decide) ?_
      exact hk191 _ _ _ hf _ _ _ _ _ hC (lv_sub hl [1, 0] rfl)
set_option maxHeartbeats 4000000 in
set_option maxRecDepth 100000 in
theorem w_X8_init_L0 {p : Program} {l : Launch} {e : Env} {s : State} {m : MethodId} {args : Array Value} {below : List Frame} {meth : Method} {c : Code} {D : va_G} {cA : Nat → ClassId} {h0 : fSt} {r : (Unit × fSt)} (M : fM p s m args meth c D cA h0 { frames := 1, cells := fCB h0 - fZ h0, slots := fLB h0 - fL h0, locals := 20 } cX8_init 2 none RX8) (hfl : l.stackTraces = false) (hnm : meth.name = "<init>") (a0 : Option Nat) (h : fSt) (hf : f_X8_init_L0 a0 h = some r) : ∀ (H : Heap) (locs : List Loc) (cells slots : Nat) (ls : Array Slot), fCur D cA s h0 h H locs → lv_has ls 2 [(0, va_rf a0)] → W p l e { frames := 1, cells := fCB h0 - fZ h0, slots := fLB h0 - fL h0, locals := 20 } s m args below meth c H locs cells slots (MQ below (fQ D cA h0 r.2 none) args s (fCB h0 - fZ h0) (fLB h0 - fL h0) (fA h0)) (F0 m 0 ls []) := by
  obtain ⟨hx, hb, hml, hr, hlocks, hts, hown, K, hR⟩ := id M
  intro H locs cells slots ls hC hl
  refine fr_aload_n hx hb dX8_init_0 rfl (lv_at hl 0 rfl) ?_
  obtain ⟨b14, q15, hf⟩ := obind hf
  refine fr_objInit hx hb hml hts hown kw970 kw78 kw79 hl.1 (fobj_inv q15).1 dX8_init_1 (by exact Nat.le_of_ble_eq_true rfl) (catL _ _ (by exact Nat.le_of_ble_eq_true rfl) (by exact Nat.le_of_ble_eq_true rfl)) ?_
  refine fr_aload_n hx hb dX8_init_4 rfl (lv_at hl 0 rfl) ?_
  refine lv_iconst (v := (1 : Int32)) hx hb dX8_init_5 (by decide) ?_
  obtain ⟨h16, g17, hf⟩ := obind hf
  refine fr_put hx hb hts hown K hC ct_8 g17 (by decide) kw972 rfl rfl rfl rfl dX8_init_6 (fun H locs hC => ?_)
  refine fr_aload_n hx hb dX8_init_9 rfl (lv_at hl 0 rfl) ?_
  refine lv_bipush (v := (30 : Int32)) hx hb dX8_init_10 (by decide) ?_
  by_cases c18 : (30 : Int32) < 0 ∨ 67000000 < ((30 : Int32)).toNatClampNeg
  · exact nomatch (opos c18 hf)
  obtain ⟨r19, g20, hf⟩ := obind (oneg c18 hf)
  refine fr_newa hx hb hts K hC hR (atype := .boolean) (t := 2) rfl kw1050 (fun _ => rfl) rfl (fun z => c18 (Or.inl z)) g20 (newa_b (fun z => c18 (Or.inr z)) (Nat.le_of_ble_eq_true rfl)) dX8_init_12 (fun H _ _ hC => ?_)
  obtain ⟨h21, g22, hf⟩ := obind hf
  refine fr_putF hx hb hts hown K hC ct_8 g22 (by decide) kw973 rfl rfl hnm rfl (nAr _ _) (fAr _ _) dX8_init_14 (fun H locs hC => ?_)
  refine fr_aload_n hx hb dX8_init_17 rfl (lv_at hl 0 rfl) ?_
  refine lv_bipush (v := (30 : Int32)) hx hb dX8_init_18 (by decide) ?_
  by_cases c23 : (30 : Int32) < 0 ∨ 67000000 < ((30 : Int32)).toNatClampNeg
  · exact nomatch (opos c23 hf)
  obtain ⟨r24, g25, hf⟩ := obind (oneg c23 hf)
  refine fr_newa hx hb hts K hC hR (atype := .boolean) (t := 2) rfl kw1050 (fun _ => rfl) rfl (fun z => c23 (Or.inl z)) g25 (newa_b (fun z => c23 (Or.inr z)) (Nat.le_of_ble_eq_true rfl)) dX8_init_20 (fun H _ _ hC => ?_)
  obtain ⟨h26, g27, hf⟩ := obind hf
  refine fr_putF hx hb hts hown K hC ct_8 g27 (by decide) kw974 rfl rfl hnm rfl (nAr _ _) (fAr _ _) dX8_init_22 (fun H locs hC => ?_)
  refine fr_aload_n hx hb dX8_init_25 rfl (lv_at hl 0 rfl) ?_
  refine lv_bipush (v := (30 : Int32)) hx hb dX8_init_26 (by decide) ?_
  by_cases c28 : (30 : Int32) < 0 ∨ 67000000 < ((30 : Int32)).toNatClampNeg
  · exact nomatch (opos c28 hf)
  obtain ⟨r29, g30, hf⟩ := obind (oneg c28 hf)
  refine fr_newa hx hb hts K hC hR (atype := .boolean) (t := 2) rfl kw1050 (fun _ => rfl) rfl (fun z => c28 (Or.inl z)) g30 (newa_b (fun z => c28 (Or.inr z)) (Nat.le_of_ble_eq_true rfl)) dX8_init_28 (fun H _ _ hC => ?_)
  obtain ⟨h31, g32, hf⟩ := obind hf
  refine fr_putF hx hb hts hown K hC ct_8 g32 (by decide) kw975 rfl rfl hnm rfl (nAr _ _) (fAr _ _) dX8_init_30 (fun H locs hC => ?_)
  refine fr_aload_n hx hb dX8_init_33 rfl (lv_at hl 0 rfl) ?_
  refine lv_bipush (v := (30 : Int32)) hx hb dX8_init_34 (by decide) ?_
  by_cases c33 : (30 : Int32) < 0 ∨ 67000000 < ((30 : Int32)).toNatClampNeg
  · exact nomatch (opos c33 hf)
  obtain ⟨r34, g35, hf⟩ := obind (oneg c33 hf)
  refine fr_newa hx hb hts K hC hR (atype := .boolean) (t := 2) rfl kw1050 (fun _ => rfl) rfl (fun z => c33 (Or.inl z)) g35 (newa_b (fun z => c33 (Or.inr z)) (Nat.le_of_ble_eq_true rfl)) dX8_init_36 (fun H _ _ hC => ?_)
  obtain ⟨h36, g37, hf⟩ := obind hf
  refine fr_putF hx hb hts hown K hC ct_8 g37 (by decide) kw976 rfl rfl hnm rfl (nAr _ _) (fAr _ _) dX8_init_38 (fun H locs hC => ?_)
  refine fr_aload_n hx hb dX8_init_41 rfl (lv_at hl 0 rfl) ?_
  refine lv_bipush (v := (30 : Int32)) hx hb dX8_init_42 (by decide) ?_
  by_cases c38 : (30 : Int32) < 0 ∨ 67000000 < ((30 : Int32)).toNatClampNeg
  · exact nomatch (opos c38 hf)
  obtain ⟨r39, g40, hf⟩ := obind (oneg c38 hf)
  refine fr_newa hx hb hts K hC hR (atype := .int) (t := 0) rfl kw1051 (fun _ => rfl) rfl (fun z => c38 (Or.inl z)) g40 (newa_b (fun z => c38 (Or.inr z)) (Nat.le_of_ble_eq_true rfl)) dX8_init_44 (fun H _ _ hC => ?_)
  obtain ⟨h41, g42, hf⟩ := obind hf
  refine fr_putF hx hb hts hown K hC ct_8 g42 (by decide) kw977 rfl rfl hnm rfl (nAr _ _) (fAr _ _) dX8_init_46 (fun H locs hC => ?_)
  refine fr_aload_n hx hb dX8_init_49 rfl (lv_at hl 0 rfl) ?_
  refine lv_bipush (v := (30 : Int32)) hx hb dX8_init_50 (by decide) ?_
  by_cases c43 : (30 : Int32) < 0 ∨ 67000000 < ((30 : Int32)).toNatClampNeg
  · exact nomatch (opos c43 hf)
  obtain ⟨r44, g45, hf⟩ := obind (oneg c43 hf)
  refine fr_newa hx hb hts K hC hR (atype := .int) (t := 0) rfl kw1051 (fun _ => rfl) rfl (fun z => c43 (Or.inl z)) g45 (newa_b (fun z => c43 (Or.inr z)) (Nat.le_of_ble_eq_true rfl)) dX8_init_52 (fun H _ _ hC => ?_)
  obtain ⟨h46, g47, hf⟩ := obind hf
  refine fr_putF hx hb hts hown K hC ct_8 g47 (by decide) kw978 rfl rfl hnm rfl (nAr _ _) (fAr _ _) dX8_init_54 (fun H locs hC => ?_)
  refine fr_aload_n hx hb dX8_init_57 rfl (lv_at hl 0 rfl) ?_
  refine lv_bipush (v := (30 : Int32)) hx hb dX8_init_58 (by decide) ?_
  by_cases c48 : (30 : Int32) < 0 ∨ 67000000 < ((30 : Int32)).toNatClampNeg
  · exact nomatch (opos c48 hf)
  obtain ⟨r49, g50, hf⟩ := obind (oneg c48 hf)
  refine fr_newa hx hb hts K hC hR (atype := .int) (t := 0) rfl kw1051 (fun _ => rfl) rfl (fun z => c48 (Or.inl z)) g50 (newa_b (fun z => c48 (Or.inr z)) (Nat.le_of_ble_eq_true rfl)) dX8_init_60 (fun H _ _ hC => ?_)
  obtain ⟨h51, g52, hf⟩ := obind hf
  refine fr_putF hx hb hts hown K hC ct_8 g52 (by decide) kw979 rfl rfl hnm rfl (nAr _ _) (fAr _ _) dX8_init_62 (fun H locs hC => ?_)
  refine fr_aload_n hx hb dX8_init_65 rfl (lv_at hl 0 rfl) ?_
  refine lv_bipush (v := (30 : Int32)) hx hb dX8_init_66 (by decide) ?_
  by_cases c53 : (30 : Int32) < 0 ∨ 67000000 < ((30 : Int32)).toNatClampNeg
  · exact nomatch (opos c53 hf)
  obtain ⟨r54, g55, hf⟩ := obind (oneg c53 hf)
  refine fr_newa hx hb hts K hC hR (atype := .int) (t := 0) rfl kw1051 (fun _ => rfl) rfl (fun z => c53 (Or.inl z)) g55 (newa_b (fun z => c53 (Or.inr z)) (Nat.le_of_ble_eq_true rfl)) dX8_init_68 (fun H _ _ hC => ?_)
  obtain ⟨h56, g57, hf⟩ := obind hf
  refine fr_putF hx hb hts hown K hC ct_8 g57 (by decide) kw980 rfl rfl hnm rfl (nAr _ _) (fAr _ _) dX8_init_70 (fun H locs hC => ?_)
  refine fr_aload_n hx hb dX8_init_73 rfl (lv_at hl 0 rfl) ?_
  refine lv_bipush (v := (30 : Int32)) hx hb dX8_init_74 (by decide) ?_
  by_cases c58 : (30 : Int32) < 0 ∨ 67000000 < ((30 : Int32)).toNatClampNeg
  · exact nomatch (opos c58 hf)
  obtain ⟨r59, g60, hf⟩ := obind (oneg c58 hf)
  refine fr_newa hx hb hts K hC hR (atype := .int) (t := 0) rfl kw1051 (fun _ => rfl) rfl (fun z => c58 (Or.inl z)) g60 (newa_b (fun z => c58 (Or.inr z)) (Nat.le_of_ble_eq_true rfl)) dX8_init_76 (fun H _ _ hC => ?_)
  obtain ⟨h61, g62, hf⟩ := obind hf
  refine fr_putF hx hb hts hown K hC ct_8 g62 (by decide) kw981 rfl rfl hnm rfl (nAr _ _) (fAr _ _) dX8_init_78 (fun H locs hC => ?_)
  refine fr_aload_n hx hb dX8_init_81 rfl (lv_at hl 0 rfl) ?_
  refine lv_bipush (v := (30 : Int32)) hx hb dX8_init_82 (by decide) ?_
  by_cases c63 : (30 : Int32) < 0 ∨ 67000000 < ((30 : Int32)).toNatClampNeg
  · exact nomatch (opos c63 hf)
  obtain ⟨r64, g65, hf⟩ := obind (oneg c63 hf)
  refine fr_newa hx hb hts K hC hR (atype := .int) (t := 0) rfl kw1051 (fun _ => rfl) rfl (fun z => c63 (Or.inl z)) g65 (newa_b (fun z => c63 (Or.inr z)) (Nat.le_of_ble_eq_true rfl)) dX8_init_84 (fun H _ _ hC => ?_)
  obtain ⟨h66, g67, hf⟩ := obind hf
  refine fr_putF hx hb hts hown K hC ct_8 g67 (by decide) kw982 rfl rfl hnm rfl (nAr _ _) (fAr _ _) dX8_init_86 (fun H locs hC => ?_)
  refine fr_aload_n hx hb dX8_init_89 rfl (lv_at hl 0 rfl) ?_
  refine lv_bipush (v := (30 : Int32)) hx hb dX8_init_90 (by decide) ?_
  by_cases c68 : (30 : Int32) < 0 ∨ 67000000 < ((30 : Int32)).toNatClampNeg
  · exact nomatch (opos c68 hf)
  obtain ⟨r69, g70, hf⟩ := obind (oneg c68 hf)
  refine fr_newa hx hb hts K hC hR (atype := .int) (t := 0) rfl kw1051 (fun _ => rfl) rfl (fun z => c68 (Or.inl z)) g70 (newa_b (fun z => c68 (Or.inr z)) (Nat.le_of_ble_eq_true rfl)) dX8_init_92 (fun H _ _ hC => ?_)
  obtain ⟨h71, g72, hf⟩ := obind hf
  refine fr_putF hx hb hts hown K hC ct_8 g72 (by decide) kw983 rfl rfl hnm rfl (nAr _ _) (fAr _ _) dX8_init_94 (fun H locs hC => ?_)
  refine fr_aload_n hx hb dX8_init_97 rfl (lv_at hl 0 rfl) ?_
  refine lv_bipush (v := (30 : Int32)) hx hb dX8_init_98 (by decide) ?_
  by_cases c73 : (30 : Int32) < 0 ∨ 67000000 < ((30 : Int32)).toNatClampNeg
  · exact nomatch (opos c73 hf)
  obtain ⟨r74, g75, hf⟩ := obind (oneg c73 hf)
  refine fr_newa hx hb hts K hC hR (atype := .int) (t := 0) rfl kw1051 (fun _ => rfl) rfl (fun z => c73 (Or.inl z)) g75 (newa_b (fun z => c73 (Or.inr z)) (Nat.le_of_ble_eq_true rfl)) dX8_init_100 (fun H _ _ hC => ?_)
  obtain ⟨h76, g77, hf⟩ := obind hf
  refine fr_putF hx hb hts hown K hC ct_8 g77 (by decide) kw984 rfl rfl hnm rfl (nAr _ _) (fAr _ _) dX8_init_102 (fun H locs hC => ?_)
  refine fr_aload_n hx hb dX8_init_105 rfl (lv_at hl 0 rfl) ?_
  refine lv_bipush (v := (120 : Int32)) hx hb dX8_init_106 (by decide) ?_
  by_cases c78 : (120 : Int32) < 0 ∨ 67000000 < ((120 : Int32)).toNatClampNeg
  · exact nomatch (opos c78 hf)
  obtain ⟨r79, g80, hf⟩ := obind (oneg c78 hf)
  refine fr_newa hx hb hts K hC hR (atype := .int) (t := 0) rfl kw1051 (fun _ => rfl) rfl (fun z => c78 (Or.inl z)) g80 (newa_b (fun z => c78 (Or.inr z)) (Nat.le_of_ble_eq_true rfl)) dX8_init_108 (fun H _ _ hC => ?_)
  obtain ⟨h81, g82, hf⟩ := obind hf
  refine fr_putF hx hb hts hown K hC ct_8 g82 (by decide) kw985 rfl rfl hnm rfl (nAr _ _) (fAr _ _) dX8_init_110 (fun H locs hC => ?_)
  refine fr_aload_n hx hb dX8_init_113 rfl (lv_at hl 0 rfl) ?_
  refine lv_bipush (v := (120 : Int32)) hx hb dX8_init_114 (by decide) ?_
  by_cases c83 : (120 : Int32) < 0 ∨ 67000000 < ((120 : Int32)).toNatClampNeg
  · exact nomatch (opos c83 hf)
  obtain ⟨r84, g85, hf⟩ := obind (oneg c83 hf)
  refine fr_newa hx hb hts K hC hR (atype := .int) (t := 0) rfl kw1051 (fun _ => rfl) rfl (fun z => c83 (Or.inl z)) g85 (newa_b (fun z => c83 (Or.inr z)) (Nat.le_of_ble_eq_true rfl)) dX8_init_116 (fun H _ _ hC => ?_)
  obtain ⟨h86, g87, hf⟩ := obind hf
  refine fr_putF hx hb hts hown K hC ct_8 g87 (by decide) kw986 rfl rfl hnm rfl (nAr _ _) (fAr _ _) dX8_init_118 (fun H locs hC => ?_)
  refine fr_aload_n hx hb dX8_init_121 rfl (lv_at hl 0 rfl) ?_
  refine lv_iconst (v := (1 : Int32)) hx hb dX8_init_122 (by decide) ?_
  obtain ⟨h88, g89, hf⟩ := obind hf
  refine fr_put hx hb hts hown K hC ct_8 g89 (by decide) kw987 rfl rfl rfl rfl dX8_init_123 (fun H locs hC => ?_)
  refine fr_aload_n hx hb dX8_init_126 rfl (lv_at hl 0 rfl) ?_
  refine lv_bipush (v := (12 : Int32)) hx hb dX8_init_127 (by decide) ?_
  by_cases c90 : (12 : Int32) < 0 ∨ 67000000 < ((12 : Int32)).toNatClampNeg
  · exact nomatch (opos c90 hf)
  obtain ⟨r91, g92, hf⟩ := obind (oneg c90 hf)
  refine fr_newa hx hb hts K hC hR (atype := .int) (t := 0) rfl kw1051 (fun _ => rfl) rfl (fun z => c90 (Or.inl z)) g92 (newa_b (fun z => c90 (Or.inr z)) (Nat.le_of_ble_eq_true rfl)) dX8_init_129 (fun H _ _ hC => ?_)
  obtain ⟨h93, g94, hf⟩ := obind hf
  refine fr_putF hx hb hts hown K hC ct_8 g94 (by decide) kw989 rfl rfl hnm rfl (nAr _ _) (fAr _ _) dX8_init_131 (fun H locs hC => ?_)
  refine fr_aload_n hx hb dX8_init_134 rfl (lv_at hl 0 rfl) ?_
  refine lv_bipush (v := (12 : Int32)) hx hb dX8_init_135 (by decide) ?_
  by_cases c95 : (12 : Int32) < 0 ∨ 67000000 < ((12 : Int32)).toNatClampNeg
  · exact nomatch (opos c95 hf)
  obtain ⟨r96, g97, hf⟩ := obind (oneg c95 hf)
  refine fr_newa hx hb hts K hC hR (atype := .int) (t := 0) rfl kw1051 (fun _ => rfl) rfl (fun z => c95 (Or.inl z)) g97 (newa_b (fun z => c95 (Or.inr z)) (Nat.le_of_ble_eq_true rfl)) dX8_init_137 (fun H _ _ hC => ?_)
  obtain ⟨h98, g99, hf⟩ := obind hf
  refine fr_putF hx hb hts hown K hC ct_8 g99 (by decide) kw990 rfl rfl hnm rfl (nAr _ _) (fAr _ _) dX8_init_139 (fun H locs hC => ?_)
  refine fr_aload_n hx hb dX8_init_142 rfl (lv_at hl 0 rfl) ?_
  refine lv_bipush (v := (12 : Int32)) hx hb dX8_init_143 (by decide) ?_
  by_cases c100 : (12 : Int32) < 0 ∨ 67000000 < ((12 : Int32)).toNatClampNeg
  · exact nomatch (opos c100 hf)
  obtain ⟨r101, g102, hf⟩ := obind (oneg c100 hf)
  refine fr_newa hx hb hts K hC hR (atype := .int) (t := 0) rfl kw1051 (fun _ => rfl) rfl (fun z => c100 (Or.inl z)) g102 (newa_b (fun z => c100 (Or.inr z)) (Nat.le_of_ble_eq_true rfl)) dX8_init_145 (fun H _ _ hC => ?_)
  obtain ⟨h103, g104, hf⟩ := obind hf
  refine fr_putF hx hb hts hown K hC ct_8 g104 (by decide) kw991 rfl rfl hnm rfl (nAr _ _) (fAr _ _) dX8_init_147 (fun H locs hC => ?_)
  refine fr_aload_n hx hb dX8_init_150 rfl (lv_at hl 0 rfl) ?_
  refine lv_bipush (v := (12 : Int32)) hx hb dX8_init_151 (by decide) ?_
  by_cases c105 : (12 : Int32) < 0 ∨ 67000000 < ((12 : Int32)).toNatClampNeg
  · exact nomatch (opos c105 hf)
  obtain ⟨r106, g107, hf⟩ := obind (oneg c105 hf)
  refine fr_newa hx hb hts K hC hR (atype := .int) (t := 0) rfl kw1051 (fun _ => rfl) rfl (fun z => c105 (Or.inl z)) g107 (newa_b (fun z => c105 (Or.inr z)) (Nat.le_of_ble_eq_true rfl)) dX8_init_153 (fun H _ _ hC => ?_)
  obtain ⟨h108, g109, hf⟩ := obind hf
  refine fr_putF hx hb hts hown K hC ct_8 g109 (by decide) kw992 rfl rfl hnm rfl (nAr _ _) (fAr _ _) dX8_init_155 (fun H locs hC => ?_)
  refine fr_aload_n hx hb dX8_init_158 rfl (lv_at hl 0 rfl) ?_
  refine lv_bipush (v := (12 : Int32)) hx hb dX8_init_159 (by decide) ?_
  by_cases c110 : (12 : Int32) < 0 ∨ 67000000 < ((12 : Int32)).toNatClampNeg
  · exact nomatch (opos c110 hf)
  obtain ⟨r111, g112, hf⟩ := obind (oneg c110 hf)
  refine fr_newa hx hb hts K hC hR (atype := .int) (t := 0) rfl kw1051 (fun _ => rfl) rfl (fun z => c110 (Or.inl z)) g112 (newa_b (fun z => c110 (Or.inr z)) (Nat.le_of_ble_eq_true rfl)) dX8_init_161 (fun H _ _ hC => ?_)
  obtain ⟨h113, g114, hf⟩ := obind hf
  refine fr_putF hx hb hts hown K hC ct_8 g114 (by decide) kw993 rfl rfl hnm rfl (nAr _ _) (fAr _ _) dX8_init_163 (fun H locs hC => ?_)
  refine fr_aload_n hx hb dX8_init_166 rfl (lv_at hl 0 rfl) ?_
  refine lv_bipush (v := (96 : Int32)) hx hb dX8_init_167 (by decide) ?_
  by_cases c115 : (96 : Int32) < 0 ∨ 67000000 < ((96 : Int32)).toNatClampNeg
  · exact nomatch (opos c115 hf)
  obtain ⟨r116, g117, hf⟩ := obind (oneg c115 hf)
  refine fr_newa hx hb hts K hC hR (atype := .int) (t := 0) rfl kw1051 (fun _ => rfl) rfl (fun z => c115 (Or.inl z)) g117 (newa_b (fun z => c115 (Or.inr z)) (Nat.le_of_ble_eq_true rfl)) dX8_init_169 (fun H _ _ hC => ?_)
  obtain ⟨h118, g119, hf⟩ := obind hf
  refine fr_putF hx hb hts hown K hC ct_8 g119 (by decide) kw994 rfl rfl hnm rfl (nAr _ _) (fAr _ _) dX8_init_171 (fun H locs hC => ?_)
  refine fr_aload_n hx hb dX8_init_174 rfl (lv_at hl 0 rfl) ?_
  refine lv_bipush (v := (96 : Int32)) hx hb dX8_init_175 (by decide) ?_
  by_cases c120 : (96 : Int32) < 0 ∨ 67000000 < ((96 : Int32)).toNatClampNeg
  · exact nomatch (opos c120 hf)
  obtain ⟨r121, g122, hf⟩ := obind (oneg c120 hf)
  refine fr_newa hx hb hts K hC hR (atype := .int) (t := 0) rfl kw1051 (fun _ => rfl) rfl (fun z => c120 (Or.inl z)) g122 (newa_b (fun z => c120 (Or.inr z)) (Nat.le_of_ble_eq_true rfl)) dX8_init_177 (fun H _ _ hC => ?_)
  obtain ⟨h123, g124, hf⟩ := obind hf
  refine fr_putF hx hb hts hown K hC ct_8 g124 (by decide) kw995 rfl rfl hnm rfl (nAr _ _) (fAr _ _) dX8_init_179 (fun H locs hC => ?_)
  refine fr_aload_n hx hb dX8_init_182 rfl (lv_at hl 0 rfl) ?_
  obtain ⟨x125, g126, hf⟩ := obind hf
  refine fr_get hx hb hts hown K hC ct_8 (fgR_get g126) (by decide) kw977 rfl dX8_init_183 ?_
  refine lv_iconst (v := (0 : Int32)) hx hb dX8_init_186 (by decide) ?_
  refine lv_iconst (v := (-1 : Int32)) hx hb dX8_init_187 (by decide) ?_
  obtain ⟨h127, g128, hf⟩ := obind hf
  refine fr_iast hx hb K hC (t := 0) rfl g128 dX8_init_188 (fun H locs hC => ?_)
  refine lv_iconst (v := (0 : Int32)) hx hb dX8_init_189 (by decide) ?_
  refine lv_istore_n (lv' := [(1, .int (0 : Int32)), (0, va_rf a0)]) hx hb dX8_init_190 rfl hl (by decide) (congrArg (List.cons _) (flk (adj1 _ _) fln)) (fun ls hl => ?_)
  exact w_X8_init_L191 M hfl hnm 4096 _ _ _ hf _ _ _ _ _ hC (lv_sub hl [1, 0] rfl)
set_option maxRecDepth 100000 in
theorem c_X8_init {l : Launch} (hfl : l.stackTraces = false) (D : va_G) (cA : Nat → ClassId) {o : Nat} {h : fSt} {r : (Unit × fSt)} (hf : f_X8_init o h = some r) : fMet l yX8_init (wsC yX8_init cX8_init 2 none) (1) (20) D cA [.ref o] h r.2 none := by
  exact fMet.of (own := RX8) (by decide +kernel) rfl (lva1 rfl lva0) (lgl1 rfl lgl0) (Nat.le_of_ble_eq_true rfl) (fun p e s m args below meth c ls hnm _ M hC hl => by
    have hl : lv_has ls 2 [(0, va_rf (some o))] := hl
    exact w_X8_init_L0 M hfl (show meth.name = "<init>" from hnm) _ _ hf _ _ _ _ _ hC (lv_sub hl [0] rfl))
set_option maxHeartbeats 4000000 in
set_option maxRecDepth 100000 in
theorem w_X8_isShown_L37 {p : Program} {l : Launch} {e : Env} {s : State} {m : MethodId} {args : Array Value} {below : List Frame} {meth : Method} {c : Code} {D : va_G} {cA : Nat → ClassId} {h0 : fSt} {r : (Int32 × fSt)} (M : fM p s m args meth c D cA h0 { frames := 4, cells := fCB h0 - fZ h0, slots := fLB h0 - fL h0, locals := 102 } cX8_isShown 2 (some (.boolean)) RX8) (hfl : l.stackTraces = false) (s0 : Int32) (h : fSt) (hf : f_X8_isShown_L37 s0 h = some r) : ∀ (H : Heap) (locs : List Loc) (cells slots : Nat) (ls : Array Slot), fCur D cA s h0 h H locs → lv_has ls 2 [] → W p l e { frames := 4, cells := fCB h0 - fZ h0, slots := fLB h0 - fL h0, locals := 102 } s m args below meth c H locs cells slots (MQ below (fQ D cA h0 r.2 (some (.int r.1))) args s (fCB h0 - fZ h0) (fLB h0 - fL h0) (fA h0)) (F0 m 37 ls [.int s0]) := by
  obtain ⟨hx, hb, hml, hr, hlocks, hts, hown, K, hR⟩ := id M
  intro H locs cells slots ls hC hl
  by_cases c1 : s0 = 0 ∨ s0 = 1
  rotate_left
  · exact nomatch (oneg c1 hf)
  obtain rfl := Option.some.inj (opos c1 hf)
  exact fr_zret hx hb hr hlocks hC c1 dX8_isShown_37
set_option maxHeartbeats 4000000 in
set_option maxRecDepth 100000 in
theorem w_X8_isShown_L36 {p : Program} {l : Launch} {e : Env} {s : State} {m : MethodId} {args : Array Value} {below : List Frame} {meth : Method} {c : Code} {D : va_G} {cA : Nat → ClassId} {h0 : fSt} {r : (Int32 × fSt)} (M : fM p s m args meth c D cA h0 { frames := 4, cells := fCB h0 - fZ h0, slots := fLB h0 - fL h0, locals := 102 } cX8_isShown 2 (some (.boolean)) RX8) (hfl : l.stackTraces = false)  (h : fSt) (hf : f_X8_isShown_L36  h = some r) : ∀ (H : Heap) (locs : List Loc) (cells slots : Nat) (ls : Array Slot), fCur D cA s h0 h H locs → lv_has ls 2 [] → W p l e { frames := 4, cells := fCB h0 - fZ h0, slots := fLB h0 - fL h0, locals := 102 } s m args below meth c H locs cells slots (MQ below (fQ D cA h0 r.2 (some (.int r.1))) args s (fCB h0 - fZ h0) (fLB h0 - fL h0) (fA h0)) (F0 m 36 ls []) := by
  obtain ⟨hx, hb, hml, hr, hlocks, hts, hown, K, hR⟩ := id M
  intro H locs cells slots ls hC hl
  refine lv_iconst (v := (0 : Int32)) hx hb dX8_isShown_36 (by decide) ?_
  exact w_X8_isShown_L37 M hfl _ _ hf _ _ _ _ _ hC (lv_sub hl [] rfl)
set_option maxHeartbeats 4000000 in
set_option maxRecDepth 100000 in
theorem w_X8_isShown_L14 {p : Program} {l : Launch} {e : Env} {s : State} {m : MethodId} {args : Array Value} {below : List Frame} {meth : Method} {c : Code} {D : va_G} {cA : Nat → ClassId} {h0 : fSt} {r : (Int32 × fSt)} (M : fM p s m args meth c D cA h0 { frames := 4, cells := fCB h0 - fZ h0, slots := fLB h0 - fL h0, locals := 102 } cX8_isShown 2 (some (.boolean)) RX8) (hfl : l.stackTraces = false) (a0 : Option Nat) (a1 : Int32) (s1 : Int32) (s0 : Option Nat) (h : fSt) (hf : f_X8_isShown_L14 a0 a1 s1 s0 h = some r) : ∀ (H : Heap) (locs : List Loc) (cells slots : Nat) (ls : Array Slot), fCur D cA s h0 h H locs → lv_has ls 2 [(0, va_rf a0), (1, .int a1)] → W p l e { frames := 4, cells := fCB h0 - fZ h0, slots := fLB h0 - fL h0, locals := 102 } s m args below meth c H locs cells slots (MQ below (fQ D cA h0 r.2 (some (.int r.1))) args s (fCB h0 - fZ h0) (fLB h0 - fL h0) (fA h0)) (F0 m 14 ls [.int s1, va_rf s0]) := by
  obtain ⟨hx, hb, hml, hr, hlocks, hts, hown, K, hR⟩ := id M
  intro H locs cells slots ls hC hl
  obtain ⟨h2, g3, hf⟩ := obind hf
  refine fr_put hx hb hts hown K hC ct_8 g3 (by decide) kw971 rfl rfl rfl rfl dX8_isShown_14 (fun H locs hC => ?_)
  refine fr_aload_n hx hb dX8_isShown_17 rfl (lv_at hl 0 rfl) ?_
  obtain ⟨x4, g5, hf⟩ := obind hf
  refine fr_get hx hb hts hown K hC ct_8 (fgI_get g5) (by decide) kw971 rfl dX8_isShown_18 ?_
  refine lv_if_ne (tgt := 36) hx hb dX8_isShown_21 (by decide) (fun c6 => ?_) (fun c6 => ?_)
  · replace hf := oneg c6 hf
    exact w_X8_isShown_L36 M hfl _ hf _ _ _ _ _ hC (lv_sub hl [] rfl)
  · replace hf := opos c6 hf
    refine fr_aload_n hx hb dX8_isShown_24 rfl (lv_at hl 0 rfl) ?_
    refine lv_iload_n hx hb dX8_isShown_25 rfl (lv_at hl 1 rfl) ?_
    obtain ⟨b9, q10, hf⟩ := obind hf
    obtain ⟨r7, g8, hf⟩ := obind hf
    refine fr_callV hx hb hml hts hown K hC hR ct_8 (c_X8_isShownNow hfl D cA g8) 1 q10 kw1281 kw1278 kw1280 kw45 kw62 (by decide +kernel) ⟨by exact Nat.le_of_ble_eq_true rfl, by exact Nat.le_of_ble_eq_true rfl⟩ rfl hl.1 (cat8 _ (by exact Nat.le_of_ble_eq_true rfl)) dX8_isShown_26 rfl (fun H locs _ _ hC => ?_)
    refine lv_if_eq (tgt := 36) hx hb dX8_isShown_29 (by decide) (fun c11 => ?_) (fun c11 => ?_)
    · replace hf := opos c11 hf
      exact w_X8_isShown_L36 M hfl _ hf _ _ _ _ _ hC (lv_sub hl [] rfl)
    · replace hf := oneg c11 hf
      refine lv_iconst (v := (1 : Int32)) hx hb dX8_isShown_32 (by decide) ?_
      refine lv_goto (tgt := 37) hx hb dX8_isShown_33 (by decide) ?_
      exact w_X8_isShown_L37 M hfl _ _ hf _ _ _ _ _ hC (lv_sub hl [] rfl)
set_option maxHeartbeats 4000000 in
set_option maxRecDepth 100000 in
theorem w_X8_isShown_L0 {p : Program} {l : Launch} {e : Env} {s : State} {m : MethodId} {args : Array Value} {below : List Frame} {meth : Method} {c : Code} {D : va_G} {cA : Nat → ClassId} {h0 : fSt} {r : (Int32 × fSt)} (M : fM p s m args meth c D cA h0 { frames := 4, cells := fCB h0 - fZ h0, slots := fLB h0 - fL h0, locals := 102 } cX8_isShown 2 (some (.boolean)) RX8) (hfl : l.stackTraces = false) (a0 : Option Nat) (a1 : Int32) (h : fSt) (hf : f_X8_isShown_L0 a0 a1 h = some r) : ∀ (H : Heap) (locs : List Loc) (cells slots : Nat) (ls : Array Slot), fCur D cA s h0 h H locs → lv_has ls 2 [(0, va_rf a0), (1, .int a1)] → W p l e { frames := 4, cells := fCB h0 - fZ h0, slots := fLB h0 - fL h0, locals := 102 } s m args below meth c H locs cells slots (MQ below (fQ D cA h0 r.2 (some (.int r.1))) args s (fCB h0 - fZ h0) (fLB h0 - fL h0) (fA h0)) (F0 m 0 ls []) := by
  obtain ⟨hx, hb, hml, hr, hlocks, hts, hown, K, hR⟩ := id M
  intro H locs cells slots ls hC hl
  refine fr_aload_n hx hb dX8_isShown_0 rfl (lv_at hl 0 rfl) ?_
  refine fr_aload_n hx hb dX8_isShown_1 rfl (lv_at hl 0 rfl) ?_
  refine lv_iload_n hx hb dX8_isShown_2 rfl (lv_at hl 1 rfl) ?_
  obtain ⟨b14, q15, hf⟩ := obind hf
  obtain ⟨r12, g13, hf⟩ := obind hf
  refine fr_callV hx hb hml hts hown K hC hR ct_8 (c_X8_isNode hfl D cA g13) 1 q15 kw1063 kw1060 kw1062 kw20 kw62 (by decide +kernel) ⟨by exact Nat.le_of_ble_eq_true rfl, by exact Nat.le_of_ble_eq_true rfl⟩ rfl hl.1 (cat8 _ (by exact Nat.le_of_ble_eq_true rfl)) dX8_isShown_3 rfl (fun H locs _ _ hC => ?_)
  refine lv_if_eq (tgt := 13) hx hb dX8_isShown_6 (by decide) (fun c16 => ?_) (fun c16 => ?_)
  · replace hf := opos c16 hf
    refine lv_iconst (v := (1 : Int32)) hx hb dX8_isShown_13 (by decide) ?_
    exact w_X8_isShown_L14 M hfl _ _ _ _ _ hf _ _ _ _ _ hC (lv_sub hl [0, 1] rfl)
  · replace hf := oneg c16 hf
    refine lv_iconst (v := (0 : Int32)) hx hb dX8_isShown_9 (by decide) ?_
    refine lv_goto (tgt := 14) hx hb dX8_isShown_10 (by decide) ?_
    exact w_X8_isShown_L14 M hfl _ _ _ _ _ hf _ _ _ _ _ hC (lv_sub hl [0, 1] rfl)
set_option maxRecDepth 100000 in
theorem c_X8_isShown {l : Launch} (hfl : l.stackTraces = false) (D : va_G) (cA : Nat → ClassId) {o : Nat} {p0 : Int32} {h : fSt} {r : (Int32 × fSt)} (hf : f_X8_isShown o p0 h = some r) : fMet l yX8_isShown (wsC yX8_isShown cX8_isShown 2 (some (.boolean))) (4) (102) D cA [.ref o, .int p0] h r.2 (some (.int r.1)) := by
  exact fMet.of (own := RX8) (by decide +kernel) rfl (lva1 rfl (lva1 rfl lva0)) (lgl1 rfl (lgl1 rfl lgl0)) (Nat.le_of_ble_eq_true rfl) (fun p e s m args below meth c ls hnm _ M hC hl => by
    have hl : lv_has ls 2 [(0, va_rf (some o)), (1, .int p0)] := hl
    exact w_X8_isShown_L0 M hfl _ _ _ hf _ _ _ _ _ hC (lv_sub hl [0, 1] rfl))
set_option maxHeartbeats 4000000 in
set_option maxRecDepth 100000 in
theorem w_X8_keyPlace_L33 {p : Program} {l : Launch} {e : Env} {s : State} {m : MethodId} {args : Array Value} {below : List Frame} {meth : Method} {c : Code} {D : va_G} {cA : Nat → ClassId} {h0 : fSt} {r : (Int32 × fSt)} (M : fM p s m args meth c D cA h0 { frames := 0, cells := fCB h0 - fZ h0, slots := fLB h0 - fL h0, locals := 0 } cX8_keyPlace 4 (some (.int)) RX8) (hfl : l.stackTraces = false) (a3 : Int32) (h : fSt) (hf : f_X8_keyPlace_L33 a3 h = some r) : ∀ (H : Heap) (locs : List Loc) (cells slots : Nat) (ls : Array Slot), fCur D cA s h0 h H locs → lv_has ls 4 [(3, .int a3)] → W p l e { frames := 0, cells := fCB h0 - fZ h0, slots := fLB h0 - fL h0, locals := 0 } s m args below meth c H locs cells slots (MQ below (fQ D cA h0 r.2 (some (.int r.1))) args s (fCB h0 - fZ h0) (fLB h0 - fL h0) (fA h0)) (F0 m 33 ls []) := by
  obtain ⟨hx, hb, hml, hr, hlocks, hts, hown, K, hR⟩ := id M
  intro H locs cells slots ls hC hl
  refine lv_iload_n hx hb dX8_keyPlace_33 rfl (lv_at hl 0 rfl) ?_
  obtain rfl := Option.some.inj hf
  exact fr_iret hx hb hr hlocks hC dX8_keyPlace_34
set_option maxHeartbeats 4000000 in
set_option maxRecDepth 100000 in
theorem w_X8_keyPlace_L2 {p : Program} {l : Launch} {e : Env} {s : State} {m : MethodId} {args : Array Value} {below : List Frame} {meth : Method} {c : Code} {D : va_G} {cA : Nat → ClassId} {h0 : fSt} {r : (Int32 × fSt)} (M : fM p s m args meth c D cA h0 { frames := 0, cells := fCB h0 - fZ h0, slots := fLB h0 - fL h0, locals := 0 } cX8_keyPlace 4 (some (.int)) RX8) (hfl : l.stackTraces = false) : ∀ (n : Nat) (a0 : Option Nat) (a1 : Int32) (a2 : Int32) (a3 : Int32) (h : fSt), f_X8_keyPlace_L2 n a0 a1 a2 a3 h = some r → ∀ (H : Heap) (locs : List Loc) (cells slots : Nat) (ls : Array Slot), fCur D cA s h0 h H locs → lv_has ls 4 [(0, va_rf a0), (1, .int a1), (2, .int a2), (3, .int a3)] → W p l e { frames := 0, cells := fCB h0 - fZ h0, slots := fLB h0 - fL h0, locals := 0 } s m args below meth c H locs cells slots (MQ below (fQ D cA h0 r.2 (some (.int r.1))) args s (fCB h0 - fZ h0) (fLB h0 - fL h0) (fA h0)) (F0 m 2 ls []) := by
  obtain ⟨hx, hb, hml, hr, hlocks, hts, hown, K, hR⟩ := id M
  intro n
  induction n with
  | zero =>
    intro a0 a1 a2 a3 h hf
    exact nomatch (show (none : Option (Int32 × fSt)) = some r from hf)
  | succ n hk2 =>
    intro a0 a1 a2 a3 h hf H locs cells slots ls hC hl
    refine lv_iload_n hx hb dX8_keyPlace_2 rfl (lv_at hl 3 rfl) ?_
    refine fr_aload_n hx hb dX8_keyPlace_3 rfl (lv_at hl 0 rfl) ?_
    obtain ⟨x1, g2, hf⟩ := obind hf
    refine fr_get hx hb hts hown K hC ct_8 (fgR_get g2) (by decide) kw993 rfl dX8_keyPlace_4 ?_
    refine lv_iload_n hx hb dX8_keyPlace_7 rfl (lv_at hl 1 rfl) ?_
    obtain ⟨x3, g4, hf⟩ := obind hf
    refine fr_iald hx hb K hC (t := 0) rfl g4 dX8_keyPlace_8 ?_
    refine lv_icmp_ge (tgt := 33) hx hb dX8_keyPlace_9 (by decide) (fun c5 => ?_) (fun c5 => ?_)
    · replace hf := opos c5 hf
      exact w_X8_keyPlace_L33 M hfl _ _ hf _ _ _ _ _ hC (lv_sub hl [3] rfl)
    · replace hf := oneg c5 hf
      refine fr_aload_n hx hb dX8_keyPlace_12 rfl (lv_at hl 0 rfl) ?_
      obtain ⟨x6, g7, hf⟩ := obind hf
      refine fr_get hx hb hts hown K hC ct_8 (fgR_get g7) (by decide) kw994 rfl dX8_keyPlace_13 ?_
      refine lv_iload_n hx hb dX8_keyPlace_16 rfl (lv_at hl 1 rfl) ?_
      refine lv_bipush (v := (8 : Int32)) hx hb dX8_keyPlace_17 (by decide) ?_
      refine lv_imul hx hb dX8_keyPlace_19 ?_
      refine lv_iload_n hx hb dX8_keyPlace_20 rfl (lv_at hl 3 rfl) ?_
      refine lv_iadd hx hb dX8_keyPlace_21 ?_
      obtain ⟨x8, g9, hf⟩ := obind hf
      refine fr_iald hx hb K hC (t := 0) rfl g9 dX8_keyPlace_22 ?_
      refine lv_iload_n hx hb dX8_keyPlace_23 rfl (lv_at hl 2 rfl) ?_
      refine lv_icmp_ge (tgt := 33) hx hb dX8_keyPlace_24 (by decide) (fun c10 => ?_) (fun c10 => ?_)
      · replace hf := opos c10 hf
        exact w_X8_keyPlace_L33 M hfl _ _ hf _ _ _ _ _ hC (lv_sub hl [3] rfl)
      · replace hf := oneg c10 hf
        refine lv_iinc (v := (a3 + (1 : Int32))) (lv' := [(3, .int (a3 + (1 : Int32))), (0, va_rf a0), (1, .int a1), (2, .int a2)]) hx hb dX8_keyPlace_27 hl (k := 3) rfl rfl (by decide) (congrArg (List.cons _) (flk rfl (flk rfl (flk rfl (fld rfl fln))))) (fun ls hl => ?_)
        refine lv_goto (tgt := 2) hx hb dX8_keyPlace_30 (by decide) ?_
        exact hk2 _ _ _ _ _ hf _ _ _ _ _ hC (lv_sub hl [1, 2, 3, 0] rfl)
set_option maxHeartbeats 4000000 in
set_option maxRecDepth 100000 in
theorem w_X8_keyPlace_L0 {p : Program} {l : Launch} {e : Env} {s : State} {m : MethodId} {args : Array Value} {below : List Frame} {meth : Method} {c : Code} {D : va_G} {cA : Nat → ClassId} {h0 : fSt} {r : (Int32 × fSt)} (M : fM p s m args meth c D cA h0 { frames := 0, cells := fCB h0 - fZ h0, slots := fLB h0 - fL h0, locals := 0 } cX8_keyPlace 4 (some (.int)) RX8) (hfl : l.stackTraces = false) (a0 : Option Nat) (a1 : Int32) (a2 : Int32) (h : fSt) (hf : f_X8_keyPlace_L0 a0 a1 a2 h = some r) : ∀ (H : Heap) (locs : List Loc) (cells slots : Nat) (ls : Array Slot), fCur D cA s h0 h H locs → lv_has ls 4 [(0, va_rf a0), (1, .int a1), (2, .int a2)] → W p l e { frames := 0, cells := fCB h0 - fZ h0, slots := fLB h0 - fL h0, locals := 0 } s m args below meth c H locs cells slots (MQ below (fQ D cA h0 r.2 (some (.int r.1))) args s (fCB h0 - fZ h0) (fLB h0 - fL h0) (fA h0)) (F0 m 0 ls []) := by
  obtain ⟨hx, hb, hml, hr, hlocks, hts, hown, K, hR⟩ := id M
  intro H locs cells slots ls hC hl
  refine lv_iconst (v := (0 : Int32)) hx hb dX8_keyPlace_0 (by decide) ?_
  refine lv_istore_n (lv' := [(3, .int (0 : Int32)), (0, va_rf a0), (1, .int a1), (2, .int a2)]) hx hb dX8_keyPlace_1 rfl hl (by decide) (congrArg (List.cons _) (flk rfl (flk rfl (flk rfl fln)))) (fun ls hl => ?_)
  exact w_X8_keyPlace_L2 M hfl 4096 _ _ _ _ _ hf _ _ _ _ _ hC (lv_sub hl [1, 2, 3, 0] rfl)
set_option maxRecDepth 100000 in
theorem c_X8_keyPlace {l : Launch} (hfl : l.stackTraces = false) (D : va_G) (cA : Nat → ClassId) {o : Nat} {p0 : Int32} {p1 : Int32} {h : fSt} {r : (Int32 × fSt)} (hf : f_X8_keyPlace o p0 p1 h = some r) : fMet l yX8_keyPlace (wsC yX8_keyPlace cX8_keyPlace 4 (some (.int))) (0) (0) D cA [.ref o, .int p0, .int p1] h r.2 (some (.int r.1)) := by
  exact fMet.of (own := RX8) (by decide +kernel) rfl (lva1 rfl (lva1 rfl (lva1 rfl lva0))) (lgl1 rfl (lgl1 rfl (lgl1 rfl lgl0))) (Nat.le_of_ble_eq_true rfl) (fun p e s m args below meth c ls hnm _ M hC hl => by
    have hl : lv_has ls 4 [(0, va_rf (some o)), (1, .int p0), (2, .int p1)] := hl
    exact w_X8_keyPlace_L0 M hfl _ _ _ _ hf _ _ _ _ _ hC (lv_sub hl [0, 1, 2] rfl))
set_option maxHeartbeats 4000000 in
set_option maxRecDepth 100000 in
theorem w_X8_hasKey_L37 {p : Program} {l : Launch} {e : Env} {s : State} {m : MethodId} {args : Array Value} {below : List Frame} {meth : Method} {c : Code} {D : va_G} {cA : Nat → ClassId} {h0 : fSt} {r : (Int32 × fSt)} (M : fM p s m args meth c D cA h0 { frames := 1, cells := fCB h0 - fZ h0, slots := fLB h0 - fL h0, locals := 23 } cX8_hasKey 4 (some (.boolean)) RX8) (hfl : l.stackTraces = false) (s0 : Int32) (h : fSt) (hf : f_X8_hasKey_L37 s0 h = some r) : ∀ (H : Heap) (locs : List Loc) (cells slots : Nat) (ls : Array Slot), fCur D cA s h0 h H locs → lv_has ls 4 [] → W p l e { frames := 1, cells := fCB h0 - fZ h0, slots := fLB h0 - fL h0, locals := 23 } s m args below meth c H locs cells slots (MQ below (fQ D cA h0 r.2 (some (.int r.1))) args s (fCB h0 - fZ h0) (fLB h0 - fL h0) (fA h0)) (F0 m 37 ls [.int s0]) := by
  obtain ⟨hx, hb, hml, hr, hlocks, hts, hown, K, hR⟩ := id M
  intro H locs cells slots ls hC hl
  by_cases c1 : s0 = 0 ∨ s0 = 1
  rotate_left
  · exact nomatch (oneg c1 hf)
  obtain rfl := Option.some.inj (opos c1 hf)
  exact fr_zret hx hb hr hlocks hC c1 dX8_hasKey_37
set_option maxHeartbeats 4000000 in
set_option maxRecDepth 100000 in
theorem w_X8_hasKey_L36 {p : Program} {l : Launch} {e : Env} {s : State} {m : MethodId} {args : Array Value} {below : List Frame} {meth : Method} {c : Code} {D : va_G} {cA : Nat → ClassId} {h0 : fSt} {r : (Int32 × fSt)} (M : fM p s m args meth c D cA h0 { frames := 1, cells := fCB h0 - fZ h0, slots := fLB h0 - fL h0, locals := 23 } cX8_hasKey 4 (some (.boolean)) RX8) (hfl : l.stackTraces = false)  (h : fSt) (hf : f_X8_hasKey_L36  h = some r) : ∀ (H : Heap) (locs : List Loc) (cells slots : Nat) (ls : Array Slot), fCur D cA s h0 h H locs → lv_has ls 4 [] → W p l e { frames := 1, cells := fCB h0 - fZ h0, slots := fLB h0 - fL h0, locals := 23 } s m args below meth c H locs cells slots (MQ below (fQ D cA h0 r.2 (some (.int r.1))) args s (fCB h0 - fZ h0) (fLB h0 - fL h0) (fA h0)) (F0 m 36 ls []) := by
  obtain ⟨hx, hb, hml, hr, hlocks, hts, hown, K, hR⟩ := id M
  intro H locs cells slots ls hC hl
  refine lv_iconst (v := (0 : Int32)) hx hb dX8_hasKey_36 (by decide) ?_
  exact w_X8_hasKey_L37 M hfl _ _ hf _ _ _ _ _ hC (lv_sub hl [] rfl)
set_option maxHeartbeats 4000000 in
set_option maxRecDepth 100000 in
theorem w_X8_hasKey_L0 {p : Program} {l : Launch} {e : Env} {s : State} {m : MethodId} {args : Array Value} {below : List Frame} {meth : Method} {c : Code} {D : va_G} {cA : Nat → ClassId} {h0 : fSt} {r : (Int32 × fSt)} (M : fM p s m args meth c D cA h0 { frames := 1, cells := fCB h0 - fZ h0, slots := fLB h0 - fL h0, locals := 23 } cX8_hasKey 4 (some (.boolean)) RX8) (hfl : l.stackTraces = false) (a0 : Option Nat) (a1 : Int32) (a2 : Int32) (h : fSt) (hf : f_X8_hasKey_L0 a0 a1 a2 h = some r) : ∀ (H : Heap) (locs : List Loc) (cells slots : Nat) (ls : Array Slot), fCur D cA s h0 h H locs → lv_has ls 4 [(0, va_rf a0), (1, .int a1), (2, .int a2)] → W p l e { frames := 1, cells := fCB h0 - fZ h0, slots := fLB h0 - fL h0, locals := 23 } s m args below meth c H locs cells slots (MQ below (fQ D cA h0 r.2 (some (.int r.1))) args s (fCB h0 - fZ h0) (fLB h0 - fL h0) (fA h0)) (F0 m 0 ls []) := by
  obtain ⟨hx, hb, hml, hr, hlocks, hts, hown, K, hR⟩ := id M
  intro H locs cells slots ls hC hl
  refine fr_aload_n hx hb dX8_hasKey_0 rfl (lv_at hl 0 rfl) ?_
  refine lv_iload_n hx hb dX8_hasKey_1 rfl (lv_at hl 1 rfl) ?_
  refine lv_iload_n hx hb dX8_hasKey_2 rfl (lv_at hl 2 rfl) ?_
  obtain ⟨b4, q5, hf⟩ := obind hf
  obtain ⟨r2, g3, hf⟩ := obind hf
  refine fr_callV hx hb hml hts hown K hC hR ct_8 (c_X8_keyPlace hfl D cA g3) 2 q5 kw1181 kw1178 kw1180 kw32 kw62 (by decide +kernel) ⟨by exact Nat.le_of_ble_eq_true rfl, by exact Nat.le_of_ble_eq_true rfl⟩ rfl hl.1 (cat8 _ (by exact Nat.le_of_ble_eq_true rfl)) dX8_hasKey_3 rfl (fun H locs _ _ hC => ?_)
  refine lv_istore_n (lv' := [(3, .int r2.1), (0, va_rf a0), (1, .int a1), (2, .int a2)]) hx hb dX8_hasKey_6 rfl hl (by decide) (congrArg (List.cons _) (flk rfl (flk rfl (flk rfl fln)))) (fun ls hl => ?_)
  refine lv_iload_n hx hb dX8_hasKey_7 rfl (lv_at hl 0 rfl) ?_
  refine fr_aload_n hx hb dX8_hasKey_8 rfl (lv_at hl 1 rfl) ?_
  obtain ⟨x6, g7, hf⟩ := obind hf
  refine fr_get hx hb hts hown K hC ct_8 (fgR_get g7) (by decide) kw993 rfl dX8_hasKey_9 ?_
  refine lv_iload_n hx hb dX8_hasKey_12 rfl (lv_at hl 2 rfl) ?_
  obtain ⟨x8, g9, hf⟩ := obind hf
  refine fr_iald hx hb K hC (t := 0) rfl g9 dX8_hasKey_13 ?_
  refine lv_icmp_ge (tgt := 36) hx hb dX8_hasKey_14 (by decide) (fun c10 => ?_) (fun c10 => ?_)
  · replace hf := opos c10 hf
    exact w_X8_hasKey_L36 M hfl _ hf _ _ _ _ _ hC (lv_sub hl [] rfl)
  · replace hf := oneg c10 hf
    refine fr_aload_n hx hb dX8_hasKey_17 rfl (lv_at hl 1 rfl) ?_
    obtain ⟨x11, g12, hf⟩ := obind hf
    refine fr_get hx hb hts hown K hC ct_8 (fgR_get g12) (by decide) kw994 rfl dX8_hasKey_18 ?_
    refine lv_iload_n hx hb dX8_hasKey_21 rfl (lv_at hl 2 rfl) ?_
    refine lv_bipush (v := (8 : Int32)) hx hb dX8_hasKey_22 (by decide) ?_
    refine lv_imul hx hb dX8_hasKey_24 ?_
    refine lv_iload_n hx hb dX8_hasKey_25 rfl (lv_at hl 0 rfl) ?_
    refine lv_iadd hx hb dX8_hasKey_26 ?_
    obtain ⟨x13, g14, hf⟩ := obind hf
    refine fr_iald hx hb K hC (t := 0) rfl g14 dX8_hasKey_27 ?_
    refine lv_iload_n hx hb dX8_hasKey_28 rfl (lv_at hl 3 rfl) ?_
    refine lv_icmp_ne (tgt := 36) hx hb dX8_hasKey_29 (by decide) (fun c15 => ?_) (fun c15 => ?_)
    · replace hf := oneg c15 hf
      exact w_X8_hasKey_L36 M hfl _ hf _ _ _ _ _ hC (lv_sub hl [] rfl)
    · replace hf := opos c15 hf
      refine lv_iconst (v := (1 : Int32)) hx hb dX8_hasKey_32 (by decide) ?_
      refine lv_goto (tgt := 37) hx hb dX8_hasKey_33 (by decide) ?_
      exact w_X8_hasKey_L37 M hfl _ _ hf _ _ _ _ _ hC (lv_sub hl [] rfl)
set_option maxRecDepth 100000 in
theorem c_X8_hasKey {l : Launch} (hfl : l.stackTraces = false) (D : va_G) (cA : Nat → ClassId) {o : Nat} {p0 : Int32} {p1 : Int32} {h : fSt} {r : (Int32 × fSt)} (hf : f_X8_hasKey o p0 p1 h = some r) : fMet l yX8_hasKey (wsC yX8_hasKey cX8_hasKey 4 (some (.boolean))) (1) (23) D cA [.ref o, .int p0, .int p1] h r.2 (some (.int r.1)) := by
  exact fMet.of (own := RX8) (by decide +kernel) rfl (lva1 rfl (lva1 rfl (lva1 rfl lva0))) (lgl1 rfl (lgl1 rfl (lgl1 rfl lgl0))) (Nat.le_of_ble_eq_true rfl) (fun p e s m args below meth c ls hnm _ M hC hl => by
    have hl : lv_has ls 4 [(0, va_rf (some o)), (1, .int p0), (2, .int p1)] := hl
    exact w_X8_hasKey_L0 M hfl _ _ _ _ hf _ _ _ _ _ hC (lv_sub hl [0, 1, 2] rfl))
set_option maxHeartbeats 4000000 in
set_option maxRecDepth 100000 in
theorem w_X8_isTrack_L0 {p : Program} {l : Launch} {e : Env} {s : State} {m : MethodId} {args : Array Value} {below : List Frame} {meth : Method} {c : Code} {D : va_G} {cA : Nat → ClassId} {h0 : fSt} {r : (Int32 × fSt)} (M : fM p s m args meth c D cA h0 { frames := 1, cells := fCB h0 - fZ h0, slots := fLB h0 - fL h0, locals := 22 } cX8_isTrack 2 (some (.boolean)) RX8) (hfl : l.stackTraces = false) (a0 : Option Nat) (a1 : Int32) (h : fSt) (hf : f_X8_isTrack_L0 a0 a1 h = some r) : ∀ (H : Heap) (locs : List Loc) (cells slots : Nat) (ls : Array Slot), fCur D cA s h0 h H locs → lv_has ls 2 [(0, va_rf a0), (1, .int a1)] → W p l e { frames := 1, cells := fCB h0 - fZ h0, slots := fLB h0 - fL h0, locals := 22 } s m args below meth c H locs cells slots (MQ below (fQ D cA h0 r.2 (some (.int r.1))) args s (fCB h0 - fZ h0) (fLB h0 - fL h0) (fA h0)) (F0 m 0 ls []) := by
  obtain ⟨hx, hb, hml, hr, hlocks, hts, hown, K, hR⟩ := id M
  intro H locs cells slots ls hC hl
  refine lv_iload_n hx hb dX8_isTrack_0 rfl (lv_at hl 1 rfl) ?_
  refine lv_iconst (v := (0 : Int32)) hx hb dX8_isTrack_1 (by decide) ?_
  refine fr_aload_n hx hb dX8_isTrack_2 rfl (lv_at hl 0 rfl) ?_
  obtain ⟨x1, g2, hf⟩ := obind hf
  refine fr_get hx hb hts hown K hC ct_8 (fgI_get g2) (by decide) kw988 rfl dX8_isTrack_3 ?_
  refine lv_iconst (v := (1 : Int32)) hx hb dX8_isTrack_6 (by decide) ?_
  refine lv_isub hx hb dX8_isTrack_7 ?_
  obtain ⟨r3, g4, hf⟩ := obind hf
  refine fr_callS hx hb hml hts hown K hC hR (c_X8_isIn hfl D cA g4) 3 kw1066 kw1064 kw1065 kw62 (by decide +kernel) ⟨by exact Nat.le_of_ble_eq_true rfl, by exact Nat.le_of_ble_eq_true rfl⟩ rfl hl.1 (cat8 _ (by exact Nat.le_of_ble_eq_true rfl)) dX8_isTrack_8 rfl (fun H locs _ _ hC => ?_)
  by_cases c5 : r3.1 = 0 ∨ r3.1 = 1
  rotate_left
  · exact nomatch (oneg c5 hf)
  obtain rfl := Option.some.inj (opos c5 hf)
  exact fr_zret hx hb hr hlocks hC c5 dX8_isTrack_11
set_option maxRecDepth 100000 in
theorem c_X8_isTrack {l : Launch} (hfl : l.stackTraces = false) (D : va_G) (cA : Nat → ClassId) {o : Nat} {p0 : Int32} {h : fSt} {r : (Int32 × fSt)} (hf : f_X8_isTrack o p0 h = some r) : fMet l yX8_isTrack (wsC yX8_isTrack cX8_isTrack 2 (some (.boolean))) (1) (22) D cA [.ref o, .int p0] h r.2 (some (.int r.1)) := by
  exact fMet.of (own := RX8) (by decide +kernel) rfl (lva1 rfl (lva1 rfl lva0)) (lgl1 rfl (lgl1 rfl lgl0)) (Nat.le_of_ble_eq_true rfl) (fun p e s m args below meth c ls hnm _ M hC hl => by
    have hl : lv_has ls 2 [(0, va_rf (some o)), (1, .int p0)] := hl
    exact w_X8_isTrack_L0 M hfl _ _ _ hf _ _ _ _ _ hC (lv_sub hl [0, 1] rfl))
set_option maxHeartbeats 4000000 in
set_option maxRecDepth 100000 in
theorem w_X8_isValue_L0 {p : Program} {l : Launch} {e : Env} {s : State} {m : MethodId} {args : Array Value} {below : List Frame} {meth : Method} {c : Code} {D : va_G} {cA : Nat → ClassId} {h0 : fSt} {r : (Int32 × fSt)} (M : fM p s m args meth c D cA h0 { frames := 1, cells := fCB h0 - fZ h0, slots := fLB h0 - fL h0, locals := 22 } cX8_isValue 2 (some (.boolean)) RX8) (hfl : l.stackTraces = false) (a0 : Int32) (a1 : Int32) (h : fSt) (hf : f_X8_isValue_L0 a0 a1 h = some r) : ∀ (H : Heap) (locs : List Loc) (cells slots : Nat) (ls : Array Slot), fCur D cA s h0 h H locs → lv_has ls 2 [(0, .int a0), (1, .int a1)] → W p l e { frames := 1, cells := fCB h0 - fZ h0, slots := fLB h0 - fL h0, locals := 22 } s m args below meth c H locs cells slots (MQ below (fQ D cA h0 r.2 (some (.int r.1))) args s (fCB h0 - fZ h0) (fLB h0 - fL h0) (fA h0)) (F0 m 0 ls []) := by
  obtain ⟨hx, hb, hml, hr, hlocks, hts, hown, K, hR⟩ := id M
  intro H locs cells slots ls hC hl
  refine lv_iload_n hx hb dX8_isValue_0 rfl (lv_at hl 0 rfl) ?_
  by_cases c1 : a0 = (2 : Int32)
  · replace hf := opos c1 hf
    refine lv_lookup (off := 27) (tgt := 28) hx hb dX8_isValue_1 (by decide) (by rw [c1]; decide) (by decide) ?_
    refine lv_iload_n hx hb dX8_isValue_28 rfl (lv_at hl 1 rfl) ?_
    refine lv_iconst (v := (0 : Int32)) hx hb dX8_isValue_29 (by decide) ?_
    refine lv_iconst (v := (3 : Int32)) hx hb dX8_isValue_30 (by decide) ?_
    obtain ⟨r2, g3, hf⟩ := obind hf
    refine fr_callS hx hb hml hts hown K hC hR (c_X8_isIn hfl D cA g3) 3 kw1066 kw1064 kw1065 kw62 (by decide +kernel) ⟨by exact Nat.le_of_ble_eq_true rfl, by exact Nat.le_of_ble_eq_true rfl⟩ rfl hl.1 (cat8 _ (by exact Nat.le_of_ble_eq_true rfl)) dX8_isValue_31 rfl (fun H locs _ _ hC => ?_)
    by_cases c4 : r2.1 = 0 ∨ r2.1 = 1
    rotate_left
    · exact nomatch (oneg c4 hf)
    obtain rfl := Option.some.inj (opos c4 hf)
    exact fr_zret hx hb hr hlocks hC c4 dX8_isValue_34
  replace hf := oneg c1 hf
  by_cases c5 : a0 = (3 : Int32)
  · replace hf := opos c5 hf
    refine lv_lookup (off := 34) (tgt := 35) hx hb dX8_isValue_1 (by decide) (by rw [c5]; decide) (by decide) ?_
    refine lv_iload_n hx hb dX8_isValue_35 rfl (lv_at hl 1 rfl) ?_
    refine lv_iconst (v := (0 : Int32)) hx hb dX8_isValue_36 (by decide) ?_
    refine lv_bipush (v := (100 : Int32)) hx hb dX8_isValue_37 (by decide) ?_
    obtain ⟨r6, g7, hf⟩ := obind hf
    refine fr_callS hx hb hml hts hown K hC hR (c_X8_isIn hfl D cA g7) 3 kw1066 kw1064 kw1065 kw62 (by decide +kernel) ⟨by exact Nat.le_of_ble_eq_true rfl, by exact Nat.le_of_ble_eq_true rfl⟩ rfl hl.1 (cat8 _ (by exact Nat.le_of_ble_eq_true rfl)) dX8_isValue_39 rfl (fun H locs _ _ hC => ?_)
    by_cases c8 : r6.1 = 0 ∨ r6.1 = 1
    rotate_left
    · exact nomatch (oneg c8 hf)
    obtain rfl := Option.some.inj (opos c8 hf)
    exact fr_zret hx hb hr hlocks hC c8 dX8_isValue_42
  replace hf := oneg c5 hf
  refine lv_lookup (off := 42) (tgt := 43) hx hb dX8_isValue_1 (by decide) (by show Op.lookupswitch.offset [(2, 27), (3, 34)] _ _ = _; rw [lv_osw c1 (by decide), lv_osw c5 (by decide)]; rfl) (by decide) ?_
  refine lv_iload_n hx hb dX8_isValue_43 rfl (lv_at hl 1 rfl) ?_
  refine lv_sipush (v := (-200 : Int32)) hx hb dX8_isValue_44 (by decide) ?_
  refine lv_sipush (v := (200 : Int32)) hx hb dX8_isValue_47 (by decide) ?_
  obtain ⟨r9, g10, hf⟩ := obind hf
  refine fr_callS hx hb hml hts hown K hC hR (c_X8_isIn hfl D cA g10) 3 kw1066 kw1064 kw1065 kw62 (by decide +kernel) ⟨by exact Nat.le_of_ble_eq_true rfl, by exact Nat.le_of_ble_eq_true rfl⟩ rfl hl.1 (cat8 _ (by exact Nat.le_of_ble_eq_true rfl)) dX8_isValue_50 rfl (fun H locs _ _ hC => ?_)
  by_cases c11 : r9.1 = 0 ∨ r9.1 = 1
  rotate_left
  · exact nomatch (oneg c11 hf)
  obtain rfl := Option.some.inj (opos c11 hf)
  exact fr_zret hx hb hr hlocks hC c11 dX8_isValue_53
set_option maxRecDepth 100000 in
theorem c_X8_isValue {l : Launch} (hfl : l.stackTraces = false) (D : va_G) (cA : Nat → ClassId) {p0 : Int32} {p1 : Int32} {h : fSt} {r : (Int32 × fSt)} (hf : f_X8_isValue p0 p1 h = some r) : fMet l yX8_isValue (wsC yX8_isValue cX8_isValue 2 (some (.boolean))) (1) (22) D cA [.int p0, .int p1] h r.2 (some (.int r.1)) := by
  exact fMet.of (own := RX8) (by decide +kernel) rfl (lva1 rfl (lva1 rfl lva0)) (lgl1 rfl (lgl1 rfl lgl0)) (Nat.le_of_ble_eq_true rfl) (fun p e s m args below meth c ls hnm _ M hC hl => by
    have hl : lv_has ls 2 [(0, .int p0), (1, .int p1)] := hl
    exact w_X8_isValue_L0 M hfl _ _ _ hf _ _ _ _ _ hC (lv_sub hl [0, 1] rfl))
set_option maxHeartbeats 4000000 in
set_option maxRecDepth 100000 in
theorem w_X8_key_L43 {p : Program} {l : Launch} {e : Env} {s : State} {m : MethodId} {args : Array Value} {below : List Frame} {meth : Method} {c : Code} {D : va_G} {cA : Nat → ClassId} {h0 : fSt} {r : (Int32 × fSt)} (M : fM p s m args meth c D cA h0 { frames := 2, cells := fCB h0 - fZ h0, slots := fLB h0 - fL h0, locals := 46 } cX8_key 6 (some (.int)) RX8) (hfl : l.stackTraces = false) (a0 : Option Nat) (h : fSt) (hf : f_X8_key_L43 a0 h = some r) : ∀ (H : Heap) (locs : List Loc) (cells slots : Nat) (ls : Array Slot), fCur D cA s h0 h H locs → lv_has ls 6 [(0, va_rf a0)] → W p l e { frames := 2, cells := fCB h0 - fZ h0, slots := fLB h0 - fL h0, locals := 46 } s m args below meth c H locs cells slots (MQ below (fQ D cA h0 r.2 (some (.int r.1))) args s (fCB h0 - fZ h0) (fLB h0 - fL h0) (fA h0)) (F0 m 43 ls []) := by
  obtain ⟨hx, hb, hml, hr, hlocks, hts, hown, K, hR⟩ := id M
  intro H locs cells slots ls hC hl
  refine fr_aload_n hx hb dX8_key_43 rfl (lv_at hl 0 rfl) ?_
  refine lv_iconst (v := (2 : Int32)) hx hb dX8_key_44 (by decide) ?_
  obtain ⟨b3, q4, hf⟩ := obind hf
  obtain ⟨r1, g2, hf⟩ := obind hf
  refine fr_callV hx hb hml hts hown K hC hR ct_8 (c_X8_no hfl D cA g2) 1 q4 kw1070 kw1067 kw1069 kw21 kw62 (by decide +kernel) ⟨by exact Nat.le_of_ble_eq_true rfl, by exact Nat.le_of_ble_eq_true rfl⟩ rfl hl.1 (cat8 _ (by exact Nat.le_of_ble_eq_true rfl)) dX8_key_45 rfl (fun H locs _ _ hC => ?_)
  obtain rfl := Option.some.inj hf
  exact fr_iret hx hb hr hlocks hC dX8_key_48
set_option maxHeartbeats 4000000 in
set_option maxRecDepth 100000 in
theorem w_X8_key_L83 {p : Program} {l : Launch} {e : Env} {s : State} {m : MethodId} {args : Array Value} {below : List Frame} {meth : Method} {c : Code} {D : va_G} {cA : Nat → ClassId} {h0 : fSt} {r : (Int32 × fSt)} (M : fM p s m args meth c D cA h0 { frames := 2, cells := fCB h0 - fZ h0, slots := fLB h0 - fL h0, locals := 46 } cX8_key 6 (some (.int)) RX8) (hfl : l.stackTraces = false) (a0 : Option Nat) (h : fSt) (hf : f_X8_key_L83 a0 h = some r) : ∀ (H : Heap) (locs : List Loc) (cells slots : Nat) (ls : Array Slot), fCur D cA s h0 h H locs → lv_has ls 6 [(0, va_rf a0)] → W p l e { frames := 2, cells := fCB h0 - fZ h0, slots := fLB h0 - fL h0, locals := 46 } s m args below meth c H locs cells slots (MQ below (fQ D cA h0 r.2 (some (.int r.1))) args s (fCB h0 - fZ h0) (fLB h0 - fL h0) (fA h0)) (F0 m 83 ls []) := by
  obtain ⟨hx, hb, hml, hr, hlocks, hts, hown, K, hR⟩ := id M
  intro H locs cells slots ls hC hl
  refine fr_aload_n hx hb dX8_key_83 rfl (lv_at hl 0 rfl) ?_
  refine lv_iconst (v := (3 : Int32)) hx hb dX8_key_84 (by decide) ?_
  obtain ⟨b7, q8, hf⟩ := obind hf
  obtain ⟨r5, g6, hf⟩ := obind hf
  refine fr_callV hx hb hml hts hown K hC hR ct_8 (c_X8_no hfl D cA g6) 1 q8 kw1070 kw1067 kw1069 kw21 kw62 (by decide +kernel) ⟨by exact Nat.le_of_ble_eq_true rfl, by exact Nat.le_of_ble_eq_true rfl⟩ rfl hl.1 (cat8 _ (by exact Nat.le_of_ble_eq_true rfl)) dX8_key_85 rfl (fun H locs _ _ hC => ?_)
  obtain rfl := Option.some.inj hf
  exact fr_iret hx hb hr hlocks hC dX8_key_88
set_option maxHeartbeats 4000000 in
set_option maxRecDepth 100000 in
theorem w_X8_key_L182 {p : Program} {l : Launch} {e : Env} {s : State} {m : MethodId} {args : Array Value} {below : List Frame} {meth : Method} {c : Code} {D : va_G} {cA : Nat → ClassId} {h0 : fSt} {r : (Int32 × fSt)} (M : fM p s m args meth c D cA h0 { frames := 2, cells := fCB h0 - fZ h0, slots := fLB h0 - fL h0, locals := 46 } cX8_key 6 (some (.int)) RX8) (hfl : l.stackTraces = false) (a0 : Option Nat) (a1 : Int32) (a2 : Int32) (a3 : Int32) (a4 : Int32) (h : fSt) (hf : f_X8_key_L182 a0 a1 a2 a3 a4 h = some r) : ∀ (H : Heap) (locs : List Loc) (cells slots : Nat) (ls : Array Slot), fCur D cA s h0 h H locs → lv_has ls 6 [(0, va_rf a0), (1, .int a1), (2, .int a2), (3, .int a3), (4, .int a4)] → W p l e { frames := 2, cells := fCB h0 - fZ h0, slots := fLB h0 - fL h0, locals := 46 } s m args below meth c H locs cells slots (MQ below (fQ D cA h0 r.2 (some (.int r.1))) args s (fCB h0 - fZ h0) (fLB h0 - fL h0) (fA h0)) (F0 m 182 ls []) := by
  obtain ⟨hx, hb, hml, hr, hlocks, hts, hown, K, hR⟩ := id M
  intro H locs cells slots ls hC hl
  refine fr_aload_n hx hb dX8_key_182 rfl (lv_at hl 0 rfl) ?_
  obtain ⟨x9, g10, hf⟩ := obind hf
  refine fr_get hx hb hts hown K hC ct_8 (fgR_get g10) (by decide) kw994 rfl dX8_key_183 ?_
  refine lv_iload hx hb dX8_key_186 (lv_at hl 4 rfl) ?_
  refine lv_iload_n hx hb dX8_key_188 rfl (lv_at hl 2 rfl) ?_
  obtain ⟨h11, g12, hf⟩ := obind hf
  refine fr_iast hx hb K hC (t := 0) rfl g12 dX8_key_189 (fun H locs hC => ?_)
  refine fr_aload_n hx hb dX8_key_190 rfl (lv_at hl 0 rfl) ?_
  obtain ⟨x13, g14, hf⟩ := obind hf
  refine fr_get hx hb hts hown K hC ct_8 (fgR_get g14) (by decide) kw995 rfl dX8_key_191 ?_
  refine lv_iload hx hb dX8_key_194 (lv_at hl 4 rfl) ?_
  refine lv_iload_n hx hb dX8_key_196 rfl (lv_at hl 3 rfl) ?_
  obtain ⟨h15, g16, hf⟩ := obind hf
  refine fr_iast hx hb K hC (t := 0) rfl g16 dX8_key_197 (fun H locs hC => ?_)
  refine fr_aload_n hx hb dX8_key_198 rfl (lv_at hl 0 rfl) ?_
  obtain ⟨x17, g18, hf⟩ := obind hf
  refine fr_get hx hb hts hown K hC ct_8 (fgR_get g18) (by decide) kw993 rfl dX8_key_199 ?_
  refine lv_iload_n hx hb dX8_key_202 rfl (lv_at hl 1 rfl) ?_
  obtain ⟨x19, g20, hf⟩ := obind hf
  refine fr_iald hx hb K hC (t := 0) rfl g20 dX8_key_203 ?_
  obtain rfl := Option.some.inj hf
  exact fr_iret hx hb hr hlocks hC dX8_key_204
set_option maxHeartbeats 4000000 in
set_option maxRecDepth 100000 in
theorem w_X8_key_L89 {p : Program} {l : Launch} {e : Env} {s : State} {m : MethodId} {args : Array Value} {below : List Frame} {meth : Method} {c : Code} {D : va_G} {cA : Nat → ClassId} {h0 : fSt} {r : (Int32 × fSt)} (M : fM p s m args meth c D cA h0 { frames := 2, cells := fCB h0 - fZ h0, slots := fLB h0 - fL h0, locals := 46 } cX8_key 6 (some (.int)) RX8) (hfl : l.stackTraces = false) (a0 : Option Nat) (a1 : Int32) (a2 : Int32) (a3 : Int32) (h : fSt) (hf : f_X8_key_L89 a0 a1 a2 a3 h = some r) : ∀ (H : Heap) (locs : List Loc) (cells slots : Nat) (ls : Array Slot), fCur D cA s h0 h H locs → lv_has ls 6 [(0, va_rf a0), (1, .int a1), (2, .int a2), (3, .int a3)] → W p l e { frames := 2, cells := fCB h0 - fZ h0, slots := fLB h0 - fL h0, locals := 46 } s m args below meth c H locs cells slots (MQ below (fQ D cA h0 r.2 (some (.int r.1))) args s (fCB h0 - fZ h0) (fLB h0 - fL h0) (fA h0)) (F0 m 89 ls []) := by
  obtain ⟨hx, hb, hml, hr, hlocks, hts, hown, K, hR⟩ := id M
  intro H locs cells slots ls hC hl
  refine lv_iload_n hx hb dX8_key_89 rfl (lv_at hl 1 rfl) ?_
  refine lv_bipush (v := (8 : Int32)) hx hb dX8_key_90 (by decide) ?_
  refine lv_imul hx hb dX8_key_92 ?_
  refine fr_aload_n hx hb dX8_key_93 rfl (lv_at hl 0 rfl) ?_
  refine lv_iload_n hx hb dX8_key_94 rfl (lv_at hl 1 rfl) ?_
  refine lv_iload_n hx hb dX8_key_95 rfl (lv_at hl 2 rfl) ?_
  obtain ⟨b23, q24, hf⟩ := obind hf
  obtain ⟨r21, g22, hf⟩ := obind hf
  refine fr_callV hx hb hml hts hown K hC hR ct_8 (c_X8_keyPlace hfl D cA g22) 2 q24 kw1181 kw1178 kw1180 kw32 kw62 (by decide +kernel) ⟨by exact Nat.le_of_ble_eq_true rfl, by exact Nat.le_of_ble_eq_true rfl⟩ rfl hl.1 (cat8 _ (by exact Nat.le_of_ble_eq_true rfl)) dX8_key_96 rfl (fun H locs _ _ hC => ?_)
  refine lv_iadd hx hb dX8_key_99 ?_
  refine lv_istore (lv' := [(4, .int ((a1 * (8 : Int32)) + r21.1)), (0, va_rf a0), (1, .int a1), (2, .int a2), (3, .int a3)]) hx hb dX8_key_100 hl (by decide) (congrArg (List.cons _) (flk rfl (flk rfl (flk rfl (flk rfl fln))))) (fun ls hl => ?_)
  refine fr_aload_n hx hb dX8_key_102 rfl (lv_at hl 1 rfl) ?_
  refine lv_iload_n hx hb dX8_key_103 rfl (lv_at hl 2 rfl) ?_
  refine lv_iload_n hx hb dX8_key_104 rfl (lv_at hl 3 rfl) ?_
  obtain ⟨b27, q28, hf⟩ := obind hf
  obtain ⟨r25, g26, hf⟩ := obind hf
  refine fr_callV hx hb hml hts hown K hC hR ct_8 (c_X8_hasKey hfl D cA g26) 2 q28 kw1177 kw1174 kw1176 kw31 kw62 (by decide +kernel) ⟨by exact Nat.le_of_ble_eq_true rfl, by exact Nat.le_of_ble_eq_true rfl⟩ rfl hl.1 (cat8 _ (by exact Nat.le_of_ble_eq_true rfl)) dX8_key_105 rfl (fun H locs _ _ hC => ?_)
  refine lv_if_ne (tgt := 182) hx hb dX8_key_108 (by decide) (fun c29 => ?_) (fun c29 => ?_)
  · replace hf := oneg c29 hf
    exact w_X8_key_L182 M hfl _ _ _ _ _ _ hf _ _ _ _ _ hC (lv_sub hl [1, 2, 3, 4, 0] rfl)
  · replace hf := opos c29 hf
    refine lv_iload hx hb dX8_key_111 (lv_at hl 0 rfl) ?_
    refine lv_iload_n hx hb dX8_key_113 rfl (lv_at hl 2 rfl) ?_
    refine lv_bipush (v := (8 : Int32)) hx hb dX8_key_114 (by decide) ?_
    refine lv_imul hx hb dX8_key_116 ?_
    refine lv_isub hx hb dX8_key_117 ?_
    refine lv_istore (lv' := [(5, .int (((a1 * (8 : Int32)) + r21.1) - (a1 * (8 : Int32)))), (4, .int ((a1 * (8 : Int32)) + r21.1)), (0, va_rf a0), (1, .int a1), (2, .int a2), (3, .int a3)]) hx hb dX8_key_118 hl (by decide) (congrArg (List.cons _) (flk rfl (flk rfl (flk rfl (flk rfl (flk rfl fln)))))) (fun ls hl => ?_)
    refine fr_aload_n hx hb dX8_key_120 rfl (lv_at hl 2 rfl) ?_
    obtain ⟨x30, g31, hf⟩ := obind hf
    refine fr_get hx hb hts hown K hC ct_8 (fgR_get g31) (by decide) kw994 rfl dX8_key_121 ?_
    refine lv_iload hx hb dX8_key_124 (lv_at hl 1 rfl) ?_
    refine fr_aload_n hx hb dX8_key_126 rfl (lv_at hl 2 rfl) ?_
    obtain ⟨x32, g33, hf⟩ := obind hf
    refine fr_get hx hb hts hown K hC ct_8 (fgR_get g33) (by decide) kw994 rfl dX8_key_127 ?_
    refine lv_iload hx hb dX8_key_130 (lv_at hl 1 rfl) ?_
    refine lv_iconst (v := (1 : Int32)) hx hb dX8_key_132 (by decide) ?_
    refine lv_iadd hx hb dX8_key_133 ?_
    refine fr_aload_n hx hb dX8_key_134 rfl (lv_at hl 2 rfl) ?_
    obtain ⟨x34, g35, hf⟩ := obind hf
    refine fr_get hx hb hts hown K hC ct_8 (fgR_get g35) (by decide) kw993 rfl dX8_key_135 ?_
    refine lv_iload_n hx hb dX8_key_138 rfl (lv_at hl 3 rfl) ?_
    obtain ⟨x36, g37, hf⟩ := obind hf
    refine fr_iald hx hb K hC (t := 0) rfl g37 dX8_key_139 ?_
    refine lv_iload hx hb dX8_key_140 (lv_at hl 0 rfl) ?_
    refine lv_isub hx hb dX8_key_142 ?_
    obtain ⟨h38, g39, hf⟩ := obind hf
    refine fr_copyi hx hb hml hts hown K hC kw1116 kw1118 kw1117 kw70 (t := 0) rfl g39 hl.1 (by exact Nat.le_of_ble_eq_true rfl) (catL _ _ (by exact Nat.le_of_ble_eq_true rfl) (by exact Nat.le_of_ble_eq_true rfl)) dX8_key_143 (fun H locs hC => ?_)
    refine fr_aload_n hx hb dX8_key_146 rfl (lv_at hl 2 rfl) ?_
    obtain ⟨x40, g41, hf⟩ := obind hf
    refine fr_get hx hb hts hown K hC ct_8 (fgR_get g41) (by decide) kw995 rfl dX8_key_147 ?_
    refine lv_iload hx hb dX8_key_150 (lv_at hl 1 rfl) ?_
    refine fr_aload_n hx hb dX8_key_152 rfl (lv_at hl 2 rfl) ?_
    obtain ⟨x42, g43, hf⟩ := obind hf
    refine fr_get hx hb hts hown K hC ct_8 (fgR_get g43) (by decide) kw995 rfl dX8_key_153 ?_
    refine lv_iload hx hb dX8_key_156 (lv_at hl 1 rfl) ?_
    refine lv_iconst (v := (1 : Int32)) hx hb dX8_key_158 (by decide) ?_
    refine lv_iadd hx hb dX8_key_159 ?_
    refine fr_aload_n hx hb dX8_key_160 rfl (lv_at hl 2 rfl) ?_
    obtain ⟨x44, g45, hf⟩ := obind hf
    refine fr_get hx hb hts hown K hC ct_8 (fgR_get g45) (by decide) kw993 rfl dX8_key_161 ?_
    refine lv_iload_n hx hb dX8_key_164 rfl (lv_at hl 3 rfl) ?_
    obtain ⟨x46, g47, hf⟩ := obind hf
    refine fr_iald hx hb K hC (t := 0) rfl g47 dX8_key_165 ?_
    refine lv_iload hx hb dX8_key_166 (lv_at hl 0 rfl) ?_
    refine lv_isub hx hb dX8_key_168 ?_
    obtain ⟨h48, g49, hf⟩ := obind hf
    refine fr_copyi hx hb hml hts hown K hC kw1116 kw1118 kw1117 kw70 (t := 0) rfl g49 hl.1 (by exact Nat.le_of_ble_eq_true rfl) (catL _ _ (by exact Nat.le_of_ble_eq_true rfl) (by exact Nat.le_of_ble_eq_true rfl)) dX8_key_169 (fun H locs hC => ?_)
    refine fr_aload_n hx hb dX8_key_172 rfl (lv_at hl 2 rfl) ?_
    obtain ⟨x50, g51, hf⟩ := obind hf
    refine fr_get hx hb hts hown K hC ct_8 (fgR_get g51) (by decide) kw993 rfl dX8_key_173 ?_
    refine lv_iload_n hx hb dX8_key_176 rfl (lv_at hl 3 rfl) ?_
    refine lv_dup2_11 hx hb dX8_key_177 rfl (va_rf_cat _) ?_
    obtain ⟨x52, g53, hf⟩ := obind hf
    refine fr_iald hx hb K hC (t := 0) rfl g53 dX8_key_178 ?_
    refine lv_iconst (v := (1 : Int32)) hx hb dX8_key_179 (by decide) ?_
    refine lv_iadd hx hb dX8_key_180 ?_
    obtain ⟨h54, g55, hf⟩ := obind hf
    refine fr_iast hx hb K hC (t := 0) rfl g55 dX8_key_181 (fun H locs hC => ?_)
    exact w_X8_key_L182 M hfl _ _ _ _ _ _ hf _ _ _ _ _ hC (lv_sub hl [2, 3, 4, 5, 1] rfl)
set_option maxHeartbeats 4000000 in
set_option maxRecDepth 100000 in
theorem w_X8_key_L0 {p : Program} {l : Launch} {e : Env} {s : State} {m : MethodId} {args : Array Value} {below : List Frame} {meth : Method} {c : Code} {D : va_G} {cA : Nat → ClassId} {h0 : fSt} {r : (Int32 × fSt)} (M : fM p s m args meth c D cA h0 { frames := 2, cells := fCB h0 - fZ h0, slots := fLB h0 - fL h0, locals := 46 } cX8_key 6 (some (.int)) RX8) (hfl : l.stackTraces = false) (a0 : Option Nat) (a1 : Int32) (a2 : Int32) (a3 : Int32) (h : fSt) (hf : f_X8_key_L0 a0 a1 a2 a3 h = some r) : ∀ (H : Heap) (locs : List Loc) (cells slots : Nat) (ls : Array Slot), fCur D cA s h0 h H locs → lv_has ls 6 [(0, va_rf a0), (1, .int a1), (2, .int a2), (3, .int a3)] → W p l e { frames := 2, cells := fCB h0 - fZ h0, slots := fLB h0 - fL h0, locals := 46 } s m args below meth c H locs cells slots (MQ below (fQ D cA h0 r.2 (some (.int r.1))) args s (fCB h0 - fZ h0) (fLB h0 - fL h0) (fA h0)) (F0 m 0 ls []) := by
  obtain ⟨hx, hb, hml, hr, hlocks, hts, hown, K, hR⟩ := id M
  intro H locs cells slots ls hC hl
  refine fr_aload_n hx hb dX8_key_0 rfl (lv_at hl 0 rfl) ?_
  refine lv_iconst (v := (0 : Int32)) hx hb dX8_key_1 (by decide) ?_
  obtain ⟨h56, g57, hf⟩ := obind hf
  refine fr_put hx hb hts hown K hC ct_8 g57 (by decide) kw971 rfl rfl rfl rfl dX8_key_2 (fun H locs hC => ?_)
  refine fr_aload_n hx hb dX8_key_5 rfl (lv_at hl 0 rfl) ?_
  refine lv_iload_n hx hb dX8_key_6 rfl (lv_at hl 1 rfl) ?_
  obtain ⟨b60, q61, hf⟩ := obind hf
  obtain ⟨r58, g59, hf⟩ := obind hf
  refine fr_callV hx hb hml hts hown K hC hR ct_8 (c_X8_isTrack hfl D cA g59) 1 q61 kw1170 kw1167 kw1169 kw30 kw62 (by decide +kernel) ⟨by exact Nat.le_of_ble_eq_true rfl, by exact Nat.le_of_ble_eq_true rfl⟩ rfl hl.1 (cat8 _ (by exact Nat.le_of_ble_eq_true rfl)) dX8_key_7 rfl (fun H locs _ _ hC => ?_)
  refine lv_if_ne (tgt := 19) hx hb dX8_key_10 (by decide) (fun c62 => ?_) (fun c62 => ?_)
  · replace hf := oneg c62 hf
    refine lv_iload_n hx hb dX8_key_19 rfl (lv_at hl 2 rfl) ?_
    refine lv_iconst (v := (0 : Int32)) hx hb dX8_key_20 (by decide) ?_
    refine lv_sipush (v := (999 : Int32)) hx hb dX8_key_21 (by decide) ?_
    obtain ⟨r63, g64, hf⟩ := obind hf
    refine fr_callS hx hb hml hts hown K hC hR (c_X8_isIn hfl D cA g64) 3 kw1066 kw1064 kw1065 kw62 (by decide +kernel) ⟨by exact Nat.le_of_ble_eq_true rfl, by exact Nat.le_of_ble_eq_true rfl⟩ rfl hl.1 (cat8 _ (by exact Nat.le_of_ble_eq_true rfl)) dX8_key_24 rfl (fun H locs _ _ hC => ?_)
    refine lv_if_eq (tgt := 43) hx hb dX8_key_27 (by decide) (fun c65 => ?_) (fun c65 => ?_)
    · replace hf := opos c65 hf
      exact w_X8_key_L43 M hfl _ _ hf _ _ _ _ _ hC (lv_sub hl [0] rfl)
    · replace hf := oneg c65 hf
      refine fr_aload_n hx hb dX8_key_30 rfl (lv_at hl 0 rfl) ?_
      obtain ⟨x66, g67, hf⟩ := obind hf
      refine fr_get hx hb hts hown K hC ct_8 (fgR_get g67) (by decide) kw990 rfl dX8_key_31 ?_
      refine lv_iload_n hx hb dX8_key_34 rfl (lv_at hl 1 rfl) ?_
      obtain ⟨x68, g69, hf⟩ := obind hf
      refine fr_iald hx hb K hC (t := 0) rfl g69 dX8_key_35 ?_
      refine lv_iload_n hx hb dX8_key_36 rfl (lv_at hl 3 rfl) ?_
      obtain ⟨r70, g71, hf⟩ := obind hf
      refine fr_callS hx hb hml hts hown K hC hR (c_X8_isValue hfl D cA g71) 2 kw1173 kw1171 kw1172 kw62 (by decide +kernel) ⟨by exact Nat.le_of_ble_eq_true rfl, by exact Nat.le_of_ble_eq_true rfl⟩ rfl hl.1 (cat8 _ (by exact Nat.le_of_ble_eq_true rfl)) dX8_key_37 rfl (fun H locs _ _ hC => ?_)
      refine lv_if_ne (tgt := 49) hx hb dX8_key_40 (by decide) (fun c72 => ?_) (fun c72 => ?_)
      · replace hf := oneg c72 hf
        refine fr_aload_n hx hb dX8_key_49 rfl (lv_at hl 0 rfl) ?_
        obtain ⟨x73, g74, hf⟩ := obind hf
        refine fr_get hx hb hts hown K hC ct_8 (fgR_get g74) (by decide) kw973 rfl dX8_key_50 ?_
        refine fr_aload_n hx hb dX8_key_53 rfl (lv_at hl 0 rfl) ?_
        obtain ⟨x75, g76, hf⟩ := obind hf
        refine fr_get hx hb hts hown K hC ct_8 (fgR_get g76) (by decide) kw989 rfl dX8_key_54 ?_
        refine lv_iload_n hx hb dX8_key_57 rfl (lv_at hl 1 rfl) ?_
        obtain ⟨x77, g78, hf⟩ := obind hf
        refine fr_iald hx hb K hC (t := 0) rfl g78 dX8_key_58 ?_
        obtain ⟨x79, g80, hf⟩ := obind hf
        refine fr_zald hx hb K hC (t := 2) rfl g80 dX8_key_59 ?_
        refine lv_if_ne (tgt := 83) hx hb dX8_key_60 (by decide) (fun c81 => ?_) (fun c81 => ?_)
        · replace hf := oneg c81 hf
          exact w_X8_key_L83 M hfl _ _ hf _ _ _ _ _ hC (lv_sub hl [0] rfl)
        · replace hf := opos c81 hf
          refine fr_aload_n hx hb dX8_key_63 rfl (lv_at hl 0 rfl) ?_
          obtain ⟨x82, g83, hf⟩ := obind hf
          refine fr_get hx hb hts hown K hC ct_8 (fgR_get g83) (by decide) kw993 rfl dX8_key_64 ?_
          refine lv_iload_n hx hb dX8_key_67 rfl (lv_at hl 1 rfl) ?_
          obtain ⟨x84, g85, hf⟩ := obind hf
          refine fr_iald hx hb K hC (t := 0) rfl g85 dX8_key_68 ?_
          refine lv_bipush (v := (8 : Int32)) hx hb dX8_key_69 (by decide) ?_
          refine lv_icmp_ne (tgt := 89) hx hb dX8_key_71 (by decide) (fun c86 => ?_) (fun c86 => ?_)
          · replace hf := oneg c86 hf
            exact w_X8_key_L89 M hfl _ _ _ _ _ hf _ _ _ _ _ hC (lv_sub hl [0, 1, 2, 3] rfl)
          · replace hf := opos c86 hf
            refine fr_aload_n hx hb dX8_key_74 rfl (lv_at hl 0 rfl) ?_
            refine lv_iload_n hx hb dX8_key_75 rfl (lv_at hl 1 rfl) ?_
            refine lv_iload_n hx hb dX8_key_76 rfl (lv_at hl 2 rfl) ?_
            obtain ⟨b89, q90, hf⟩ := obind hf
            obtain ⟨r87, g88, hf⟩ := obind hf
            refine fr_callV hx hb hml hts hown K hC hR ct_8 (c_X8_hasKey hfl D cA g88) 2 q90 kw1177 kw1174 kw1176 kw31 kw62 (by decide +kernel) ⟨by exact Nat.le_of_ble_eq_true rfl, by exact Nat.le_of_ble_eq_true rfl⟩ rfl hl.1 (cat8 _ (by exact Nat.le_of_ble_eq_true rfl)) dX8_key_77 rfl (fun H locs _ _ hC => ?_)
            refine lv_if_ne (tgt := 89) hx hb dX8_key_80 (by decide) (fun c91 => ?_) (fun c91 => ?_)
            · replace hf := oneg c91 hf
              exact w_X8_key_L89 M hfl _ _ _ _ _ hf _ _ _ _ _ hC (lv_sub hl [0, 1, 2, 3] rfl)
            · replace hf := opos c91 hf
              exact w_X8_key_L83 M hfl _ _ hf _ _ _ _ _ hC (lv_sub hl [0] rfl)
      · replace hf := opos c72 hf
        exact w_X8_key_L43 M hfl _ _ hf _ _ _ _ _ hC (lv_sub hl [0] rfl)
  · replace hf := opos c62 hf
    refine fr_aload_n hx hb dX8_key_13 rfl (lv_at hl 0 rfl) ?_
    refine lv_iconst (v := (1 : Int32)) hx hb dX8_key_14 (by decide) ?_
    obtain ⟨b94, q95, hf⟩ := obind hf
    obtain ⟨r92, g93, hf⟩ := obind hf
    refine fr_callV hx hb hml hts hown K hC hR ct_8 (c_X8_no hfl D cA g93) 1 q95 kw1070 kw1067 kw1069 kw21 kw62 (by decide +kernel) ⟨by exact Nat.le_of_ble_eq_true rfl, by exact Nat.le_of_ble_eq_true rfl⟩ rfl hl.1 (cat8 _ (by exact Nat.le_of_ble_eq_true rfl)) dX8_key_15 rfl (fun H locs _ _ hC => ?_)
    obtain rfl := Option.some.inj hf
    exact fr_iret hx hb hr hlocks hC dX8_key_18
set_option maxRecDepth 100000 in
theorem c_X8_key {l : Launch} (hfl : l.stackTraces = false) (D : va_G) (cA : Nat → ClassId) {o : Nat} {p0 : Int32} {p1 : Int32} {p2 : Int32} {h : fSt} {r : (Int32 × fSt)} (hf : f_X8_key o p0 p1 p2 h = some r) : fMet l yX8_key (wsC yX8_key cX8_key 6 (some (.int))) (2) (46) D cA [.ref o, .int p0, .int p1, .int p2] h r.2 (some (.int r.1)) := by
  exact fMet.of (own := RX8) (by decide +kernel) rfl (lva1 rfl (lva1 rfl (lva1 rfl (lva1 rfl lva0)))) (lgl1 rfl (lgl1 rfl (lgl1 rfl (lgl1 rfl lgl0)))) (Nat.le_of_ble_eq_true rfl) (fun p e s m args below meth c ls hnm _ M hC hl => by
    have hl : lv_has ls 6 [(0, va_rf (some o)), (1, .int p0), (2, .int p1), (3, .int p2)] := hl
    exact w_X8_key_L0 M hfl _ _ _ _ _ hf _ _ _ _ _ hC (lv_sub hl [0, 1, 2, 3] rfl))
set_option maxHeartbeats 4000000 in
set_option maxRecDepth 100000 in
theorem w_X8_level_L26 {p : Program} {l : Launch} {e : Env} {s : State} {m : MethodId} {args : Array Value} {below : List Frame} {meth : Method} {c : Code} {D : va_G} {cA : Nat → ClassId} {h0 : fSt} {r : (Int32 × fSt)} (M : fM p s m args meth c D cA h0 { frames := 2, cells := fCB h0 - fZ h0, slots := fLB h0 - fL h0, locals := 43 } cX8_level 2 (some (.int)) RX8) (hfl : l.stackTraces = false) (s0 : Int32) (h : fSt) (hf : f_X8_level_L26 s0 h = some r) : ∀ (H : Heap) (locs : List Loc) (cells slots : Nat) (ls : Array Slot), fCur D cA s h0 h H locs → lv_has ls 2 [] → W p l e { frames := 2, cells := fCB h0 - fZ h0, slots := fLB h0 - fL h0, locals := 43 } s m args below meth c H locs cells slots (MQ below (fQ D cA h0 r.2 (some (.int r.1))) args s (fCB h0 - fZ h0) (fLB h0 - fL h0) (fA h0)) (F0 m 26 ls [.int s0]) := by
  obtain ⟨hx, hb, hml, hr, hlocks, hts, hown, K, hR⟩ := id M
  intro H locs cells slots ls hC hl
  obtain rfl := Option.some.inj hf
  exact fr_iret hx hb hr hlocks hC dX8_level_26
set_option maxHeartbeats 4000000 in
set_option maxRecDepth 100000 in
theorem w_X8_level_L0 {p : Program} {l : Launch} {e : Env} {s : State} {m : MethodId} {args : Array Value} {below : List Frame} {meth : Method} {c : Code} {D : va_G} {cA : Nat → ClassId} {h0 : fSt} {r : (Int32 × fSt)} (M : fM p s m args meth c D cA h0 { frames := 2, cells := fCB h0 - fZ h0, slots := fLB h0 - fL h0, locals := 43 } cX8_level 2 (some (.int)) RX8) (hfl : l.stackTraces = false) (a0 : Option Nat) (a1 : Int32) (h : fSt) (hf : f_X8_level_L0 a0 a1 h = some r) : ∀ (H : Heap) (locs : List Loc) (cells slots : Nat) (ls : Array Slot), fCur D cA s h0 h H locs → lv_has ls 2 [(0, va_rf a0), (1, .int a1)] → W p l e { frames := 2, cells := fCB h0 - fZ h0, slots := fLB h0 - fL h0, locals := 43 } s m args below meth c H locs cells slots (MQ below (fQ D cA h0 r.2 (some (.int r.1))) args s (fCB h0 - fZ h0) (fLB h0 - fL h0) (fA h0)) (F0 m 0 ls []) := by
  obtain ⟨hx, hb, hml, hr, hlocks, hts, hown, K, hR⟩ := id M
  intro H locs cells slots ls hC hl
  refine fr_aload_n hx hb dX8_level_0 rfl (lv_at hl 0 rfl) ?_
  refine lv_iconst (v := (0 : Int32)) hx hb dX8_level_1 (by decide) ?_
  obtain ⟨h1, g2, hf⟩ := obind hf
  refine fr_put hx hb hts hown K hC ct_8 g2 (by decide) kw971 rfl rfl rfl rfl dX8_level_2 (fun H locs hC => ?_)
  refine fr_aload_n hx hb dX8_level_5 rfl (lv_at hl 0 rfl) ?_
  refine lv_iload_n hx hb dX8_level_6 rfl (lv_at hl 1 rfl) ?_
  obtain ⟨b5, q6, hf⟩ := obind hf
  obtain ⟨r3, g4, hf⟩ := obind hf
  refine fr_callV hx hb hml hts hown K hC hR ct_8 (c_X8_isNode hfl D cA g4) 1 q6 kw1063 kw1060 kw1062 kw20 kw62 (by decide +kernel) ⟨by exact Nat.le_of_ble_eq_true rfl, by exact Nat.le_of_ble_eq_true rfl⟩ rfl hl.1 (cat8 _ (by exact Nat.le_of_ble_eq_true rfl)) dX8_level_7 rfl (fun H locs _ _ hC => ?_)
  refine lv_if_eq (tgt := 21) hx hb dX8_level_10 (by decide) (fun c7 => ?_) (fun c7 => ?_)
  · replace hf := opos c7 hf
    refine fr_aload_n hx hb dX8_level_21 rfl (lv_at hl 0 rfl) ?_
    refine lv_iconst (v := (1 : Int32)) hx hb dX8_level_22 (by decide) ?_
    obtain ⟨b10, q11, hf⟩ := obind hf
    obtain ⟨r8, g9, hf⟩ := obind hf
    refine fr_callV hx hb hml hts hown K hC hR ct_8 (c_X8_no hfl D cA g9) 1 q11 kw1070 kw1067 kw1069 kw21 kw62 (by decide +kernel) ⟨by exact Nat.le_of_ble_eq_true rfl, by exact Nat.le_of_ble_eq_true rfl⟩ rfl hl.1 (cat8 _ (by exact Nat.le_of_ble_eq_true rfl)) dX8_level_23 rfl (fun H locs _ _ hC => ?_)
    exact w_X8_level_L26 M hfl _ _ hf _ _ _ _ _ hC (lv_sub hl [] rfl)
  · replace hf := oneg c7 hf
    refine fr_aload_n hx hb dX8_level_13 rfl (lv_at hl 0 rfl) ?_
    refine lv_iload_n hx hb dX8_level_14 rfl (lv_at hl 1 rfl) ?_
    obtain ⟨b14, q15, hf⟩ := obind hf
    obtain ⟨r12, g13, hf⟩ := obind hf
    refine fr_callV hx hb hml hts hown K hC hR ct_8 (c_X8_levelNow hfl D cA g13) 1 q15 kw1074 kw1071 kw1073 kw22 kw62 (by decide +kernel) ⟨by exact Nat.le_of_ble_eq_true rfl, by exact Nat.le_of_ble_eq_true rfl⟩ rfl hl.1 (cat8 _ (by exact Nat.le_of_ble_eq_true rfl)) dX8_level_15 rfl (fun H locs _ _ hC => ?_)
    refine lv_goto (tgt := 26) hx hb dX8_level_18 (by decide) ?_
    exact w_X8_level_L26 M hfl _ _ hf _ _ _ _ _ hC (lv_sub hl [] rfl)
set_option maxRecDepth 100000 in
theorem c_X8_level {l : Launch} (hfl : l.stackTraces = false) (D : va_G) (cA : Nat → ClassId) {o : Nat} {p0 : Int32} {h : fSt} {r : (Int32 × fSt)} (hf : f_X8_level o p0 h = some r) : fMet l yX8_level (wsC yX8_level cX8_level 2 (some (.int))) (2) (43) D cA [.ref o, .int p0] h r.2 (some (.int r.1)) := by
  exact fMet.of (own := RX8) (by decide +kernel) rfl (lva1 rfl (lva1 rfl lva0)) (lgl1 rfl (lgl1 rfl lgl0)) (Nat.le_of_ble_eq_true rfl) (fun p e s m args below meth c ls hnm _ M hC hl => by
    have hl : lv_has ls 2 [(0, va_rf (some o)), (1, .int p0)] := hl
    exact w_X8_level_L0 M hfl _ _ _ hf _ _ _ _ _ hC (lv_sub hl [0, 1] rfl))
set_option maxHeartbeats 4000000 in
set_option maxRecDepth 100000 in
theorem w_X8_look_L29 {p : Program} {l : Launch} {e : Env} {s : State} {m : MethodId} {args : Array Value} {below : List Frame} {meth : Method} {c : Code} {D : va_G} {cA : Nat → ClassId} {h0 : fSt} {r : (Int32 × fSt)} (M : fM p s m args meth c D cA h0 { frames := 3, cells := fCB h0 - fZ h0, slots := fLB h0 - fL h0, locals := 65 } cX8_look 6 (some (.int)) RX8) (hfl : l.stackTraces = false) (a0 : Option Nat) (a1 : Int32) (a2 : Int32) (a3 : Int32) (a4 : Int32) (s3 : Int32) (s2 : Int32) (s1 : Option Nat) (s0 : Option Nat) (h : fSt) (hf : f_X8_look_L29 a0 a1 a2 a3 a4 s3 s2 s1 s0 h = some r) : ∀ (H : Heap) (locs : List Loc) (cells slots : Nat) (ls : Array Slot), fCur D cA s h0 h H locs → lv_has ls 6 [(0, va_rf a0), (1, .int a1), (2, .int a2), (3, .int a3), (4, .int a4)] → W p l e { frames := 3, cells := fCB h0 - fZ h0, slots := fLB h0 - fL h0, locals := 65 } s m args below meth c H locs cells slots (MQ below (fQ D cA h0 r.2 (some (.int r.1))) args s (fCB h0 - fZ h0) (fLB h0 - fL h0) (fA h0)) (F0 m 29 ls [.int s3, .int s2, va_rf s1, va_rf s0]) := by
  obtain ⟨hx, hb, hml, hr, hlocks, hts, hown, K, hR⟩ := id M
  intro H locs cells slots ls hC hl
  obtain ⟨b3, q4, hf⟩ := obind hf
  obtain ⟨r1, g2, hf⟩ := obind hf
  refine fr_callV hx hb hml hts hown K hC hR ct_8 (c_X8_refusal hfl D cA g2) 2 q4 kw1099 kw1096 kw1098 kw25 kw62 (by decide +kernel) ⟨by exact Nat.le_of_ble_eq_true rfl, by exact Nat.le_of_ble_eq_true rfl⟩ rfl hl.1 (cat8 _ (by exact Nat.le_of_ble_eq_true rfl)) dX8_look_29 rfl (fun H locs _ _ hC => ?_)
  obtain ⟨h5, g6, hf⟩ := obind hf
  refine fr_put hx hb hts hown K hC ct_8 g6 (by decide) kw971 rfl rfl rfl rfl dX8_look_32 (fun H locs hC => ?_)
  refine fr_aload_n hx hb dX8_look_35 rfl (lv_at hl 0 rfl) ?_
  obtain ⟨x7, g8, hf⟩ := obind hf
  refine fr_get hx hb hts hown K hC ct_8 (fgI_get g8) (by decide) kw971 rfl dX8_look_36 ?_
  refine lv_if_eq (tgt := 44) hx hb dX8_look_39 (by decide) (fun c9 => ?_) (fun c9 => ?_)
  · replace hf := opos c9 hf
    refine fr_aload_n hx hb dX8_look_44 rfl (lv_at hl 0 rfl) ?_
    obtain ⟨x10, g11, hf⟩ := obind hf
    refine fr_get hx hb hts hown K hC ct_8 (fgR_get g11) (by decide) kw985 rfl dX8_look_45 ?_
    refine lv_iload_n hx hb dX8_look_48 rfl (lv_at hl 1 rfl) ?_
    refine lv_iconst (v := (4 : Int32)) hx hb dX8_look_49 (by decide) ?_
    refine lv_imul hx hb dX8_look_50 ?_
    refine lv_iconst (v := (3 : Int32)) hx hb dX8_look_51 (by decide) ?_
    refine lv_iadd hx hb dX8_look_52 ?_
    obtain ⟨x12, g13, hf⟩ := obind hf
    refine fr_iald hx hb K hC (t := 0) rfl g13 dX8_look_53 ?_
    refine lv_istore (lv' := [(5, .int x12), (0, va_rf a0), (1, .int a1), (2, .int a2), (3, .int a3), (4, .int a4)]) hx hb dX8_look_54 hl (by decide) (congrArg (List.cons _) (flk rfl (flk rfl (flk rfl (flk rfl (flk rfl fln)))))) (fun ls hl => ?_)
    refine fr_aload_n hx hb dX8_look_56 rfl (lv_at hl 1 rfl) ?_
    obtain ⟨x14, g15, hf⟩ := obind hf
    refine fr_get hx hb hts hown K hC ct_8 (fgR_get g15) (by decide) kw985 rfl dX8_look_57 ?_
    refine lv_iload_n hx hb dX8_look_60 rfl (lv_at hl 2 rfl) ?_
    refine lv_iconst (v := (4 : Int32)) hx hb dX8_look_61 (by decide) ?_
    refine lv_imul hx hb dX8_look_62 ?_
    refine lv_iconst (v := (3 : Int32)) hx hb dX8_look_63 (by decide) ?_
    refine lv_iadd hx hb dX8_look_64 ?_
    refine lv_iload_n hx hb dX8_look_65 rfl (lv_at hl 4 rfl) ?_
    obtain ⟨h16, g17, hf⟩ := obind hf
    refine fr_iast hx hb K hC (t := 0) rfl g17 dX8_look_66 (fun H locs hC => ?_)
    refine fr_aload_n hx hb dX8_look_67 rfl (lv_at hl 1 rfl) ?_
    obtain ⟨x18, g19, hf⟩ := obind hf
    refine fr_get hx hb hts hown K hC ct_8 (fgR_get g19) (by decide) kw983 rfl dX8_look_68 ?_
    refine lv_iload_n hx hb dX8_look_71 rfl (lv_at hl 2 rfl) ?_
    refine lv_iload_n hx hb dX8_look_72 rfl (lv_at hl 3 rfl) ?_
    obtain ⟨h20, g21, hf⟩ := obind hf
    refine fr_iast hx hb K hC (t := 0) rfl g21 dX8_look_73 (fun H locs hC => ?_)
    refine fr_aload_n hx hb dX8_look_74 rfl (lv_at hl 1 rfl) ?_
    obtain ⟨x22, g23, hf⟩ := obind hf
    refine fr_get hx hb hts hown K hC ct_8 (fgR_get g23) (by decide) kw975 rfl dX8_look_75 ?_
    refine lv_iload_n hx hb dX8_look_78 rfl (lv_at hl 2 rfl) ?_
    refine lv_iload hx hb dX8_look_79 (lv_at hl 5 rfl) ?_
    obtain ⟨h24, g25, hf⟩ := obind hf
    refine fr_zast hx hb K hC (t := 2) rfl g25 dX8_look_81 (fun H locs hC => ?_)
    refine lv_iload hx hb dX8_look_82 (lv_at hl 0 rfl) ?_
    obtain rfl := Option.some.inj hf
    exact fr_iret hx hb hr hlocks hC dX8_look_84
  · replace hf := oneg c9 hf
    refine lv_iconst (v := (0 : Int32)) hx hb dX8_look_42 (by decide) ?_
    obtain rfl := Option.some.inj hf
    exact fr_iret hx hb hr hlocks hC dX8_look_43
set_option maxHeartbeats 4000000 in
set_option maxRecDepth 100000 in
theorem w_X8_look_L28 {p : Program} {l : Launch} {e : Env} {s : State} {m : MethodId} {args : Array Value} {below : List Frame} {meth : Method} {c : Code} {D : va_G} {cA : Nat → ClassId} {h0 : fSt} {r : (Int32 × fSt)} (M : fM p s m args meth c D cA h0 { frames := 3, cells := fCB h0 - fZ h0, slots := fLB h0 - fL h0, locals := 65 } cX8_look 6 (some (.int)) RX8) (hfl : l.stackTraces = false) (a0 : Option Nat) (a1 : Int32) (a2 : Int32) (a3 : Int32) (a4 : Int32) (s2 : Int32) (s1 : Option Nat) (s0 : Option Nat) (h : fSt) (hf : f_X8_look_L28 a0 a1 a2 a3 a4 s2 s1 s0 h = some r) : ∀ (H : Heap) (locs : List Loc) (cells slots : Nat) (ls : Array Slot), fCur D cA s h0 h H locs → lv_has ls 6 [(0, va_rf a0), (1, .int a1), (2, .int a2), (3, .int a3), (4, .int a4)] → W p l e { frames := 3, cells := fCB h0 - fZ h0, slots := fLB h0 - fL h0, locals := 65 } s m args below meth c H locs cells slots (MQ below (fQ D cA h0 r.2 (some (.int r.1))) args s (fCB h0 - fZ h0) (fLB h0 - fL h0) (fA h0)) (F0 m 28 ls [.int s2, va_rf s1, va_rf s0]) := by
  obtain ⟨hx, hb, hml, hr, hlocks, hts, hown, K, hR⟩ := id M
  intro H locs cells slots ls hC hl
  refine lv_iconst (v := (0 : Int32)) hx hb dX8_look_28 (by decide) ?_
  exact w_X8_look_L29 M hfl _ _ _ _ _ _ _ _ _ _ hf _ _ _ _ _ hC (lv_sub hl [0, 1, 2, 3, 4] rfl)
set_option maxHeartbeats 4000000 in
set_option maxRecDepth 100000 in
theorem w_X8_look_L0 {p : Program} {l : Launch} {e : Env} {s : State} {m : MethodId} {args : Array Value} {below : List Frame} {meth : Method} {c : Code} {D : va_G} {cA : Nat → ClassId} {h0 : fSt} {r : (Int32 × fSt)} (M : fM p s m args meth c D cA h0 { frames := 3, cells := fCB h0 - fZ h0, slots := fLB h0 - fL h0, locals := 65 } cX8_look 6 (some (.int)) RX8) (hfl : l.stackTraces = false) (a0 : Option Nat) (a1 : Int32) (a2 : Int32) (a3 : Int32) (a4 : Int32) (h : fSt) (hf : f_X8_look_L0 a0 a1 a2 a3 a4 h = some r) : ∀ (H : Heap) (locs : List Loc) (cells slots : Nat) (ls : Array Slot), fCur D cA s h0 h H locs → lv_has ls 6 [(0, va_rf a0), (1, .int a1), (2, .int a2), (3, .int a3), (4, .int a4)] → W p l e { frames := 3, cells := fCB h0 - fZ h0, slots := fLB h0 - fL h0, locals := 65 } s m args below meth c H locs cells slots (MQ below (fQ D cA h0 r.2 (some (.int r.1))) args s (fCB h0 - fZ h0) (fLB h0 - fL h0) (fA h0)) (F0 m 0 ls []) := by
  obtain ⟨hx, hb, hml, hr, hlocks, hts, hown, K, hR⟩ := id M
  intro H locs cells slots ls hC hl
  refine fr_aload_n hx hb dX8_look_0 rfl (lv_at hl 0 rfl) ?_
  refine fr_aload_n hx hb dX8_look_1 rfl (lv_at hl 0 rfl) ?_
  refine lv_iload_n hx hb dX8_look_2 rfl (lv_at hl 1 rfl) ?_
  refine lv_iload_n hx hb dX8_look_3 rfl (lv_at hl 2 rfl) ?_
  refine lv_bipush (v := (-9 : Int32)) hx hb dX8_look_4 (by decide) ?_
  refine lv_bipush (v := (9 : Int32)) hx hb dX8_look_6 (by decide) ?_
  obtain ⟨r26, g27, hf⟩ := obind hf
  refine fr_callS hx hb hml hts hown K hC hR (c_X8_isIn hfl D cA g27) 3 kw1066 kw1064 kw1065 kw62 (by decide +kernel) ⟨by exact Nat.le_of_ble_eq_true rfl, by exact Nat.le_of_ble_eq_true rfl⟩ rfl hl.1 (cat8 _ (by exact Nat.le_of_ble_eq_true rfl)) dX8_look_8 rfl (fun H locs _ _ hC => ?_)
  refine lv_if_eq (tgt := 28) hx hb dX8_look_11 (by decide) (fun c28 => ?_) (fun c28 => ?_)
  · replace hf := opos c28 hf
    exact w_X8_look_L28 M hfl _ _ _ _ _ _ _ _ _ hf _ _ _ _ _ hC (lv_sub hl [0, 1, 2, 3, 4] rfl)
  · replace hf := oneg c28 hf
    refine lv_iload_n hx hb dX8_look_14 rfl (lv_at hl 3 rfl) ?_
    refine lv_iconst (v := (0 : Int32)) hx hb dX8_look_15 (by decide) ?_
    refine lv_bipush (v := (100 : Int32)) hx hb dX8_look_16 (by decide) ?_
    obtain ⟨r29, g30, hf⟩ := obind hf
    refine fr_callS hx hb hml hts hown K hC hR (c_X8_isIn hfl D cA g30) 3 kw1066 kw1064 kw1065 kw62 (by decide +kernel) ⟨by exact Nat.le_of_ble_eq_true rfl, by exact Nat.le_of_ble_eq_true rfl⟩ rfl hl.1 (cat8 _ (by exact Nat.le_of_ble_eq_true rfl)) dX8_look_18 rfl (fun H locs _ _ hC => ?_)
    refine lv_if_eq (tgt := 28) hx hb dX8_look_21 (by decide) (fun c31 => ?_) (fun c31 => ?_)
    · replace hf := opos c31 hf
      exact w_X8_look_L28 M hfl _ _ _ _ _ _ _ _ _ hf _ _ _ _ _ hC (lv_sub hl [0, 1, 2, 3, 4] rfl)
    · replace hf := oneg c31 hf
      refine lv_iconst (v := (1 : Int32)) hx hb dX8_look_24 (by decide) ?_
      refine lv_goto (tgt := 29) hx hb dX8_look_25 (by decide) ?_
      exact w_X8_look_L29 M hfl _ _ _ _ _ _ _ _ _ _ hf _ _ _ _ _ hC (lv_sub hl [0, 1, 2, 3, 4] rfl)
set_option maxRecDepth 100000 in
theorem c_X8_look {l : Launch} (hfl : l.stackTraces = false) (D : va_G) (cA : Nat → ClassId) {o : Nat} {p0 : Int32} {p1 : Int32} {p2 : Int32} {p3 : Int32} {h : fSt} {r : (Int32 × fSt)} (hf : f_X8_look o p0 p1 p2 p3 h = some r) : fMet l yX8_look (wsC yX8_look cX8_look 6 (some (.int))) (3) (65) D cA [.ref o, .int p0, .int p1, .int p2, .int p3] h r.2 (some (.int r.1)) := by
  exact fMet.of (own := RX8) (by decide +kernel) rfl (lva1 rfl (lva1 rfl (lva1 rfl (lva1 rfl (lva1 rfl lva0))))) (lgl1 rfl (lgl1 rfl (lgl1 rfl (lgl1 rfl (lgl1 rfl lgl0))))) (Nat.le_of_ble_eq_true rfl) (fun p e s m args below meth c ls hnm _ M hC hl => by
    have hl : lv_has ls 6 [(0, va_rf (some o)), (1, .int p0), (2, .int p1), (3, .int p2), (4, .int p3)] := hl
    exact w_X8_look_L0 M hfl _ _ _ _ _ _ hf _ _ _ _ _ hC (lv_sub hl [0, 1, 2, 3, 4] rfl))
set_option maxHeartbeats 4000000 in
set_option maxRecDepth 100000 in
theorem w_X8_many_L64 {p : Program} {l : Launch} {e : Env} {s : State} {m : MethodId} {args : Array Value} {below : List Frame} {meth : Method} {c : Code} {D : va_G} {cA : Nat → ClassId} {h0 : fSt} {r : (Int32 × fSt)} (M : fM p s m args meth c D cA h0 { frames := 5, cells := fCB h0 - fZ h0, slots := fLB h0 - fL h0, locals := 140 } cX8_many 6 (some (.int)) RX8) (hfl : l.stackTraces = false) {k26 : Option Nat → Int32 → Int32 → Int32 → Int32 → Int32 → fSt → Option (Int32 × fSt)} (hk26 : ∀ (a0 : Option Nat) (a1 : Int32) (a2 : Int32) (a3 : Int32) (a4 : Int32) (a5 : Int32) (h : fSt), k26 a0 a1 a2 a3 a4 a5 h = some r → ∀ (H : Heap) (locs : List Loc) (cells slots : Nat) (ls : Array Slot), fCur D cA s h0 h H locs → lv_has ls 6 [(0, va_rf a0), (1, .int a1), (2, .int a2), (3, .int a3), (4, .int a4), (5, .int a5)] → W p l e { frames := 5, cells := fCB h0 - fZ h0, slots := fLB h0 - fL h0, locals := 140 } s m args below meth c H locs cells slots (MQ below (fQ D cA h0 r.2 (some (.int r.1))) args s (fCB h0 - fZ h0) (fLB h0 - fL h0) (fA h0)) (F0 m 26 ls [])) (a0 : Option Nat) (a1 : Int32) (a2 : Int32) (a3 : Int32) (a5 : Int32) (s1 : Int32) (s0 : Int32) (h : fSt) (hf : f_X8_many_L64 k26 a0 a1 a2 a3 a5 s1 s0 h = some r) : ∀ (H : Heap) (locs : List Loc) (cells slots : Nat) (ls : Array Slot), fCur D cA s h0 h H locs → lv_has ls 6 [(0, va_rf a0), (1, .int a1), (2, .int a2), (3, .int a3), (5, .int a5)] → W p l e { frames := 5, cells := fCB h0 - fZ h0, slots := fLB h0 - fL h0, locals := 140 } s m args below meth c H locs cells slots (MQ below (fQ D cA h0 r.2 (some (.int r.1))) args s (fCB h0 - fZ h0) (fLB h0 - fL h0) (fA h0)) (F0 m 64 ls [.int s1, .int s0]) := by
  obtain ⟨hx, hb, hml, hr, hlocks, hts, hown, K, hR⟩ := id M
  intro H locs cells slots ls hC hl
  refine lv_iadd hx hb dX8_many_64 ?_
  refine lv_istore (lv' := [(4, .int (s0 + s1)), (0, va_rf a0), (1, .int a1), (2, .int a2), (3, .int a3), (5, .int a5)]) hx hb dX8_many_65 hl (by decide) (congrArg (List.cons _) (flk rfl (flk rfl (flk rfl (flk rfl (flk rfl fln)))))) (fun ls hl => ?_)
  refine lv_iinc (v := (a5 + (1 : Int32))) (lv' := [(5, .int (a5 + (1 : Int32))), (4, .int (s0 + s1)), (0, va_rf a0), (1, .int a1), (2, .int a2), (3, .int a3)]) hx hb dX8_many_67 hl (k := 5) rfl rfl (by decide) (congrArg (List.cons _) (flk rfl (flk rfl (flk rfl (flk rfl (flk rfl (fld rfl fln))))))) (fun ls hl => ?_)
  refine lv_goto (tgt := 26) hx hb dX8_many_70 (by decide) ?_
  exact hk26 _ _ _ _ _ _ _ hf _ _ _ _ _ hC (lv_sub hl [2, 3, 4, 5, 1, 0] rfl)
set_option maxHeartbeats 4000000 in
set_option maxRecDepth 100000 in
theorem w_X8_many_L63 {p : Program} {l : Launch} {e : Env} {s : State} {m : MethodId} {args : Array Value} {below : List Frame} {meth : Method} {c : Code} {D : va_G} {cA : Nat → ClassId} {h0 : fSt} {r : (Int32 × fSt)} (M : fM p s m args meth c D cA h0 { frames := 5, cells := fCB h0 - fZ h0, slots := fLB h0 - fL h0, locals := 140 } cX8_many 6 (some (.int)) RX8) (hfl : l.stackTraces = false) {k26 : Option Nat → Int32 → Int32 → Int32 → Int32 → Int32 → fSt → Option (Int32 × fSt)} (hk26 : ∀ (a0 : Option Nat) (a1 : Int32) (a2 : Int32) (a3 : Int32) (a4 : Int32) (a5 : Int32) (h : fSt), k26 a0 a1 a2 a3 a4 a5 h = some r → ∀ (H : Heap) (locs : List Loc) (cells slots : Nat) (ls : Array Slot), fCur D cA s h0 h H locs → lv_has ls 6 [(0, va_rf a0), (1, .int a1), (2, .int a2), (3, .int a3), (4, .int a4), (5, .int a5)] → W p l e { frames := 5, cells := fCB h0 - fZ h0, slots := fLB h0 - fL h0, locals := 140 } s m args below meth c H locs cells slots (MQ below (fQ D cA h0 r.2 (some (.int r.1))) args s (fCB h0 - fZ h0) (fLB h0 - fL h0) (fA h0)) (F0 m 26 ls [])) (a0 : Option Nat) (a1 : Int32) (a2 : Int32) (a3 : Int32) (a5 : Int32) (s0 : Int32) (h : fSt) (hf : f_X8_many_L63 k26 a0 a1 a2 a3 a5 s0 h = some r) : ∀ (H : Heap) (locs : List Loc) (cells slots : Nat) (ls : Array Slot), fCur D cA s h0 h H locs → lv_has ls 6 [(0, va_rf a0), (1, .int a1), (2, .int a2), (3, .int a3), (5, .int a5)] → W p l e { frames := 5, cells := fCB h0 - fZ h0, slots := fLB h0 - fL h0, locals := 140 } s m args below meth c H locs cells slots (MQ below (fQ D cA h0 r.2 (some (.int r.1))) args s (fCB h0 - fZ h0) (fLB h0 - fL h0) (fA h0)) (F0 m 63 ls [.int s0]) := by
  obtain ⟨hx, hb, hml, hr, hlocks, hts, hown, K, hR⟩ := id M
  intro H locs cells slots ls hC hl
  refine lv_iconst (v := (0 : Int32)) hx hb dX8_many_63 (by decide) ?_
  exact w_X8_many_L64 M hfl hk26 _ _ _ _ _ _ _ _ hf _ _ _ _ _ hC (lv_sub hl [0, 1, 2, 3, 4] rfl)
set_option maxHeartbeats 4000000 in
set_option maxRecDepth 100000 in
theorem w_X8_many_L26 {p : Program} {l : Launch} {e : Env} {s : State} {m : MethodId} {args : Array Value} {below : List Frame} {meth : Method} {c : Code} {D : va_G} {cA : Nat → ClassId} {h0 : fSt} {r : (Int32 × fSt)} (M : fM p s m args meth c D cA h0 { frames := 5, cells := fCB h0 - fZ h0, slots := fLB h0 - fL h0, locals := 140 } cX8_many 6 (some (.int)) RX8) (hfl : l.stackTraces = false) : ∀ (n : Nat) (a0 : Option Nat) (a1 : Int32) (a2 : Int32) (a3 : Int32) (a4 : Int32) (a5 : Int32) (h : fSt), f_X8_many_L26 n a0 a1 a2 a3 a4 a5 h = some r → ∀ (H : Heap) (locs : List Loc) (cells slots : Nat) (ls : Array Slot), fCur D cA s h0 h H locs → lv_has ls 6 [(0, va_rf a0), (1, .int a1), (2, .int a2), (3, .int a3), (4, .int a4), (5, .int a5)] → W p l e { frames := 5, cells := fCB h0 - fZ h0, slots := fLB h0 - fL h0, locals := 140 } s m args below meth c H locs cells slots (MQ below (fQ D cA h0 r.2 (some (.int r.1))) args s (fCB h0 - fZ h0) (fLB h0 - fL h0) (fA h0)) (F0 m 26 ls []) := by
  obtain ⟨hx, hb, hml, hr, hlocks, hts, hown, K, hR⟩ := id M
  intro n
  induction n with
  | zero =>
    intro a0 a1 a2 a3 a4 a5 h hf
    exact nomatch (show (none : Option (Int32 × fSt)) = some r from hf)
  | succ n hk26 =>
    intro a0 a1 a2 a3 a4 a5 h hf H locs cells slots ls hC hl
    refine lv_iload hx hb dX8_many_26 (lv_at hl 5 rfl) ?_
    refine fr_aload_n hx hb dX8_many_28 rfl (lv_at hl 0 rfl) ?_
    obtain ⟨x1, g2, hf⟩ := obind hf
    refine fr_get hx hb hts hown K hC ct_8 (fgI_get g2) (by decide) kw972 rfl dX8_many_29 ?_
    refine lv_icmp_ge (tgt := 73) hx hb dX8_many_32 (by decide) (fun c3 => ?_) (fun c3 => ?_)
    · replace hf := opos c3 hf
      refine lv_iload hx hb dX8_many_73 (lv_at hl 4 rfl) ?_
      obtain rfl := Option.some.inj hf
      exact fr_iret hx hb hr hlocks hC dX8_many_75
    · replace hf := oneg c3 hf
      refine lv_iload hx hb dX8_many_35 (lv_at hl 4 rfl) ?_
      refine fr_aload_n hx hb dX8_many_37 rfl (lv_at hl 0 rfl) ?_
      obtain ⟨x4, g5, hf⟩ := obind hf
      refine fr_get hx hb hts hown K hC ct_8 (fgR_get g5) (by decide) kw973 rfl dX8_many_38 ?_
      refine lv_iload hx hb dX8_many_41 (lv_at hl 5 rfl) ?_
      obtain ⟨x6, g7, hf⟩ := obind hf
      refine fr_zald hx hb K hC (t := 2) rfl g7 dX8_many_43 ?_
      refine lv_if_ne (tgt := 63) hx hb dX8_many_44 (by decide) (fun c8 => ?_) (fun c8 => ?_)
      · replace hf := oneg c8 hf
        exact w_X8_many_L63 M hfl hk26 _ _ _ _ _ _ _ hf _ _ _ _ _ hC (lv_sub hl [0, 1, 2, 3, 5] rfl)
      · replace hf := opos c8 hf
        refine fr_aload_n hx hb dX8_many_47 rfl (lv_at hl 0 rfl) ?_
        refine lv_iload hx hb dX8_many_48 (lv_at hl 5 rfl) ?_
        refine lv_iload_n hx hb dX8_many_50 rfl (lv_at hl 1 rfl) ?_
        refine lv_iload_n hx hb dX8_many_51 rfl (lv_at hl 2 rfl) ?_
        refine lv_iload_n hx hb dX8_many_52 rfl (lv_at hl 3 rfl) ?_
        obtain ⟨b11, q12, hf⟩ := obind hf
        obtain ⟨r9, g10, hf⟩ := obind hf
        refine fr_callV hx hb hml hts hown K hC hR ct_8 (c_X8_coversNow hfl D cA g10) 4 q12 kw1327 kw1324 kw1326 kw50 kw62 (by decide +kernel) ⟨by exact Nat.le_of_ble_eq_true rfl, by exact Nat.le_of_ble_eq_true rfl⟩ rfl hl.1 (cat8 _ (by exact Nat.le_of_ble_eq_true rfl)) dX8_many_53 rfl (fun H locs _ _ hC => ?_)
        refine lv_if_eq (tgt := 63) hx hb dX8_many_56 (by decide) (fun c13 => ?_) (fun c13 => ?_)
        · replace hf := opos c13 hf
          exact w_X8_many_L63 M hfl hk26 _ _ _ _ _ _ _ hf _ _ _ _ _ hC (lv_sub hl [0, 1, 2, 3, 5] rfl)
        · replace hf := oneg c13 hf
          refine lv_iconst (v := (1 : Int32)) hx hb dX8_many_59 (by decide) ?_
          refine lv_goto (tgt := 64) hx hb dX8_many_60 (by decide) ?_
          exact w_X8_many_L64 M hfl hk26 _ _ _ _ _ _ _ _ hf _ _ _ _ _ hC (lv_sub hl [0, 1, 2, 3, 5] rfl)
set_option maxHeartbeats 4000000 in
set_option maxRecDepth 100000 in
theorem w_X8_many_L0 {p : Program} {l : Launch} {e : Env} {s : State} {m : MethodId} {args : Array Value} {below : List Frame} {meth : Method} {c : Code} {D : va_G} {cA : Nat → ClassId} {h0 : fSt} {r : (Int32 × fSt)} (M : fM p s m args meth c D cA h0 { frames := 5, cells := fCB h0 - fZ h0, slots := fLB h0 - fL h0, locals := 140 } cX8_many 6 (some (.int)) RX8) (hfl : l.stackTraces = false) (a0 : Option Nat) (a1 : Int32) (a2 : Int32) (a3 : Int32) (h : fSt) (hf : f_X8_many_L0 a0 a1 a2 a3 h = some r) : ∀ (H : Heap) (locs : List Loc) (cells slots : Nat) (ls : Array Slot), fCur D cA s h0 h H locs → lv_has ls 6 [(0, va_rf a0), (1, .int a1), (2, .int a2), (3, .int a3)] → W p l e { frames := 5, cells := fCB h0 - fZ h0, slots := fLB h0 - fL h0, locals := 140 } s m args below meth c H locs cells slots (MQ below (fQ D cA h0 r.2 (some (.int r.1))) args s (fCB h0 - fZ h0) (fLB h0 - fL h0) (fA h0)) (F0 m 0 ls []) := by
  obtain ⟨hx, hb, hml, hr, hlocks, hts, hown, K, hR⟩ := id M
  intro H locs cells slots ls hC hl
  refine fr_aload_n hx hb dX8_many_0 rfl (lv_at hl 0 rfl) ?_
  refine lv_iconst (v := (0 : Int32)) hx hb dX8_many_1 (by decide) ?_
  obtain ⟨h14, g15, hf⟩ := obind hf
  refine fr_put hx hb hts hown K hC ct_8 g15 (by decide) kw971 rfl rfl rfl rfl dX8_many_2 (fun H locs hC => ?_)
  refine lv_iload_n hx hb dX8_many_5 rfl (lv_at hl 1 rfl) ?_
  refine lv_iload_n hx hb dX8_many_6 rfl (lv_at hl 2 rfl) ?_
  refine lv_iload_n hx hb dX8_many_7 rfl (lv_at hl 3 rfl) ?_
  obtain ⟨r16, g17, hf⟩ := obind hf
  refine fr_callS hx hb hml hts hown K hC hR (c_X8_isPoint hfl D cA g17) 3 kw1323 kw1321 kw1322 kw62 (by decide +kernel) ⟨by exact Nat.le_of_ble_eq_true rfl, by exact Nat.le_of_ble_eq_true rfl⟩ rfl hl.1 (cat8 _ (by exact Nat.le_of_ble_eq_true rfl)) dX8_many_8 rfl (fun H locs _ _ hC => ?_)
  refine lv_if_ne (tgt := 20) hx hb dX8_many_11 (by decide) (fun c18 => ?_) (fun c18 => ?_)
  · replace hf := oneg c18 hf
    refine lv_iconst (v := (0 : Int32)) hx hb dX8_many_20 (by decide) ?_
    refine lv_istore (lv' := [(4, .int (0 : Int32)), (0, va_rf a0), (1, .int a1), (2, .int a2), (3, .int a3)]) hx hb dX8_many_21 hl (by decide) (congrArg (List.cons _) (flk rfl (flk rfl (flk rfl (flk rfl fln))))) (fun ls hl => ?_)
    refine lv_iconst (v := (1 : Int32)) hx hb dX8_many_23 (by decide) ?_
    refine lv_istore (lv' := [(5, .int (1 : Int32)), (4, .int (0 : Int32)), (0, va_rf a0), (1, .int a1), (2, .int a2), (3, .int a3)]) hx hb dX8_many_24 hl (by decide) (congrArg (List.cons _) (flk rfl (flk rfl (flk rfl (flk rfl (flk rfl fln)))))) (fun ls hl => ?_)
    exact w_X8_many_L26 M hfl 4096 _ _ _ _ _ _ _ hf _ _ _ _ _ hC (lv_sub hl [2, 3, 4, 5, 1, 0] rfl)
  · replace hf := opos c18 hf
    refine fr_aload_n hx hb dX8_many_14 rfl (lv_at hl 0 rfl) ?_
    refine lv_iconst (v := (1 : Int32)) hx hb dX8_many_15 (by decide) ?_
    obtain ⟨b21, q22, hf⟩ := obind hf
    obtain ⟨r19, g20, hf⟩ := obind hf
    refine fr_callV hx hb hml hts hown K hC hR ct_8 (c_X8_no hfl D cA g20) 1 q22 kw1070 kw1067 kw1069 kw21 kw62 (by decide +kernel) ⟨by exact Nat.le_of_ble_eq_true rfl, by exact Nat.le_of_ble_eq_true rfl⟩ rfl hl.1 (cat8 _ (by exact Nat.le_of_ble_eq_true rfl)) dX8_many_16 rfl (fun H locs _ _ hC => ?_)
    obtain rfl := Option.some.inj hf
    exact fr_iret hx hb hr hlocks hC dX8_many_19
set_option maxRecDepth 100000 in
theorem c_X8_many {l : Launch} (hfl : l.stackTraces = false) (D : va_G) (cA : Nat → ClassId) {o : Nat} {p0 : Int32} {p1 : Int32} {p2 : Int32} {h : fSt} {r : (Int32 × fSt)} (hf : f_X8_many o p0 p1 p2 h = some r) : fMet l yX8_many (wsC yX8_many cX8_many 6 (some (.int))) (5) (140) D cA [.ref o, .int p0, .int p1, .int p2] h r.2 (some (.int r.1)) := by
  exact fMet.of (own := RX8) (by decide +kernel) rfl (lva1 rfl (lva1 rfl (lva1 rfl (lva1 rfl lva0)))) (lgl1 rfl (lgl1 rfl (lgl1 rfl (lgl1 rfl lgl0)))) (Nat.le_of_ble_eq_true rfl) (fun p e s m args below meth c ls hnm _ M hC hl => by
    have hl : lv_has ls 6 [(0, va_rf (some o)), (1, .int p0), (2, .int p1), (3, .int p2)] := hl
    exact w_X8_many_L0 M hfl _ _ _ _ _ hf _ _ _ _ _ hC (lv_sub hl [0, 1, 2, 3] rfl))
set_option maxHeartbeats 4000000 in
set_option maxRecDepth 100000 in
theorem w_X8_move_L34 {p : Program} {l : Launch} {e : Env} {s : State} {m : MethodId} {args : Array Value} {below : List Frame} {meth : Method} {c : Code} {D : va_G} {cA : Nat → ClassId} {h0 : fSt} {r : (Int32 × fSt)} (M : fM p s m args meth c D cA h0 { frames := 3, cells := fCB h0 - fZ h0, slots := fLB h0 - fL h0, locals := 65 } cX8_move 5 (some (.int)) RX8) (hfl : l.stackTraces = false) (a0 : Option Nat) (a1 : Int32) (a2 : Int32) (a3 : Int32) (s3 : Int32) (s2 : Int32) (s1 : Option Nat) (s0 : Option Nat) (h : fSt) (hf : f_X8_move_L34 a0 a1 a2 a3 s3 s2 s1 s0 h = some r) : ∀ (H : Heap) (locs : List Loc) (cells slots : Nat) (ls : Array Slot), fCur D cA s h0 h H locs → lv_has ls 5 [(0, va_rf a0), (1, .int a1), (2, .int a2), (3, .int a3)] → W p l e { frames := 3, cells := fCB h0 - fZ h0, slots := fLB h0 - fL h0, locals := 65 } s m args below meth c H locs cells slots (MQ below (fQ D cA h0 r.2 (some (.int r.1))) args s (fCB h0 - fZ h0) (fLB h0 - fL h0) (fA h0)) (F0 m 34 ls [.int s3, .int s2, va_rf s1, va_rf s0]) := by
  obtain ⟨hx, hb, hml, hr, hlocks, hts, hown, K, hR⟩ := id M
  intro H locs cells slots ls hC hl
  obtain ⟨b3, q4, hf⟩ := obind hf
  obtain ⟨r1, g2, hf⟩ := obind hf
  refine fr_callV hx hb hml hts hown K hC hR ct_8 (c_X8_refusal hfl D cA g2) 2 q4 kw1099 kw1096 kw1098 kw25 kw62 (by decide +kernel) ⟨by exact Nat.le_of_ble_eq_true rfl, by exact Nat.le_of_ble_eq_true rfl⟩ rfl hl.1 (cat8 _ (by exact Nat.le_of_ble_eq_true rfl)) dX8_move_34 rfl (fun H locs _ _ hC => ?_)
  obtain ⟨h5, g6, hf⟩ := obind hf
  refine fr_put hx hb hts hown K hC ct_8 g6 (by decide) kw971 rfl rfl rfl rfl dX8_move_37 (fun H locs hC => ?_)
  refine fr_aload_n hx hb dX8_move_40 rfl (lv_at hl 0 rfl) ?_
  obtain ⟨x7, g8, hf⟩ := obind hf
  refine fr_get hx hb hts hown K hC ct_8 (fgI_get g8) (by decide) kw971 rfl dX8_move_41 ?_
  refine lv_if_eq (tgt := 49) hx hb dX8_move_44 (by decide) (fun c9 => ?_) (fun c9 => ?_)
  · replace hf := opos c9 hf
    refine fr_aload_n hx hb dX8_move_49 rfl (lv_at hl 0 rfl) ?_
    obtain ⟨x10, g11, hf⟩ := obind hf
    refine fr_get hx hb hts hown K hC ct_8 (fgR_get g11) (by decide) kw985 rfl dX8_move_50 ?_
    refine lv_iload_n hx hb dX8_move_53 rfl (lv_at hl 1 rfl) ?_
    refine lv_iconst (v := (4 : Int32)) hx hb dX8_move_54 (by decide) ?_
    refine lv_imul hx hb dX8_move_55 ?_
    refine lv_iconst (v := (0 : Int32)) hx hb dX8_move_56 (by decide) ?_
    refine lv_iadd hx hb dX8_move_57 ?_
    obtain ⟨x12, g13, hf⟩ := obind hf
    refine fr_iald hx hb K hC (t := 0) rfl g13 dX8_move_58 ?_
    refine lv_istore (lv' := [(4, .int x12), (0, va_rf a0), (1, .int a1), (2, .int a2), (3, .int a3)]) hx hb dX8_move_59 hl (by decide) (congrArg (List.cons _) (flk rfl (flk rfl (flk rfl (flk rfl fln))))) (fun ls hl => ?_)
    refine fr_aload_n hx hb dX8_move_61 rfl (lv_at hl 1 rfl) ?_
    obtain ⟨x14, g15, hf⟩ := obind hf
    refine fr_get hx hb hts hown K hC ct_8 (fgR_get g15) (by decide) kw985 rfl dX8_move_62 ?_
    refine lv_iload_n hx hb dX8_move_65 rfl (lv_at hl 2 rfl) ?_
    refine lv_iconst (v := (4 : Int32)) hx hb dX8_move_66 (by decide) ?_
    refine lv_imul hx hb dX8_move_67 ?_
    refine lv_iconst (v := (0 : Int32)) hx hb dX8_move_68 (by decide) ?_
    refine lv_iadd hx hb dX8_move_69 ?_
    refine lv_iload_n hx hb dX8_move_70 rfl (lv_at hl 3 rfl) ?_
    obtain ⟨h16, g17, hf⟩ := obind hf
    refine fr_iast hx hb K hC (t := 0) rfl g17 dX8_move_71 (fun H locs hC => ?_)
    refine fr_aload_n hx hb dX8_move_72 rfl (lv_at hl 1 rfl) ?_
    obtain ⟨x18, g19, hf⟩ := obind hf
    refine fr_get hx hb hts hown K hC ct_8 (fgR_get g19) (by decide) kw985 rfl dX8_move_73 ?_
    refine lv_iload_n hx hb dX8_move_76 rfl (lv_at hl 2 rfl) ?_
    refine lv_iconst (v := (4 : Int32)) hx hb dX8_move_77 (by decide) ?_
    refine lv_imul hx hb dX8_move_78 ?_
    refine lv_iconst (v := (1 : Int32)) hx hb dX8_move_79 (by decide) ?_
    refine lv_iadd hx hb dX8_move_80 ?_
    refine lv_iload_n hx hb dX8_move_81 rfl (lv_at hl 4 rfl) ?_
    obtain ⟨h20, g21, hf⟩ := obind hf
    refine fr_iast hx hb K hC (t := 0) rfl g21 dX8_move_82 (fun H locs hC => ?_)
    refine lv_iload hx hb dX8_move_83 (lv_at hl 0 rfl) ?_
    obtain rfl := Option.some.inj hf
    exact fr_iret hx hb hr hlocks hC dX8_move_85
  · replace hf := oneg c9 hf
    refine lv_iconst (v := (0 : Int32)) hx hb dX8_move_47 (by decide) ?_
    obtain rfl := Option.some.inj hf
    exact fr_iret hx hb hr hlocks hC dX8_move_48
set_option maxHeartbeats 4000000 in
set_option maxRecDepth 100000 in
theorem w_X8_move_L33 {p : Program} {l : Launch} {e : Env} {s : State} {m : MethodId} {args : Array Value} {below : List Frame} {meth : Method} {c : Code} {D : va_G} {cA : Nat → ClassId} {h0 : fSt} {r : (Int32 × fSt)} (M : fM p s m args meth c D cA h0 { frames := 3, cells := fCB h0 - fZ h0, slots := fLB h0 - fL h0, locals := 65 } cX8_move 5 (some (.int)) RX8) (hfl : l.stackTraces = false) (a0 : Option Nat) (a1 : Int32) (a2 : Int32) (a3 : Int32) (s2 : Int32) (s1 : Option Nat) (s0 : Option Nat) (h : fSt) (hf : f_X8_move_L33 a0 a1 a2 a3 s2 s1 s0 h = some r) : ∀ (H : Heap) (locs : List Loc) (cells slots : Nat) (ls : Array Slot), fCur D cA s h0 h H locs → lv_has ls 5 [(0, va_rf a0), (1, .int a1), (2, .int a2), (3, .int a3)] → W p l e { frames := 3, cells := fCB h0 - fZ h0, slots := fLB h0 - fL h0, locals := 65 } s m args below meth c H locs cells slots (MQ below (fQ D cA h0 r.2 (some (.int r.1))) args s (fCB h0 - fZ h0) (fLB h0 - fL h0) (fA h0)) (F0 m 33 ls [.int s2, va_rf s1, va_rf s0]) := by
  obtain ⟨hx, hb, hml, hr, hlocks, hts, hown, K, hR⟩ := id M
  intro H locs cells slots ls hC hl
  refine lv_iconst (v := (0 : Int32)) hx hb dX8_move_33 (by decide) ?_
  exact w_X8_move_L34 M hfl _ _ _ _ _ _ _ _ _ hf _ _ _ _ _ hC (lv_sub hl [0, 1, 2, 3] rfl)
set_option maxHeartbeats 4000000 in
set_option maxRecDepth 100000 in
theorem w_X8_move_L0 {p : Program} {l : Launch} {e : Env} {s : State} {m : MethodId} {args : Array Value} {below : List Frame} {meth : Method} {c : Code} {D : va_G} {cA : Nat → ClassId} {h0 : fSt} {r : (Int32 × fSt)} (M : fM p s m args meth c D cA h0 { frames := 3, cells := fCB h0 - fZ h0, slots := fLB h0 - fL h0, locals := 65 } cX8_move 5 (some (.int)) RX8) (hfl : l.stackTraces = false) (a0 : Option Nat) (a1 : Int32) (a2 : Int32) (a3 : Int32) (h : fSt) (hf : f_X8_move_L0 a0 a1 a2 a3 h = some r) : ∀ (H : Heap) (locs : List Loc) (cells slots : Nat) (ls : Array Slot), fCur D cA s h0 h H locs → lv_has ls 5 [(0, va_rf a0), (1, .int a1), (2, .int a2), (3, .int a3)] → W p l e { frames := 3, cells := fCB h0 - fZ h0, slots := fLB h0 - fL h0, locals := 65 } s m args below meth c H locs cells slots (MQ below (fQ D cA h0 r.2 (some (.int r.1))) args s (fCB h0 - fZ h0) (fLB h0 - fL h0) (fA h0)) (F0 m 0 ls []) := by
  obtain ⟨hx, hb, hml, hr, hlocks, hts, hown, K, hR⟩ := id M
  intro H locs cells slots ls hC hl
  refine fr_aload_n hx hb dX8_move_0 rfl (lv_at hl 0 rfl) ?_
  refine fr_aload_n hx hb dX8_move_1 rfl (lv_at hl 0 rfl) ?_
  refine lv_iload_n hx hb dX8_move_2 rfl (lv_at hl 1 rfl) ?_
  refine lv_iload_n hx hb dX8_move_3 rfl (lv_at hl 2 rfl) ?_
  refine lv_sipush (v := (-200 : Int32)) hx hb dX8_move_4 (by decide) ?_
  refine lv_sipush (v := (200 : Int32)) hx hb dX8_move_7 (by decide) ?_
  obtain ⟨r22, g23, hf⟩ := obind hf
  refine fr_callS hx hb hml hts hown K hC hR (c_X8_isIn hfl D cA g23) 3 kw1066 kw1064 kw1065 kw62 (by decide +kernel) ⟨by exact Nat.le_of_ble_eq_true rfl, by exact Nat.le_of_ble_eq_true rfl⟩ rfl hl.1 (cat8 _ (by exact Nat.le_of_ble_eq_true rfl)) dX8_move_10 rfl (fun H locs _ _ hC => ?_)
  refine lv_if_eq (tgt := 33) hx hb dX8_move_13 (by decide) (fun c24 => ?_) (fun c24 => ?_)
  · replace hf := opos c24 hf
    exact w_X8_move_L33 M hfl _ _ _ _ _ _ _ _ hf _ _ _ _ _ hC (lv_sub hl [0, 1, 2, 3] rfl)
  · replace hf := oneg c24 hf
    refine lv_iload_n hx hb dX8_move_16 rfl (lv_at hl 3 rfl) ?_
    refine lv_sipush (v := (-200 : Int32)) hx hb dX8_move_17 (by decide) ?_
    refine lv_sipush (v := (200 : Int32)) hx hb dX8_move_20 (by decide) ?_
    obtain ⟨r25, g26, hf⟩ := obind hf
    refine fr_callS hx hb hml hts hown K hC hR (c_X8_isIn hfl D cA g26) 3 kw1066 kw1064 kw1065 kw62 (by decide +kernel) ⟨by exact Nat.le_of_ble_eq_true rfl, by exact Nat.le_of_ble_eq_true rfl⟩ rfl hl.1 (cat8 _ (by exact Nat.le_of_ble_eq_true rfl)) dX8_move_23 rfl (fun H locs _ _ hC => ?_)
    refine lv_if_eq (tgt := 33) hx hb dX8_move_26 (by decide) (fun c27 => ?_) (fun c27 => ?_)
    · replace hf := opos c27 hf
      exact w_X8_move_L33 M hfl _ _ _ _ _ _ _ _ hf _ _ _ _ _ hC (lv_sub hl [0, 1, 2, 3] rfl)
    · replace hf := oneg c27 hf
      refine lv_iconst (v := (1 : Int32)) hx hb dX8_move_29 (by decide) ?_
      refine lv_goto (tgt := 34) hx hb dX8_move_30 (by decide) ?_
      exact w_X8_move_L34 M hfl _ _ _ _ _ _ _ _ _ hf _ _ _ _ _ hC (lv_sub hl [0, 1, 2, 3] rfl)
set_option maxRecDepth 100000 in
theorem c_X8_move {l : Launch} (hfl : l.stackTraces = false) (D : va_G) (cA : Nat → ClassId) {o : Nat} {p0 : Int32} {p1 : Int32} {p2 : Int32} {h : fSt} {r : (Int32 × fSt)} (hf : f_X8_move o p0 p1 p2 h = some r) : fMet l yX8_move (wsC yX8_move cX8_move 5 (some (.int))) (3) (65) D cA [.ref o, .int p0, .int p1, .int p2] h r.2 (some (.int r.1)) := by
  exact fMet.of (own := RX8) (by decide +kernel) rfl (lva1 rfl (lva1 rfl (lva1 rfl (lva1 rfl lva0)))) (lgl1 rfl (lgl1 rfl (lgl1 rfl (lgl1 rfl lgl0)))) (Nat.le_of_ble_eq_true rfl) (fun p e s m args below meth c ls hnm _ M hC hl => by
    have hl : lv_has ls 5 [(0, va_rf (some o)), (1, .int p0), (2, .int p1), (3, .int p2)] := hl
    exact w_X8_move_L0 M hfl _ _ _ _ _ hf _ _ _ _ _ hC (lv_sub hl [0, 1, 2, 3] rfl))
set_option maxHeartbeats 4000000 in
set_option maxRecDepth 100000 in
theorem w_X8_nextKey_L0 {p : Program} {l : Launch} {e : Env} {s : State} {m : MethodId} {args : Array Value} {below : List Frame} {meth : Method} {c : Code} {D : va_G} {cA : Nat → ClassId} {h0 : fSt} {r : (Int32 × fSt)} (M : fM p s m args meth c D cA h0 { frames := 1, cells := fCB h0 - fZ h0, slots := fLB h0 - fL h0, locals := 23 } cX8_nextKey 1 (some (.int)) RX8) (hfl : l.stackTraces = false) (a0 : Option Nat) (h : fSt) (hf : f_X8_nextKey_L0 a0 h = some r) : ∀ (H : Heap) (locs : List Loc) (cells slots : Nat) (ls : Array Slot), fCur D cA s h0 h H locs → lv_has ls 1 [(0, va_rf a0)] → W p l e { frames := 1, cells := fCB h0 - fZ h0, slots := fLB h0 - fL h0, locals := 23 } s m args below meth c H locs cells slots (MQ below (fQ D cA h0 r.2 (some (.int r.1))) args s (fCB h0 - fZ h0) (fLB h0 - fL h0) (fA h0)) (F0 m 0 ls []) := by
  obtain ⟨hx, hb, hml, hr, hlocks, hts, hown, K, hR⟩ := id M
  intro H locs cells slots ls hC hl
  refine fr_aload_n hx hb dX8_nextKey_0 rfl (lv_at hl 0 rfl) ?_
  refine fr_aload_n hx hb dX8_nextKey_1 rfl (lv_at hl 0 rfl) ?_
  obtain ⟨b3, q4, hf⟩ := obind hf
  obtain ⟨r1, g2, hf⟩ := obind hf
  refine fr_callV hx hb hml hts hown K hC hR ct_8 (c_X8_nextKeyNow hfl D cA g2) 0 q4 kw1219 kw1216 kw1218 kw36 kw62 (by decide +kernel) ⟨by exact Nat.le_of_ble_eq_true rfl, by exact Nat.le_of_ble_eq_true rfl⟩ rfl hl.1 (cat8 _ (by exact Nat.le_of_ble_eq_true rfl)) dX8_nextKey_2 rfl (fun H locs _ _ hC => ?_)
  obtain ⟨b7, q8, hf⟩ := obind hf
  obtain ⟨r5, g6, hf⟩ := obind hf
  refine fr_callV hx hb hml hts hown K hC hR ct_8 (c_X8_ok hfl D cA g6) 1 q8 kw1134 kw1131 kw1133 kw27 kw62 (by decide +kernel) ⟨by exact Nat.le_of_ble_eq_true rfl, by exact Nat.le_of_ble_eq_true rfl⟩ rfl hl.1 (cat8 _ (by exact Nat.le_of_ble_eq_true rfl)) dX8_nextKey_5 rfl (fun H locs _ _ hC => ?_)
  obtain rfl := Option.some.inj hf
  exact fr_iret hx hb hr hlocks hC dX8_nextKey_8
set_option maxRecDepth 100000 in
theorem c_X8_nextKey {l : Launch} (hfl : l.stackTraces = false) (D : va_G) (cA : Nat → ClassId) {o : Nat} {h : fSt} {r : (Int32 × fSt)} (hf : f_X8_nextKey o h = some r) : fMet l yX8_nextKey (wsC yX8_nextKey cX8_nextKey 1 (some (.int))) (1) (23) D cA [.ref o] h r.2 (some (.int r.1)) := by
  exact fMet.of (own := RX8) (by decide +kernel) rfl (lva1 rfl lva0) (lgl1 rfl lgl0) (Nat.le_of_ble_eq_true rfl) (fun p e s m args below meth c ls hnm _ M hC hl => by
    have hl : lv_has ls 1 [(0, va_rf (some o))] := hl
    exact w_X8_nextKey_L0 M hfl _ _ hf _ _ _ _ _ hC (lv_sub hl [0] rfl))
set_option maxHeartbeats 4000000 in
set_option maxRecDepth 100000 in
theorem w_X8_nextPick_L25 {p : Program} {l : Launch} {e : Env} {s : State} {m : MethodId} {args : Array Value} {below : List Frame} {meth : Method} {c : Code} {D : va_G} {cA : Nat → ClassId} {h0 : fSt} {r : (Int32 × fSt)} (M : fM p s m args meth c D cA h0 { frames := 11, cells := fCB h0 - fZ h0, slots := fLB h0 - fL h0, locals := 298 } cX8_nextPick 9 (some (.int)) RX8) (hfl : l.stackTraces = false) (a0 : Option Nat) (h : fSt) (hf : f_X8_nextPick_L25 a0 h = some r) : ∀ (H : Heap) (locs : List Loc) (cells slots : Nat) (ls : Array Slot), fCur D cA s h0 h H locs → lv_has ls 9 [(0, va_rf a0)] → W p l e { frames := 11, cells := fCB h0 - fZ h0, slots := fLB h0 - fL h0, locals := 298 } s m args below meth c H locs cells slots (MQ below (fQ D cA h0 r.2 (some (.int r.1))) args s (fCB h0 - fZ h0) (fLB h0 - fL h0) (fA h0)) (F0 m 25 ls []) := by
  obtain ⟨hx, hb, hml, hr, hlocks, hts, hown, K, hR⟩ := id M
  intro H locs cells slots ls hC hl
  refine fr_aload_n hx hb dX8_nextPick_25 rfl (lv_at hl 0 rfl) ?_
  refine lv_iconst (v := (1 : Int32)) hx hb dX8_nextPick_26 (by decide) ?_
  obtain ⟨b3, q4, hf⟩ := obind hf
  obtain ⟨r1, g2, hf⟩ := obind hf
  refine fr_callV hx hb hml hts hown K hC hR ct_8 (c_X8_no hfl D cA g2) 1 q4 kw1070 kw1067 kw1069 kw21 kw62 (by decide +kernel) ⟨by exact Nat.le_of_ble_eq_true rfl, by exact Nat.le_of_ble_eq_true rfl⟩ rfl hl.1 (cat8 _ (by exact Nat.le_of_ble_eq_true rfl)) dX8_nextPick_27 rfl (fun H locs _ _ hC => ?_)
  obtain rfl := Option.some.inj hf
  exact fr_iret hx hb hr hlocks hC dX8_nextPick_30
set_option maxHeartbeats 4000000 in
set_option maxRecDepth 100000 in
theorem w_X8_nextPick_L103 {p : Program} {l : Launch} {e : Env} {s : State} {m : MethodId} {args : Array Value} {below : List Frame} {meth : Method} {c : Code} {D : va_G} {cA : Nat → ClassId} {h0 : fSt} {r : (Int32 × fSt)} (M : fM p s m args meth c D cA h0 { frames := 11, cells := fCB h0 - fZ h0, slots := fLB h0 - fL h0, locals := 298 } cX8_nextPick 9 (some (.int)) RX8) (hfl : l.stackTraces = false) {k52 : Option Nat → Int32 → Int32 → Int32 → Int32 → Int32 → Int32 → Int32 → Int32 → fSt → Option (Int32 × fSt)} (hk52 : ∀ (a0 : Option Nat) (a1 : Int32) (a2 : Int32) (a3 : Int32) (a4 : Int32) (a5 : Int32) (a6 : Int32) (a7 : Int32) (a8 : Int32) (h : fSt), k52 a0 a1 a2 a3 a4 a5 a6 a7 a8 h = some r → ∀ (H : Heap) (locs : List Loc) (cells slots : Nat) (ls : Array Slot), fCur D cA s h0 h H locs → lv_has ls 9 [(0, va_rf a0), (1, .int a1), (2, .int a2), (3, .int a3), (4, .int a4), (5, .int a5), (6, .int a6), (7, .int a7), (8, .int a8)] → W p l e { frames := 11, cells := fCB h0 - fZ h0, slots := fLB h0 - fL h0, locals := 298 } s m args below meth c H locs cells slots (MQ below (fQ D cA h0 r.2 (some (.int r.1))) args s (fCB h0 - fZ h0) (fLB h0 - fL h0) (fA h0)) (F0 m 52 ls [])) (a0 : Option Nat) (a1 : Int32) (a2 : Int32) (a3 : Int32) (a4 : Int32) (a5 : Int32) (a6 : Int32) (a7 : Int32) (a8 : Int32) (h : fSt) (hf : f_X8_nextPick_L103 k52 a0 a1 a2 a3 a4 a5 a6 a7 a8 h = some r) : ∀ (H : Heap) (locs : List Loc) (cells slots : Nat) (ls : Array Slot), fCur D cA s h0 h H locs → lv_has ls 9 [(0, va_rf a0), (1, .int a1), (2, .int a2), (3, .int a3), (4, .int a4), (5, .int a5), (6, .int a6), (7, .int a7), (8, .int a8)] → W p l e { frames := 11, cells := fCB h0 - fZ h0, slots := fLB h0 - fL h0, locals := 298 } s m args below meth c H locs cells slots (MQ below (fQ D cA h0 r.2 (some (.int r.1))) args s (fCB h0 - fZ h0) (fLB h0 - fL h0) (fA h0)) (F0 m 103 ls []) := by
  obtain ⟨hx, hb, hml, hr, hlocks, hts, hown, K, hR⟩ := id M
  intro H locs cells slots ls hC hl
  refine lv_iinc (v := (a8 + (1 : Int32))) (lv' := [(8, .int (a8 + (1 : Int32))), (0, va_rf a0), (1, .int a1), (2, .int a2), (3, .int a3), (4, .int a4), (5, .int a5), (6, .int a6), (7, .int a7)]) hx hb dX8_nextPick_103 hl (k := 8) rfl rfl (by decide) (congrArg (List.cons _) (flk rfl (flk rfl (flk rfl (flk rfl (flk rfl (flk rfl (flk rfl (flk rfl (fld rfl fln)))))))))) (fun ls hl => ?_)
  refine lv_goto (tgt := 52) hx hb dX8_nextPick_106 (by decide) ?_
  exact hk52 _ _ _ _ _ _ _ _ _ _ hf _ _ _ _ _ hC (lv_sub hl [1, 2, 3, 4, 5, 6, 7, 8, 0] rfl)
set_option maxHeartbeats 4000000 in
set_option maxRecDepth 100000 in
theorem w_X8_nextPick_L109 {p : Program} {l : Launch} {e : Env} {s : State} {m : MethodId} {args : Array Value} {below : List Frame} {meth : Method} {c : Code} {D : va_G} {cA : Nat → ClassId} {h0 : fSt} {r : (Int32 × fSt)} (M : fM p s m args meth c D cA h0 { frames := 11, cells := fCB h0 - fZ h0, slots := fLB h0 - fL h0, locals := 298 } cX8_nextPick 9 (some (.int)) RX8) (hfl : l.stackTraces = false) (a0 : Option Nat) (a5 : Int32) (a7 : Int32) (h : fSt) (hf : f_X8_nextPick_L109 a0 a5 a7 h = some r) : ∀ (H : Heap) (locs : List Loc) (cells slots : Nat) (ls : Array Slot), fCur D cA s h0 h H locs → lv_has ls 9 [(0, va_rf a0), (5, .int a5), (7, .int a7)] → W p l e { frames := 11, cells := fCB h0 - fZ h0, slots := fLB h0 - fL h0, locals := 298 } s m args below meth c H locs cells slots (MQ below (fQ D cA h0 r.2 (some (.int r.1))) args s (fCB h0 - fZ h0) (fLB h0 - fL h0) (fA h0)) (F0 m 109 ls []) := by
  obtain ⟨hx, hb, hml, hr, hlocks, hts, hown, K, hR⟩ := id M
  intro H locs cells slots ls hC hl
  refine fr_aload_n hx hb dX8_nextPick_109 rfl (lv_at hl 0 rfl) ?_
  refine lv_iload hx hb dX8_nextPick_110 (lv_at hl 1 rfl) ?_
  obtain ⟨h5, g6, hf⟩ := obind hf
  refine fr_put hx hb hts hown K hC ct_8 g6 (by decide) kw996 rfl rfl rfl rfl dX8_nextPick_112 (fun H locs hC => ?_)
  refine lv_iload hx hb dX8_nextPick_115 (lv_at hl 2 rfl) ?_
  obtain rfl := Option.some.inj hf
  exact fr_iret hx hb hr hlocks hC dX8_nextPick_117
set_option maxHeartbeats 4000000 in
set_option maxRecDepth 100000 in
theorem w_X8_nextPick_L52 {p : Program} {l : Launch} {e : Env} {s : State} {m : MethodId} {args : Array Value} {below : List Frame} {meth : Method} {c : Code} {D : va_G} {cA : Nat → ClassId} {h0 : fSt} {r : (Int32 × fSt)} (M : fM p s m args meth c D cA h0 { frames := 11, cells := fCB h0 - fZ h0, slots := fLB h0 - fL h0, locals := 298 } cX8_nextPick 9 (some (.int)) RX8) (hfl : l.stackTraces = false) : ∀ (n : Nat) (a0 : Option Nat) (a1 : Int32) (a2 : Int32) (a3 : Int32) (a4 : Int32) (a5 : Int32) (a6 : Int32) (a7 : Int32) (a8 : Int32) (h : fSt), f_X8_nextPick_L52 n a0 a1 a2 a3 a4 a5 a6 a7 a8 h = some r → ∀ (H : Heap) (locs : List Loc) (cells slots : Nat) (ls : Array Slot), fCur D cA s h0 h H locs → lv_has ls 9 [(0, va_rf a0), (1, .int a1), (2, .int a2), (3, .int a3), (4, .int a4), (5, .int a5), (6, .int a6), (7, .int a7), (8, .int a8)] → W p l e { frames := 11, cells := fCB h0 - fZ h0, slots := fLB h0 - fL h0, locals := 298 } s m args below meth c H locs cells slots (MQ below (fQ D cA h0 r.2 (some (.int r.1))) args s (fCB h0 - fZ h0) (fLB h0 - fL h0) (fA h0)) (F0 m 52 ls []) := by
  obtain ⟨hx, hb, hml, hr, hlocks, hts, hown, K, hR⟩ := id M
  intro n
  induction n with
  | zero =>
    intro a0 a1 a2 a3 a4 a5 a6 a7 a8 h hf
    exact nomatch (show (none : Option (Int32 × fSt)) = some r from hf)
  | succ n hk52 =>
    intro a0 a1 a2 a3 a4 a5 a6 a7 a8 h hf H locs cells slots ls hC hl
    refine lv_iload hx hb dX8_nextPick_52 (lv_at hl 8 rfl) ?_
    refine lv_iload hx hb dX8_nextPick_54 (lv_at hl 4 rfl) ?_
    refine lv_icmp_gt (tgt := 109) hx hb dX8_nextPick_56 (by decide) (fun c7 => ?_) (fun c7 => ?_)
    · replace hf := opos c7 hf
      exact w_X8_nextPick_L109 M hfl _ _ _ _ hf _ _ _ _ _ hC (lv_sub hl [0, 5, 7] rfl)
    · replace hf := oneg c7 hf
      refine lv_iload hx hb dX8_nextPick_59 (lv_at hl 5 rfl) ?_
      refine lv_iload hx hb dX8_nextPick_61 (lv_at hl 8 rfl) ?_
      refine lv_iadd hx hb dX8_nextPick_63 ?_
      refine lv_sipush (v := (9999 : Int32)) hx hb dX8_nextPick_64 (by decide) ?_
      refine lv_icmp_gt (tgt := 109) hx hb dX8_nextPick_67 (by decide) (fun c8 => ?_) (fun c8 => ?_)
      · replace hf := opos c8 hf
        exact w_X8_nextPick_L109 M hfl _ _ _ _ hf _ _ _ _ _ hC (lv_sub hl [0, 5, 7] rfl)
      · replace hf := oneg c8 hf
        refine lv_iload hx hb dX8_nextPick_70 (lv_at hl 7 rfl) ?_
        refine lv_iconst (v := (-1 : Int32)) hx hb dX8_nextPick_72 (by decide) ?_
        refine lv_icmp_ne (tgt := 109) hx hb dX8_nextPick_73 (by decide) (fun c9 => ?_) (fun c9 => ?_)
        · replace hf := oneg c9 hf
          exact w_X8_nextPick_L109 M hfl _ _ _ _ hf _ _ _ _ _ hC (lv_sub hl [0, 5, 7] rfl)
        · replace hf := opos c9 hf
          refine fr_aload_n hx hb dX8_nextPick_76 rfl (lv_at hl 0 rfl) ?_
          refine lv_iload hx hb dX8_nextPick_77 (lv_at hl 5 rfl) ?_
          refine lv_iload hx hb dX8_nextPick_79 (lv_at hl 8 rfl) ?_
          refine lv_iadd hx hb dX8_nextPick_81 ?_
          obtain ⟨h10, g11, hf⟩ := obind hf
          refine fr_put hx hb hts hown K hC ct_8 g11 (by decide) kw996 rfl rfl rfl rfl dX8_nextPick_82 (fun H locs hC => ?_)
          refine fr_aload_n hx hb dX8_nextPick_85 rfl (lv_at hl 0 rfl) ?_
          refine lv_iload_n hx hb dX8_nextPick_86 rfl (lv_at hl 1 rfl) ?_
          refine lv_iload_n hx hb dX8_nextPick_87 rfl (lv_at hl 2 rfl) ?_
          refine lv_iload_n hx hb dX8_nextPick_88 rfl (lv_at hl 3 rfl) ?_
          obtain ⟨b14, q15, hf⟩ := obind hf
          obtain ⟨r12, g13, hf⟩ := obind hf
          refine fr_callV hx hb hml hts hown K hC hR ct_8 (c_X8_pickNow hfl D cA g13) 3 q15 kw1335 kw1332 kw1334 kw51 kw62 (by decide +kernel) ⟨by exact Nat.le_of_ble_eq_true rfl, by exact Nat.le_of_ble_eq_true rfl⟩ rfl hl.1 (cat8 _ (by exact Nat.le_of_ble_eq_true rfl)) dX8_nextPick_89 rfl (fun H locs _ _ hC => ?_)
          refine lv_iload hx hb dX8_nextPick_92 (lv_at hl 6 rfl) ?_
          refine lv_icmp_eq (tgt := 103) hx hb dX8_nextPick_94 (by decide) (fun c16 => ?_) (fun c16 => ?_)
          · replace hf := opos c16 hf
            exact w_X8_nextPick_L103 M hfl hk52 _ _ _ _ _ _ _ _ _ _ hf _ _ _ _ _ hC (lv_sub hl [0, 1, 2, 3, 4, 5, 6, 7, 8] rfl)
          · replace hf := oneg c16 hf
            refine fr_aload_n hx hb dX8_nextPick_97 rfl (lv_at hl 0 rfl) ?_
            obtain ⟨x17, g18, hf⟩ := obind hf
            refine fr_get hx hb hts hown K hC ct_8 (fgI_get g18) (by decide) kw996 rfl dX8_nextPick_98 ?_
            refine lv_istore (lv' := [(7, .int x17), (0, va_rf a0), (1, .int a1), (2, .int a2), (3, .int a3), (4, .int a4), (5, .int a5), (6, .int a6), (8, .int a8)]) hx hb dX8_nextPick_101 hl (by decide) (congrArg (List.cons _) (flk rfl (flk rfl (flk rfl (flk rfl (flk rfl (flk rfl (flk rfl (fld rfl (flk rfl fln)))))))))) (fun ls hl => ?_)
            exact w_X8_nextPick_L103 M hfl hk52 _ _ _ _ _ _ _ _ _ _ hf _ _ _ _ _ hC (lv_sub hl [1, 2, 3, 4, 5, 6, 7, 0, 8] rfl)
set_option maxHeartbeats 4000000 in
set_option maxRecDepth 100000 in
theorem w_X8_nextPick_L0 {p : Program} {l : Launch} {e : Env} {s : State} {m : MethodId} {args : Array Value} {below : List Frame} {meth : Method} {c : Code} {D : va_G} {cA : Nat → ClassId} {h0 : fSt} {r : (Int32 × fSt)} (M : fM p s m args meth c D cA h0 { frames := 11, cells := fCB h0 - fZ h0, slots := fLB h0 - fL h0, locals := 298 } cX8_nextPick 9 (some (.int)) RX8) (hfl : l.stackTraces = false) (a0 : Option Nat) (a1 : Int32) (a2 : Int32) (a3 : Int32) (a4 : Int32) (h : fSt) (hf : f_X8_nextPick_L0 a0 a1 a2 a3 a4 h = some r) : ∀ (H : Heap) (locs : List Loc) (cells slots : Nat) (ls : Array Slot), fCur D cA s h0 h H locs → lv_has ls 9 [(0, va_rf a0), (1, .int a1), (2, .int a2), (3, .int a3), (4, .int a4)] → W p l e { frames := 11, cells := fCB h0 - fZ h0, slots := fLB h0 - fL h0, locals := 298 } s m args below meth c H locs cells slots (MQ below (fQ D cA h0 r.2 (some (.int r.1))) args s (fCB h0 - fZ h0) (fLB h0 - fL h0) (fA h0)) (F0 m 0 ls []) := by
  obtain ⟨hx, hb, hml, hr, hlocks, hts, hown, K, hR⟩ := id M
  intro H locs cells slots ls hC hl
  refine fr_aload_n hx hb dX8_nextPick_0 rfl (lv_at hl 0 rfl) ?_
  refine lv_iconst (v := (0 : Int32)) hx hb dX8_nextPick_1 (by decide) ?_
  obtain ⟨h19, g20, hf⟩ := obind hf
  refine fr_put hx hb hts hown K hC ct_8 g20 (by decide) kw971 rfl rfl rfl rfl dX8_nextPick_2 (fun H locs hC => ?_)
  refine lv_iload_n hx hb dX8_nextPick_5 rfl (lv_at hl 1 rfl) ?_
  refine lv_iload_n hx hb dX8_nextPick_6 rfl (lv_at hl 2 rfl) ?_
  refine lv_iload_n hx hb dX8_nextPick_7 rfl (lv_at hl 3 rfl) ?_
  obtain ⟨r21, g22, hf⟩ := obind hf
  refine fr_callS hx hb hml hts hown K hC hR (c_X8_isPoint hfl D cA g22) 3 kw1323 kw1321 kw1322 kw62 (by decide +kernel) ⟨by exact Nat.le_of_ble_eq_true rfl, by exact Nat.le_of_ble_eq_true rfl⟩ rfl hl.1 (cat8 _ (by exact Nat.le_of_ble_eq_true rfl)) dX8_nextPick_8 rfl (fun H locs _ _ hC => ?_)
  refine lv_if_eq (tgt := 25) hx hb dX8_nextPick_11 (by decide) (fun c23 => ?_) (fun c23 => ?_)
  · replace hf := opos c23 hf
    exact w_X8_nextPick_L25 M hfl _ _ hf _ _ _ _ _ hC (lv_sub hl [0] rfl)
  · replace hf := oneg c23 hf
    refine lv_iload hx hb dX8_nextPick_14 (lv_at hl 4 rfl) ?_
    refine lv_iconst (v := (1 : Int32)) hx hb dX8_nextPick_16 (by decide) ?_
    refine lv_bipush (v := (100 : Int32)) hx hb dX8_nextPick_17 (by decide) ?_
    obtain ⟨r24, g25, hf⟩ := obind hf
    refine fr_callS hx hb hml hts hown K hC hR (c_X8_isIn hfl D cA g25) 3 kw1066 kw1064 kw1065 kw62 (by decide +kernel) ⟨by exact Nat.le_of_ble_eq_true rfl, by exact Nat.le_of_ble_eq_true rfl⟩ rfl hl.1 (cat8 _ (by exact Nat.le_of_ble_eq_true rfl)) dX8_nextPick_19 rfl (fun H locs _ _ hC => ?_)
    refine lv_if_ne (tgt := 31) hx hb dX8_nextPick_22 (by decide) (fun c26 => ?_) (fun c26 => ?_)
    · replace hf := oneg c26 hf
      refine fr_aload_n hx hb dX8_nextPick_31 rfl (lv_at hl 0 rfl) ?_
      obtain ⟨x27, g28, hf⟩ := obind hf
      refine fr_get hx hb hts hown K hC ct_8 (fgI_get g28) (by decide) kw996 rfl dX8_nextPick_32 ?_
      refine lv_istore (lv' := [(5, .int x27), (0, va_rf a0), (1, .int a1), (2, .int a2), (3, .int a3), (4, .int a4)]) hx hb dX8_nextPick_35 hl (by decide) (congrArg (List.cons _) (flk rfl (flk rfl (flk rfl (flk rfl (flk rfl fln)))))) (fun ls hl => ?_)
      refine fr_aload_n hx hb dX8_nextPick_37 rfl (lv_at hl 1 rfl) ?_
      refine lv_iload_n hx hb dX8_nextPick_38 rfl (lv_at hl 2 rfl) ?_
      refine lv_iload_n hx hb dX8_nextPick_39 rfl (lv_at hl 3 rfl) ?_
      refine lv_iload_n hx hb dX8_nextPick_40 rfl (lv_at hl 4 rfl) ?_
      obtain ⟨b31, q32, hf⟩ := obind hf
      obtain ⟨r29, g30, hf⟩ := obind hf
      refine fr_callV hx hb hml hts hown K hC hR ct_8 (c_X8_pickNow hfl D cA g30) 3 q32 kw1335 kw1332 kw1334 kw51 kw62 (by decide +kernel) ⟨by exact Nat.le_of_ble_eq_true rfl, by exact Nat.le_of_ble_eq_true rfl⟩ rfl hl.1 (cat8 _ (by exact Nat.le_of_ble_eq_true rfl)) dX8_nextPick_41 rfl (fun H locs _ _ hC => ?_)
      refine lv_istore (lv' := [(6, .int r29.1), (5, .int x27), (0, va_rf a0), (1, .int a1), (2, .int a2), (3, .int a3), (4, .int a4)]) hx hb dX8_nextPick_44 hl (by decide) (congrArg (List.cons _) (flk rfl (flk rfl (flk rfl (flk rfl (flk rfl (flk rfl fln))))))) (fun ls hl => ?_)
      refine lv_iconst (v := (-1 : Int32)) hx hb dX8_nextPick_46 (by decide) ?_
      refine lv_istore (lv' := [(7, .int (-1 : Int32)), (6, .int r29.1), (5, .int x27), (0, va_rf a0), (1, .int a1), (2, .int a2), (3, .int a3), (4, .int a4)]) hx hb dX8_nextPick_47 hl (by decide) (congrArg (List.cons _) (flk rfl (flk rfl (flk rfl (flk rfl (flk rfl (flk rfl (flk rfl fln)))))))) (fun ls hl => ?_)
      refine lv_iconst (v := (1 : Int32)) hx hb dX8_nextPick_49 (by decide) ?_
      refine lv_istore (lv' := [(8, .int (1 : Int32)), (7, .int (-1 : Int32)), (6, .int r29.1), (5, .int x27), (0, va_rf a0), (1, .int a1), (2, .int a2), (3, .int a3), (4, .int a4)]) hx hb dX8_nextPick_50 hl (by decide) (congrArg (List.cons _) (flk rfl (flk rfl (flk rfl (flk rfl (flk rfl (flk rfl (flk rfl (flk rfl fln))))))))) (fun ls hl => ?_)
      exact w_X8_nextPick_L52 M hfl 4096 _ _ _ _ _ _ _ _ _ _ hf _ _ _ _ _ hC (lv_sub hl [4, 5, 6, 7, 8, 3, 2, 1, 0] rfl)
    · replace hf := opos c26 hf
      exact w_X8_nextPick_L25 M hfl _ _ hf _ _ _ _ _ hC (lv_sub hl [0] rfl)
set_option maxRecDepth 100000 in
theorem c_X8_nextPick {l : Launch} (hfl : l.stackTraces = false) (D : va_G) (cA : Nat → ClassId) {o : Nat} {p0 : Int32} {p1 : Int32} {p2 : Int32} {p3 : Int32} {h : fSt} {r : (Int32 × fSt)} (hf : f_X8_nextPick o p0 p1 p2 p3 h = some r) : fMet l yX8_nextPick (wsC yX8_nextPick cX8_nextPick 9 (some (.int))) (11) (298) D cA [.ref o, .int p0, .int p1, .int p2, .int p3] h r.2 (some (.int r.1)) := by
  exact fMet.of (own := RX8) (by decide +kernel) rfl (lva1 rfl (lva1 rfl (lva1 rfl (lva1 rfl (lva1 rfl lva0))))) (lgl1 rfl (lgl1 rfl (lgl1 rfl (lgl1 rfl (lgl1 rfl lgl0))))) (Nat.le_of_ble_eq_true rfl) (fun p e s m args below meth c ls hnm _ M hC hl => by
    have hl : lv_has ls 9 [(0, va_rf (some o)), (1, .int p0), (2, .int p1), (3, .int p2), (4, .int p3)] := hl
    exact w_X8_nextPick_L0 M hfl _ _ _ _ _ _ hf _ _ _ _ _ hC (lv_sub hl [0, 1, 2, 3, 4] rfl))
set_option maxHeartbeats 4000000 in
set_option maxRecDepth 100000 in
theorem w_X8_nodes_L0 {p : Program} {l : Launch} {e : Env} {s : State} {m : MethodId} {args : Array Value} {below : List Frame} {meth : Method} {c : Code} {D : va_G} {cA : Nat → ClassId} {h0 : fSt} {r : (Int32 × fSt)} (M : fM p s m args meth c D cA h0 { frames := 1, cells := fCB h0 - fZ h0, slots := fLB h0 - fL h0, locals := 22 } cX8_nodes 1 (some (.int)) RX8) (hfl : l.stackTraces = false) (a0 : Option Nat) (h : fSt) (hf : f_X8_nodes_L0 a0 h = some r) : ∀ (H : Heap) (locs : List Loc) (cells slots : Nat) (ls : Array Slot), fCur D cA s h0 h H locs → lv_has ls 1 [(0, va_rf a0)] → W p l e { frames := 1, cells := fCB h0 - fZ h0, slots := fLB h0 - fL h0, locals := 22 } s m args below meth c H locs cells slots (MQ below (fQ D cA h0 r.2 (some (.int r.1))) args s (fCB h0 - fZ h0) (fLB h0 - fL h0) (fA h0)) (F0 m 0 ls []) := by
  obtain ⟨hx, hb, hml, hr, hlocks, hts, hown, K, hR⟩ := id M
  intro H locs cells slots ls hC hl
  refine fr_aload_n hx hb dX8_nodes_0 rfl (lv_at hl 0 rfl) ?_
  refine fr_aload_n hx hb dX8_nodes_1 rfl (lv_at hl 0 rfl) ?_
  obtain ⟨b3, q4, hf⟩ := obind hf
  obtain ⟨r1, g2, hf⟩ := obind hf
  refine fr_callV hx hb hml hts hown K hC hR ct_8 (c_X8_nodesNow hfl D cA g2) 0 q4 kw1142 kw1139 kw1141 kw28 kw62 (by decide +kernel) ⟨by exact Nat.le_of_ble_eq_true rfl, by exact Nat.le_of_ble_eq_true rfl⟩ rfl hl.1 (cat8 _ (by exact Nat.le_of_ble_eq_true rfl)) dX8_nodes_2 rfl (fun H locs _ _ hC => ?_)
  obtain ⟨b7, q8, hf⟩ := obind hf
  obtain ⟨r5, g6, hf⟩ := obind hf
  refine fr_callV hx hb hml hts hown K hC hR ct_8 (c_X8_ok hfl D cA g6) 1 q8 kw1134 kw1131 kw1133 kw27 kw62 (by decide +kernel) ⟨by exact Nat.le_of_ble_eq_true rfl, by exact Nat.le_of_ble_eq_true rfl⟩ rfl hl.1 (cat8 _ (by exact Nat.le_of_ble_eq_true rfl)) dX8_nodes_5 rfl (fun H locs _ _ hC => ?_)
  obtain rfl := Option.some.inj hf
  exact fr_iret hx hb hr hlocks hC dX8_nodes_8
set_option maxRecDepth 100000 in
theorem c_X8_nodes {l : Launch} (hfl : l.stackTraces = false) (D : va_G) (cA : Nat → ClassId) {o : Nat} {h : fSt} {r : (Int32 × fSt)} (hf : f_X8_nodes o h = some r) : fMet l yX8_nodes (wsC yX8_nodes cX8_nodes 1 (some (.int))) (1) (22) D cA [.ref o] h r.2 (some (.int r.1)) := by
  exact fMet.of (own := RX8) (by decide +kernel) rfl (lva1 rfl lva0) (lgl1 rfl lgl0) (Nat.le_of_ble_eq_true rfl) (fun p e s m args below meth c ls hnm _ M hC hl => by
    have hl : lv_has ls 1 [(0, va_rf (some o))] := hl
    exact w_X8_nodes_L0 M hfl _ _ hf _ _ _ _ _ hC (lv_sub hl [0] rfl))
