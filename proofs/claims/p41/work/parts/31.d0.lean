theorem dL_law_0 : decode cL_law 0 = .ok (.iconst 0, 1) := by decide +kernel
theorem dL_law_1 : decode cL_law 1 = .ok (.istore_n 1, 1) := by decide +kernel
theorem dL_law_2 : decode cL_law 2 = .ok (.iload_n 1, 1) := by decide +kernel
theorem dL_law_3 : decode cL_law 3 = .ok (.iconst 2, 1) := by decide +kernel
theorem dL_law_4 : decode cL_law 4 = .ok (.if_icmp .ge 1059, 3) := by decide +kernel
theorem dL_law_7 : decode cL_law 7 = .ok (.new 27, 3) := by decide +kernel
theorem dL_law_10 : decode cL_law 10 = .ok (.dup, 1) := by decide +kernel
theorem dL_law_11 : decode cL_law 11 = .ok (.aload_n 0, 1) := by decide +kernel
theorem dL_law_12 : decode cL_law 12 = .ok (.bipush 31, 2) := by decide +kernel
theorem dL_law_14 : decode cL_law 14 = .ok (.iload_n 1, 1) := by decide +kernel
theorem dL_law_15 : decode cL_law 15 = .ok (.imul, 1) := by decide +kernel
theorem dL_law_16 : decode cL_law 16 = .ok (.bipush 7, 2) := by decide +kernel
theorem dL_law_18 : decode cL_law 18 = .ok (.iadd, 1) := by decide +kernel
theorem dL_law_19 : decode cL_law 19 = .ok (.invokespecial 29, 3) := by decide +kernel
theorem dL_law_22 : decode cL_law 22 = .ok (.astore_n 2, 1) := by decide +kernel
theorem dL_law_23 : decode cL_law 23 = .ok (.aload_n 2, 1) := by decide +kernel
theorem dL_law_24 : decode cL_law 24 = .ok (.getfield 32, 3) := by decide +kernel
theorem dL_law_27 : decode cL_law 27 = .ok (.astore_n 3, 1) := by decide +kernel
theorem dL_law_28 : decode cL_law 28 = .ok (.iconst 0, 1) := by decide +kernel
theorem dL_law_29 : decode cL_law 29 = .ok (.istore 4, 2) := by decide +kernel
theorem dL_law_31 : decode cL_law 31 = .ok (.iload 4, 2) := by decide +kernel
theorem dL_law_33 : decode cL_law 33 = .ok (.iconst 5, 1) := by decide +kernel
theorem dL_law_34 : decode cL_law 34 = .ok (.if_icmp .ge 32, 3) := by decide +kernel
theorem dL_law_37 : decode cL_law 37 = .ok (.aload_n 2, 1) := by decide +kernel
theorem dL_law_38 : decode cL_law 38 = .ok (.invokevirtual 36, 3) := by decide +kernel
theorem dL_law_41 : decode cL_law 41 = .ok (.ifCond .eq 17, 3) := by decide +kernel
theorem dL_law_44 : decode cL_law 44 = .ok (.aload_n 2, 1) := by decide +kernel
theorem dL_law_45 : decode cL_law 45 = .ok (.invokevirtual 40, 3) := by decide +kernel
theorem dL_law_48 : decode cL_law 48 = .ok (.ifCond .eq 10, 3) := by decide +kernel
theorem dL_law_51 : decode cL_law 51 = .ok (.aload_n 2, 1) := by decide +kernel
theorem dL_law_52 : decode cL_law 52 = .ok (.invokevirtual 43, 3) := by decide +kernel
theorem dL_law_55 : decode cL_law 55 = .ok (.ifCond .ne 5, 3) := by decide +kernel
theorem dL_law_58 : decode cL_law 58 = .ok (.iconst 0, 1) := by decide +kernel
theorem dL_law_59 : decode cL_law 59 = .ok (.ireturn, 1) := by decide +kernel
theorem dL_law_60 : decode cL_law 60 = .ok (.iinc 4 1, 3) := by decide +kernel
theorem dL_law_63 : decode cL_law 63 = .ok (.goto (-32), 3) := by decide +kernel
theorem dL_law_66 : decode cL_law 66 = .ok (.iconst 0, 1) := by decide +kernel
theorem dL_law_67 : decode cL_law 67 = .ok (.istore 4, 2) := by decide +kernel
theorem dL_law_69 : decode cL_law 69 = .ok (.iload 4, 2) := by decide +kernel
theorem dL_law_71 : decode cL_law 71 = .ok (.bipush 6, 2) := by decide +kernel
theorem dL_law_73 : decode cL_law 73 = .ok (.if_icmp .ge 984, 3) := by decide +kernel
theorem dL_law_76 : decode cL_law 76 = .ok (.aload_n 2, 1) := by decide +kernel
theorem dL_law_77 : decode cL_law 77 = .ok (.aload_n 2, 1) := by decide +kernel
theorem dL_law_78 : decode cL_law 78 = .ok (.bipush 60, 2) := by decide +kernel
theorem dL_law_80 : decode cL_law 80 = .ok (.invokevirtual 46, 3) := by decide +kernel
theorem dL_law_83 : decode cL_law 83 = .ok (.putfield 50, 3) := by decide +kernel
theorem dL_law_86 : decode cL_law 86 = .ok (.aload_n 3, 1) := by decide +kernel
theorem dL_law_87 : decode cL_law 87 = .ok (.aload_n 2, 1) := by decide +kernel
theorem dL_law_88 : decode cL_law 88 = .ok (.getfield 50, 3) := by decide +kernel
theorem dL_law_91 : decode cL_law 91 = .ok (.invokevirtual 54, 3) := by decide +kernel
theorem dL_law_94 : decode cL_law 94 = .ok (.pop, 1) := by decide +kernel
theorem dL_law_95 : decode cL_law 95 = .ok (.aload_n 2, 1) := by decide +kernel
theorem dL_law_96 : decode cL_law 96 = .ok (.iconst 5, 1) := by decide +kernel
theorem dL_law_97 : decode cL_law 97 = .ok (.invokevirtual 46, 3) := by decide +kernel
theorem dL_law_100 : decode cL_law 100 = .ok (.ifCond .ne 13, 3) := by decide +kernel
theorem dL_law_103 : decode cL_law 103 = .ok (.aload_n 2, 1) := by decide +kernel
theorem dL_law_104 : decode cL_law 104 = .ok (.invokevirtual 59, 3) := by decide +kernel
theorem dL_law_107 : decode cL_law 107 = .ok (.ifCond .eq 31, 3) := by decide +kernel
theorem dL_law_110 : decode cL_law 110 = .ok (.goto 30, 3) := by decide +kernel
theorem dL_law_113 : decode cL_law 113 = .ok (.aload_n 2, 1) := by decide +kernel
theorem dL_law_114 : decode cL_law 114 = .ok (.iconst 3, 1) := by decide +kernel
theorem dL_law_115 : decode cL_law 115 = .ok (.invokevirtual 46, 3) := by decide +kernel
theorem dL_law_118 : decode cL_law 118 = .ok (.ifCond .ne 13, 3) := by decide +kernel
theorem dL_law_121 : decode cL_law 121 = .ok (.aload_n 2, 1) := by decide +kernel
theorem dL_law_122 : decode cL_law 122 = .ok (.invokevirtual 36, 3) := by decide +kernel
theorem dL_law_125 : decode cL_law 125 = .ok (.ifCond .eq 13, 3) := by decide +kernel
theorem dL_law_128 : decode cL_law 128 = .ok (.goto 12, 3) := by decide +kernel
theorem dL_law_131 : decode cL_law 131 = .ok (.aload_n 2, 1) := by decide +kernel
theorem dL_law_132 : decode cL_law 132 = .ok (.invokevirtual 43, 3) := by decide +kernel
theorem dL_law_135 : decode cL_law 135 = .ok (.ifCond .ne 5, 3) := by decide +kernel
theorem dL_law_138 : decode cL_law 138 = .ok (.iconst 0, 1) := by decide +kernel
theorem dL_law_139 : decode cL_law 139 = .ok (.ireturn, 1) := by decide +kernel
theorem dL_law_140 : decode cL_law 140 = .ok (.aload_n 3, 1) := by decide +kernel
theorem dL_law_141 : decode cL_law 141 = .ok (.invokevirtual 62, 3) := by decide +kernel
theorem dL_law_144 : decode cL_law 144 = .ok (.lstore 5, 2) := by decide +kernel
theorem dL_law_146 : decode cL_law 146 = .ok (.aload_n 3, 1) := by decide +kernel
theorem dL_law_147 : decode cL_law 147 = .ok (.invokevirtual 66, 3) := by decide +kernel
theorem dL_law_150 : decode cL_law 150 = .ok (.istore 7, 2) := by decide +kernel
theorem dL_law_152 : decode cL_law 152 = .ok (.aload_n 2, 1) := by decide +kernel
theorem dL_law_153 : decode cL_law 153 = .ok (.getfield 70, 3) := by decide +kernel
theorem dL_law_156 : decode cL_law 156 = .ok (.newarray .boolean, 2) := by decide +kernel
theorem dL_law_158 : decode cL_law 158 = .ok (.astore 8, 2) := by decide +kernel
theorem dL_law_160 : decode cL_law 160 = .ok (.iconst 0, 1) := by decide +kernel
theorem dL_law_161 : decode cL_law 161 = .ok (.istore 9, 2) := by decide +kernel
theorem dL_law_163 : decode cL_law 163 = .ok (.iload 9, 2) := by decide +kernel
theorem dL_law_165 : decode cL_law 165 = .ok (.iload 7, 2) := by decide +kernel
theorem dL_law_167 : decode cL_law 167 = .ok (.if_icmp .ge 92, 3) := by decide +kernel
theorem dL_law_170 : decode cL_law 170 = .ok (.aload_n 3, 1) := by decide +kernel
theorem dL_law_171 : decode cL_law 171 = .ok (.iload 9, 2) := by decide +kernel
theorem dL_law_173 : decode cL_law 173 = .ok (.invokevirtual 73, 3) := by decide +kernel
theorem dL_law_176 : decode cL_law 176 = .ok (.istore 10, 2) := by decide +kernel
