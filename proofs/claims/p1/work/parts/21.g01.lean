theorem dX5_leave_0 : decode cX5_leave 0 = .ok (.aload_n 0, 1) := by decide +kernel
theorem dX5_leave_1 : decode cX5_leave 1 = .ok (.dup, 1) := by decide +kernel
theorem dX5_leave_2 : decode cX5_leave 2 = .ok (.getfield 15, 3) := by decide +kernel
theorem dX5_leave_5 : decode cX5_leave 5 = .ok (.aload_n 1, 1) := by decide +kernel
theorem dX5_leave_6 : decode cX5_leave 6 = .ok (.getfield 25, 3) := by decide +kernel
theorem dX5_leave_9 : decode cX5_leave 9 = .ok (.i2l, 1) := by decide +kernel
theorem dX5_leave_10 : decode cX5_leave 10 = .ok (.lmul, 1) := by decide +kernel
theorem dX5_leave_11 : decode cX5_leave 11 = .ok (.putfield 15, 3) := by decide +kernel
theorem dX5_leave_14 : decode cX5_leave 14 = .ok (.aload_n 0, 1) := by decide +kernel
theorem dX5_leave_15 : decode cX5_leave 15 = .ok (.dup, 1) := by decide +kernel
theorem dX5_leave_16 : decode cX5_leave 16 = .ok (.getfield 18, 3) := by decide +kernel
theorem dX5_leave_19 : decode cX5_leave 19 = .ok (.aload_n 1, 1) := by decide +kernel
theorem dX5_leave_20 : decode cX5_leave 20 = .ok (.getfield 25, 3) := by decide +kernel
theorem dX5_leave_23 : decode cX5_leave 23 = .ok (.i2l, 1) := by decide +kernel
theorem dX5_leave_24 : decode cX5_leave 24 = .ok (.lmul, 1) := by decide +kernel
theorem dX5_leave_25 : decode cX5_leave 25 = .ok (.putfield 18, 3) := by decide +kernel
theorem dX5_leave_28 : decode cX5_leave 28 = .ok (.aload_n 0, 1) := by decide +kernel
theorem dX5_leave_29 : decode cX5_leave 29 = .ok (.dup, 1) := by decide +kernel
theorem dX5_leave_30 : decode cX5_leave 30 = .ok (.getfield 9, 3) := by decide +kernel
theorem dX5_leave_33 : decode cX5_leave 33 = .ok (.aload_n 1, 1) := by decide +kernel
theorem dX5_leave_34 : decode cX5_leave 34 = .ok (.getfield 31, 3) := by decide +kernel
theorem dX5_leave_37 : decode cX5_leave 37 = .ok (.i2l, 1) := by decide +kernel
theorem dX5_leave_38 : decode cX5_leave 38 = .ok (.lmul, 1) := by decide +kernel
theorem dX5_leave_39 : decode cX5_leave 39 = .ok (.putfield 9, 3) := by decide +kernel
theorem dX5_leave_42 : decode cX5_leave 42 = .ok (.aload_n 1, 1) := by decide +kernel
theorem dX5_leave_43 : decode cX5_leave 43 = .ok (.getfield 33, 3) := by decide +kernel
theorem dX5_leave_46 : decode cX5_leave 46 = .ok (.ifCond .eq 12, 3) := by decide +kernel
theorem dX5_leave_49 : decode cX5_leave 49 = .ok (.aload_n 0, 1) := by decide +kernel
theorem dX5_leave_50 : decode cX5_leave 50 = .ok (.aload_n 0, 1) := by decide +kernel
theorem dX5_leave_51 : decode cX5_leave 51 = .ok (.getfield 15, 3) := by decide +kernel
theorem dX5_leave_54 : decode cX5_leave 54 = .ok (.lneg, 1) := by decide +kernel
theorem dX5_leave_55 : decode cX5_leave 55 = .ok (.putfield 15, 3) := by decide +kernel
theorem dX5_leave_58 : decode cX5_leave 58 = .ok (.aload_n 0, 1) := by decide +kernel
theorem dX5_leave_59 : decode cX5_leave 59 = .ok (.aload_n 1, 1) := by decide +kernel
theorem dX5_leave_60 : decode cX5_leave 60 = .ok (.getfield 36, 3) := by decide +kernel
theorem dX5_leave_63 : decode cX5_leave 63 = .ok (.iload_n 2, 1) := by decide +kernel
theorem dX5_leave_64 : decode cX5_leave 64 = .ok (.invokevirtual 40, 3) := by decide +kernel
theorem dX5_leave_67 : decode cX5_leave 67 = .ok (.invokevirtual 46, 3) := by decide +kernel
theorem dX5_leave_70 : decode cX5_leave 70 = .ok (.aload_n 0, 1) := by decide +kernel
theorem dX5_leave_71 : decode cX5_leave 71 = .ok (.dup, 1) := by decide +kernel
theorem dX5_leave_72 : decode cX5_leave 72 = .ok (.getfield 15, 3) := by decide +kernel
theorem dX5_leave_75 : decode cX5_leave 75 = .ok (.aload_n 1, 1) := by decide +kernel
theorem dX5_leave_76 : decode cX5_leave 76 = .ok (.getfield 50, 3) := by decide +kernel
theorem dX5_leave_79 : decode cX5_leave 79 = .ok (.iload_n 2, 1) := by decide +kernel
theorem dX5_leave_80 : decode cX5_leave 80 = .ok (.invokevirtual 40, 3) := by decide +kernel
theorem dX5_leave_83 : decode cX5_leave 83 = .ok (.i2l, 1) := by decide +kernel
theorem dX5_leave_84 : decode cX5_leave 84 = .ok (.aload_n 0, 1) := by decide +kernel
theorem dX5_leave_85 : decode cX5_leave 85 = .ok (.getfield 9, 3) := by decide +kernel
theorem dX5_leave_88 : decode cX5_leave 88 = .ok (.lmul, 1) := by decide +kernel
theorem dX5_leave_89 : decode cX5_leave 89 = .ok (.ladd, 1) := by decide +kernel
theorem dX5_leave_90 : decode cX5_leave 90 = .ok (.putfield 15, 3) := by decide +kernel
theorem dX5_leave_93 : decode cX5_leave 93 = .ok (.aload_n 0, 1) := by decide +kernel
theorem dX5_leave_94 : decode cX5_leave 94 = .ok (.dup, 1) := by decide +kernel
theorem dX5_leave_95 : decode cX5_leave 95 = .ok (.getfield 18, 3) := by decide +kernel
theorem dX5_leave_98 : decode cX5_leave 98 = .ok (.aload_n 1, 1) := by decide +kernel
theorem dX5_leave_99 : decode cX5_leave 99 = .ok (.getfield 52, 3) := by decide +kernel
theorem dX5_leave_102 : decode cX5_leave 102 = .ok (.iload_n 2, 1) := by decide +kernel
theorem dX5_leave_103 : decode cX5_leave 103 = .ok (.invokevirtual 40, 3) := by decide +kernel
theorem dX5_leave_106 : decode cX5_leave 106 = .ok (.i2l, 1) := by decide +kernel
theorem dX5_leave_107 : decode cX5_leave 107 = .ok (.aload_n 0, 1) := by decide +kernel
theorem dX5_leave_108 : decode cX5_leave 108 = .ok (.getfield 9, 3) := by decide +kernel
theorem dX5_leave_111 : decode cX5_leave 111 = .ok (.lmul, 1) := by decide +kernel
theorem dX5_leave_112 : decode cX5_leave 112 = .ok (.ladd, 1) := by decide +kernel
theorem dX5_leave_113 : decode cX5_leave 113 = .ok (.putfield 18, 3) := by decide +kernel
theorem dX5_leave_116 : decode cX5_leave 116 = .ok (.return_, 1) := by decide +kernel
theorem dX5_set_0 : decode cX5_set 0 = .ok (.aload_n 0, 1) := by decide +kernel
theorem dX5_set_1 : decode cX5_set 1 = .ok (.lload_n 1, 1) := by decide +kernel
theorem dX5_set_2 : decode cX5_set 2 = .ok (.putfield 15, 3) := by decide +kernel
theorem dX5_set_5 : decode cX5_set 5 = .ok (.aload_n 0, 1) := by decide +kernel
theorem dX5_set_6 : decode cX5_set 6 = .ok (.lload_n 3, 1) := by decide +kernel
theorem dX5_set_7 : decode cX5_set 7 = .ok (.putfield 18, 3) := by decide +kernel
theorem dX5_set_10 : decode cX5_set 10 = .ok (.aload_n 0, 1) := by decide +kernel
theorem dX5_set_11 : decode cX5_set 11 = .ok (.lload 5, 2) := by decide +kernel
theorem dX5_set_13 : decode cX5_set 13 = .ok (.putfield 9, 3) := by decide +kernel
theorem dX5_set_16 : decode cX5_set 16 = .ok (.aload_n 0, 1) := by decide +kernel
theorem dX5_set_17 : decode cX5_set 17 = .ok (.iconst 0, 1) := by decide +kernel
theorem dX5_set_18 : decode cX5_set 18 = .ok (.putfield 21, 3) := by decide +kernel
theorem dX5_set_21 : decode cX5_set 21 = .ok (.return_, 1) := by decide +kernel
theorem dX7_raise_0 : decode cX7_raise 0 = .ok (.aload_n 0, 1) := by decide +kernel
theorem dX7_raise_1 : decode cX7_raise 1 = .ok (.getfield 31, 3) := by decide +kernel
theorem dX7_raise_4 : decode cX7_raise 4 = .ok (.iload_n 2, 1) := by decide +kernel
theorem dX7_raise_5 : decode cX7_raise 5 = .ok (.i2l, 1) := by decide +kernel
theorem dX7_raise_6 : decode cX7_raise 6 = .ok (.iload_n 3, 1) := by decide +kernel
theorem dX7_raise_7 : decode cX7_raise 7 = .ok (.i2l, 1) := by decide +kernel
theorem dX7_raise_8 : decode cX7_raise 8 = .ok (.lconst 1, 1) := by decide +kernel
theorem dX7_raise_9 : decode cX7_raise 9 = .ok (.invokevirtual 256, 3) := by decide +kernel
theorem dX7_raise_12 : decode cX7_raise 12 = .ok (.aload_n 1, 1) := by decide +kernel
theorem dX7_raise_13 : decode cX7_raise 13 = .ok (.astore 4, 2) := by decide +kernel
theorem dX7_raise_15 : decode cX7_raise 15 = .ok (.aload 4, 2) := by decide +kernel
theorem dX7_raise_17 : decode cX7_raise 17 = .ok (.ifnull 26, 3) := by decide +kernel
theorem dX7_raise_20 : decode cX7_raise 20 = .ok (.aload_n 0, 1) := by decide +kernel
theorem dX7_raise_21 : decode cX7_raise 21 = .ok (.getfield 31, 3) := by decide +kernel
theorem dX7_raise_24 : decode cX7_raise 24 = .ok (.aload 4, 2) := by decide +kernel
theorem dX7_raise_26 : decode cX7_raise 26 = .ok (.aload_n 0, 1) := by decide +kernel
theorem dX7_raise_27 : decode cX7_raise 27 = .ok (.getfield 232, 3) := by decide +kernel
theorem dX7_raise_30 : decode cX7_raise 30 = .ok (.invokevirtual 376, 3) := by decide +kernel
theorem dX7_raise_33 : decode cX7_raise 33 = .ok (.aload 4, 2) := by decide +kernel
theorem dX7_raise_35 : decode cX7_raise 35 = .ok (.getfield 173, 3) := by decide +kernel
theorem dX7_raise_38 : decode cX7_raise 38 = .ok (.astore 4, 2) := by decide +kernel
theorem dX7_raise_40 : decode cX7_raise 40 = .ok (.goto (-25), 3) := by decide +kernel
theorem dX7_raise_43 : decode cX7_raise 43 = .ok (.return_, 1) := by decide +kernel
theorem dX2_holds_0 : decode cX2_holds 0 = .ok (.aload_n 1, 1) := by decide +kernel
theorem dX2_holds_1 : decode cX2_holds 1 = .ok (.getfield 22, 3) := by decide +kernel
theorem dX2_holds_4 : decode cX2_holds 4 = .ok (.aload_n 0, 1) := by decide +kernel
theorem dX2_holds_5 : decode cX2_holds 5 = .ok (.getfield 7, 3) := by decide +kernel
theorem dX2_holds_8 : decode cX2_holds 8 = .ok (.i2l, 1) := by decide +kernel
theorem dX2_holds_9 : decode cX2_holds 9 = .ok (.aload_n 1, 1) := by decide +kernel
theorem dX2_holds_10 : decode cX2_holds 10 = .ok (.getfield 28, 3) := by decide +kernel
theorem dX2_holds_13 : decode cX2_holds 13 = .ok (.lmul, 1) := by decide +kernel
theorem dX2_holds_14 : decode cX2_holds 14 = .ok (.lcmp, 1) := by decide +kernel
theorem dX2_holds_15 : decode cX2_holds 15 = .ok (.ifCond .lt 61, 3) := by decide +kernel
theorem dX2_holds_18 : decode cX2_holds 18 = .ok (.aload_n 1, 1) := by decide +kernel
theorem dX2_holds_19 : decode cX2_holds 19 = .ok (.getfield 22, 3) := by decide +kernel
theorem dX2_holds_22 : decode cX2_holds 22 = .ok (.aload_n 0, 1) := by decide +kernel
theorem dX2_holds_23 : decode cX2_holds 23 = .ok (.getfield 16, 3) := by decide +kernel
theorem dX2_holds_26 : decode cX2_holds 26 = .ok (.i2l, 1) := by decide +kernel
theorem dX2_holds_27 : decode cX2_holds 27 = .ok (.aload_n 1, 1) := by decide +kernel
theorem dX2_holds_28 : decode cX2_holds 28 = .ok (.getfield 28, 3) := by decide +kernel
theorem dX2_holds_31 : decode cX2_holds 31 = .ok (.lmul, 1) := by decide +kernel
theorem dX2_holds_32 : decode cX2_holds 32 = .ok (.lcmp, 1) := by decide +kernel
theorem dX2_holds_33 : decode cX2_holds 33 = .ok (.ifCond .gt 43, 3) := by decide +kernel
theorem dX2_holds_36 : decode cX2_holds 36 = .ok (.aload_n 1, 1) := by decide +kernel
theorem dX2_holds_37 : decode cX2_holds 37 = .ok (.getfield 31, 3) := by decide +kernel
theorem dX2_holds_40 : decode cX2_holds 40 = .ok (.aload_n 0, 1) := by decide +kernel
theorem dX2_holds_41 : decode cX2_holds 41 = .ok (.getfield 13, 3) := by decide +kernel
theorem dX2_holds_44 : decode cX2_holds 44 = .ok (.i2l, 1) := by decide +kernel
theorem dX2_holds_45 : decode cX2_holds 45 = .ok (.aload_n 1, 1) := by decide +kernel
theorem dX2_holds_46 : decode cX2_holds 46 = .ok (.getfield 28, 3) := by decide +kernel
theorem dX2_holds_49 : decode cX2_holds 49 = .ok (.lmul, 1) := by decide +kernel
theorem dX2_holds_50 : decode cX2_holds 50 = .ok (.lcmp, 1) := by decide +kernel
theorem dX2_holds_51 : decode cX2_holds 51 = .ok (.ifCond .lt 25, 3) := by decide +kernel
theorem dX2_holds_54 : decode cX2_holds 54 = .ok (.aload_n 1, 1) := by decide +kernel
theorem dX2_holds_55 : decode cX2_holds 55 = .ok (.getfield 31, 3) := by decide +kernel
theorem dX2_holds_58 : decode cX2_holds 58 = .ok (.aload_n 0, 1) := by decide +kernel
theorem dX2_holds_59 : decode cX2_holds 59 = .ok (.getfield 19, 3) := by decide +kernel
theorem dX2_holds_62 : decode cX2_holds 62 = .ok (.i2l, 1) := by decide +kernel
theorem dX2_holds_63 : decode cX2_holds 63 = .ok (.aload_n 1, 1) := by decide +kernel
theorem dX2_holds_64 : decode cX2_holds 64 = .ok (.getfield 28, 3) := by decide +kernel
theorem dX2_holds_67 : decode cX2_holds 67 = .ok (.lmul, 1) := by decide +kernel
theorem dX2_holds_68 : decode cX2_holds 68 = .ok (.lcmp, 1) := by decide +kernel
theorem dX2_holds_69 : decode cX2_holds 69 = .ok (.ifCond .gt 7, 3) := by decide +kernel
theorem dX2_holds_72 : decode cX2_holds 72 = .ok (.iconst 1, 1) := by decide +kernel
theorem dX2_holds_73 : decode cX2_holds 73 = .ok (.goto 4, 3) := by decide +kernel
theorem dX2_holds_76 : decode cX2_holds 76 = .ok (.iconst 0, 1) := by decide +kernel
theorem dX2_holds_77 : decode cX2_holds 77 = .ok (.ireturn, 1) := by decide +kernel
theorem dX5_enter_0 : decode cX5_enter 0 = .ok (.aload_n 0, 1) := by decide +kernel
theorem dX5_enter_1 : decode cX5_enter 1 = .ok (.dup, 1) := by decide +kernel
theorem dX5_enter_2 : decode cX5_enter 2 = .ok (.getfield 15, 3) := by decide +kernel
theorem dX5_enter_5 : decode cX5_enter 5 = .ok (.aload_n 1, 1) := by decide +kernel
theorem dX5_enter_6 : decode cX5_enter 6 = .ok (.getfield 50, 3) := by decide +kernel
theorem dX5_enter_9 : decode cX5_enter 9 = .ok (.iload_n 2, 1) := by decide +kernel
theorem dX5_enter_10 : decode cX5_enter 10 = .ok (.invokevirtual 40, 3) := by decide +kernel
theorem dX5_enter_13 : decode cX5_enter 13 = .ok (.i2l, 1) := by decide +kernel
theorem dX5_enter_14 : decode cX5_enter 14 = .ok (.aload_n 0, 1) := by decide +kernel
theorem dX5_enter_15 : decode cX5_enter 15 = .ok (.getfield 9, 3) := by decide +kernel
theorem dX5_enter_18 : decode cX5_enter 18 = .ok (.lmul, 1) := by decide +kernel
theorem dX5_enter_19 : decode cX5_enter 19 = .ok (.lsub, 1) := by decide +kernel
theorem dX5_enter_20 : decode cX5_enter 20 = .ok (.putfield 15, 3) := by decide +kernel
theorem dX5_enter_23 : decode cX5_enter 23 = .ok (.aload_n 0, 1) := by decide +kernel
theorem dX5_enter_24 : decode cX5_enter 24 = .ok (.dup, 1) := by decide +kernel
theorem dX5_enter_25 : decode cX5_enter 25 = .ok (.getfield 18, 3) := by decide +kernel
theorem dX5_enter_28 : decode cX5_enter 28 = .ok (.aload_n 1, 1) := by decide +kernel
theorem dX5_enter_29 : decode cX5_enter 29 = .ok (.getfield 52, 3) := by decide +kernel
theorem dX5_enter_32 : decode cX5_enter 32 = .ok (.iload_n 2, 1) := by decide +kernel
theorem dX5_enter_33 : decode cX5_enter 33 = .ok (.invokevirtual 40, 3) := by decide +kernel
theorem dX5_enter_36 : decode cX5_enter 36 = .ok (.i2l, 1) := by decide +kernel
theorem dX5_enter_37 : decode cX5_enter 37 = .ok (.aload_n 0, 1) := by decide +kernel
theorem dX5_enter_38 : decode cX5_enter 38 = .ok (.getfield 9, 3) := by decide +kernel
theorem dX5_enter_41 : decode cX5_enter 41 = .ok (.lmul, 1) := by decide +kernel
theorem dX5_enter_42 : decode cX5_enter 42 = .ok (.lsub, 1) := by decide +kernel
theorem dX5_enter_43 : decode cX5_enter 43 = .ok (.putfield 18, 3) := by decide +kernel
theorem dX5_enter_46 : decode cX5_enter 46 = .ok (.aload_n 0, 1) := by decide +kernel
theorem dX5_enter_47 : decode cX5_enter 47 = .ok (.iconst 4, 1) := by decide +kernel
theorem dX5_enter_48 : decode cX5_enter 48 = .ok (.aload_n 1, 1) := by decide +kernel
theorem dX5_enter_49 : decode cX5_enter 49 = .ok (.getfield 36, 3) := by decide +kernel
theorem dX5_enter_52 : decode cX5_enter 52 = .ok (.iload_n 2, 1) := by decide +kernel
theorem dX5_enter_53 : decode cX5_enter 53 = .ok (.invokevirtual 40, 3) := by decide +kernel
theorem dX5_enter_56 : decode cX5_enter 56 = .ok (.isub, 1) := by decide +kernel
theorem dX5_enter_57 : decode cX5_enter 57 = .ok (.invokevirtual 46, 3) := by decide +kernel
theorem dX5_enter_60 : decode cX5_enter 60 = .ok (.aload_n 1, 1) := by decide +kernel
theorem dX5_enter_61 : decode cX5_enter 61 = .ok (.getfield 33, 3) := by decide +kernel
theorem dX5_enter_64 : decode cX5_enter 64 = .ok (.ifCond .eq 12, 3) := by decide +kernel
theorem dX5_enter_67 : decode cX5_enter 67 = .ok (.aload_n 0, 1) := by decide +kernel
theorem dX5_enter_68 : decode cX5_enter 68 = .ok (.aload_n 0, 1) := by decide +kernel
theorem dX5_enter_69 : decode cX5_enter 69 = .ok (.getfield 15, 3) := by decide +kernel
theorem dX5_enter_72 : decode cX5_enter 72 = .ok (.lneg, 1) := by decide +kernel
theorem dX5_enter_73 : decode cX5_enter 73 = .ok (.putfield 15, 3) := by decide +kernel
theorem dX5_enter_76 : decode cX5_enter 76 = .ok (.aload_n 0, 1) := by decide +kernel
theorem dX5_enter_77 : decode cX5_enter 77 = .ok (.dup, 1) := by decide +kernel
theorem dX5_enter_78 : decode cX5_enter 78 = .ok (.getfield 15, 3) := by decide +kernel
theorem dX5_enter_81 : decode cX5_enter 81 = .ok (.aload_n 1, 1) := by decide +kernel
theorem dX5_enter_82 : decode cX5_enter 82 = .ok (.getfield 31, 3) := by decide +kernel
theorem dX5_enter_85 : decode cX5_enter 85 = .ok (.i2l, 1) := by decide +kernel
theorem dX5_enter_86 : decode cX5_enter 86 = .ok (.lmul, 1) := by decide +kernel
theorem dX5_enter_87 : decode cX5_enter 87 = .ok (.putfield 15, 3) := by decide +kernel
theorem dX5_enter_90 : decode cX5_enter 90 = .ok (.aload_n 0, 1) := by decide +kernel
theorem dX5_enter_91 : decode cX5_enter 91 = .ok (.dup, 1) := by decide +kernel
theorem dX5_enter_92 : decode cX5_enter 92 = .ok (.getfield 18, 3) := by decide +kernel
theorem dX5_enter_95 : decode cX5_enter 95 = .ok (.aload_n 1, 1) := by decide +kernel
theorem dX5_enter_96 : decode cX5_enter 96 = .ok (.getfield 31, 3) := by decide +kernel
theorem dX5_enter_99 : decode cX5_enter 99 = .ok (.i2l, 1) := by decide +kernel
theorem dX5_enter_100 : decode cX5_enter 100 = .ok (.lmul, 1) := by decide +kernel
theorem dX5_enter_101 : decode cX5_enter 101 = .ok (.putfield 18, 3) := by decide +kernel
theorem dX5_enter_104 : decode cX5_enter 104 = .ok (.aload_n 0, 1) := by decide +kernel
theorem dX5_enter_105 : decode cX5_enter 105 = .ok (.dup, 1) := by decide +kernel
theorem dX5_enter_106 : decode cX5_enter 106 = .ok (.getfield 9, 3) := by decide +kernel
theorem dX5_enter_109 : decode cX5_enter 109 = .ok (.aload_n 1, 1) := by decide +kernel
theorem dX5_enter_110 : decode cX5_enter 110 = .ok (.getfield 25, 3) := by decide +kernel
theorem dX5_enter_113 : decode cX5_enter 113 = .ok (.i2l, 1) := by decide +kernel
theorem dX5_enter_114 : decode cX5_enter 114 = .ok (.lmul, 1) := by decide +kernel
theorem dX5_enter_115 : decode cX5_enter 115 = .ok (.putfield 9, 3) := by decide +kernel
theorem dX5_enter_118 : decode cX5_enter 118 = .ok (.aload_n 1, 1) := by decide +kernel
theorem dX5_enter_119 : decode cX5_enter 119 = .ok (.getfield 54, 3) := by decide +kernel
theorem dX5_enter_122 : decode cX5_enter 122 = .ok (.ifnull 19, 3) := by decide +kernel
theorem dX5_enter_125 : decode cX5_enter 125 = .ok (.aload_n 1, 1) := by decide +kernel
theorem dX5_enter_126 : decode cX5_enter 126 = .ok (.getfield 54, 3) := by decide +kernel
theorem dX5_enter_129 : decode cX5_enter 129 = .ok (.aload_n 0, 1) := by decide +kernel
theorem dX5_enter_130 : decode cX5_enter 130 = .ok (.invokevirtual 58, 3) := by decide +kernel
theorem dX5_enter_133 : decode cX5_enter 133 = .ok (.ifCond .ne 8, 3) := by decide +kernel
theorem dX5_enter_136 : decode cX5_enter 136 = .ok (.aload_n 0, 1) := by decide +kernel
theorem dX5_enter_137 : decode cX5_enter 137 = .ok (.iconst 1, 1) := by decide +kernel
theorem dX5_enter_138 : decode cX5_enter 138 = .ok (.putfield 21, 3) := by decide +kernel
theorem dX5_enter_141 : decode cX5_enter 141 = .ok (.return_, 1) := by decide +kernel
theorem dX7_sink_0 : decode cX7_sink 0 = .ok (.aload_n 1, 1) := by decide +kernel
theorem dX7_sink_1 : decode cX7_sink 1 = .ok (.getfield 173, 3) := by decide +kernel
theorem dX7_sink_4 : decode cX7_sink 4 = .ok (.ifnull 20, 3) := by decide +kernel
theorem dX7_sink_7 : decode cX7_sink 7 = .ok (.iload_n 3, 1) := by decide +kernel
theorem dX7_sink_8 : decode cX7_sink 8 = .ok (.iconst 4, 1) := by decide +kernel
theorem dX7_sink_9 : decode cX7_sink 9 = .ok (.if_icmp .ge 15, 3) := by decide +kernel
theorem dX7_sink_12 : decode cX7_sink 12 = .ok (.aload_n 0, 1) := by decide +kernel
theorem dX7_sink_13 : decode cX7_sink 13 = .ok (.aload_n 1, 1) := by decide +kernel
theorem dX7_sink_14 : decode cX7_sink 14 = .ok (.getfield 173, 3) := by decide +kernel
theorem dX7_sink_17 : decode cX7_sink 17 = .ok (.iload_n 2, 1) := by decide +kernel
theorem dX7_sink_18 : decode cX7_sink 18 = .ok (.iload_n 3, 1) := by decide +kernel
theorem dX7_sink_19 : decode cX7_sink 19 = .ok (.iconst 1, 1) := by decide +kernel
theorem dX7_sink_20 : decode cX7_sink 20 = .ok (.iadd, 1) := by decide +kernel
theorem dX7_sink_21 : decode cX7_sink 21 = .ok (.invokestatic 260, 3) := by decide +kernel
theorem dX7_sink_24 : decode cX7_sink 24 = .ok (.aload_n 0, 1) := by decide +kernel
theorem dX7_sink_25 : decode cX7_sink 25 = .ok (.aload_n 1, 1) := by decide +kernel
theorem dX7_sink_26 : decode cX7_sink 26 = .ok (.iload_n 2, 1) := by decide +kernel
theorem dX7_sink_27 : decode cX7_sink 27 = .ok (.invokevirtual 379, 3) := by decide +kernel
theorem dX7_sink_30 : decode cX7_sink 30 = .ok (.return_, 1) := by decide +kernel
theorem dX7_between_0 : decode cX7_between 0 = .ok (.aload_n 0, 1) := by decide +kernel
theorem dX7_between_1 : decode cX7_between 1 = .ok (.iload_n 1, 1) := by decide +kernel
theorem dX7_between_2 : decode cX7_between 2 = .ok (.invokevirtual 52, 3) := by decide +kernel
theorem dX7_between_5 : decode cX7_between 5 = .ok (.astore 6, 2) := by decide +kernel
theorem dX7_between_7 : decode cX7_between 7 = .ok (.aload_n 0, 1) := by decide +kernel
theorem dX7_between_8 : decode cX7_between 8 = .ok (.iload_n 2, 1) := by decide +kernel
theorem dX7_between_9 : decode cX7_between 9 = .ok (.invokevirtual 52, 3) := by decide +kernel
theorem dX7_between_12 : decode cX7_between 12 = .ok (.astore 7, 2) := by decide +kernel
theorem dX7_between_14 : decode cX7_between 14 = .ok (.iload_n 3, 1) := by decide +kernel
theorem dX7_between_15 : decode cX7_between 15 = .ok (.iload 4, 2) := by decide +kernel
theorem dX7_between_17 : decode cX7_between 17 = .ok (.iload 5, 2) := by decide +kernel
theorem dX7_between_19 : decode cX7_between 19 = .ok (.invokestatic 244, 3) := by decide +kernel
theorem dX7_between_22 : decode cX7_between 22 = .ok (.aload_n 0, 1) := by decide +kernel
theorem dX7_between_23 : decode cX7_between 23 = .ok (.aload 6, 2) := by decide +kernel
theorem dX7_between_25 : decode cX7_between 25 = .ok (.iload_n 3, 1) := by decide +kernel
theorem dX7_between_26 : decode cX7_between 26 = .ok (.iload 4, 2) := by decide +kernel
theorem dX7_between_28 : decode cX7_between 28 = .ok (.invokevirtual 248, 3) := by decide +kernel
theorem dX7_between_31 : decode cX7_between 31 = .ok (.aload_n 0, 1) := by decide +kernel
theorem dX7_between_32 : decode cX7_between 32 = .ok (.getfield 31, 3) := by decide +kernel
theorem dX7_between_35 : decode cX7_between 35 = .ok (.aload 7, 2) := by decide +kernel
theorem dX7_between_37 : decode cX7_between 37 = .ok (.aload_n 0, 1) := by decide +kernel
theorem dX7_between_38 : decode cX7_between 38 = .ok (.getfield 232, 3) := by decide +kernel
theorem dX7_between_41 : decode cX7_between 41 = .ok (.iconst 0, 1) := by decide +kernel
theorem dX7_between_42 : decode cX7_between 42 = .ok (.invokestatic 260, 3) := by decide +kernel
theorem dX7_between_45 : decode cX7_between 45 = .ok (.aload_n 0, 1) := by decide +kernel
theorem dX7_between_46 : decode cX7_between 46 = .ok (.getfield 31, 3) := by decide +kernel
theorem dX7_between_49 : decode cX7_between 49 = .ok (.iload 5, 2) := by decide +kernel
theorem dX7_between_51 : decode cX7_between 51 = .ok (.invokevirtual 252, 3) := by decide +kernel
theorem dX7_between_54 : decode cX7_between 54 = .ok (.l2i, 1) := by decide +kernel
theorem dX7_between_55 : decode cX7_between 55 = .ok (.ireturn, 1) := by decide +kernel
theorem dL_between_0 : decode cL_between 0 = .ok (.aload 6, 2) := by decide +kernel
theorem dL_between_2 : decode cL_between 2 = .ok (.iconst 0, 1) := by decide +kernel
theorem dL_between_3 : decode cL_between 3 = .ok (.aload_n 0, 1) := by decide +kernel
theorem dL_between_4 : decode cL_between 4 = .ok (.iload_n 1, 1) := by decide +kernel
theorem dL_between_5 : decode cL_between 5 = .ok (.iload_n 2, 1) := by decide +kernel
theorem dL_between_6 : decode cL_between 6 = .ok (.iload_n 3, 1) := by decide +kernel
theorem dL_between_7 : decode cL_between 7 = .ok (.iload 4, 2) := by decide +kernel
theorem dL_between_9 : decode cL_between 9 = .ok (.iload 5, 2) := by decide +kernel
theorem dL_between_11 : decode cL_between 11 = .ok (.invokevirtual 80, 3) := by decide +kernel
theorem dL_between_14 : decode cL_between 14 = .ok (.i2l, 1) := by decide +kernel
theorem dL_between_15 : decode cL_between 15 = .ok (.lastore, 1) := by decide +kernel
theorem dL_between_16 : decode cL_between 16 = .ok (.goto 11, 3) := by decide +kernel
theorem dL_between_19 : decode cL_between 19 = .ok (.astore 7, 2) := by decide +kernel
theorem dL_between_21 : decode cL_between 21 = .ok (.iconst 1, 1) := by decide +kernel
theorem dL_between_22 : decode cL_between 22 = .ok (.ireturn, 1) := by decide +kernel
theorem dL_between_23 : decode cL_between 23 = .ok (.astore 7, 2) := by decide +kernel
theorem dL_between_25 : decode cL_between 25 = .ok (.iconst 2, 1) := by decide +kernel
theorem dL_between_26 : decode cL_between 26 = .ok (.ireturn, 1) := by decide +kernel
theorem dL_between_27 : decode cL_between 27 = .ok (.iconst 0, 1) := by decide +kernel
theorem dL_between_28 : decode cL_between 28 = .ok (.ireturn, 1) := by decide +kernel
theorem dX0_side_0 : decode cX0_side 0 = .ok (.iload_n 1, 1) := by decide +kernel
theorem dX0_side_1 : decode cX0_side 1 = .ok (.tableswitch 42 0 2 #[27, 32, 37], 27) := by decide +kernel
theorem dX0_side_28 : decode cX0_side 28 = .ok (.aload_n 0, 1) := by decide +kernel
theorem dX0_side_29 : decode cX0_side 29 = .ok (.getfield 10, 3) := by decide +kernel
theorem dX0_side_32 : decode cX0_side 32 = .ok (.areturn, 1) := by decide +kernel
theorem dX0_side_33 : decode cX0_side 33 = .ok (.aload_n 0, 1) := by decide +kernel
theorem dX0_side_34 : decode cX0_side 34 = .ok (.getfield 16, 3) := by decide +kernel
theorem dX0_side_37 : decode cX0_side 37 = .ok (.areturn, 1) := by decide +kernel
theorem dX0_side_38 : decode cX0_side 38 = .ok (.aload_n 0, 1) := by decide +kernel
theorem dX0_side_39 : decode cX0_side 39 = .ok (.getfield 19, 3) := by decide +kernel
theorem dX0_side_42 : decode cX0_side 42 = .ok (.areturn, 1) := by decide +kernel
theorem dX0_side_43 : decode cX0_side 43 = .ok (.aload_n 0, 1) := by decide +kernel
theorem dX0_side_44 : decode cX0_side 44 = .ok (.getfield 22, 3) := by decide +kernel
theorem dX0_side_47 : decode cX0_side 47 = .ok (.areturn, 1) := by decide +kernel
theorem dX1_set_0 : decode cX1_set 0 = .ok (.lload_n 1, 1) := by decide +kernel
theorem dX1_set_1 : decode cX1_set 1 = .ok (.lload_n 3, 1) := by decide +kernel
theorem dX1_set_2 : decode cX1_set 2 = .ok (.invokestatic 7, 3) := by decide +kernel
theorem dX1_set_5 : decode cX1_set 5 = .ok (.lstore 5, 2) := by decide +kernel
theorem dX1_set_7 : decode cX1_set 7 = .ok (.aload_n 0, 1) := by decide +kernel
theorem dX1_set_8 : decode cX1_set 8 = .ok (.lload_n 1, 1) := by decide +kernel
theorem dX1_set_9 : decode cX1_set 9 = .ok (.lload 5, 2) := by decide +kernel
theorem dX1_set_11 : decode cX1_set 11 = .ok (.ldiv, 1) := by decide +kernel
theorem dX1_set_12 : decode cX1_set 12 = .ok (.putfield 13, 3) := by decide +kernel
theorem dX1_set_15 : decode cX1_set 15 = .ok (.aload_n 0, 1) := by decide +kernel
theorem dX1_set_16 : decode cX1_set 16 = .ok (.lload_n 3, 1) := by decide +kernel
theorem dX1_set_17 : decode cX1_set 17 = .ok (.lload 5, 2) := by decide +kernel
theorem dX1_set_19 : decode cX1_set 19 = .ok (.ldiv, 1) := by decide +kernel
theorem dX1_set_20 : decode cX1_set 20 = .ok (.putfield 19, 3) := by decide +kernel
theorem dX1_set_23 : decode cX1_set 23 = .ok (.return_, 1) := by decide +kernel
theorem dX0_clear_0 : decode cX0_clear 0 = .ok (.aload_n 0, 1) := by decide +kernel
theorem dX0_clear_1 : decode cX0_clear 1 = .ok (.getfield 10, 3) := by decide +kernel
theorem dX0_clear_4 : decode cX0_clear 4 = .ok (.lconst 0, 1) := by decide +kernel
theorem dX0_clear_5 : decode cX0_clear 5 = .ok (.lconst 0, 1) := by decide +kernel
theorem dX0_clear_6 : decode cX0_clear 6 = .ok (.invokevirtual 25, 3) := by decide +kernel
theorem dX0_clear_9 : decode cX0_clear 9 = .ok (.aload_n 0, 1) := by decide +kernel
theorem dX0_clear_10 : decode cX0_clear 10 = .ok (.getfield 16, 3) := by decide +kernel
theorem dX0_clear_13 : decode cX0_clear 13 = .ok (.lconst 0, 1) := by decide +kernel
theorem dX0_clear_14 : decode cX0_clear 14 = .ok (.lconst 0, 1) := by decide +kernel
theorem dX0_clear_15 : decode cX0_clear 15 = .ok (.invokevirtual 25, 3) := by decide +kernel
theorem dX0_clear_18 : decode cX0_clear 18 = .ok (.aload_n 0, 1) := by decide +kernel
theorem dX0_clear_19 : decode cX0_clear 19 = .ok (.getfield 19, 3) := by decide +kernel
theorem dX0_clear_22 : decode cX0_clear 22 = .ok (.lconst 0, 1) := by decide +kernel
theorem dX0_clear_23 : decode cX0_clear 23 = .ok (.lconst 0, 1) := by decide +kernel
theorem dX0_clear_24 : decode cX0_clear 24 = .ok (.invokevirtual 25, 3) := by decide +kernel
theorem dX0_clear_27 : decode cX0_clear 27 = .ok (.aload_n 0, 1) := by decide +kernel
theorem dX0_clear_28 : decode cX0_clear 28 = .ok (.getfield 22, 3) := by decide +kernel
theorem dX0_clear_31 : decode cX0_clear 31 = .ok (.lconst 0, 1) := by decide +kernel
theorem dX0_clear_32 : decode cX0_clear 32 = .ok (.lconst 0, 1) := by decide +kernel
theorem dX0_clear_33 : decode cX0_clear 33 = .ok (.invokevirtual 25, 3) := by decide +kernel
theorem dX0_clear_36 : decode cX0_clear 36 = .ok (.return_, 1) := by decide +kernel
theorem dX1_lowerTo_0 : decode cX1_lowerTo 0 = .ok (.aload_n 0, 1) := by decide +kernel
theorem dX1_lowerTo_1 : decode cX1_lowerTo 1 = .ok (.getfield 19, 3) := by decide +kernel
theorem dX1_lowerTo_4 : decode cX1_lowerTo 4 = .ok (.lconst 0, 1) := by decide +kernel
theorem dX1_lowerTo_5 : decode cX1_lowerTo 5 = .ok (.lcmp, 1) := by decide +kernel
theorem dX1_lowerTo_6 : decode cX1_lowerTo 6 = .ok (.ifCond .eq 19, 3) := by decide +kernel
theorem dX1_lowerTo_9 : decode cX1_lowerTo 9 = .ok (.lload_n 1, 1) := by decide +kernel
theorem dX1_lowerTo_10 : decode cX1_lowerTo 10 = .ok (.aload_n 0, 1) := by decide +kernel
theorem dX1_lowerTo_11 : decode cX1_lowerTo 11 = .ok (.getfield 19, 3) := by decide +kernel
theorem dX1_lowerTo_14 : decode cX1_lowerTo 14 = .ok (.lmul, 1) := by decide +kernel
theorem dX1_lowerTo_15 : decode cX1_lowerTo 15 = .ok (.aload_n 0, 1) := by decide +kernel
theorem dX1_lowerTo_16 : decode cX1_lowerTo 16 = .ok (.getfield 13, 3) := by decide +kernel
theorem dX1_lowerTo_19 : decode cX1_lowerTo 19 = .ok (.lload_n 3, 1) := by decide +kernel
theorem dX1_lowerTo_20 : decode cX1_lowerTo 20 = .ok (.lmul, 1) := by decide +kernel
theorem dX1_lowerTo_21 : decode cX1_lowerTo 21 = .ok (.lcmp, 1) := by decide +kernel
theorem dX1_lowerTo_22 : decode cX1_lowerTo 22 = .ok (.ifCond .ge 9, 3) := by decide +kernel
theorem dX1_lowerTo_25 : decode cX1_lowerTo 25 = .ok (.aload_n 0, 1) := by decide +kernel
theorem dX1_lowerTo_26 : decode cX1_lowerTo 26 = .ok (.lload_n 1, 1) := by decide +kernel
theorem dX1_lowerTo_27 : decode cX1_lowerTo 27 = .ok (.lload_n 3, 1) := by decide +kernel
theorem dX1_lowerTo_28 : decode cX1_lowerTo 28 = .ok (.invokevirtual 22, 3) := by decide +kernel
theorem dX1_lowerTo_31 : decode cX1_lowerTo 31 = .ok (.return_, 1) := by decide +kernel
theorem dX1_raiseTo_0 : decode cX1_raiseTo 0 = .ok (.aload_n 0, 1) := by decide +kernel
theorem dX1_raiseTo_1 : decode cX1_raiseTo 1 = .ok (.getfield 19, 3) := by decide +kernel
theorem dX1_raiseTo_4 : decode cX1_raiseTo 4 = .ok (.lconst 0, 1) := by decide +kernel
theorem dX1_raiseTo_5 : decode cX1_raiseTo 5 = .ok (.lcmp, 1) := by decide +kernel
theorem dX1_raiseTo_6 : decode cX1_raiseTo 6 = .ok (.ifCond .eq 19, 3) := by decide +kernel
theorem dX1_raiseTo_9 : decode cX1_raiseTo 9 = .ok (.lload_n 1, 1) := by decide +kernel
theorem dX1_raiseTo_10 : decode cX1_raiseTo 10 = .ok (.aload_n 0, 1) := by decide +kernel
theorem dX1_raiseTo_11 : decode cX1_raiseTo 11 = .ok (.getfield 19, 3) := by decide +kernel
theorem dX1_raiseTo_14 : decode cX1_raiseTo 14 = .ok (.lmul, 1) := by decide +kernel
theorem dX1_raiseTo_15 : decode cX1_raiseTo 15 = .ok (.aload_n 0, 1) := by decide +kernel
theorem dX1_raiseTo_16 : decode cX1_raiseTo 16 = .ok (.getfield 13, 3) := by decide +kernel
theorem dX1_raiseTo_19 : decode cX1_raiseTo 19 = .ok (.lload_n 3, 1) := by decide +kernel
theorem dX1_raiseTo_20 : decode cX1_raiseTo 20 = .ok (.lmul, 1) := by decide +kernel
theorem dX1_raiseTo_21 : decode cX1_raiseTo 21 = .ok (.lcmp, 1) := by decide +kernel
theorem dX1_raiseTo_22 : decode cX1_raiseTo 22 = .ok (.ifCond .le 9, 3) := by decide +kernel
theorem dX1_raiseTo_25 : decode cX1_raiseTo 25 = .ok (.aload_n 0, 1) := by decide +kernel
theorem dX1_raiseTo_26 : decode cX1_raiseTo 26 = .ok (.lload_n 1, 1) := by decide +kernel
theorem dX1_raiseTo_27 : decode cX1_raiseTo 27 = .ok (.lload_n 3, 1) := by decide +kernel
theorem dX1_raiseTo_28 : decode cX1_raiseTo 28 = .ok (.invokevirtual 22, 3) := by decide +kernel
theorem dX1_raiseTo_31 : decode cX1_raiseTo 31 = .ok (.return_, 1) := by decide +kernel
theorem dX0_include_0 : decode cX0_include 0 = .ok (.aload_n 0, 1) := by decide +kernel
theorem dX0_include_1 : decode cX0_include 1 = .ok (.getfield 10, 3) := by decide +kernel
theorem dX0_include_4 : decode cX0_include 4 = .ok (.aload_n 1, 1) := by decide +kernel
theorem dX0_include_5 : decode cX0_include 5 = .ok (.getfield 29, 3) := by decide +kernel
theorem dX0_include_8 : decode cX0_include 8 = .ok (.aload_n 1, 1) := by decide +kernel
theorem dX0_include_9 : decode cX0_include 9 = .ok (.getfield 35, 3) := by decide +kernel
theorem dX0_include_12 : decode cX0_include 12 = .ok (.invokevirtual 38, 3) := by decide +kernel
theorem dX0_include_15 : decode cX0_include 15 = .ok (.aload_n 0, 1) := by decide +kernel
theorem dX0_include_16 : decode cX0_include 16 = .ok (.getfield 16, 3) := by decide +kernel
theorem dX0_include_19 : decode cX0_include 19 = .ok (.aload_n 1, 1) := by decide +kernel
theorem dX0_include_20 : decode cX0_include 20 = .ok (.getfield 41, 3) := by decide +kernel
theorem dX0_include_23 : decode cX0_include 23 = .ok (.aload_n 1, 1) := by decide +kernel
theorem dX0_include_24 : decode cX0_include 24 = .ok (.getfield 35, 3) := by decide +kernel
theorem dX0_include_27 : decode cX0_include 27 = .ok (.invokevirtual 38, 3) := by decide +kernel
theorem dX0_include_30 : decode cX0_include 30 = .ok (.aload_n 0, 1) := by decide +kernel
theorem dX0_include_31 : decode cX0_include 31 = .ok (.getfield 19, 3) := by decide +kernel
theorem dX0_include_34 : decode cX0_include 34 = .ok (.aload_n 1, 1) := by decide +kernel
theorem dX0_include_35 : decode cX0_include 35 = .ok (.getfield 29, 3) := by decide +kernel
theorem dX0_include_38 : decode cX0_include 38 = .ok (.aload_n 1, 1) := by decide +kernel
theorem dX0_include_39 : decode cX0_include 39 = .ok (.getfield 35, 3) := by decide +kernel
theorem dX0_include_42 : decode cX0_include 42 = .ok (.invokevirtual 44, 3) := by decide +kernel
theorem dX0_include_45 : decode cX0_include 45 = .ok (.aload_n 0, 1) := by decide +kernel
theorem dX0_include_46 : decode cX0_include 46 = .ok (.getfield 22, 3) := by decide +kernel
theorem dX0_include_49 : decode cX0_include 49 = .ok (.aload_n 1, 1) := by decide +kernel
theorem dX0_include_50 : decode cX0_include 50 = .ok (.getfield 41, 3) := by decide +kernel
theorem dX0_include_53 : decode cX0_include 53 = .ok (.aload_n 1, 1) := by decide +kernel
theorem dX0_include_54 : decode cX0_include 54 = .ok (.getfield 35, 3) := by decide +kernel
theorem dX0_include_57 : decode cX0_include 57 = .ok (.invokevirtual 44, 3) := by decide +kernel
theorem dX0_include_60 : decode cX0_include 60 = .ok (.return_, 1) := by decide +kernel
theorem dX4_isShownAt_0 : decode cX4_isShownAt 0 = .ok (.aload_n 0, 1) := by decide +kernel
theorem dX4_isShownAt_1 : decode cX4_isShownAt 1 = .ok (.astore_n 2, 1) := by decide +kernel
theorem dX4_isShownAt_2 : decode cX4_isShownAt 2 = .ok (.aload_n 2, 1) := by decide +kernel
theorem dX4_isShownAt_3 : decode cX4_isShownAt 3 = .ok (.ifnull 31, 3) := by decide +kernel
theorem dX4_isShownAt_6 : decode cX4_isShownAt 6 = .ok (.aload_n 2, 1) := by decide +kernel
theorem dX4_isShownAt_7 : decode cX4_isShownAt 7 = .ok (.getfield 68, 3) := by decide +kernel
theorem dX4_isShownAt_10 : decode cX4_isShownAt 10 = .ok (.ifCond .ne 14, 3) := by decide +kernel
theorem dX4_isShownAt_13 : decode cX4_isShownAt 13 = .ok (.aload_n 2, 1) := by decide +kernel
theorem dX4_isShownAt_14 : decode cX4_isShownAt 14 = .ok (.getfield 26, 3) := by decide +kernel
theorem dX4_isShownAt_17 : decode cX4_isShownAt 17 = .ok (.iload_n 1, 1) := by decide +kernel
theorem dX4_isShownAt_18 : decode cX4_isShownAt 18 = .ok (.invokevirtual 71, 3) := by decide +kernel
theorem dX4_isShownAt_21 : decode cX4_isShownAt 21 = .ok (.ifCond .ne 5, 3) := by decide +kernel
theorem dX4_isShownAt_24 : decode cX4_isShownAt 24 = .ok (.iconst 0, 1) := by decide +kernel
theorem dX4_isShownAt_25 : decode cX4_isShownAt 25 = .ok (.ireturn, 1) := by decide +kernel
theorem dX4_isShownAt_26 : decode cX4_isShownAt 26 = .ok (.aload_n 2, 1) := by decide +kernel
theorem dX4_isShownAt_27 : decode cX4_isShownAt 27 = .ok (.getfield 51, 3) := by decide +kernel
theorem dX4_isShownAt_30 : decode cX4_isShownAt 30 = .ok (.astore_n 2, 1) := by decide +kernel
theorem dX4_isShownAt_31 : decode cX4_isShownAt 31 = .ok (.goto (-29), 3) := by decide +kernel
theorem dX4_isShownAt_34 : decode cX4_isShownAt 34 = .ok (.iconst 1, 1) := by decide +kernel
theorem dX4_isShownAt_35 : decode cX4_isShownAt 35 = .ok (.ireturn, 1) := by decide +kernel
theorem dX4_isWithin_0 : decode cX4_isWithin 0 = .ok (.aload_n 0, 1) := by decide +kernel
theorem dX4_isWithin_1 : decode cX4_isWithin 1 = .ok (.astore_n 2, 1) := by decide +kernel
theorem dX4_isWithin_2 : decode cX4_isWithin 2 = .ok (.aload_n 2, 1) := by decide +kernel
theorem dX4_isWithin_3 : decode cX4_isWithin 3 = .ok (.ifnull 18, 3) := by decide +kernel
theorem dX4_isWithin_6 : decode cX4_isWithin 6 = .ok (.aload_n 2, 1) := by decide +kernel
theorem dX4_isWithin_7 : decode cX4_isWithin 7 = .ok (.aload_n 1, 1) := by decide +kernel
theorem dX4_isWithin_8 : decode cX4_isWithin 8 = .ok (.if_acmp .ne 5, 3) := by decide +kernel
theorem dX4_isWithin_11 : decode cX4_isWithin 11 = .ok (.iconst 1, 1) := by decide +kernel
theorem dX4_isWithin_12 : decode cX4_isWithin 12 = .ok (.ireturn, 1) := by decide +kernel
theorem dX4_isWithin_13 : decode cX4_isWithin 13 = .ok (.aload_n 2, 1) := by decide +kernel
theorem dX4_isWithin_14 : decode cX4_isWithin 14 = .ok (.getfield 51, 3) := by decide +kernel
theorem dX4_isWithin_17 : decode cX4_isWithin 17 = .ok (.astore_n 2, 1) := by decide +kernel
theorem dX4_isWithin_18 : decode cX4_isWithin 18 = .ok (.goto (-16), 3) := by decide +kernel
theorem dX4_isWithin_21 : decode cX4_isWithin 21 = .ok (.iconst 0, 1) := by decide +kernel
theorem dX4_isWithin_22 : decode cX4_isWithin 22 = .ok (.ireturn, 1) := by decide +kernel
theorem dX7_gatherBounds_0 : decode cX7_gatherBounds 0 = .ok (.aload_n 0, 1) := by decide +kernel
theorem dX7_gatherBounds_1 : decode cX7_gatherBounds 1 = .ok (.getfield 38, 3) := by decide +kernel
theorem dX7_gatherBounds_4 : decode cX7_gatherBounds 4 = .ok (.invokevirtual 382, 3) := by decide +kernel
theorem dX7_gatherBounds_7 : decode cX7_gatherBounds 7 = .ok (.aload_n 0, 1) := by decide +kernel
theorem dX7_gatherBounds_8 : decode cX7_gatherBounds 8 = .ok (.getfield 46, 3) := by decide +kernel
theorem dX7_gatherBounds_11 : decode cX7_gatherBounds 11 = .ok (.astore_n 2, 1) := by decide +kernel
theorem dX7_gatherBounds_12 : decode cX7_gatherBounds 12 = .ok (.aload_n 2, 1) := by decide +kernel
theorem dX7_gatherBounds_13 : decode cX7_gatherBounds 13 = .ok (.ifnull 97, 3) := by decide +kernel
theorem dX7_gatherBounds_16 : decode cX7_gatherBounds 16 = .ok (.aload_n 2, 1) := by decide +kernel
theorem dX7_gatherBounds_17 : decode cX7_gatherBounds 17 = .ok (.getfield 385, 3) := by decide +kernel
theorem dX7_gatherBounds_20 : decode cX7_gatherBounds 20 = .ok (.ifCond .eq 82, 3) := by decide +kernel
theorem dX7_gatherBounds_23 : decode cX7_gatherBounds 23 = .ok (.aload_n 2, 1) := by decide +kernel
theorem dX7_gatherBounds_24 : decode cX7_gatherBounds 24 = .ok (.aload_n 1, 1) := by decide +kernel
theorem dX7_gatherBounds_25 : decode cX7_gatherBounds 25 = .ok (.invokevirtual 91, 3) := by decide +kernel
theorem dX7_gatherBounds_28 : decode cX7_gatherBounds 28 = .ok (.ifCond .eq 74, 3) := by decide +kernel
theorem dX7_gatherBounds_31 : decode cX7_gatherBounds 31 = .ok (.aload_n 2, 1) := by decide +kernel
theorem dX7_gatherBounds_32 : decode cX7_gatherBounds 32 = .ok (.aload_n 0, 1) := by decide +kernel
theorem dX7_gatherBounds_33 : decode cX7_gatherBounds 33 = .ok (.getfield 232, 3) := by decide +kernel
theorem dX7_gatherBounds_36 : decode cX7_gatherBounds 36 = .ok (.invokevirtual 280, 3) := by decide +kernel
theorem dX7_gatherBounds_39 : decode cX7_gatherBounds 39 = .ok (.ifCond .eq 63, 3) := by decide +kernel
theorem dX7_gatherBounds_42 : decode cX7_gatherBounds 42 = .ok (.aload_n 0, 1) := by decide +kernel
theorem dX7_gatherBounds_43 : decode cX7_gatherBounds 43 = .ok (.aload_n 2, 1) := by decide +kernel
theorem dX7_gatherBounds_44 : decode cX7_gatherBounds 44 = .ok (.aload_n 2, 1) := by decide +kernel
theorem dX7_gatherBounds_45 : decode cX7_gatherBounds 45 = .ok (.getfield 388, 3) := by decide +kernel
theorem dX7_gatherBounds_48 : decode cX7_gatherBounds 48 = .ok (.getfield 391, 3) := by decide +kernel
theorem dX7_gatherBounds_51 : decode cX7_gatherBounds 51 = .ok (.aload_n 2, 1) := by decide +kernel
theorem dX7_gatherBounds_52 : decode cX7_gatherBounds 52 = .ok (.getfield 388, 3) := by decide +kernel
theorem dX7_gatherBounds_55 : decode cX7_gatherBounds 55 = .ok (.getfield 394, 3) := by decide +kernel
theorem dX7_gatherBounds_58 : decode cX7_gatherBounds 58 = .ok (.invokevirtual 248, 3) := by decide +kernel
theorem dX7_gatherBounds_61 : decode cX7_gatherBounds 61 = .ok (.aload_n 0, 1) := by decide +kernel
theorem dX7_gatherBounds_62 : decode cX7_gatherBounds 62 = .ok (.getfield 38, 3) := by decide +kernel
theorem dX7_gatherBounds_65 : decode cX7_gatherBounds 65 = .ok (.aload_n 0, 1) := by decide +kernel
theorem dX7_gatherBounds_66 : decode cX7_gatherBounds 66 = .ok (.getfield 31, 3) := by decide +kernel
theorem dX7_gatherBounds_69 : decode cX7_gatherBounds 69 = .ok (.invokevirtual 397, 3) := by decide +kernel
theorem dX7_gatherBounds_72 : decode cX7_gatherBounds 72 = .ok (.aload_n 0, 1) := by decide +kernel
theorem dX7_gatherBounds_73 : decode cX7_gatherBounds 73 = .ok (.aload_n 2, 1) := by decide +kernel
theorem dX7_gatherBounds_74 : decode cX7_gatherBounds 74 = .ok (.aload_n 2, 1) := by decide +kernel
theorem dX7_gatherBounds_75 : decode cX7_gatherBounds 75 = .ok (.getfield 388, 3) := by decide +kernel
theorem dX7_gatherBounds_78 : decode cX7_gatherBounds 78 = .ok (.getfield 401, 3) := by decide +kernel
theorem dX7_gatherBounds_81 : decode cX7_gatherBounds 81 = .ok (.aload_n 2, 1) := by decide +kernel
theorem dX7_gatherBounds_82 : decode cX7_gatherBounds 82 = .ok (.getfield 388, 3) := by decide +kernel
theorem dX7_gatherBounds_85 : decode cX7_gatherBounds 85 = .ok (.getfield 404, 3) := by decide +kernel
theorem dX7_gatherBounds_88 : decode cX7_gatherBounds 88 = .ok (.invokevirtual 248, 3) := by decide +kernel
theorem dX7_gatherBounds_91 : decode cX7_gatherBounds 91 = .ok (.aload_n 0, 1) := by decide +kernel
theorem dX7_gatherBounds_92 : decode cX7_gatherBounds 92 = .ok (.getfield 38, 3) := by decide +kernel
theorem dX7_gatherBounds_95 : decode cX7_gatherBounds 95 = .ok (.aload_n 0, 1) := by decide +kernel
theorem dX7_gatherBounds_96 : decode cX7_gatherBounds 96 = .ok (.getfield 31, 3) := by decide +kernel
theorem dX7_gatherBounds_99 : decode cX7_gatherBounds 99 = .ok (.invokevirtual 397, 3) := by decide +kernel
theorem dX7_gatherBounds_102 : decode cX7_gatherBounds 102 = .ok (.aload_n 2, 1) := by decide +kernel
theorem dX7_gatherBounds_103 : decode cX7_gatherBounds 103 = .ok (.getfield 98, 3) := by decide +kernel
theorem dX7_gatherBounds_106 : decode cX7_gatherBounds 106 = .ok (.astore_n 2, 1) := by decide +kernel
theorem dX7_gatherBounds_107 : decode cX7_gatherBounds 107 = .ok (.goto (-95), 3) := by decide +kernel
theorem dX7_gatherBounds_110 : decode cX7_gatherBounds 110 = .ok (.return_, 1) := by decide +kernel
theorem dX7_bound_0 : decode cX7_bound 0 = .ok (.aload_n 0, 1) := by decide +kernel
theorem dX7_bound_1 : decode cX7_bound 1 = .ok (.iload_n 1, 1) := by decide +kernel
theorem dX7_bound_2 : decode cX7_bound 2 = .ok (.invokevirtual 52, 3) := by decide +kernel
theorem dX7_bound_5 : decode cX7_bound 5 = .ok (.astore 4, 2) := by decide +kernel
theorem dX7_bound_7 : decode cX7_bound 7 = .ok (.iload_n 2, 1) := by decide +kernel
theorem dX7_bound_8 : decode cX7_bound 8 = .ok (.iconst 0, 1) := by decide +kernel
theorem dX7_bound_9 : decode cX7_bound 9 = .ok (.iconst 3, 1) := by decide +kernel
theorem dX7_bound_10 : decode cX7_bound 10 = .ok (.invokestatic 56, 3) := by decide +kernel
theorem dX7_bound_13 : decode cX7_bound 13 = .ok (.ifCond .ne 14, 3) := by decide +kernel
theorem dX7_bound_16 : decode cX7_bound 16 = .ok (.new 60, 3) := by decide +kernel
theorem dX7_bound_19 : decode cX7_bound 19 = .ok (.dup, 1) := by decide +kernel
theorem dX7_bound_20 : decode cX7_bound 20 = .ok (.ldc_w 264, 3) := by decide +kernel
theorem dX7_bound_23 : decode cX7_bound 23 = .ok (.invokespecial 64, 3) := by decide +kernel
theorem dX7_bound_26 : decode cX7_bound 26 = .ok (.athrow, 1) := by decide +kernel
theorem dX7_bound_27 : decode cX7_bound 27 = .ok (.aload_n 0, 1) := by decide +kernel
theorem dX7_bound_28 : decode cX7_bound 28 = .ok (.aload 4, 2) := by decide +kernel
theorem dX7_bound_30 : decode cX7_bound 30 = .ok (.invokevirtual 266, 3) := by decide +kernel
theorem dX7_bound_33 : decode cX7_bound 33 = .ok (.aload_n 0, 1) := by decide +kernel
theorem dX7_bound_34 : decode cX7_bound 34 = .ok (.getfield 38, 3) := by decide +kernel
theorem dX7_bound_37 : decode cX7_bound 37 = .ok (.iload_n 2, 1) := by decide +kernel
theorem dX7_bound_38 : decode cX7_bound 38 = .ok (.invokevirtual 269, 3) := by decide +kernel
theorem dX7_bound_41 : decode cX7_bound 41 = .ok (.astore 5, 2) := by decide +kernel
theorem dX7_bound_43 : decode cX7_bound 43 = .ok (.iload_n 3, 1) := by decide +kernel
theorem dX7_bound_44 : decode cX7_bound 44 = .ok (.ifCond .eq 11, 3) := by decide +kernel
theorem dX7_bound_47 : decode cX7_bound 47 = .ok (.aload 5, 2) := by decide +kernel
theorem dX7_bound_49 : decode cX7_bound 49 = .ok (.getfield 273, 3) := by decide +kernel
theorem dX7_bound_52 : decode cX7_bound 52 = .ok (.goto 8, 3) := by decide +kernel
theorem dX7_bound_55 : decode cX7_bound 55 = .ok (.aload 5, 2) := by decide +kernel
theorem dX7_bound_57 : decode cX7_bound 57 = .ok (.getfield 278, 3) := by decide +kernel
theorem dX7_bound_60 : decode cX7_bound 60 = .ok (.l2i, 1) := by decide +kernel
theorem dX7_bound_61 : decode cX7_bound 61 = .ok (.ireturn, 1) := by decide +kernel
theorem dL_bound_0 : decode cL_bound 0 = .ok (.aload 4, 2) := by decide +kernel
theorem dL_bound_2 : decode cL_bound 2 = .ok (.iconst 0, 1) := by decide +kernel
theorem dL_bound_3 : decode cL_bound 3 = .ok (.aload_n 0, 1) := by decide +kernel
theorem dL_bound_4 : decode cL_bound 4 = .ok (.iload_n 1, 1) := by decide +kernel
theorem dL_bound_5 : decode cL_bound 5 = .ok (.iload_n 2, 1) := by decide +kernel
theorem dL_bound_6 : decode cL_bound 6 = .ok (.iload_n 3, 1) := by decide +kernel
theorem dL_bound_7 : decode cL_bound 7 = .ok (.invokevirtual 84, 3) := by decide +kernel
theorem dL_bound_10 : decode cL_bound 10 = .ok (.i2l, 1) := by decide +kernel
theorem dL_bound_11 : decode cL_bound 11 = .ok (.lastore, 1) := by decide +kernel
theorem dL_bound_12 : decode cL_bound 12 = .ok (.goto 11, 3) := by decide +kernel
theorem dL_bound_15 : decode cL_bound 15 = .ok (.astore 5, 2) := by decide +kernel
theorem dL_bound_17 : decode cL_bound 17 = .ok (.iconst 1, 1) := by decide +kernel
theorem dL_bound_18 : decode cL_bound 18 = .ok (.ireturn, 1) := by decide +kernel
theorem dL_bound_19 : decode cL_bound 19 = .ok (.astore 5, 2) := by decide +kernel
theorem dL_bound_21 : decode cL_bound 21 = .ok (.iconst 2, 1) := by decide +kernel
theorem dL_bound_22 : decode cL_bound 22 = .ok (.ireturn, 1) := by decide +kernel
theorem dL_bound_23 : decode cL_bound 23 = .ok (.iconst 0, 1) := by decide +kernel
theorem dL_bound_24 : decode cL_bound 24 = .ok (.ireturn, 1) := by decide +kernel
theorem dX6_differs_0 : decode cX6_differs 0 = .ok (.aload_n 0, 1) := by decide +kernel
theorem dX6_differs_1 : decode cX6_differs 1 = .ok (.getfield 40, 3) := by decide +kernel
theorem dX6_differs_4 : decode cX6_differs 4 = .ok (.ifnull 20, 3) := by decide +kernel
theorem dX6_differs_7 : decode cX6_differs 7 = .ok (.aload_n 0, 1) := by decide +kernel
theorem dX6_differs_8 : decode cX6_differs 8 = .ok (.iload_n 1, 1) := by decide +kernel
theorem dX6_differs_9 : decode cX6_differs 9 = .ok (.invokevirtual 54, 3) := by decide +kernel
theorem dX6_differs_12 : decode cX6_differs 12 = .ok (.aload_n 0, 1) := by decide +kernel
theorem dX6_differs_13 : decode cX6_differs 13 = .ok (.iload_n 2, 1) := by decide +kernel
theorem dX6_differs_14 : decode cX6_differs 14 = .ok (.invokevirtual 54, 3) := by decide +kernel
theorem dX6_differs_17 : decode cX6_differs 17 = .ok (.if_icmp .eq 7, 3) := by decide +kernel
theorem dX6_differs_20 : decode cX6_differs 20 = .ok (.iconst 1, 1) := by decide +kernel
theorem dX6_differs_21 : decode cX6_differs 21 = .ok (.goto 4, 3) := by decide +kernel
theorem dX6_differs_24 : decode cX6_differs 24 = .ok (.iconst 0, 1) := by decide +kernel
theorem dX6_differs_25 : decode cX6_differs 25 = .ok (.ireturn, 1) := by decide +kernel
theorem dX4_differs_0 : decode cX4_differs 0 = .ok (.aload_n 0, 1) := by decide +kernel
theorem dX4_differs_1 : decode cX4_differs 1 = .ok (.astore_n 3, 1) := by decide +kernel
theorem dX4_differs_2 : decode cX4_differs 2 = .ok (.aload_n 3, 1) := by decide +kernel
theorem dX4_differs_3 : decode cX4_differs 3 = .ok (.ifnull 61, 3) := by decide +kernel
theorem dX4_differs_6 : decode cX4_differs 6 = .ok (.aload_n 3, 1) := by decide +kernel
theorem dX4_differs_7 : decode cX4_differs 7 = .ok (.getfield 14, 3) := by decide +kernel
theorem dX4_differs_10 : decode cX4_differs 10 = .ok (.iload_n 1, 1) := by decide +kernel
theorem dX4_differs_11 : decode cX4_differs 11 = .ok (.iload_n 2, 1) := by decide +kernel
theorem dX4_differs_12 : decode cX4_differs 12 = .ok (.invokevirtual 75, 3) := by decide +kernel
theorem dX4_differs_15 : decode cX4_differs 15 = .ok (.ifCond .ne 39, 3) := by decide +kernel
theorem dX4_differs_18 : decode cX4_differs 18 = .ok (.aload_n 3, 1) := by decide +kernel
theorem dX4_differs_19 : decode cX4_differs 19 = .ok (.getfield 20, 3) := by decide +kernel
theorem dX4_differs_22 : decode cX4_differs 22 = .ok (.iload_n 1, 1) := by decide +kernel
theorem dX4_differs_23 : decode cX4_differs 23 = .ok (.iload_n 2, 1) := by decide +kernel
theorem dX4_differs_24 : decode cX4_differs 24 = .ok (.invokevirtual 75, 3) := by decide +kernel
theorem dX4_differs_27 : decode cX4_differs 27 = .ok (.ifCond .ne 27, 3) := by decide +kernel
theorem dX4_differs_30 : decode cX4_differs 30 = .ok (.aload_n 3, 1) := by decide +kernel
theorem dX4_differs_31 : decode cX4_differs 31 = .ok (.getfield 23, 3) := by decide +kernel
theorem dX4_differs_34 : decode cX4_differs 34 = .ok (.iload_n 1, 1) := by decide +kernel
theorem dX4_differs_35 : decode cX4_differs 35 = .ok (.iload_n 2, 1) := by decide +kernel
theorem dX4_differs_36 : decode cX4_differs 36 = .ok (.invokevirtual 75, 3) := by decide +kernel
theorem dX4_differs_39 : decode cX4_differs 39 = .ok (.ifCond .ne 15, 3) := by decide +kernel
theorem dX4_differs_42 : decode cX4_differs 42 = .ok (.aload_n 3, 1) := by decide +kernel
theorem dX4_differs_43 : decode cX4_differs 43 = .ok (.getfield 26, 3) := by decide +kernel
theorem dX4_differs_46 : decode cX4_differs 46 = .ok (.iload_n 1, 1) := by decide +kernel
theorem dX4_differs_47 : decode cX4_differs 47 = .ok (.iload_n 2, 1) := by decide +kernel
theorem dX4_differs_48 : decode cX4_differs 48 = .ok (.invokevirtual 75, 3) := by decide +kernel
theorem dX4_differs_51 : decode cX4_differs 51 = .ok (.ifCond .eq 5, 3) := by decide +kernel
theorem dX4_differs_54 : decode cX4_differs 54 = .ok (.iconst 1, 1) := by decide +kernel
theorem dX4_differs_55 : decode cX4_differs 55 = .ok (.ireturn, 1) := by decide +kernel
theorem dX4_differs_56 : decode cX4_differs 56 = .ok (.aload_n 3, 1) := by decide +kernel
theorem dX4_differs_57 : decode cX4_differs 57 = .ok (.getfield 51, 3) := by decide +kernel
theorem dX4_differs_60 : decode cX4_differs 60 = .ok (.astore_n 3, 1) := by decide +kernel
theorem dX4_differs_61 : decode cX4_differs 61 = .ok (.goto (-59), 3) := by decide +kernel
theorem dX4_differs_64 : decode cX4_differs 64 = .ok (.iconst 0, 1) := by decide +kernel
theorem dX4_differs_65 : decode cX4_differs 65 = .ok (.ireturn, 1) := by decide +kernel
theorem dX7_checkTime_0 : decode cX7_checkTime 0 = .ok (.iload_n 0, 1) := by decide +kernel
theorem dX7_checkTime_1 : decode cX7_checkTime 1 = .ok (.iconst 0, 1) := by decide +kernel
theorem dX7_checkTime_2 : decode cX7_checkTime 2 = .ok (.sipush 9999, 3) := by decide +kernel
theorem dX7_checkTime_5 : decode cX7_checkTime 5 = .ok (.invokestatic 56, 3) := by decide +kernel
theorem dX7_checkTime_8 : decode cX7_checkTime 8 = .ok (.ifCond .ne 14, 3) := by decide +kernel
theorem dX7_checkTime_11 : decode cX7_checkTime 11 = .ok (.new 60, 3) := by decide +kernel
theorem dX7_checkTime_14 : decode cX7_checkTime 14 = .ok (.dup, 1) := by decide +kernel
theorem dX7_checkTime_15 : decode cX7_checkTime 15 = .ok (.ldc_w 349, 3) := by decide +kernel
theorem dX7_checkTime_18 : decode cX7_checkTime 18 = .ok (.invokespecial 64, 3) := by decide +kernel
theorem dX7_checkTime_21 : decode cX7_checkTime 21 = .ok (.athrow, 1) := by decide +kernel
theorem dX7_checkTime_22 : decode cX7_checkTime 22 = .ok (.return_, 1) := by decide +kernel
theorem dX7_changes_0 : decode cX7_changes 0 = .ok (.iload_n 1, 1) := by decide +kernel
theorem dX7_changes_1 : decode cX7_changes 1 = .ok (.invokestatic 228, 3) := by decide +kernel
theorem dX7_changes_4 : decode cX7_changes 4 = .ok (.iload_n 2, 1) := by decide +kernel
theorem dX7_changes_5 : decode cX7_changes 5 = .ok (.invokestatic 228, 3) := by decide +kernel
theorem dX7_changes_8 : decode cX7_changes 8 = .ok (.iconst 0, 1) := by decide +kernel
theorem dX7_changes_9 : decode cX7_changes 9 = .ok (.istore_n 3, 1) := by decide +kernel
theorem dX7_changes_10 : decode cX7_changes 10 = .ok (.aload_n 0, 1) := by decide +kernel
theorem dX7_changes_11 : decode cX7_changes 11 = .ok (.getfield 46, 3) := by decide +kernel
theorem dX7_changes_14 : decode cX7_changes 14 = .ok (.astore 4, 2) := by decide +kernel
theorem dX7_changes_16 : decode cX7_changes 16 = .ok (.aload 4, 2) := by decide +kernel
theorem dX7_changes_18 : decode cX7_changes 18 = .ok (.ifnull 26, 3) := by decide +kernel
theorem dX7_changes_21 : decode cX7_changes 21 = .ok (.aload 4, 2) := by decide +kernel
theorem dX7_changes_23 : decode cX7_changes 23 = .ok (.iload_n 1, 1) := by decide +kernel
theorem dX7_changes_24 : decode cX7_changes 24 = .ok (.iload_n 2, 1) := by decide +kernel
theorem dX7_changes_25 : decode cX7_changes 25 = .ok (.invokevirtual 306, 3) := by decide +kernel
theorem dX7_changes_28 : decode cX7_changes 28 = .ok (.ifCond .eq 6, 3) := by decide +kernel
theorem dX7_changes_31 : decode cX7_changes 31 = .ok (.iinc 3 1, 3) := by decide +kernel
theorem dX7_changes_34 : decode cX7_changes 34 = .ok (.aload 4, 2) := by decide +kernel
theorem dX7_changes_36 : decode cX7_changes 36 = .ok (.getfield 98, 3) := by decide +kernel
theorem dX7_changes_39 : decode cX7_changes 39 = .ok (.astore 4, 2) := by decide +kernel
theorem dX7_changes_41 : decode cX7_changes 41 = .ok (.goto (-25), 3) := by decide +kernel
theorem dX7_changes_44 : decode cX7_changes 44 = .ok (.iload_n 3, 1) := by decide +kernel
theorem dX7_changes_45 : decode cX7_changes 45 = .ok (.ireturn, 1) := by decide +kernel
theorem dL_changes_0 : decode cL_changes 0 = .ok (.aload_n 3, 1) := by decide +kernel
theorem dL_changes_1 : decode cL_changes 1 = .ok (.iconst 0, 1) := by decide +kernel
theorem dL_changes_2 : decode cL_changes 2 = .ok (.aload_n 0, 1) := by decide +kernel
theorem dL_changes_3 : decode cL_changes 3 = .ok (.iload_n 1, 1) := by decide +kernel
theorem dL_changes_4 : decode cL_changes 4 = .ok (.iload_n 2, 1) := by decide +kernel
theorem dL_changes_5 : decode cL_changes 5 = .ok (.invokevirtual 112, 3) := by decide +kernel
theorem dL_changes_8 : decode cL_changes 8 = .ok (.i2l, 1) := by decide +kernel
theorem dL_changes_9 : decode cL_changes 9 = .ok (.lastore, 1) := by decide +kernel
theorem dL_changes_10 : decode cL_changes 10 = .ok (.goto 7, 3) := by decide +kernel
theorem dL_changes_13 : decode cL_changes 13 = .ok (.astore 4, 2) := by decide +kernel
theorem dL_changes_15 : decode cL_changes 15 = .ok (.iconst 1, 1) := by decide +kernel
theorem dL_changes_16 : decode cL_changes 16 = .ok (.ireturn, 1) := by decide +kernel
theorem dL_changes_17 : decode cL_changes 17 = .ok (.iconst 0, 1) := by decide +kernel
theorem dL_changes_18 : decode cL_changes 18 = .ok (.ireturn, 1) := by decide +kernel
theorem dX7_common_0 : decode cX7_common 0 = .ok (.aload_n 0, 1) := by decide +kernel
theorem dX7_common_1 : decode cX7_common 1 = .ok (.iload_n 1, 1) := by decide +kernel
theorem dX7_common_2 : decode cX7_common 2 = .ok (.invokevirtual 52, 3) := by decide +kernel
theorem dX7_common_5 : decode cX7_common 5 = .ok (.astore_n 3, 1) := by decide +kernel
theorem dX7_common_6 : decode cX7_common 6 = .ok (.aload_n 0, 1) := by decide +kernel
theorem dX7_common_7 : decode cX7_common 7 = .ok (.iload_n 2, 1) := by decide +kernel
theorem dX7_common_8 : decode cX7_common 8 = .ok (.invokevirtual 52, 3) := by decide +kernel
theorem dX7_common_11 : decode cX7_common 11 = .ok (.astore 4, 2) := by decide +kernel
theorem dX7_common_13 : decode cX7_common 13 = .ok (.aload_n 3, 1) := by decide +kernel
theorem dX7_common_14 : decode cX7_common 14 = .ok (.astore 5, 2) := by decide +kernel
theorem dX7_common_16 : decode cX7_common 16 = .ok (.aload 5, 2) := by decide +kernel
theorem dX7_common_18 : decode cX7_common 18 = .ok (.ifnull 29, 3) := by decide +kernel
theorem dX7_common_21 : decode cX7_common 21 = .ok (.aload 4, 2) := by decide +kernel
theorem dX7_common_23 : decode cX7_common 23 = .ok (.aload 5, 2) := by decide +kernel
theorem dX7_common_25 : decode cX7_common 25 = .ok (.invokevirtual 91, 3) := by decide +kernel
theorem dX7_common_28 : decode cX7_common 28 = .ok (.ifCond .eq 9, 3) := by decide +kernel
theorem dX7_common_31 : decode cX7_common 31 = .ok (.aload 5, 2) := by decide +kernel
theorem dX7_common_33 : decode cX7_common 33 = .ok (.getfield 85, 3) := by decide +kernel
theorem dX7_common_36 : decode cX7_common 36 = .ok (.ireturn, 1) := by decide +kernel
theorem dX7_common_37 : decode cX7_common 37 = .ok (.aload 5, 2) := by decide +kernel
theorem dX7_common_39 : decode cX7_common 39 = .ok (.getfield 173, 3) := by decide +kernel
theorem dX7_common_42 : decode cX7_common 42 = .ok (.astore 5, 2) := by decide +kernel
theorem dX7_common_44 : decode cX7_common 44 = .ok (.goto (-28), 3) := by decide +kernel
theorem dX7_common_47 : decode cX7_common 47 = .ok (.aload_n 0, 1) := by decide +kernel
theorem dX7_common_48 : decode cX7_common 48 = .ok (.getfield 24, 3) := by decide +kernel
theorem dX7_common_51 : decode cX7_common 51 = .ok (.getfield 85, 3) := by decide +kernel
theorem dX7_common_54 : decode cX7_common 54 = .ok (.ireturn, 1) := by decide +kernel
theorem dL_common_0 : decode cL_common 0 = .ok (.aload_n 3, 1) := by decide +kernel
theorem dL_common_1 : decode cL_common 1 = .ok (.iconst 0, 1) := by decide +kernel
theorem dL_common_2 : decode cL_common 2 = .ok (.aload_n 0, 1) := by decide +kernel
theorem dL_common_3 : decode cL_common 3 = .ok (.iload_n 1, 1) := by decide +kernel
theorem dL_common_4 : decode cL_common 4 = .ok (.iload_n 2, 1) := by decide +kernel
theorem dL_common_5 : decode cL_common 5 = .ok (.invokevirtual 56, 3) := by decide +kernel
theorem dL_common_8 : decode cL_common 8 = .ok (.i2l, 1) := by decide +kernel
theorem dL_common_9 : decode cL_common 9 = .ok (.lastore, 1) := by decide +kernel
theorem dL_common_10 : decode cL_common 10 = .ok (.goto 7, 3) := by decide +kernel
theorem dL_common_13 : decode cL_common 13 = .ok (.astore 4, 2) := by decide +kernel
theorem dL_common_15 : decode cL_common 15 = .ok (.iconst 1, 1) := by decide +kernel
theorem dL_common_16 : decode cL_common 16 = .ok (.ireturn, 1) := by decide +kernel
theorem dL_common_17 : decode cL_common 17 = .ok (.iconst 0, 1) := by decide +kernel
theorem dL_common_18 : decode cL_common 18 = .ok (.ireturn, 1) := by decide +kernel
noncomputable def f_X5_leave_L58 (a0 : Option Nat) (a1 : Option Nat) (a2 : Int32) (h : fSt) : Option (Unit × fSt) := (fgR h a1 4 5).bind fun x1 => (fobj h x1 6).bind fun b5 => (f_X6_at b5 a2 h).bind fun r3 => (fobj r3.2 a0 5).bind fun b9 => (f_X5_turnQuarters b9 r3.1 r3.2).bind fun r7 => (fgJ r7.2 a0 5 0).bind fun x11 => (fgR r7.2 a1 4 3).bind fun x13 => (fobj r7.2 x13 6).bind fun b17 => (f_X6_at b17 a2 r7.2).bind fun r15 => (fgJ r15.2 a0 5 2).bind fun x19 => (fput r15.2 a0 5 0 (.long (x11 + ((Int32.toInt64 r15.1) * x19)))).bind fun h21 => (fgJ h21 a0 5 1).bind fun x23 => (fgR h21 a1 4 4).bind fun x25 => (fobj h21 x25 6).bind fun b29 => (f_X6_at b29 a2 h21).bind fun r27 => (fgJ r27.2 a0 5 2).bind fun x31 => (fput r27.2 a0 5 1 (.long (x23 + ((Int32.toInt64 r27.1) * x31)))).bind fun h33 => some ((), h33)
noncomputable def f_X5_leave_L0 (a0 : Option Nat) (a1 : Option Nat) (a2 : Int32) (h : fSt) : Option (Unit × fSt) := (fgJ h a0 5 0).bind fun x35 => (fgI h a1 4 7).bind fun x37 => (fput h a0 5 0 (.long (x35 * (Int32.toInt64 x37)))).bind fun h39 => (fgJ h39 a0 5 1).bind fun x41 => (fgI h39 a1 4 7).bind fun x43 => (fput h39 a0 5 1 (.long (x41 * (Int32.toInt64 x43)))).bind fun h45 => (fgJ h45 a0 5 2).bind fun x47 => (fgI h45 a1 4 8).bind fun x49 => (fput h45 a0 5 2 (.long (x47 * (Int32.toInt64 x49)))).bind fun h51 => (fgI h51 a1 4 9).bind fun x53 => (if x53 = 0 then f_X5_leave_L58 a0 a1 a2 h51 else (fgJ h51 a0 5 0).bind fun x56 => (fput h51 a0 5 0 (.long (-x56))).bind fun h58 => f_X5_leave_L58 a0 a1 a2 h58)
noncomputable def f_X5_leave (o : Nat) (p0 : Option Nat) (p1 : Int32) (h : fSt) : Option (Unit × fSt) := f_X5_leave_L0 (some o) p0 p1 h
noncomputable def f_X5_set_L0 (a0 : Option Nat) (a1 : Int64) (a3 : Int64) (a5 : Int64) (h : fSt) : Option (Unit × fSt) := (fput h a0 5 0 (.long a1)).bind fun h1 => (fput h1 a0 5 1 (.long a3)).bind fun h3 => (fput h3 a0 5 2 (.long a5)).bind fun h5 => (fputZ h5 a0 5 3 (0 : Int32)).bind fun h7 => some ((), h7)
noncomputable def f_X5_set (o : Nat) (p0 : Int64) (p1 : Int64) (p2 : Int64) (h : fSt) : Option (Unit × fSt) := f_X5_set_L0 (some o) p0 p1 p2 h
noncomputable def f_X7_raise_L15 (n : Nat) : Option Nat → Option Nat → fSt → Option (Unit × fSt) := Nat.rec (motive := fun _ => Option Nat → Option Nat → fSt → Option (Unit × fSt)) (fun _ _ _ => none) (fun _ k15 (a0 : Option Nat) (a4 : Option Nat) (h : fSt) => (if a4 = none then some ((), h) else (fgR h a0 7 3).bind fun x2 => (fgI h a0 7 7).bind fun x4 => (fobj h x2 5).bind fun b8 => (f_X5_leave b8 a4 x4 h).bind fun r6 => (fgR r6.2 a4 4 14).bind fun x10 => k15 a0 x10 r6.2)) n
noncomputable def f_X7_raise_L0 (a0 : Option Nat) (a1 : Option Nat) (a2 : Int32) (a3 : Int32) (h : fSt) : Option (Unit × fSt) := (fgR h a0 7 3).bind fun x12 => (fobj h x12 5).bind fun b16 => (f_X5_set b16 (Int32.toInt64 a2) (Int32.toInt64 a3) (1 : Int64) h).bind fun r14 => f_X7_raise_L15 4096 a0 a1 r14.2
noncomputable def f_X7_raise (o : Nat) (p0 : Option Nat) (p1 : Int32) (p2 : Int32) (h : fSt) : Option (Unit × fSt) := f_X7_raise_L0 (some o) p0 p1 p2 h
noncomputable def f_X2_holds_L77 (s0 : Int32) (h : fSt) : Option (Int32 × fSt) := if s0 = 0 ∨ s0 = 1 then some (s0, h) else none
noncomputable def f_X2_holds_L76  (h : fSt) : Option (Int32 × fSt) := f_X2_holds_L77 (0 : Int32) h
noncomputable def f_X2_holds_L0 (a0 : Option Nat) (a1 : Option Nat) (h : fSt) : Option (Int32 × fSt) := (fgJ h a1 5 0).bind fun x2 => (fgI h a0 2 0).bind fun x4 => (fgJ h a1 5 2).bind fun x6 => (if x2 < ((Int32.toInt64 x4) * x6) then f_X2_holds_L76 h else (fgJ h a1 5 0).bind fun x9 => (fgI h a0 2 2).bind fun x11 => (fgJ h a1 5 2).bind fun x13 => (if ((Int32.toInt64 x11) * x13) < x9 then f_X2_holds_L76 h else (fgJ h a1 5 1).bind fun x16 => (fgI h a0 2 1).bind fun x18 => (fgJ h a1 5 2).bind fun x20 => (if x16 < ((Int32.toInt64 x18) * x20) then f_X2_holds_L76 h else (fgJ h a1 5 1).bind fun x23 => (fgI h a0 2 3).bind fun x25 => (fgJ h a1 5 2).bind fun x27 => (if ((Int32.toInt64 x25) * x27) < x23 then f_X2_holds_L76 h else f_X2_holds_L77 (1 : Int32) h))))
noncomputable def f_X2_holds (o : Nat) (p0 : Option Nat) (h : fSt) : Option (Int32 × fSt) := f_X2_holds_L0 (some o) p0 h
noncomputable def f_X5_enter_L141  (h : fSt) : Option (Unit × fSt) := some ((), h)
noncomputable def f_X5_enter_L76 (a0 : Option Nat) (a1 : Option Nat) (h : fSt) : Option (Unit × fSt) := (fgJ h a0 5 0).bind fun x1 => (fgI h a1 4 8).bind fun x3 => (fput h a0 5 0 (.long (x1 * (Int32.toInt64 x3)))).bind fun h5 => (fgJ h5 a0 5 1).bind fun x7 => (fgI h5 a1 4 8).bind fun x9 => (fput h5 a0 5 1 (.long (x7 * (Int32.toInt64 x9)))).bind fun h11 => (fgJ h11 a0 5 2).bind fun x13 => (fgI h11 a1 4 7).bind fun x15 => (fput h11 a0 5 2 (.long (x13 * (Int32.toInt64 x15)))).bind fun h17 => (fgR h17 a1 4 12).bind fun x19 => (if x19 = none then f_X5_enter_L141 h17 else (fgR h17 a1 4 12).bind fun x22 => (fobj h17 x22 2).bind fun b26 => (f_X2_holds b26 a0 h17).bind fun r24 => (if r24.1 = 0 then (fputZ r24.2 a0 5 3 (1 : Int32)).bind fun h29 => f_X5_enter_L141 h29 else f_X5_enter_L141 r24.2))
noncomputable def f_X5_enter_L0 (a0 : Option Nat) (a1 : Option Nat) (a2 : Int32) (h : fSt) : Option (Unit × fSt) := (fgJ h a0 5 0).bind fun x32 => (fgR h a1 4 3).bind fun x34 => (fobj h x34 6).bind fun b38 => (f_X6_at b38 a2 h).bind fun r36 => (fgJ r36.2 a0 5 2).bind fun x40 => (fput r36.2 a0 5 0 (.long (x32 - ((Int32.toInt64 r36.1) * x40)))).bind fun h42 => (fgJ h42 a0 5 1).bind fun x44 => (fgR h42 a1 4 4).bind fun x46 => (fobj h42 x46 6).bind fun b50 => (f_X6_at b50 a2 h42).bind fun r48 => (fgJ r48.2 a0 5 2).bind fun x52 => (fput r48.2 a0 5 1 (.long (x44 - ((Int32.toInt64 r48.1) * x52)))).bind fun h54 => (fgR h54 a1 4 5).bind fun x56 => (fobj h54 x56 6).bind fun b60 => (f_X6_at b60 a2 h54).bind fun r58 => (fobj r58.2 a0 5).bind fun b64 => (f_X5_turnQuarters b64 ((4 : Int32) - r58.1) r58.2).bind fun r62 => (fgI r62.2 a1 4 9).bind fun x66 => (if x66 = 0 then f_X5_enter_L76 a0 a1 r62.2 else (fgJ r62.2 a0 5 0).bind fun x69 => (fput r62.2 a0 5 0 (.long (-x69))).bind fun h71 => f_X5_enter_L76 a0 a1 h71)
noncomputable def f_X5_enter (o : Nat) (p0 : Option Nat) (p1 : Int32) (h : fSt) : Option (Unit × fSt) := f_X5_enter_L0 (some o) p0 p1 h
noncomputable def f_X7_sink_L24 (self : Option Nat → Option Nat → Int32 → Int32 → fSt → Option (Unit × fSt)) (a0 : Option Nat) (a1 : Option Nat) (a2 : Int32) (h : fSt) : Option (Unit × fSt) := (fobj h a0 5).bind fun b3 => (f_X5_enter b3 a1 a2 h).bind fun r1 => some ((), r1.2)
noncomputable def f_X7_sink_L0 (self : Option Nat → Option Nat → Int32 → Int32 → fSt → Option (Unit × fSt)) (a0 : Option Nat) (a1 : Option Nat) (a2 : Int32) (a3 : Int32) (h : fSt) : Option (Unit × fSt) := (fgR h a1 4 14).bind fun x5 => (if x5 = none then f_X7_sink_L24 self a0 a1 a2 h else (if (4 : Int32) ≤ a3 then f_X7_sink_L24 self a0 a1 a2 h else (fgR h a1 4 14).bind fun x9 => (self a0 x9 a2 (a3 + (1 : Int32)) h).bind fun r11 => f_X7_sink_L24 self a0 a1 a2 r11.2))
noncomputable def f_X7_sink (d : Nat) : Option Nat → Option Nat → Int32 → Int32 → fSt → Option (Unit × fSt) := Nat.rec (motive := fun _ => Option Nat → Option Nat → Int32 → Int32 → fSt → Option (Unit × fSt)) (fun _ _ _ _ _ => none) (fun _ self (p0 : Option Nat) (p1 : Option Nat) (p2 : Int32) (p3 : Int32) (h : fSt) => f_X7_sink_L0 self p0 p1 p2 p3 h) d
noncomputable def f_X7_between_L0 (a0 : Option Nat) (a1 : Int32) (a2 : Int32) (a3 : Int32) (a4 : Int32) (a5 : Int32) (h : fSt) : Option ((Int32 ⊕ Nat) × fSt) := (fobj h a0 7).bind fun b3 => (f_X7_found b3 a1 h).bind fun r1 => Sum.elim (fun v5 => (fobj r1.2 a0 7).bind fun b10 => (f_X7_found b10 a2 r1.2).bind fun r8 => Sum.elim (fun v12 => (f_X7_checkPoint a3 a4 a5 r8.2).bind fun r15 => Sum.elim (fun v17 => (fobj r15.2 a0 7).bind fun b22 => (f_X7_raise b22 v5 a3 a4 r15.2).bind fun r20 => (fgR r20.2 a0 7 3).bind fun x24 => (fgI r20.2 a0 7 7).bind fun x26 => (f_X7_sink 8 x24 v12 x26 (0 : Int32) r20.2).bind fun r28 => (fgR r28.2 a0 7 3).bind fun x30 => (fobj r28.2 x30 5).bind fun b34 => (f_X5_part b34 a5 r28.2).bind fun r32 => some (.inl (Int64.toInt32 r32.1), r32.2)) (fun k18 => some (.inr k18, r15.2)) r15.1) (fun k13 => some (.inr k13, r8.2)) r8.1) (fun k6 => some (.inr k6, r1.2)) r1.1
noncomputable def f_X7_between (o : Nat) (p0 : Int32) (p1 : Int32) (p2 : Int32) (p3 : Int32) (p4 : Int32) (h : fSt) : Option ((Int32 ⊕ Nat) × fSt) := f_X7_between_L0 (some o) p0 p1 p2 p3 p4 h
noncomputable def f_L_between_L0 (a0 : Option Nat) (a1 : Int32) (a2 : Int32) (a3 : Int32) (a4 : Int32) (a5 : Int32) (a6 : Option Nat) (h : fSt) : Option ((Int32 ⊕ Nat) × fSt) := (fobj h a0 7).bind fun b3 => (f_X7_between b3 a1 a2 a3 a4 a5 h).bind fun r1 => Sum.elim (fun v5 => (fsJ r1.2 a6 1 (0 : Int32) (Int32.toInt64 v5)).bind fun h8 => some (.inl (0 : Int32), h8)) (fun k6 => (if k6 = 0 then some (.inl (1 : Int32), r1.2) else (if k6 = 1 then some (.inl (2 : Int32), r1.2) else none))) r1.1
noncomputable def f_L_between (p0 : Option Nat) (p1 : Int32) (p2 : Int32) (p3 : Int32) (p4 : Int32) (p5 : Int32) (p6 : Option Nat) (h : fSt) : Option ((Int32 ⊕ Nat) × fSt) := f_L_between_L0 p0 p1 p2 p3 p4 p5 p6 h
noncomputable def f_X0_side_L0 (a0 : Option Nat) (a1 : Int32) (h : fSt) : Option (Option Nat × fSt) := (if a1 = (0 : Int32) then (fgR h a0 0 0).bind fun x2 => some (x2, h) else (if a1 = (1 : Int32) then (fgR h a0 0 1).bind fun x5 => some (x5, h) else (if a1 = (2 : Int32) then (fgR h a0 0 2).bind fun x8 => some (x8, h) else (fgR h a0 0 3).bind fun x10 => some (x10, h))))
noncomputable def f_X0_side (o : Nat) (p0 : Int32) (h : fSt) : Option (Option Nat × fSt) := f_X0_side_L0 (some o) p0 h
noncomputable def f_X1_set_L0 (a0 : Option Nat) (a1 : Int64) (a3 : Int64) (h : fSt) : Option (Unit × fSt) := (f_X7_commonDivisor a1 a3 h).bind fun r1 => (if r1.1 = 0 then none else (fput r1.2 a0 1 0 (.long (a1 / r1.1))).bind fun h4 => (if r1.1 = 0 then none else (fput h4 a0 1 1 (.long (a3 / r1.1))).bind fun h7 => some ((), h7)))
noncomputable def f_X1_set (o : Nat) (p0 : Int64) (p1 : Int64) (h : fSt) : Option (Unit × fSt) := f_X1_set_L0 (some o) p0 p1 h
noncomputable def f_X0_clear_L0 (a0 : Option Nat) (h : fSt) : Option (Unit × fSt) := (fgR h a0 0 0).bind fun x1 => (fobj h x1 1).bind fun b5 => (f_X1_set b5 (0 : Int64) (0 : Int64) h).bind fun r3 => (fgR r3.2 a0 0 1).bind fun x7 => (fobj r3.2 x7 1).bind fun b11 => (f_X1_set b11 (0 : Int64) (0 : Int64) r3.2).bind fun r9 => (fgR r9.2 a0 0 2).bind fun x13 => (fobj r9.2 x13 1).bind fun b17 => (f_X1_set b17 (0 : Int64) (0 : Int64) r9.2).bind fun r15 => (fgR r15.2 a0 0 3).bind fun x19 => (fobj r15.2 x19 1).bind fun b23 => (f_X1_set b23 (0 : Int64) (0 : Int64) r15.2).bind fun r21 => some ((), r21.2)
noncomputable def f_X0_clear (o : Nat) (h : fSt) : Option (Unit × fSt) := f_X0_clear_L0 (some o) h
noncomputable def f_X1_lowerTo_L31  (h : fSt) : Option (Unit × fSt) := some ((), h)
noncomputable def f_X1_lowerTo_L25 (a0 : Option Nat) (a1 : Int64) (a3 : Int64) (h : fSt) : Option (Unit × fSt) := (fobj h a0 1).bind fun b3 => (f_X1_set b3 a1 a3 h).bind fun r1 => f_X1_lowerTo_L31 r1.2
noncomputable def f_X1_lowerTo_L0 (a0 : Option Nat) (a1 : Int64) (a3 : Int64) (h : fSt) : Option (Unit × fSt) := (fgJ h a0 1 1).bind fun x5 => (if x5 = (0 : Int64) then f_X1_lowerTo_L25 a0 a1 a3 h else (fgJ h a0 1 1).bind fun x8 => (fgJ h a0 1 0).bind fun x10 => (if (x10 * a3) ≤ (a1 * x8) then f_X1_lowerTo_L31 h else f_X1_lowerTo_L25 a0 a1 a3 h))
noncomputable def f_X1_lowerTo (o : Nat) (p0 : Int64) (p1 : Int64) (h : fSt) : Option (Unit × fSt) := f_X1_lowerTo_L0 (some o) p0 p1 h
noncomputable def f_X1_raiseTo_L31  (h : fSt) : Option (Unit × fSt) := some ((), h)
noncomputable def f_X1_raiseTo_L25 (a0 : Option Nat) (a1 : Int64) (a3 : Int64) (h : fSt) : Option (Unit × fSt) := (fobj h a0 1).bind fun b3 => (f_X1_set b3 a1 a3 h).bind fun r1 => f_X1_raiseTo_L31 r1.2
noncomputable def f_X1_raiseTo_L0 (a0 : Option Nat) (a1 : Int64) (a3 : Int64) (h : fSt) : Option (Unit × fSt) := (fgJ h a0 1 1).bind fun x5 => (if x5 = (0 : Int64) then f_X1_raiseTo_L25 a0 a1 a3 h else (fgJ h a0 1 1).bind fun x8 => (fgJ h a0 1 0).bind fun x10 => (if (a1 * x8) ≤ (x10 * a3) then f_X1_raiseTo_L31 h else f_X1_raiseTo_L25 a0 a1 a3 h))
noncomputable def f_X1_raiseTo (o : Nat) (p0 : Int64) (p1 : Int64) (h : fSt) : Option (Unit × fSt) := f_X1_raiseTo_L0 (some o) p0 p1 h
noncomputable def f_X0_include_L0 (a0 : Option Nat) (a1 : Option Nat) (h : fSt) : Option (Unit × fSt) := (fgR h a0 0 0).bind fun x1 => (fgJ h a1 5 0).bind fun x3 => (fgJ h a1 5 2).bind fun x5 => (fobj h x1 1).bind fun b9 => (f_X1_lowerTo b9 x3 x5 h).bind fun r7 => (fgR r7.2 a0 0 1).bind fun x11 => (fgJ r7.2 a1 5 1).bind fun x13 => (fgJ r7.2 a1 5 2).bind fun x15 => (fobj r7.2 x11 1).bind fun b19 => (f_X1_lowerTo b19 x13 x15 r7.2).bind fun r17 => (fgR r17.2 a0 0 2).bind fun x21 => (fgJ r17.2 a1 5 0).bind fun x23 => (fgJ r17.2 a1 5 2).bind fun x25 => (fobj r17.2 x21 1).bind fun b29 => (f_X1_raiseTo b29 x23 x25 r17.2).bind fun r27 => (fgR r27.2 a0 0 3).bind fun x31 => (fgJ r27.2 a1 5 1).bind fun x33 => (fgJ r27.2 a1 5 2).bind fun x35 => (fobj r27.2 x31 1).bind fun b39 => (f_X1_raiseTo b39 x33 x35 r27.2).bind fun r37 => some ((), r37.2)
noncomputable def f_X0_include (o : Nat) (p0 : Option Nat) (h : fSt) : Option (Unit × fSt) := f_X0_include_L0 (some o) p0 h
noncomputable def f_X4_isShownAt_L24  (h : fSt) : Option (Int32 × fSt) := some ((0 : Int32), h)
noncomputable def f_X4_isShownAt_L2 (n : Nat) : Int32 → Option Nat → fSt → Option (Int32 × fSt) := Nat.rec (motive := fun _ => Int32 → Option Nat → fSt → Option (Int32 × fSt)) (fun _ _ _ => none) (fun _ k2 (a1 : Int32) (a2 : Option Nat) (h : fSt) => (if a2 = none then some ((1 : Int32), h) else (fgI h a2 4 11).bind fun x2 => (if x2 = 0 then (fgR h a2 4 6).bind fun x5 => (fobj h x5 6).bind fun b9 => (f_X6_at b9 a1 h).bind fun r7 => (if r7.1 = 0 then f_X4_isShownAt_L24 r7.2 else (fgR r7.2 a2 4 14).bind fun x12 => k2 a1 x12 r7.2) else f_X4_isShownAt_L24 h))) n
noncomputable def f_X4_isShownAt_L0 (a0 : Option Nat) (a1 : Int32) (h : fSt) : Option (Int32 × fSt) := f_X4_isShownAt_L2 4096 a1 a0 h
noncomputable def f_X4_isShownAt (o : Nat) (p0 : Int32) (h : fSt) : Option (Int32 × fSt) := f_X4_isShownAt_L0 (some o) p0 h
noncomputable def f_X4_isWithin_L2 (n : Nat) : Option Nat → Option Nat → fSt → Option (Int32 × fSt) := Nat.rec (motive := fun _ => Option Nat → Option Nat → fSt → Option (Int32 × fSt)) (fun _ _ _ => none) (fun _ k2 (a1 : Option Nat) (a2 : Option Nat) (h : fSt) => (if a2 = none then some ((0 : Int32), h) else (if a2 = a1 then some ((1 : Int32), h) else (fgR h a2 4 14).bind fun x3 => k2 a1 x3 h))) n
noncomputable def f_X4_isWithin_L0 (a0 : Option Nat) (a1 : Option Nat) (h : fSt) : Option (Int32 × fSt) := f_X4_isWithin_L2 4096 a1 a0 h
noncomputable def f_X4_isWithin (o : Nat) (p0 : Option Nat) (h : fSt) : Option (Int32 × fSt) := f_X4_isWithin_L0 (some o) p0 h
noncomputable def f_X7_gatherBounds_L102 (k12 : Option Nat → Option Nat → Option Nat → fSt → Option (Unit × fSt)) (a0 : Option Nat) (a1 : Option Nat) (a2 : Option Nat) (h : fSt) : Option (Unit × fSt) := (fgR h a2 4 17).bind fun x1 => k12 a0 a1 x1 h
noncomputable def f_X7_gatherBounds_L12 (n : Nat) : Option Nat → Option Nat → Option Nat → fSt → Option (Unit × fSt) := Nat.rec (motive := fun _ => Option Nat → Option Nat → Option Nat → fSt → Option (Unit × fSt)) (fun _ _ _ _ => none) (fun _ k12 (a0 : Option Nat) (a1 : Option Nat) (a2 : Option Nat) (h : fSt) => (if a2 = none then some ((), h) else (fgI h a2 4 1).bind fun x4 => (if x4 = 0 then f_X7_gatherBounds_L102 k12 a0 a1 a2 h else (fobj h a2 4).bind fun b9 => (f_X4_isWithin b9 a1 h).bind fun r7 => (if r7.1 = 0 then f_X7_gatherBounds_L102 k12 a0 a1 a2 r7.2 else (fgI r7.2 a0 7 7).bind fun x12 => (fobj r7.2 a2 4).bind fun b16 => (f_X4_isShownAt b16 x12 r7.2).bind fun r14 => (if r14.1 = 0 then f_X7_gatherBounds_L102 k12 a0 a1 a2 r14.2 else (fgR r14.2 a2 4 2).bind fun x19 => (fgI r14.2 x19 2 0).bind fun x21 => (fgR r14.2 a2 4 2).bind fun x23 => (fgI r14.2 x23 2 1).bind fun x25 => (fobj r14.2 a0 7).bind fun b29 => (f_X7_raise b29 a2 x21 x25 r14.2).bind fun r27 => (fgR r27.2 a0 7 4).bind fun x31 => (fgR r27.2 a0 7 3).bind fun x33 => (fobj r27.2 x31 0).bind fun b37 => (f_X0_include b37 x33 r27.2).bind fun r35 => (fgR r35.2 a2 4 2).bind fun x39 => (fgI r35.2 x39 2 2).bind fun x41 => (fgR r35.2 a2 4 2).bind fun x43 => (fgI r35.2 x43 2 3).bind fun x45 => (fobj r35.2 a0 7).bind fun b49 => (f_X7_raise b49 a2 x41 x45 r35.2).bind fun r47 => (fgR r47.2 a0 7 4).bind fun x51 => (fgR r47.2 a0 7 3).bind fun x53 => (fobj r47.2 x51 0).bind fun b57 => (f_X0_include b57 x53 r47.2).bind fun r55 => f_X7_gatherBounds_L102 k12 a0 a1 a2 r55.2))))) n
noncomputable def f_X7_gatherBounds_L0 (a0 : Option Nat) (a1 : Option Nat) (h : fSt) : Option (Unit × fSt) := (fgR h a0 7 4).bind fun x59 => (fobj h x59 0).bind fun b63 => (f_X0_clear b63 h).bind fun r61 => (fgR r61.2 a0 7 8).bind fun x65 => f_X7_gatherBounds_L12 4096 a0 a1 x65 r61.2
noncomputable def f_X7_gatherBounds (o : Nat) (p0 : Option Nat) (h : fSt) : Option (Unit × fSt) := f_X7_gatherBounds_L0 (some o) p0 h
noncomputable def f_X7_bound_L60 (s0 : Int64) (h : fSt) : Option ((Int32 ⊕ Nat) × fSt) := some (.inl (Int64.toInt32 s0), h)
noncomputable def f_X7_bound_L0 (a0 : Option Nat) (a1 : Int32) (a2 : Int32) (a3 : Int32) (h : fSt) : Option ((Int32 ⊕ Nat) × fSt) := (fobj h a0 7).bind fun b3 => (f_X7_found b3 a1 h).bind fun r1 => Sum.elim (fun v5 => (f_X7_isFrom a2 (0 : Int32) (3 : Int32) r1.2).bind fun r8 => (if r8.1 = 0 then (fthr r8.2).bind fun h26 => some (.inr 1, h26) else (fobj r8.2 a0 7).bind fun b13 => (f_X7_gatherBounds b13 v5 r8.2).bind fun r11 => (fgR r11.2 a0 7 4).bind fun x15 => (fobj r11.2 x15 0).bind fun b19 => (f_X0_side b19 a2 r11.2).bind fun r17 => (if a3 = 0 then (fgJ r17.2 r17.1 1 0).bind fun x22 => f_X7_bound_L60 x22 r17.2 else (fgJ r17.2 r17.1 1 1).bind fun x24 => f_X7_bound_L60 x24 r17.2))) (fun k6 => some (.inr k6, r1.2)) r1.1
noncomputable def f_X7_bound (o : Nat) (p0 : Int32) (p1 : Int32) (p2 : Int32) (h : fSt) : Option ((Int32 ⊕ Nat) × fSt) := f_X7_bound_L0 (some o) p0 p1 p2 h
noncomputable def f_L_bound_L0 (a0 : Option Nat) (a1 : Int32) (a2 : Int32) (a3 : Int32) (a4 : Option Nat) (h : fSt) : Option ((Int32 ⊕ Nat) × fSt) := (fobj h a0 7).bind fun b3 => (f_X7_bound b3 a1 a2 a3 h).bind fun r1 => Sum.elim (fun v5 => (fsJ r1.2 a4 1 (0 : Int32) (Int32.toInt64 v5)).bind fun h8 => some (.inl (0 : Int32), h8)) (fun k6 => (if k6 = 0 then some (.inl (1 : Int32), r1.2) else (if k6 = 1 then some (.inl (2 : Int32), r1.2) else none))) r1.1
noncomputable def f_L_bound (p0 : Option Nat) (p1 : Int32) (p2 : Int32) (p3 : Int32) (p4 : Option Nat) (h : fSt) : Option ((Int32 ⊕ Nat) × fSt) := f_L_bound_L0 p0 p1 p2 p3 p4 h
noncomputable def f_X6_differs_L25 (s0 : Int32) (h : fSt) : Option (Int32 × fSt) := if s0 = 0 ∨ s0 = 1 then some (s0, h) else none
noncomputable def f_X6_differs_L24  (h : fSt) : Option (Int32 × fSt) := f_X6_differs_L25 (0 : Int32) h
noncomputable def f_X6_differs_L0 (a0 : Option Nat) (a1 : Int32) (a2 : Int32) (h : fSt) : Option (Int32 × fSt) := (fgR h a0 6 7).bind fun x2 => (if x2 = none then f_X6_differs_L24 h else (fobj h a0 6).bind fun b7 => (f_X6_at b7 a1 h).bind fun r5 => (fobj r5.2 a0 6).bind fun b11 => (f_X6_at b11 a2 r5.2).bind fun r9 => (if r5.1 = r9.1 then f_X6_differs_L24 r9.2 else f_X6_differs_L25 (1 : Int32) r9.2))
noncomputable def f_X6_differs (o : Nat) (p0 : Int32) (p1 : Int32) (h : fSt) : Option (Int32 × fSt) := f_X6_differs_L0 (some o) p0 p1 h
noncomputable def f_X4_differs_L54  (h : fSt) : Option (Int32 × fSt) := some ((1 : Int32), h)
noncomputable def f_X4_differs_L2 (n : Nat) : Int32 → Int32 → Option Nat → fSt → Option (Int32 × fSt) := Nat.rec (motive := fun _ => Int32 → Int32 → Option Nat → fSt → Option (Int32 × fSt)) (fun _ _ _ _ => none) (fun _ k2 (a1 : Int32) (a2 : Int32) (a3 : Option Nat) (h : fSt) => (if a3 = none then some ((0 : Int32), h) else (fgR h a3 4 3).bind fun x2 => (fobj h x2 6).bind fun b6 => (f_X6_differs b6 a1 a2 h).bind fun r4 => (if r4.1 = 0 then (fgR r4.2 a3 4 4).bind fun x9 => (fobj r4.2 x9 6).bind fun b13 => (f_X6_differs b13 a1 a2 r4.2).bind fun r11 => (if r11.1 = 0 then (fgR r11.2 a3 4 5).bind fun x16 => (fobj r11.2 x16 6).bind fun b20 => (f_X6_differs b20 a1 a2 r11.2).bind fun r18 => (if r18.1 = 0 then (fgR r18.2 a3 4 6).bind fun x23 => (fobj r18.2 x23 6).bind fun b27 => (f_X6_differs b27 a1 a2 r18.2).bind fun r25 => (if r25.1 = 0 then (fgR r25.2 a3 4 14).bind fun x30 => k2 a1 a2 x30 r25.2 else f_X4_differs_L54 r25.2) else f_X4_differs_L54 r18.2) else f_X4_differs_L54 r11.2) else f_X4_differs_L54 r4.2))) n
noncomputable def f_X4_differs_L0 (a0 : Option Nat) (a1 : Int32) (a2 : Int32) (h : fSt) : Option (Int32 × fSt) := f_X4_differs_L2 4096 a1 a2 a0 h
noncomputable def f_X4_differs (o : Nat) (p0 : Int32) (p1 : Int32) (h : fSt) : Option (Int32 × fSt) := f_X4_differs_L0 (some o) p0 p1 h
noncomputable def f_X7_checkTime_L0 (a0 : Int32) (h : fSt) : Option ((Unit ⊕ Nat) × fSt) := (f_X7_isFrom a0 (0 : Int32) (9999 : Int32) h).bind fun r1 => (if r1.1 = 0 then (fthr r1.2).bind fun h4 => some (.inr 1, h4) else some (.inl (), r1.2))
noncomputable def f_X7_checkTime (p0 : Int32) (h : fSt) : Option ((Unit ⊕ Nat) × fSt) := f_X7_checkTime_L0 p0 h
noncomputable def f_X7_changes_L34 (k16 : Int32 → Int32 → Int32 → Option Nat → fSt → Option ((Int32 ⊕ Nat) × fSt)) (a1 : Int32) (a2 : Int32) (a3 : Int32) (a4 : Option Nat) (h : fSt) : Option ((Int32 ⊕ Nat) × fSt) := (fgR h a4 4 17).bind fun x1 => k16 a1 a2 a3 x1 h
noncomputable def f_X7_changes_L16 (n : Nat) : Int32 → Int32 → Int32 → Option Nat → fSt → Option ((Int32 ⊕ Nat) × fSt) := Nat.rec (motive := fun _ => Int32 → Int32 → Int32 → Option Nat → fSt → Option ((Int32 ⊕ Nat) × fSt)) (fun _ _ _ _ _ => none) (fun _ k16 (a1 : Int32) (a2 : Int32) (a3 : Int32) (a4 : Option Nat) (h : fSt) => (if a4 = none then some (.inl a3, h) else (fobj h a4 4).bind fun b6 => (f_X4_differs b6 a1 a2 h).bind fun r4 => (if r4.1 = 0 then f_X7_changes_L34 k16 a1 a2 a3 a4 r4.2 else f_X7_changes_L34 k16 a1 a2 (a3 + (1 : Int32)) a4 r4.2))) n
noncomputable def f_X7_changes_L0 (a0 : Option Nat) (a1 : Int32) (a2 : Int32) (h : fSt) : Option ((Int32 ⊕ Nat) × fSt) := (f_X7_checkTime a1 h).bind fun r9 => Sum.elim (fun v11 => (f_X7_checkTime a2 r9.2).bind fun r14 => Sum.elim (fun v16 => (fgR r14.2 a0 7 8).bind fun x19 => f_X7_changes_L16 4096 a1 a2 (0 : Int32) x19 r14.2) (fun k17 => some (.inr k17, r14.2)) r14.1) (fun k12 => some (.inr k12, r9.2)) r9.1
noncomputable def f_X7_changes (o : Nat) (p0 : Int32) (p1 : Int32) (h : fSt) : Option ((Int32 ⊕ Nat) × fSt) := f_X7_changes_L0 (some o) p0 p1 h
noncomputable def f_L_changes_L0 (a0 : Option Nat) (a1 : Int32) (a2 : Int32) (a3 : Option Nat) (h : fSt) : Option ((Int32 ⊕ Nat) × fSt) := (fobj h a0 7).bind fun b3 => (f_X7_changes b3 a1 a2 h).bind fun r1 => Sum.elim (fun v5 => (fsJ r1.2 a3 1 (0 : Int32) (Int32.toInt64 v5)).bind fun h8 => some (.inl (0 : Int32), h8)) (fun k6 => (if k6 = 1 then some (.inl (1 : Int32), r1.2) else none)) r1.1
noncomputable def f_L_changes (p0 : Option Nat) (p1 : Int32) (p2 : Int32) (p3 : Option Nat) (h : fSt) : Option ((Int32 ⊕ Nat) × fSt) := f_L_changes_L0 p0 p1 p2 p3 h
noncomputable def f_X7_common_L16 (n : Nat) : Option Nat → Option Nat → Option Nat → fSt → Option ((Int32 ⊕ Nat) × fSt) := Nat.rec (motive := fun _ => Option Nat → Option Nat → Option Nat → fSt → Option ((Int32 ⊕ Nat) × fSt)) (fun _ _ _ _ => none) (fun _ k16 (a0 : Option Nat) (a4 : Option Nat) (a5 : Option Nat) (h : fSt) => (if a5 = none then (fgR h a0 7 2).bind fun x2 => (fgI h x2 4 0).bind fun x4 => some (.inl x4, h) else (fobj h a4 4).bind fun b8 => (f_X4_isWithin b8 a5 h).bind fun r6 => (if r6.1 = 0 then (fgR r6.2 a5 4 14).bind fun x11 => k16 a0 a4 x11 r6.2 else (fgI r6.2 a5 4 0).bind fun x13 => some (.inl x13, r6.2)))) n
noncomputable def f_X7_common_L0 (a0 : Option Nat) (a1 : Int32) (a2 : Int32) (h : fSt) : Option ((Int32 ⊕ Nat) × fSt) := (fobj h a0 7).bind fun b17 => (f_X7_found b17 a1 h).bind fun r15 => Sum.elim (fun v19 => (fobj r15.2 a0 7).bind fun b24 => (f_X7_found b24 a2 r15.2).bind fun r22 => Sum.elim (fun v26 => f_X7_common_L16 4096 a0 v26 v19 r22.2) (fun k27 => some (.inr k27, r22.2)) r22.1) (fun k20 => some (.inr k20, r15.2)) r15.1
noncomputable def f_X7_common (o : Nat) (p0 : Int32) (p1 : Int32) (h : fSt) : Option ((Int32 ⊕ Nat) × fSt) := f_X7_common_L0 (some o) p0 p1 h
noncomputable def f_L_common_L0 (a0 : Option Nat) (a1 : Int32) (a2 : Int32) (a3 : Option Nat) (h : fSt) : Option ((Int32 ⊕ Nat) × fSt) := (fobj h a0 7).bind fun b3 => (f_X7_common b3 a1 a2 h).bind fun r1 => Sum.elim (fun v5 => (fsJ r1.2 a3 1 (0 : Int32) (Int32.toInt64 v5)).bind fun h8 => some (.inl (0 : Int32), h8)) (fun k6 => (if k6 = 0 then some (.inl (1 : Int32), r1.2) else none)) r1.1
noncomputable def f_L_common (p0 : Option Nat) (p1 : Int32) (p2 : Int32) (p3 : Option Nat) (h : fSt) : Option ((Int32 ⊕ Nat) × fSt) := f_L_common_L0 p0 p1 p2 p3 h
set_option maxHeartbeats 4000000 in
set_option maxRecDepth 100000 in
theorem w_X5_leave_L58 {p : Program} {l : Launch} {e : Env} {s : State} {m : MethodId} {args : Array Value} {below : List Frame} {meth : Method} {c : Code} {D : va_G} {cA : Nat → ClassId} {h0 : fSt} {r : (Unit × fSt)} (M : fM p s m args meth c D cA h0 { frames := 2, cells := fCB h0 - fZ h0, slots := fLB h0 - fL h0, locals := 52 } cX5_leave 3 none RX5) (hfl : l.stackTraces = false) (a0 : Option Nat) (a1 : Option Nat) (a2 : Int32) (h : fSt) (hf : f_X5_leave_L58 a0 a1 a2 h = some r) : ∀ (H : Heap) (locs : List Loc) (cells slots : Nat) (ls : Array Slot), fCur D cA s h0 h H locs → lv_has ls 3 [(0, va_rf a0), (1, va_rf a1), (2, .int a2)] → W p l e { frames := 2, cells := fCB h0 - fZ h0, slots := fLB h0 - fL h0, locals := 52 } s m args below meth c H locs cells slots (MQ below (fQ D cA h0 r.2 none) args s (fCB h0 - fZ h0) (fLB h0 - fL h0) (fA h0)) (F0 m 58 ls []) := by
  obtain ⟨hx, hb, hml, hr, hlocks, hts, hown, K, hR⟩ := id M
  intro H locs cells slots ls hC hl
  refine fr_aload_n hx hb dX5_leave_58 rfl (lv_at hl 0 rfl) ?_
  refine fr_aload_n hx hb dX5_leave_59 rfl (lv_at hl 1 rfl) ?_
  obtain ⟨x1, g2, hf⟩ := obind hf
  refine fr_get hx hb hts hown K hC ct_4 (fgR_get g2) (by decide) kw164 rfl dX5_leave_60 ?_
  refine lv_iload_n hx hb dX5_leave_63 rfl (lv_at hl 2 rfl) ?_
  obtain ⟨b5, q6, hf⟩ := obind hf
  obtain ⟨r3, g4, hf⟩ := obind hf
  refine fr_callV hx hb hml hts hown K hC hR ct_6 (c_X6_at hfl D cA g4) 1 q6 kw369 kw404 kw367 kw368 kw57 (by decide +kernel) ⟨by exact Nat.le_of_ble_eq_true rfl, by exact Nat.le_of_ble_eq_true rfl⟩ rfl hl.1 (cat8 _ (by exact Nat.le_of_ble_eq_true rfl)) dX5_leave_64 rfl (fun H locs _ _ hC => ?_)
  obtain ⟨b9, q10, hf⟩ := obind hf
  obtain ⟨r7, g8, hf⟩ := obind hf
  refine fr_callV hx hb hml hts hown K hC hR ct_5 (c_X5_turnQuarters hfl D cA g8) 1 q10 kw408 kw405 kw407 kw6 kw59 (by decide +kernel) ⟨by exact Nat.le_of_ble_eq_true rfl, by exact Nat.le_of_ble_eq_true rfl⟩ rfl hl.1 (cat8 _ (by exact Nat.le_of_ble_eq_true rfl)) dX5_leave_67 rfl (fun H locs _ _ hC => ?_)
  refine fr_aload_n hx hb dX5_leave_70 rfl (lv_at hl 0 rfl) ?_
  refine lv_dup hx hb dX5_leave_71 (va_rf_cat _) ?_
  obtain ⟨x11, g12, hf⟩ := obind hf
  refine fr_get hx hb hts hown K hC ct_5 (fgJ_get g12) (by decide) kw237 rfl dX5_leave_72 ?_
  refine fr_aload_n hx hb dX5_leave_75 rfl (lv_at hl 1 rfl) ?_
  obtain ⟨x13, g14, hf⟩ := obind hf
  refine fr_get hx hb hts hown K hC ct_4 (fgR_get g14) (by decide) kw158 rfl dX5_leave_76 ?_
  refine lv_iload_n hx hb dX5_leave_79 rfl (lv_at hl 2 rfl) ?_
  obtain ⟨b17, q18, hf⟩ := obind hf
  obtain ⟨r15, g16, hf⟩ := obind hf
  refine fr_callV hx hb hml hts hown K hC hR ct_6 (c_X6_at hfl D cA g16) 1 q18 kw369 kw404 kw367 kw368 kw57 (by decide +kernel) ⟨by exact Nat.le_of_ble_eq_true rfl, by exact Nat.le_of_ble_eq_true rfl⟩ rfl hl.1 (cat8 _ (by exact Nat.le_of_ble_eq_true rfl)) dX5_leave_80 rfl (fun H locs _ _ hC => ?_)
  refine lv_i2l (v := (Int32.toInt64 r15.1)) hx hb dX5_leave_83 rfl ?_
  refine fr_aload_n hx hb dX5_leave_84 rfl (lv_at hl 0 rfl) ?_
  obtain ⟨x19, g20, hf⟩ := obind hf
  refine fr_get hx hb hts hown K hC ct_5 (fgJ_get g20) (by decide) kw242 rfl dX5_leave_85 ?_
  refine lv_lmul hx hb dX5_leave_88 ?_
  refine lv_ladd hx hb dX5_leave_89 ?_
  obtain ⟨h21, g22, hf⟩ := obind hf
  refine fr_put hx hb hts hown K hC ct_5 g22 (by decide) kw237 rfl rfl rfl rfl dX5_leave_90 (fun H locs hC => ?_)
  refine fr_aload_n hx hb dX5_leave_93 rfl (lv_at hl 0 rfl) ?_
  refine lv_dup hx hb dX5_leave_94 (va_rf_cat _) ?_
  obtain ⟨x23, g24, hf⟩ := obind hf
  refine fr_get hx hb hts hown K hC ct_5 (fgJ_get g24) (by decide) kw239 rfl dX5_leave_95 ?_
  refine fr_aload_n hx hb dX5_leave_98 rfl (lv_at hl 1 rfl) ?_
  obtain ⟨x25, g26, hf⟩ := obind hf
  refine fr_get hx hb hts hown K hC ct_4 (fgR_get g26) (by decide) kw161 rfl dX5_leave_99 ?_
  refine lv_iload_n hx hb dX5_leave_102 rfl (lv_at hl 2 rfl) ?_
  obtain ⟨b29, q30, hf⟩ := obind hf
  obtain ⟨r27, g28, hf⟩ := obind hf
  refine fr_callV hx hb hml hts hown K hC hR ct_6 (c_X6_at hfl D cA g28) 1 q30 kw369 kw404 kw367 kw368 kw57 (by decide +kernel) ⟨by exact Nat.le_of_ble_eq_true rfl, by exact Nat.le_of_ble_eq_true rfl⟩ rfl hl.1 (cat8 _ (by exact Nat.le_of_ble_eq_true rfl)) dX5_leave_103 rfl (fun H locs _ _ hC => ?_)
  refine lv_i2l (v := (Int32.toInt64 r27.1)) hx hb dX5_leave_106 rfl ?_
  refine fr_aload_n hx hb dX5_leave_107 rfl (lv_at hl 0 rfl) ?_
  obtain ⟨x31, g32, hf⟩ := obind hf
  refine fr_get hx hb hts hown K hC ct_5 (fgJ_get g32) (by decide) kw242 rfl dX5_leave_108 ?_
  refine lv_lmul hx hb dX5_leave_111 ?_
  refine lv_ladd hx hb dX5_leave_112 ?_
  obtain ⟨h33, g34, hf⟩ := obind hf
  refine fr_put hx hb hts hown K hC ct_5 g34 (by decide) kw239 rfl rfl rfl rfl dX5_leave_113 (fun H locs hC => ?_)
  obtain rfl := Option.some.inj hf
  exact fr_vret hx hb hr hlocks hC dX5_leave_116
set_option maxHeartbeats 4000000 in
set_option maxRecDepth 100000 in
theorem w_X5_leave_L0 {p : Program} {l : Launch} {e : Env} {s : State} {m : MethodId} {args : Array Value} {below : List Frame} {meth : Method} {c : Code} {D : va_G} {cA : Nat → ClassId} {h0 : fSt} {r : (Unit × fSt)} (M : fM p s m args meth c D cA h0 { frames := 2, cells := fCB h0 - fZ h0, slots := fLB h0 - fL h0, locals := 52 } cX5_leave 3 none RX5) (hfl : l.stackTraces = false) (a0 : Option Nat) (a1 : Option Nat) (a2 : Int32) (h : fSt) (hf : f_X5_leave_L0 a0 a1 a2 h = some r) : ∀ (H : Heap) (locs : List Loc) (cells slots : Nat) (ls : Array Slot), fCur D cA s h0 h H locs → lv_has ls 3 [(0, va_rf a0), (1, va_rf a1), (2, .int a2)] → W p l e { frames := 2, cells := fCB h0 - fZ h0, slots := fLB h0 - fL h0, locals := 52 } s m args below meth c H locs cells slots (MQ below (fQ D cA h0 r.2 none) args s (fCB h0 - fZ h0) (fLB h0 - fL h0) (fA h0)) (F0 m 0 ls []) := by
  obtain ⟨hx, hb, hml, hr, hlocks, hts, hown, K, hR⟩ := id M
  intro H locs cells slots ls hC hl
  refine fr_aload_n hx hb dX5_leave_0 rfl (lv_at hl 0 rfl) ?_
  refine lv_dup hx hb dX5_leave_1 (va_rf_cat _) ?_
  obtain ⟨x35, g36, hf⟩ := obind hf
  refine fr_get hx hb hts hown K hC ct_5 (fgJ_get g36) (by decide) kw237 rfl dX5_leave_2 ?_
  refine fr_aload_n hx hb dX5_leave_5 rfl (lv_at hl 1 rfl) ?_
  obtain ⟨x37, g38, hf⟩ := obind hf
  refine fr_get hx hb hts hown K hC ct_4 (fgI_get g38) (by decide) kw169 rfl dX5_leave_6 ?_
  refine lv_i2l (v := (Int32.toInt64 x37)) hx hb dX5_leave_9 rfl ?_
  refine lv_lmul hx hb dX5_leave_10 ?_
  obtain ⟨h39, g40, hf⟩ := obind hf
  refine fr_put hx hb hts hown K hC ct_5 g40 (by decide) kw237 rfl rfl rfl rfl dX5_leave_11 (fun H locs hC => ?_)
  refine fr_aload_n hx hb dX5_leave_14 rfl (lv_at hl 0 rfl) ?_
  refine lv_dup hx hb dX5_leave_15 (va_rf_cat _) ?_
  obtain ⟨x41, g42, hf⟩ := obind hf
  refine fr_get hx hb hts hown K hC ct_5 (fgJ_get g42) (by decide) kw239 rfl dX5_leave_16 ?_
  refine fr_aload_n hx hb dX5_leave_19 rfl (lv_at hl 1 rfl) ?_
  obtain ⟨x43, g44, hf⟩ := obind hf
  refine fr_get hx hb hts hown K hC ct_4 (fgI_get g44) (by decide) kw169 rfl dX5_leave_20 ?_
  refine lv_i2l (v := (Int32.toInt64 x43)) hx hb dX5_leave_23 rfl ?_
  refine lv_lmul hx hb dX5_leave_24 ?_
  obtain ⟨h45, g46, hf⟩ := obind hf
  refine fr_put hx hb hts hown K hC ct_5 g46 (by decide) kw239 rfl rfl rfl rfl dX5_leave_25 (fun H locs hC => ?_)
  refine fr_aload_n hx hb dX5_leave_28 rfl (lv_at hl 0 rfl) ?_
  refine lv_dup hx hb dX5_leave_29 (va_rf_cat _) ?_
  obtain ⟨x47, g48, hf⟩ := obind hf
  refine fr_get hx hb hts hown K hC ct_5 (fgJ_get g48) (by decide) kw242 rfl dX5_leave_30 ?_
  refine fr_aload_n hx hb dX5_leave_33 rfl (lv_at hl 1 rfl) ?_
  obtain ⟨x49, g50, hf⟩ := obind hf
  refine fr_get hx hb hts hown K hC ct_4 (fgI_get g50) (by decide) kw172 rfl dX5_leave_34 ?_
  refine lv_i2l (v := (Int32.toInt64 x49)) hx hb dX5_leave_37 rfl ?_
  refine lv_lmul hx hb dX5_leave_38 ?_
  obtain ⟨h51, g52, hf⟩ := obind hf
  refine fr_put hx hb hts hown K hC ct_5 g52 (by decide) kw242 rfl rfl rfl rfl dX5_leave_39 (fun H locs hC => ?_)
  refine fr_aload_n hx hb dX5_leave_42 rfl (lv_at hl 1 rfl) ?_
  obtain ⟨x53, g54, hf⟩ := obind hf
  refine fr_get hx hb hts hown K hC ct_4 (fgI_get g54) (by decide) kw174 rfl dX5_leave_43 ?_
  refine lv_if_eq (tgt := 58) hx hb dX5_leave_46 (by decide) (fun c55 => ?_) (fun c55 => ?_)
  · replace hf := opos c55 hf
    exact w_X5_leave_L58 M hfl _ _ _ _ hf _ _ _ _ _ hC (lv_sub hl [0, 1, 2] rfl)
  · replace hf := oneg c55 hf
    refine fr_aload_n hx hb dX5_leave_49 rfl (lv_at hl 0 rfl) ?_
    refine fr_aload_n hx hb dX5_leave_50 rfl (lv_at hl 0 rfl) ?_
    obtain ⟨x56, g57, hf⟩ := obind hf
    refine fr_get hx hb hts hown K hC ct_5 (fgJ_get g57) (by decide) kw237 rfl dX5_leave_51 ?_
    refine lv_lneg hx hb dX5_leave_54 ?_
    obtain ⟨h58, g59, hf⟩ := obind hf
    refine fr_put hx hb hts hown K hC ct_5 g59 (by decide) kw237 rfl rfl rfl rfl dX5_leave_55 (fun H locs hC => ?_)
    exact w_X5_leave_L58 M hfl _ _ _ _ hf _ _ _ _ _ hC (lv_sub hl [0, 1, 2] rfl)
set_option maxRecDepth 100000 in
theorem c_X5_leave {l : Launch} (hfl : l.stackTraces = false) (D : va_G) (cA : Nat → ClassId) {o : Nat} {p0 : Option Nat} {p1 : Int32} {h : fSt} {r : (Unit × fSt)} (hf : f_X5_leave o p0 p1 h = some r) : fMet l yX5_leave (wsC yX5_leave cX5_leave 3 none) (2) (52) D cA [.ref o, va_rf p0, .int p1] h r.2 none := by
  exact fMet.of (own := RX5) (by decide +kernel) rfl (lva1 rfl (lva1 (va_rf_cat _) (lva1 rfl lva0))) (lgl1 rfl (lgl1 (va_rf_cat _) (lgl1 rfl lgl0))) (Nat.le_of_ble_eq_true rfl) (fun p e s m args below meth c ls hnm _ M hC hl => by
    have hl : lv_has ls 3 [(0, va_rf (some o)), (1, va_rf p0), (2, .int p1)] := hl
    exact w_X5_leave_L0 M hfl _ _ _ _ hf _ _ _ _ _ hC (lv_sub hl [0, 1, 2] rfl))
set_option maxHeartbeats 4000000 in
set_option maxRecDepth 100000 in
theorem w_X5_set_L0 {p : Program} {l : Launch} {e : Env} {s : State} {m : MethodId} {args : Array Value} {below : List Frame} {meth : Method} {c : Code} {D : va_G} {cA : Nat → ClassId} {h0 : fSt} {r : (Unit × fSt)} (M : fM p s m args meth c D cA h0 { frames := 0, cells := fCB h0 - fZ h0, slots := fLB h0 - fL h0, locals := 0 } cX5_set 7 none RX5) (hfl : l.stackTraces = false) (a0 : Option Nat) (a1 : Int64) (a3 : Int64) (a5 : Int64) (h : fSt) (hf : f_X5_set_L0 a0 a1 a3 a5 h = some r) : ∀ (H : Heap) (locs : List Loc) (cells slots : Nat) (ls : Array Slot), fCur D cA s h0 h H locs → lv_has ls 7 [(0, va_rf a0), (1, .long a1), (3, .long a3), (5, .long a5)] → W p l e { frames := 0, cells := fCB h0 - fZ h0, slots := fLB h0 - fL h0, locals := 0 } s m args below meth c H locs cells slots (MQ below (fQ D cA h0 r.2 none) args s (fCB h0 - fZ h0) (fLB h0 - fL h0) (fA h0)) (F0 m 0 ls []) := by
  obtain ⟨hx, hb, hml, hr, hlocks, hts, hown, K, hR⟩ := id M
  intro H locs cells slots ls hC hl
  refine fr_aload_n hx hb dX5_set_0 rfl (lv_at hl 0 rfl) ?_
  refine lv_lload_n hx hb dX5_set_1 rfl (lv_at hl 1 rfl) ?_
  obtain ⟨h1, g2, hf⟩ := obind hf
  refine fr_put hx hb hts hown K hC ct_5 g2 (by decide) kw237 rfl rfl rfl rfl dX5_set_2 (fun H locs hC => ?_)
  refine fr_aload_n hx hb dX5_set_5 rfl (lv_at hl 0 rfl) ?_
  refine lv_lload_n hx hb dX5_set_6 rfl (lv_at hl 2 rfl) ?_
  obtain ⟨h3, g4, hf⟩ := obind hf
  refine fr_put hx hb hts hown K hC ct_5 g4 (by decide) kw239 rfl rfl rfl rfl dX5_set_7 (fun H locs hC => ?_)
  refine fr_aload_n hx hb dX5_set_10 rfl (lv_at hl 0 rfl) ?_
  refine lv_lload hx hb dX5_set_11 (lv_at hl 3 rfl) ?_
  obtain ⟨h5, g6, hf⟩ := obind hf
  refine fr_put hx hb hts hown K hC ct_5 g6 (by decide) kw242 rfl rfl rfl rfl dX5_set_13 (fun H locs hC => ?_)
  refine fr_aload_n hx hb dX5_set_16 rfl (lv_at hl 0 rfl) ?_
  refine lv_iconst (v := (0 : Int32)) hx hb dX5_set_17 (by decide) ?_
  obtain ⟨h7, g8, hf⟩ := obind hf
  obtain ⟨z9, g8⟩ := fputZ_inv g8
  refine fr_put hx hb hts hown K hC ct_5 g8 (by decide) kw245 rfl rfl (nZ z9) (fZ9 z9) dX5_set_18 (fun H locs hC => ?_)
  obtain rfl := Option.some.inj hf
  exact fr_vret hx hb hr hlocks hC dX5_set_21
set_option maxRecDepth 100000 in
theorem c_X5_set {l : Launch} (hfl : l.stackTraces = false) (D : va_G) (cA : Nat → ClassId) {o : Nat} {p0 : Int64} {p1 : Int64} {p2 : Int64} {h : fSt} {r : (Unit × fSt)} (hf : f_X5_set o p0 p1 p2 h = some r) : fMet l yX5_set (wsC yX5_set cX5_set 7 none) (0) (0) D cA [.ref o, .long p0, .long p1, .long p2] h r.2 none := by
  exact fMet.of (own := RX5) (by decide +kernel) rfl (lva1 rfl (lva2 rfl (lva2 rfl (lva2 rfl lva0)))) (lgl1 rfl (lgl2 rfl (lgl2 rfl (lgl2 rfl lgl0)))) (Nat.le_of_ble_eq_true rfl) (fun p e s m args below meth c ls hnm _ M hC hl => by
    have hl : lv_has ls 7 [(0, va_rf (some o)), (1, .long p0), (3, .long p1), (5, .long p2)] := hl
    exact w_X5_set_L0 M hfl _ _ _ _ _ hf _ _ _ _ _ hC (lv_sub hl [0, 1, 2, 3] rfl))
set_option maxHeartbeats 4000000 in
set_option maxRecDepth 100000 in
theorem w_X7_raise_L15 {p : Program} {l : Launch} {e : Env} {s : State} {m : MethodId} {args : Array Value} {below : List Frame} {meth : Method} {c : Code} {D : va_G} {cA : Nat → ClassId} {h0 : fSt} {r : (Unit × fSt)} (M : fM p s m args meth c D cA h0 { frames := 3, cells := fCB h0 - fZ h0, slots := fLB h0 - fL h0, locals := 74 } cX7_raise 5 none RX7) (hfl : l.stackTraces = false) : ∀ (n : Nat) (a0 : Option Nat) (a4 : Option Nat) (h : fSt), f_X7_raise_L15 n a0 a4 h = some r → ∀ (H : Heap) (locs : List Loc) (cells slots : Nat) (ls : Array Slot), fCur D cA s h0 h H locs → lv_has ls 5 [(0, va_rf a0), (4, va_rf a4)] → W p l e { frames := 3, cells := fCB h0 - fZ h0, slots := fLB h0 - fL h0, locals := 74 } s m args below meth c H locs cells slots (MQ below (fQ D cA h0 r.2 none) args s (fCB h0 - fZ h0) (fLB h0 - fL h0) (fA h0)) (F0 m 15 ls []) := by
  obtain ⟨hx, hb, hml, hr, hlocks, hts, hown, K, hR⟩ := id M
  intro n
  induction n with
  | zero =>
    intro a0 a4 h hf
    exact nomatch (show (none : Option (Unit × fSt)) = some r from hf)
  | succ n hk15 =>
    intro a0 a4 h hf H locs cells slots ls hC hl
    refine fr_aload hx hb dX7_raise_15 (lv_at hl 1 rfl) ?_
    refine fr_ifnull (tgt := 43) hx hb dX7_raise_17 (by decide) (fun c1 => ?_) (fun c1 => ?_)
    · replace hf := opos c1 hf
      obtain rfl := Option.some.inj hf
      exact fr_vret hx hb hr hlocks hC dX7_raise_43
    · replace hf := oneg c1 hf
      refine fr_aload_n hx hb dX7_raise_20 rfl (lv_at hl 0 rfl) ?_
      obtain ⟨x2, g3, hf⟩ := obind hf
      refine fr_get hx hb hts hown K hC ct_7 (fgR_get g3) (by decide) kw293 rfl dX7_raise_21 ?_
      refine fr_aload hx hb dX7_raise_24 (lv_at hl 1 rfl) ?_
      refine fr_aload_n hx hb dX7_raise_26 rfl (lv_at hl 0 rfl) ?_
      obtain ⟨x4, g5, hf⟩ := obind hf
      refine fr_get hx hb hts hown K hC ct_7 (fgI_get g5) (by decide) kw297 rfl dX7_raise_27 ?_
      obtain ⟨b8, q9, hf⟩ := obind hf
      obtain ⟨r6, g7, hf⟩ := obind hf
      refine fr_callV hx hb hml hts hown K hC hR ct_5 (c_X5_leave hfl D cA g7) 2 q9 kw403 kw400 kw401 kw402 kw59 (by decide +kernel) ⟨by exact Nat.le_of_ble_eq_true rfl, by exact Nat.le_of_ble_eq_true rfl⟩ rfl hl.1 (cat8 _ (by exact Nat.le_of_ble_eq_true rfl)) dX7_raise_30 rfl (fun H locs _ _ hC => ?_)
      refine fr_aload hx hb dX7_raise_33 (lv_at hl 1 rfl) ?_
      obtain ⟨x10, g11, hf⟩ := obind hf
      refine fr_get hx hb hts hown K hC ct_4 (fgR_get g11) (by decide) kw184 rfl dX7_raise_35 ?_
      refine fr_astore (lv' := [(4, va_rf x10), (0, va_rf a0)]) hx hb dX7_raise_38 hl (by decide) (congrArg (List.cons _) (flk rfl (fld rfl fln))) (fun ls hl => ?_)
      refine lv_goto (tgt := 15) hx hb dX7_raise_40 (by decide) ?_
      exact hk15 _ _ _ hf _ _ _ _ _ hC (lv_sub hl [1, 0] rfl)
set_option maxHeartbeats 4000000 in
set_option maxRecDepth 100000 in
theorem w_X7_raise_L0 {p : Program} {l : Launch} {e : Env} {s : State} {m : MethodId} {args : Array Value} {below : List Frame} {meth : Method} {c : Code} {D : va_G} {cA : Nat → ClassId} {h0 : fSt} {r : (Unit × fSt)} (M : fM p s m args meth c D cA h0 { frames := 3, cells := fCB h0 - fZ h0, slots := fLB h0 - fL h0, locals := 74 } cX7_raise 5 none RX7) (hfl : l.stackTraces = false) (a0 : Option Nat) (a1 : Option Nat) (a2 : Int32) (a3 : Int32) (h : fSt) (hf : f_X7_raise_L0 a0 a1 a2 a3 h = some r) : ∀ (H : Heap) (locs : List Loc) (cells slots : Nat) (ls : Array Slot), fCur D cA s h0 h H locs → lv_has ls 5 [(0, va_rf a0), (1, va_rf a1), (2, .int a2), (3, .int a3)] → W p l e { frames := 3, cells := fCB h0 - fZ h0, slots := fLB h0 - fL h0, locals := 74 } s m args below meth c H locs cells slots (MQ below (fQ D cA h0 r.2 none) args s (fCB h0 - fZ h0) (fLB h0 - fL h0) (fA h0)) (F0 m 0 ls []) := by
  obtain ⟨hx, hb, hml, hr, hlocks, hts, hown, K, hR⟩ := id M
  intro H locs cells slots ls hC hl
  refine fr_aload_n hx hb dX7_raise_0 rfl (lv_at hl 0 rfl) ?_
  obtain ⟨x12, g13, hf⟩ := obind hf
  refine fr_get hx hb hts hown K hC ct_7 (fgR_get g13) (by decide) kw293 rfl dX7_raise_1 ?_
  refine lv_iload_n hx hb dX7_raise_4 rfl (lv_at hl 2 rfl) ?_
  refine lv_i2l (v := (Int32.toInt64 a2)) hx hb dX7_raise_5 rfl ?_
  refine lv_iload_n hx hb dX7_raise_6 rfl (lv_at hl 3 rfl) ?_
  refine lv_i2l (v := (Int32.toInt64 a3)) hx hb dX7_raise_7 rfl ?_
  refine lv_lconst (v := (1 : Int64)) hx hb dX7_raise_8 (by decide) ?_
  obtain ⟨b16, q17, hf⟩ := obind hf
  obtain ⟨r14, g15, hf⟩ := obind hf
  refine fr_callV hx hb hml hts hown K hC hR ct_5 (c_X5_set hfl D cA g15) 3 q17 kw399 kw396 kw397 kw398 kw59 (by decide +kernel) ⟨by exact Nat.le_of_ble_eq_true rfl, by exact Nat.le_of_ble_eq_true rfl⟩ rfl hl.1 (cat8 _ (by exact Nat.le_of_ble_eq_true rfl)) dX7_raise_9 rfl (fun H locs _ _ hC => ?_)
  refine fr_aload_n hx hb dX7_raise_12 rfl (lv_at hl 1 rfl) ?_
  refine fr_astore (lv' := [(4, va_rf a1), (0, va_rf a0), (1, va_rf a1), (2, .int a2), (3, .int a3)]) hx hb dX7_raise_13 hl (by decide) (congrArg (List.cons _) (flk rfl (flk rfl (flk rfl (flk rfl fln))))) (fun ls hl => ?_)
  exact w_X7_raise_L15 M hfl 4096 _ _ _ hf _ _ _ _ _ hC (lv_sub hl [1, 0] rfl)
set_option maxRecDepth 100000 in
theorem c_X7_raise {l : Launch} (hfl : l.stackTraces = false) (D : va_G) (cA : Nat → ClassId) {o : Nat} {p0 : Option Nat} {p1 : Int32} {p2 : Int32} {h : fSt} {r : (Unit × fSt)} (hf : f_X7_raise o p0 p1 p2 h = some r) : fMet l yX7_raise (wsC yX7_raise cX7_raise 5 none) (3) (74) D cA [.ref o, va_rf p0, .int p1, .int p2] h r.2 none := by
  exact fMet.of (own := RX7) (by decide +kernel) rfl (lva1 rfl (lva1 (va_rf_cat _) (lva1 rfl (lva1 rfl lva0)))) (lgl1 rfl (lgl1 (va_rf_cat _) (lgl1 rfl (lgl1 rfl lgl0)))) (Nat.le_of_ble_eq_true rfl) (fun p e s m args below meth c ls hnm _ M hC hl => by
    have hl : lv_has ls 5 [(0, va_rf (some o)), (1, va_rf p0), (2, .int p1), (3, .int p2)] := hl
    exact w_X7_raise_L0 M hfl _ _ _ _ _ hf _ _ _ _ _ hC (lv_sub hl [0, 1, 2, 3] rfl))
set_option maxHeartbeats 4000000 in
set_option maxRecDepth 100000 in
theorem w_X2_holds_L77 {p : Program} {l : Launch} {e : Env} {s : State} {m : MethodId} {args : Array Value} {below : List Frame} {meth : Method} {c : Code} {D : va_G} {cA : Nat → ClassId} {h0 : fSt} {r : (Int32 × fSt)} (M : fM p s m args meth c D cA h0 { frames := 0, cells := fCB h0 - fZ h0, slots := fLB h0 - fL h0, locals := 0 } cX2_holds 2 (some (.boolean)) RX2) (hfl : l.stackTraces = false) (s0 : Int32) (h : fSt) (hf : f_X2_holds_L77 s0 h = some r) : ∀ (H : Heap) (locs : List Loc) (cells slots : Nat) (ls : Array Slot), fCur D cA s h0 h H locs → lv_has ls 2 [] → W p l e { frames := 0, cells := fCB h0 - fZ h0, slots := fLB h0 - fL h0, locals := 0 } s m args below meth c H locs cells slots (MQ below (fQ D cA h0 r.2 (some (.int r.1))) args s (fCB h0 - fZ h0) (fLB h0 - fL h0) (fA h0)) (F0 m 77 ls [.int s0]) := by
  obtain ⟨hx, hb, hml, hr, hlocks, hts, hown, K, hR⟩ := id M
  intro H locs cells slots ls hC hl
  by_cases c1 : s0 = 0 ∨ s0 = 1
  rotate_left
  · exact nomatch (oneg c1 hf)
  obtain rfl := Option.some.inj (opos c1 hf)
  exact fr_zret hx hb hr hlocks hC c1 dX2_holds_77
set_option maxHeartbeats 4000000 in
set_option maxRecDepth 100000 in
theorem w_X2_holds_L76 {p : Program} {l : Launch} {e : Env} {s : State} {m : MethodId} {args : Array Value} {below : List Frame} {meth : Method} {c : Code} {D : va_G} {cA : Nat → ClassId} {h0 : fSt} {r : (Int32 × fSt)} (M : fM p s m args meth c D cA h0 { frames := 0, cells := fCB h0 - fZ h0, slots := fLB h0 - fL h0, locals := 0 } cX2_holds 2 (some (.boolean)) RX2) (hfl : l.stackTraces = false)  (h : fSt) (hf : f_X2_holds_L76  h = some r) : ∀ (H : Heap) (locs : List Loc) (cells slots : Nat) (ls : Array Slot), fCur D cA s h0 h H locs → lv_has ls 2 [] → W p l e { frames := 0, cells := fCB h0 - fZ h0, slots := fLB h0 - fL h0, locals := 0 } s m args below meth c H locs cells slots (MQ below (fQ D cA h0 r.2 (some (.int r.1))) args s (fCB h0 - fZ h0) (fLB h0 - fL h0) (fA h0)) (F0 m 76 ls []) := by
  obtain ⟨hx, hb, hml, hr, hlocks, hts, hown, K, hR⟩ := id M
  intro H locs cells slots ls hC hl
  refine lv_iconst (v := (0 : Int32)) hx hb dX2_holds_76 (by decide) ?_
  exact w_X2_holds_L77 M hfl _ _ hf _ _ _ _ _ hC (lv_sub hl [] rfl)
set_option maxHeartbeats 4000000 in
set_option maxRecDepth 100000 in
theorem w_X2_holds_L0 {p : Program} {l : Launch} {e : Env} {s : State} {m : MethodId} {args : Array Value} {below : List Frame} {meth : Method} {c : Code} {D : va_G} {cA : Nat → ClassId} {h0 : fSt} {r : (Int32 × fSt)} (M : fM p s m args meth c D cA h0 { frames := 0, cells := fCB h0 - fZ h0, slots := fLB h0 - fL h0, locals := 0 } cX2_holds 2 (some (.boolean)) RX2) (hfl : l.stackTraces = false) (a0 : Option Nat) (a1 : Option Nat) (h : fSt) (hf : f_X2_holds_L0 a0 a1 h = some r) : ∀ (H : Heap) (locs : List Loc) (cells slots : Nat) (ls : Array Slot), fCur D cA s h0 h H locs → lv_has ls 2 [(0, va_rf a0), (1, va_rf a1)] → W p l e { frames := 0, cells := fCB h0 - fZ h0, slots := fLB h0 - fL h0, locals := 0 } s m args below meth c H locs cells slots (MQ below (fQ D cA h0 r.2 (some (.int r.1))) args s (fCB h0 - fZ h0) (fLB h0 - fL h0) (fA h0)) (F0 m 0 ls []) := by
  obtain ⟨hx, hb, hml, hr, hlocks, hts, hown, K, hR⟩ := id M
  intro H locs cells slots ls hC hl
  refine fr_aload_n hx hb dX2_holds_0 rfl (lv_at hl 1 rfl) ?_
  obtain ⟨x2, g3, hf⟩ := obind hf
  refine fr_get hx hb hts hown K hC ct_5 (fgJ_get g3) (by decide) kw236 rfl dX2_holds_1 ?_
  refine fr_aload_n hx hb dX2_holds_4 rfl (lv_at hl 0 rfl) ?_
  obtain ⟨x4, g5, hf⟩ := obind hf
  refine fr_get hx hb hts hown K hC ct_2 (fgI_get g5) (by decide) kw134 rfl dX2_holds_5 ?_
  refine lv_i2l (v := (Int32.toInt64 x4)) hx hb dX2_holds_8 rfl ?_
  refine fr_aload_n hx hb dX2_holds_9 rfl (lv_at hl 1 rfl) ?_
  obtain ⟨x6, g7, hf⟩ := obind hf
  refine fr_get hx hb hts hown K hC ct_5 (fgJ_get g7) (by decide) kw243 rfl dX2_holds_10 ?_
  refine lv_lmul hx hb dX2_holds_13 ?_
  refine fr_lcmp_lt (tgt := 76) hx hb dX2_holds_14 dX2_holds_15 (by decide) (fun c8 => ?_) (fun c8 => ?_)
  · replace hf := opos c8 hf
    exact w_X2_holds_L76 M hfl _ hf _ _ _ _ _ hC (lv_sub hl [] rfl)
  · replace hf := oneg c8 hf
    refine fr_aload_n hx hb dX2_holds_18 rfl (lv_at hl 1 rfl) ?_
    obtain ⟨x9, g10, hf⟩ := obind hf
    refine fr_get hx hb hts hown K hC ct_5 (fgJ_get g10) (by decide) kw236 rfl dX2_holds_19 ?_
    refine fr_aload_n hx hb dX2_holds_22 rfl (lv_at hl 0 rfl) ?_
    obtain ⟨x11, g12, hf⟩ := obind hf
    refine fr_get hx hb hts hown K hC ct_2 (fgI_get g12) (by decide) kw138 rfl dX2_holds_23 ?_
    refine lv_i2l (v := (Int32.toInt64 x11)) hx hb dX2_holds_26 rfl ?_
    refine fr_aload_n hx hb dX2_holds_27 rfl (lv_at hl 1 rfl) ?_
    obtain ⟨x13, g14, hf⟩ := obind hf
    refine fr_get hx hb hts hown K hC ct_5 (fgJ_get g14) (by decide) kw243 rfl dX2_holds_28 ?_
    refine lv_lmul hx hb dX2_holds_31 ?_
    refine fr_lcmp_gt (tgt := 76) hx hb dX2_holds_32 dX2_holds_33 (by decide) (fun c15 => ?_) (fun c15 => ?_)
    · replace hf := opos c15 hf
      exact w_X2_holds_L76 M hfl _ hf _ _ _ _ _ hC (lv_sub hl [] rfl)
    · replace hf := oneg c15 hf
      refine fr_aload_n hx hb dX2_holds_36 rfl (lv_at hl 1 rfl) ?_
      obtain ⟨x16, g17, hf⟩ := obind hf
      refine fr_get hx hb hts hown K hC ct_5 (fgJ_get g17) (by decide) kw240 rfl dX2_holds_37 ?_
      refine fr_aload_n hx hb dX2_holds_40 rfl (lv_at hl 0 rfl) ?_
      obtain ⟨x18, g19, hf⟩ := obind hf
      refine fr_get hx hb hts hown K hC ct_2 (fgI_get g19) (by decide) kw136 rfl dX2_holds_41 ?_
      refine lv_i2l (v := (Int32.toInt64 x18)) hx hb dX2_holds_44 rfl ?_
      refine fr_aload_n hx hb dX2_holds_45 rfl (lv_at hl 1 rfl) ?_
      obtain ⟨x20, g21, hf⟩ := obind hf
      refine fr_get hx hb hts hown K hC ct_5 (fgJ_get g21) (by decide) kw243 rfl dX2_holds_46 ?_
      refine lv_lmul hx hb dX2_holds_49 ?_
      refine fr_lcmp_lt (tgt := 76) hx hb dX2_holds_50 dX2_holds_51 (by decide) (fun c22 => ?_) (fun c22 => ?_)
      · replace hf := opos c22 hf
        exact w_X2_holds_L76 M hfl _ hf _ _ _ _ _ hC (lv_sub hl [] rfl)
      · replace hf := oneg c22 hf
        refine fr_aload_n hx hb dX2_holds_54 rfl (lv_at hl 1 rfl) ?_
        obtain ⟨x23, g24, hf⟩ := obind hf
        refine fr_get hx hb hts hown K hC ct_5 (fgJ_get g24) (by decide) kw240 rfl dX2_holds_55 ?_
        refine fr_aload_n hx hb dX2_holds_58 rfl (lv_at hl 0 rfl) ?_
        obtain ⟨x25, g26, hf⟩ := obind hf
        refine fr_get hx hb hts hown K hC ct_2 (fgI_get g26) (by decide) kw140 rfl dX2_holds_59 ?_
        refine lv_i2l (v := (Int32.toInt64 x25)) hx hb dX2_holds_62 rfl ?_
        refine fr_aload_n hx hb dX2_holds_63 rfl (lv_at hl 1 rfl) ?_
        obtain ⟨x27, g28, hf⟩ := obind hf
        refine fr_get hx hb hts hown K hC ct_5 (fgJ_get g28) (by decide) kw243 rfl dX2_holds_64 ?_
        refine lv_lmul hx hb dX2_holds_67 ?_
        refine fr_lcmp_gt (tgt := 76) hx hb dX2_holds_68 dX2_holds_69 (by decide) (fun c29 => ?_) (fun c29 => ?_)
        · replace hf := opos c29 hf
          exact w_X2_holds_L76 M hfl _ hf _ _ _ _ _ hC (lv_sub hl [] rfl)
        · replace hf := oneg c29 hf
          refine lv_iconst (v := (1 : Int32)) hx hb dX2_holds_72 (by decide) ?_
          refine lv_goto (tgt := 77) hx hb dX2_holds_73 (by decide) ?_
          exact w_X2_holds_L77 M hfl _ _ hf _ _ _ _ _ hC (lv_sub hl [] rfl)
set_option maxRecDepth 100000 in
theorem c_X2_holds {l : Launch} (hfl : l.stackTraces = false) (D : va_G) (cA : Nat → ClassId) {o : Nat} {p0 : Option Nat} {h : fSt} {r : (Int32 × fSt)} (hf : f_X2_holds o p0 h = some r) : fMet l yX2_holds (wsC yX2_holds cX2_holds 2 (some (.boolean))) (0) (0) D cA [.ref o, va_rf p0] h r.2 (some (.int r.1)) := by
  exact fMet.of (own := RX2) (by decide +kernel) rfl (lva1 rfl (lva1 (va_rf_cat _) lva0)) (lgl1 rfl (lgl1 (va_rf_cat _) lgl0)) (Nat.le_of_ble_eq_true rfl) (fun p e s m args below meth c ls hnm _ M hC hl => by
    have hl : lv_has ls 2 [(0, va_rf (some o)), (1, va_rf p0)] := hl
    exact w_X2_holds_L0 M hfl _ _ _ hf _ _ _ _ _ hC (lv_sub hl [0, 1] rfl))
set_option maxHeartbeats 4000000 in
set_option maxRecDepth 100000 in
theorem w_X5_enter_L141 {p : Program} {l : Launch} {e : Env} {s : State} {m : MethodId} {args : Array Value} {below : List Frame} {meth : Method} {c : Code} {D : va_G} {cA : Nat → ClassId} {h0 : fSt} {r : (Unit × fSt)} (M : fM p s m args meth c D cA h0 { frames := 2, cells := fCB h0 - fZ h0, slots := fLB h0 - fL h0, locals := 52 } cX5_enter 3 none RX5) (hfl : l.stackTraces = false)  (h : fSt) (hf : f_X5_enter_L141  h = some r) : ∀ (H : Heap) (locs : List Loc) (cells slots : Nat) (ls : Array Slot), fCur D cA s h0 h H locs → lv_has ls 3 [] → W p l e { frames := 2, cells := fCB h0 - fZ h0, slots := fLB h0 - fL h0, locals := 52 } s m args below meth c H locs cells slots (MQ below (fQ D cA h0 r.2 none) args s (fCB h0 - fZ h0) (fLB h0 - fL h0) (fA h0)) (F0 m 141 ls []) := by
  obtain ⟨hx, hb, hml, hr, hlocks, hts, hown, K, hR⟩ := id M
  intro H locs cells slots ls hC hl
  obtain rfl := Option.some.inj hf
  exact fr_vret hx hb hr hlocks hC dX5_enter_141
set_option maxHeartbeats 4000000 in
set_option maxRecDepth 100000 in
theorem w_X5_enter_L76 {p : Program} {l : Launch} {e : Env} {s : State} {m : MethodId} {args : Array Value} {below : List Frame} {meth : Method} {c : Code} {D : va_G} {cA : Nat → ClassId} {h0 : fSt} {r : (Unit × fSt)} (M : fM p s m args meth c D cA h0 { frames := 2, cells := fCB h0 - fZ h0, slots := fLB h0 - fL h0, locals := 52 } cX5_enter 3 none RX5) (hfl : l.stackTraces = false) (a0 : Option Nat) (a1 : Option Nat) (h : fSt) (hf : f_X5_enter_L76 a0 a1 h = some r) : ∀ (H : Heap) (locs : List Loc) (cells slots : Nat) (ls : Array Slot), fCur D cA s h0 h H locs → lv_has ls 3 [(0, va_rf a0), (1, va_rf a1)] → W p l e { frames := 2, cells := fCB h0 - fZ h0, slots := fLB h0 - fL h0, locals := 52 } s m args below meth c H locs cells slots (MQ below (fQ D cA h0 r.2 none) args s (fCB h0 - fZ h0) (fLB h0 - fL h0) (fA h0)) (F0 m 76 ls []) := by
  obtain ⟨hx, hb, hml, hr, hlocks, hts, hown, K, hR⟩ := id M
  intro H locs cells slots ls hC hl
  refine fr_aload_n hx hb dX5_enter_76 rfl (lv_at hl 0 rfl) ?_
  refine lv_dup hx hb dX5_enter_77 (va_rf_cat _) ?_
  obtain ⟨x1, g2, hf⟩ := obind hf
  refine fr_get hx hb hts hown K hC ct_5 (fgJ_get g2) (by decide) kw237 rfl dX5_enter_78 ?_
  refine fr_aload_n hx hb dX5_enter_81 rfl (lv_at hl 1 rfl) ?_
  obtain ⟨x3, g4, hf⟩ := obind hf
  refine fr_get hx hb hts hown K hC ct_4 (fgI_get g4) (by decide) kw172 rfl dX5_enter_82 ?_
  refine lv_i2l (v := (Int32.toInt64 x3)) hx hb dX5_enter_85 rfl ?_
  refine lv_lmul hx hb dX5_enter_86 ?_
  obtain ⟨h5, g6, hf⟩ := obind hf
  refine fr_put hx hb hts hown K hC ct_5 g6 (by decide) kw237 rfl rfl rfl rfl dX5_enter_87 (fun H locs hC => ?_)
  refine fr_aload_n hx hb dX5_enter_90 rfl (lv_at hl 0 rfl) ?_
  refine lv_dup hx hb dX5_enter_91 (va_rf_cat _) ?_
  obtain ⟨x7, g8, hf⟩ := obind hf
  refine fr_get hx hb hts hown K hC ct_5 (fgJ_get g8) (by decide) kw239 rfl dX5_enter_92 ?_
  refine fr_aload_n hx hb dX5_enter_95 rfl (lv_at hl 1 rfl) ?_
  obtain ⟨x9, g10, hf⟩ := obind hf
  refine fr_get hx hb hts hown K hC ct_4 (fgI_get g10) (by decide) kw172 rfl dX5_enter_96 ?_
  refine lv_i2l (v := (Int32.toInt64 x9)) hx hb dX5_enter_99 rfl ?_
  refine lv_lmul hx hb dX5_enter_100 ?_
  obtain ⟨h11, g12, hf⟩ := obind hf
  refine fr_put hx hb hts hown K hC ct_5 g12 (by decide) kw239 rfl rfl rfl rfl dX5_enter_101 (fun H locs hC => ?_)
  refine fr_aload_n hx hb dX5_enter_104 rfl (lv_at hl 0 rfl) ?_
  refine lv_dup hx hb dX5_enter_105 (va_rf_cat _) ?_
  obtain ⟨x13, g14, hf⟩ := obind hf
  refine fr_get hx hb hts hown K hC ct_5 (fgJ_get g14) (by decide) kw242 rfl dX5_enter_106 ?_
  refine fr_aload_n hx hb dX5_enter_109 rfl (lv_at hl 1 rfl) ?_
  obtain ⟨x15, g16, hf⟩ := obind hf
  refine fr_get hx hb hts hown K hC ct_4 (fgI_get g16) (by decide) kw169 rfl dX5_enter_110 ?_
  refine lv_i2l (v := (Int32.toInt64 x15)) hx hb dX5_enter_113 rfl ?_
  refine lv_lmul hx hb dX5_enter_114 ?_
  obtain ⟨h17, g18, hf⟩ := obind hf
  refine fr_put hx hb hts hown K hC ct_5 g18 (by decide) kw242 rfl rfl rfl rfl dX5_enter_115 (fun H locs hC => ?_)
  refine fr_aload_n hx hb dX5_enter_118 rfl (lv_at hl 1 rfl) ?_
  obtain ⟨x19, g20, hf⟩ := obind hf
  refine fr_get hx hb hts hown K hC ct_4 (fgR_get g20) (by decide) kw179 rfl dX5_enter_119 ?_
  refine fr_ifnull (tgt := 141) hx hb dX5_enter_122 (by decide) (fun c21 => ?_) (fun c21 => ?_)
  · replace hf := opos c21 hf
    exact w_X5_enter_L141 M hfl _ hf _ _ _ _ _ hC (lv_sub hl [] rfl)
  · replace hf := oneg c21 hf
    refine fr_aload_n hx hb dX5_enter_125 rfl (lv_at hl 1 rfl) ?_
    obtain ⟨x22, g23, hf⟩ := obind hf
    refine fr_get hx hb hts hown K hC ct_4 (fgR_get g23) (by decide) kw179 rfl dX5_enter_126 ?_
    refine fr_aload_n hx hb dX5_enter_129 rfl (lv_at hl 0 rfl) ?_
    obtain ⟨b26, q27, hf⟩ := obind hf
    obtain ⟨r24, g25, hf⟩ := obind hf
    refine fr_callV hx hb hml hts hown K hC hR ct_2 (c_X2_holds hfl D cA g25) 1 q27 kw431 kw428 kw429 kw430 kw58 (by decide +kernel) ⟨by exact Nat.le_of_ble_eq_true rfl, by exact Nat.le_of_ble_eq_true rfl⟩ rfl hl.1 (cat8 _ (by exact Nat.le_of_ble_eq_true rfl)) dX5_enter_130 rfl (fun H locs _ _ hC => ?_)
    refine lv_if_ne (tgt := 141) hx hb dX5_enter_133 (by decide) (fun c28 => ?_) (fun c28 => ?_)
    · replace hf := oneg c28 hf
      exact w_X5_enter_L141 M hfl _ hf _ _ _ _ _ hC (lv_sub hl [] rfl)
    · replace hf := opos c28 hf
      refine fr_aload_n hx hb dX5_enter_136 rfl (lv_at hl 0 rfl) ?_
      refine lv_iconst (v := (1 : Int32)) hx hb dX5_enter_137 (by decide) ?_
      obtain ⟨h29, g30, hf⟩ := obind hf
      obtain ⟨z31, g30⟩ := fputZ_inv g30
      refine fr_put hx hb hts hown K hC ct_5 g30 (by decide) kw245 rfl rfl (nZ z31) (fZ9 z31) dX5_enter_138 (fun H locs hC => ?_)
      exact w_X5_enter_L141 M hfl _ hf _ _ _ _ _ hC (lv_sub hl [] rfl)
set_option maxHeartbeats 4000000 in
set_option maxRecDepth 100000 in
theorem w_X5_enter_L0 {p : Program} {l : Launch} {e : Env} {s : State} {m : MethodId} {args : Array Value} {below : List Frame} {meth : Method} {c : Code} {D : va_G} {cA : Nat → ClassId} {h0 : fSt} {r : (Unit × fSt)} (M : fM p s m args meth c D cA h0 { frames := 2, cells := fCB h0 - fZ h0, slots := fLB h0 - fL h0, locals := 52 } cX5_enter 3 none RX5) (hfl : l.stackTraces = false) (a0 : Option Nat) (a1 : Option Nat) (a2 : Int32) (h : fSt) (hf : f_X5_enter_L0 a0 a1 a2 h = some r) : ∀ (H : Heap) (locs : List Loc) (cells slots : Nat) (ls : Array Slot), fCur D cA s h0 h H locs → lv_has ls 3 [(0, va_rf a0), (1, va_rf a1), (2, .int a2)] → W p l e { frames := 2, cells := fCB h0 - fZ h0, slots := fLB h0 - fL h0, locals := 52 } s m args below meth c H locs cells slots (MQ below (fQ D cA h0 r.2 none) args s (fCB h0 - fZ h0) (fLB h0 - fL h0) (fA h0)) (F0 m 0 ls []) := by
  obtain ⟨hx, hb, hml, hr, hlocks, hts, hown, K, hR⟩ := id M
  intro H locs cells slots ls hC hl
  refine fr_aload_n hx hb dX5_enter_0 rfl (lv_at hl 0 rfl) ?_
  refine lv_dup hx hb dX5_enter_1 (va_rf_cat _) ?_
  obtain ⟨x32, g33, hf⟩ := obind hf
  refine fr_get hx hb hts hown K hC ct_5 (fgJ_get g33) (by decide) kw237 rfl dX5_enter_2 ?_
  refine fr_aload_n hx hb dX5_enter_5 rfl (lv_at hl 1 rfl) ?_
  obtain ⟨x34, g35, hf⟩ := obind hf
  refine fr_get hx hb hts hown K hC ct_4 (fgR_get g35) (by decide) kw158 rfl dX5_enter_6 ?_
  refine lv_iload_n hx hb dX5_enter_9 rfl (lv_at hl 2 rfl) ?_
  obtain ⟨b38, q39, hf⟩ := obind hf
  obtain ⟨r36, g37, hf⟩ := obind hf
  refine fr_callV hx hb hml hts hown K hC hR ct_6 (c_X6_at hfl D cA g37) 1 q39 kw369 kw404 kw367 kw368 kw57 (by decide +kernel) ⟨by exact Nat.le_of_ble_eq_true rfl, by exact Nat.le_of_ble_eq_true rfl⟩ rfl hl.1 (cat8 _ (by exact Nat.le_of_ble_eq_true rfl)) dX5_enter_10 rfl (fun H locs _ _ hC => ?_)
  refine lv_i2l (v := (Int32.toInt64 r36.1)) hx hb dX5_enter_13 rfl ?_
  refine fr_aload_n hx hb dX5_enter_14 rfl (lv_at hl 0 rfl) ?_
  obtain ⟨x40, g41, hf⟩ := obind hf
  refine fr_get hx hb hts hown K hC ct_5 (fgJ_get g41) (by decide) kw242 rfl dX5_enter_15 ?_
  refine lv_lmul hx hb dX5_enter_18 ?_
  refine lv_lsub hx hb dX5_enter_19 ?_
  obtain ⟨h42, g43, hf⟩ := obind hf
  refine fr_put hx hb hts hown K hC ct_5 g43 (by decide) kw237 rfl rfl rfl rfl dX5_enter_20 (fun H locs hC => ?_)
  refine fr_aload_n hx hb dX5_enter_23 rfl (lv_at hl 0 rfl) ?_
  refine lv_dup hx hb dX5_enter_24 (va_rf_cat _) ?_
  obtain ⟨x44, g45, hf⟩ := obind hf
  refine fr_get hx hb hts hown K hC ct_5 (fgJ_get g45) (by decide) kw239 rfl dX5_enter_25 ?_
  refine fr_aload_n hx hb dX5_enter_28 rfl (lv_at hl 1 rfl) ?_
  obtain ⟨x46, g47, hf⟩ := obind hf
  refine fr_get hx hb hts hown K hC ct_4 (fgR_get g47) (by decide) kw161 rfl dX5_enter_29 ?_
  refine lv_iload_n hx hb dX5_enter_32 rfl (lv_at hl 2 rfl) ?_
  obtain ⟨b50, q51, hf⟩ := obind hf
  obtain ⟨r48, g49, hf⟩ := obind hf
  refine fr_callV hx hb hml hts hown K hC hR ct_6 (c_X6_at hfl D cA g49) 1 q51 kw369 kw404 kw367 kw368 kw57 (by decide +kernel) ⟨by exact Nat.le_of_ble_eq_true rfl, by exact Nat.le_of_ble_eq_true rfl⟩ rfl hl.1 (cat8 _ (by exact Nat.le_of_ble_eq_true rfl)) dX5_enter_33 rfl (fun H locs _ _ hC => ?_)
  refine lv_i2l (v := (Int32.toInt64 r48.1)) hx hb dX5_enter_36 rfl ?_
  refine fr_aload_n hx hb dX5_enter_37 rfl (lv_at hl 0 rfl) ?_
  obtain ⟨x52, g53, hf⟩ := obind hf
  refine fr_get hx hb hts hown K hC ct_5 (fgJ_get g53) (by decide) kw242 rfl dX5_enter_38 ?_
  refine lv_lmul hx hb dX5_enter_41 ?_
  refine lv_lsub hx hb dX5_enter_42 ?_
  obtain ⟨h54, g55, hf⟩ := obind hf
  refine fr_put hx hb hts hown K hC ct_5 g55 (by decide) kw239 rfl rfl rfl rfl dX5_enter_43 (fun H locs hC => ?_)
  refine fr_aload_n hx hb dX5_enter_46 rfl (lv_at hl 0 rfl) ?_
  refine lv_iconst (v := (4 : Int32)) hx hb dX5_enter_47 (by decide) ?_
  refine fr_aload_n hx hb dX5_enter_48 rfl (lv_at hl 1 rfl) ?_
  obtain ⟨x56, g57, hf⟩ := obind hf
  refine fr_get hx hb hts hown K hC ct_4 (fgR_get g57) (by decide) kw164 rfl dX5_enter_49 ?_
  refine lv_iload_n hx hb dX5_enter_52 rfl (lv_at hl 2 rfl) ?_
  obtain ⟨b60, q61, hf⟩ := obind hf
  obtain ⟨r58, g59, hf⟩ := obind hf
  refine fr_callV hx hb hml hts hown K hC hR ct_6 (c_X6_at hfl D cA g59) 1 q61 kw369 kw404 kw367 kw368 kw57 (by decide +kernel) ⟨by exact Nat.le_of_ble_eq_true rfl, by exact Nat.le_of_ble_eq_true rfl⟩ rfl hl.1 (cat8 _ (by exact Nat.le_of_ble_eq_true rfl)) dX5_enter_53 rfl (fun H locs _ _ hC => ?_)
  refine lv_isub hx hb dX5_enter_56 ?_
  obtain ⟨b64, q65, hf⟩ := obind hf
  obtain ⟨r62, g63, hf⟩ := obind hf
  refine fr_callV hx hb hml hts hown K hC hR ct_5 (c_X5_turnQuarters hfl D cA g63) 1 q65 kw408 kw405 kw407 kw6 kw59 (by decide +kernel) ⟨by exact Nat.le_of_ble_eq_true rfl, by exact Nat.le_of_ble_eq_true rfl⟩ rfl hl.1 (cat8 _ (by exact Nat.le_of_ble_eq_true rfl)) dX5_enter_57 rfl (fun H locs _ _ hC => ?_)
  refine fr_aload_n hx hb dX5_enter_60 rfl (lv_at hl 1 rfl) ?_
  obtain ⟨x66, g67, hf⟩ := obind hf
  refine fr_get hx hb hts hown K hC ct_4 (fgI_get g67) (by decide) kw174 rfl dX5_enter_61 ?_
  refine lv_if_eq (tgt := 76) hx hb dX5_enter_64 (by decide) (fun c68 => ?_) (fun c68 => ?_)
  · replace hf := opos c68 hf
    exact w_X5_enter_L76 M hfl _ _ _ hf _ _ _ _ _ hC (lv_sub hl [0, 1] rfl)
  · replace hf := oneg c68 hf
    refine fr_aload_n hx hb dX5_enter_67 rfl (lv_at hl 0 rfl) ?_
    refine fr_aload_n hx hb dX5_enter_68 rfl (lv_at hl 0 rfl) ?_
    obtain ⟨x69, g70, hf⟩ := obind hf
    refine fr_get hx hb hts hown K hC ct_5 (fgJ_get g70) (by decide) kw237 rfl dX5_enter_69 ?_
    refine lv_lneg hx hb dX5_enter_72 ?_
    obtain ⟨h71, g72, hf⟩ := obind hf
    refine fr_put hx hb hts hown K hC ct_5 g72 (by decide) kw237 rfl rfl rfl rfl dX5_enter_73 (fun H locs hC => ?_)
    exact w_X5_enter_L76 M hfl _ _ _ hf _ _ _ _ _ hC (lv_sub hl [0, 1] rfl)
set_option maxRecDepth 100000 in
theorem c_X5_enter {l : Launch} (hfl : l.stackTraces = false) (D : va_G) (cA : Nat → ClassId) {o : Nat} {p0 : Option Nat} {p1 : Int32} {h : fSt} {r : (Unit × fSt)} (hf : f_X5_enter o p0 p1 h = some r) : fMet l yX5_enter (wsC yX5_enter cX5_enter 3 none) (2) (52) D cA [.ref o, va_rf p0, .int p1] h r.2 none := by
  exact fMet.of (own := RX5) (by decide +kernel) rfl (lva1 rfl (lva1 (va_rf_cat _) (lva1 rfl lva0))) (lgl1 rfl (lgl1 (va_rf_cat _) (lgl1 rfl lgl0))) (Nat.le_of_ble_eq_true rfl) (fun p e s m args below meth c ls hnm _ M hC hl => by
    have hl : lv_has ls 3 [(0, va_rf (some o)), (1, va_rf p0), (2, .int p1)] := hl
    exact w_X5_enter_L0 M hfl _ _ _ _ hf _ _ _ _ _ hC (lv_sub hl [0, 1, 2] rfl))
set_option maxHeartbeats 4000000 in
set_option maxRecDepth 100000 in
theorem w_X7_sink_L24 {p : Program} {l : Launch} {e : Env} {s : State} {m : MethodId} {args : Array Value} {below : List Frame} {meth : Method} {c : Code} {D : va_G} {cA : Nat → ClassId} {h0 : fSt} {self : Option Nat → Option Nat → Int32 → Int32 → fSt → Option (Unit × fSt)} {fd ld : Nat} {r : (Unit × fSt)} (hself : ∀ {p0 : Option Nat} {p1 : Option Nat} {p2 : Int32} {p3 : Int32} {h : fSt} {r : (Unit × fSt)}, self p0 p1 p2 p3 h = some r → fMet l yX7_sink (wsC yX7_sink cX7_sink 4 none) fd ld D cA [va_rf p0, va_rf p1, .int p2, .int p3] h r.2 none) (M : fM p s m args meth c D cA h0 { frames := fd + 3, cells := fCB h0 - fZ h0, slots := fLB h0 - fL h0, locals := ld + 74 } cX7_sink 4 none RX7) (hfl : l.stackTraces = false) (a0 : Option Nat) (a1 : Option Nat) (a2 : Int32) (h : fSt) (hf : f_X7_sink_L24 self a0 a1 a2 h = some r) : ∀ (H : Heap) (locs : List Loc) (cells slots : Nat) (ls : Array Slot), fCur D cA s h0 h H locs → lv_has ls 4 [(0, va_rf a0), (1, va_rf a1), (2, .int a2)] → W p l e { frames := fd + 3, cells := fCB h0 - fZ h0, slots := fLB h0 - fL h0, locals := ld + 74 } s m args below meth c H locs cells slots (MQ below (fQ D cA h0 r.2 none) args s (fCB h0 - fZ h0) (fLB h0 - fL h0) (fA h0)) (F0 m 24 ls []) := by
  obtain ⟨hx, hb, hml, hr, hlocks, hts, hown, K, hR⟩ := id M
  intro H locs cells slots ls hC hl
  refine fr_aload_n hx hb dX7_sink_24 rfl (lv_at hl 0 rfl) ?_
  refine fr_aload_n hx hb dX7_sink_25 rfl (lv_at hl 1 rfl) ?_
  refine lv_iload_n hx hb dX7_sink_26 rfl (lv_at hl 2 rfl) ?_
  obtain ⟨b3, q4, hf⟩ := obind hf
  obtain ⟨r1, g2, hf⟩ := obind hf
  refine fr_callV hx hb hml hts hown K hC hR ct_5 (c_X5_enter hfl D cA g2) 2 q4 kw427 kw424 kw425 kw426 kw59 (by decide +kernel) ⟨by dsimp only; omega, by dsimp only; omega⟩ rfl hl.1 (cat8 _ (by exact Nat.le_of_ble_eq_true rfl)) dX7_sink_27 rfl (fun H locs _ _ hC => ?_)
  obtain rfl := Option.some.inj hf
  exact fr_vret hx hb hr hlocks hC dX7_sink_30
set_option maxHeartbeats 4000000 in
set_option maxRecDepth 100000 in
theorem w_X7_sink_L0 {p : Program} {l : Launch} {e : Env} {s : State} {m : MethodId} {args : Array Value} {below : List Frame} {meth : Method} {c : Code} {D : va_G} {cA : Nat → ClassId} {h0 : fSt} {self : Option Nat → Option Nat → Int32 → Int32 → fSt → Option (Unit × fSt)} {fd ld : Nat} {r : (Unit × fSt)} (hself : ∀ {p0 : Option Nat} {p1 : Option Nat} {p2 : Int32} {p3 : Int32} {h : fSt} {r : (Unit × fSt)}, self p0 p1 p2 p3 h = some r → fMet l yX7_sink (wsC yX7_sink cX7_sink 4 none) fd ld D cA [va_rf p0, va_rf p1, .int p2, .int p3] h r.2 none) (M : fM p s m args meth c D cA h0 { frames := fd + 3, cells := fCB h0 - fZ h0, slots := fLB h0 - fL h0, locals := ld + 74 } cX7_sink 4 none RX7) (hfl : l.stackTraces = false) (a0 : Option Nat) (a1 : Option Nat) (a2 : Int32) (a3 : Int32) (h : fSt) (hf : f_X7_sink_L0 self a0 a1 a2 a3 h = some r) : ∀ (H : Heap) (locs : List Loc) (cells slots : Nat) (ls : Array Slot), fCur D cA s h0 h H locs → lv_has ls 4 [(0, va_rf a0), (1, va_rf a1), (2, .int a2), (3, .int a3)] → W p l e { frames := fd + 3, cells := fCB h0 - fZ h0, slots := fLB h0 - fL h0, locals := ld + 74 } s m args below meth c H locs cells slots (MQ below (fQ D cA h0 r.2 none) args s (fCB h0 - fZ h0) (fLB h0 - fL h0) (fA h0)) (F0 m 0 ls []) := by
  obtain ⟨hx, hb, hml, hr, hlocks, hts, hown, K, hR⟩ := id M
  intro H locs cells slots ls hC hl
  refine fr_aload_n hx hb dX7_sink_0 rfl (lv_at hl 1 rfl) ?_
  obtain ⟨x5, g6, hf⟩ := obind hf
  refine fr_get hx hb hts hown K hC ct_4 (fgR_get g6) (by decide) kw184 rfl dX7_sink_1 ?_
  refine fr_ifnull (tgt := 24) hx hb dX7_sink_4 (by decide) (fun c7 => ?_) (fun c7 => ?_)
  · replace hf := opos c7 hf
    exact w_X7_sink_L24 @hself M hfl _ _ _ _ hf _ _ _ _ _ hC (lv_sub hl [0, 1, 2] rfl)
  · replace hf := oneg c7 hf
    refine lv_iload_n hx hb dX7_sink_7 rfl (lv_at hl 3 rfl) ?_
    refine lv_iconst (v := (4 : Int32)) hx hb dX7_sink_8 (by decide) ?_
    refine lv_icmp_ge (tgt := 24) hx hb dX7_sink_9 (by decide) (fun c8 => ?_) (fun c8 => ?_)
    · replace hf := opos c8 hf
      exact w_X7_sink_L24 @hself M hfl _ _ _ _ hf _ _ _ _ _ hC (lv_sub hl [0, 1, 2] rfl)
    · replace hf := oneg c8 hf
      refine fr_aload_n hx hb dX7_sink_12 rfl (lv_at hl 0 rfl) ?_
      refine fr_aload_n hx hb dX7_sink_13 rfl (lv_at hl 1 rfl) ?_
      obtain ⟨x9, g10, hf⟩ := obind hf
      refine fr_get hx hb hts hown K hC ct_4 (fgR_get g10) (by decide) kw184 rfl dX7_sink_14 ?_
      refine lv_iload_n hx hb dX7_sink_17 rfl (lv_at hl 2 rfl) ?_
      refine lv_iload_n hx hb dX7_sink_18 rfl (lv_at hl 3 rfl) ?_
      refine lv_iconst (v := (1 : Int32)) hx hb dX7_sink_19 (by decide) ?_
      refine lv_iadd hx hb dX7_sink_20 ?_
      obtain ⟨r11, g12, hf⟩ := obind hf
      refine fr_callS hx hb hml hts hown K hC hR (hself g12) 4 kw423 kw421 kw422 kw55 (by decide +kernel) ⟨by dsimp only; omega, by dsimp only; omega⟩ rfl hl.1 (cat8 _ (by exact Nat.le_of_ble_eq_true rfl)) dX7_sink_21 rfl (fun H locs _ _ hC => ?_)
      exact w_X7_sink_L24 @hself M hfl _ _ _ _ hf _ _ _ _ _ hC (lv_sub hl [0, 1, 2] rfl)
set_option maxRecDepth 100000 in
theorem c_X7_sink {l : Launch} (hfl : l.stackTraces = false) (D : va_G) (cA : Nat → ClassId) (d : Nat) : ∀ {p0 : Option Nat} {p1 : Option Nat} {p2 : Int32} {p3 : Int32} {h : fSt} {r : (Unit × fSt)}, f_X7_sink d p0 p1 p2 p3 h = some r → fMet l yX7_sink (wsC yX7_sink cX7_sink 4 none) (3 * d) (74 * d) D cA [va_rf p0, va_rf p1, .int p2, .int p3] h r.2 none := by
  induction d with
  | zero =>
    intro p0 p1 p2 p3 h r hf
    exact nomatch (show (none : Option (Unit × fSt)) = some r from hf)
  | succ d hself =>
    intro p0 p1 p2 p3 h r hf
    have hf : f_X7_sink_L0 (f_X7_sink d) p0 p1 p2 p3 h = some r := hf
    exact fMet.of (own := RX7) (by decide +kernel) rfl (lva1 (va_rf_cat _) (lva1 (va_rf_cat _) (lva1 rfl (lva1 rfl lva0)))) (lgl1 (va_rf_cat _) (lgl1 (va_rf_cat _) (lgl1 rfl (lgl1 rfl lgl0)))) (Nat.le_of_ble_eq_true rfl) (fun p e s m args below meth c ls hnm _ M hC hl => by
    have hl : lv_has ls 4 [(0, va_rf p0), (1, va_rf p1), (2, .int p2), (3, .int p3)] := hl
    exact w_X7_sink_L0 @hself M hfl _ _ _ _ _ hf _ _ _ _ _ hC (lv_sub hl [0, 1, 2, 3] rfl))
set_option maxHeartbeats 4000000 in
set_option maxRecDepth 100000 in
theorem w_X7_between_L0 {p : Program} {l : Launch} {e : Env} {s : State} {m : MethodId} {args : Array Value} {below : List Frame} {meth : Method} {c : Code} {D : va_G} {cA : Nat → ClassId} {h0 : fSt} {r : ((Int32 ⊕ Nat) × fSt)} (M : fM p s m args meth c D cA h0 { frames := 25, cells := fCB h0 - fZ h0, slots := fLB h0 - fL h0, locals := 615 } cX7_between 8 (some (.int)) RX7) (hfl : l.stackTraces = false) (hno : ∀ x ∈ c.exceptionTable.toList, False) (a0 : Option Nat) (a1 : Int32) (a2 : Int32) (a3 : Int32) (a4 : Int32) (a5 : Int32) (h : fSt) (hf : f_X7_between_L0 a0 a1 a2 a3 a4 a5 h = some r) : ∀ (H : Heap) (locs : List Loc) (cells slots : Nat) (ls : Array Slot), fCur D cA s h0 h H locs → lv_has ls 8 [(0, va_rf a0), (1, .int a1), (2, .int a2), (3, .int a3), (4, .int a4), (5, .int a5)] → W p l e { frames := 25, cells := fCB h0 - fZ h0, slots := fLB h0 - fL h0, locals := 615 } s m args below meth c H locs cells slots (vx_MQ below (fQX D cA h0 r.2 (rI r.1)) (fXC D cA h0 r.2 (rI r.1)) args s (fCB h0 - fZ h0) (fLB h0 - fL h0) (fA h0)) (F0 m 0 ls []) := by
  obtain ⟨hx, hb, hml, hr, hlocks, hts, hown, K, hR⟩ := id M
  intro H locs cells slots ls hC hl
  refine fr_aload_n hx hb dX7_between_0 rfl (lv_at hl 0 rfl) ?_
  refine lv_iload_n hx hb dX7_between_1 rfl (lv_at hl 1 rfl) ?_
  obtain ⟨b3, q4, hf⟩ := obind hf
  obtain ⟨⟨v5 | k6, h7⟩, g2, hf⟩ := obind hf
  · refine fr_callVX hx hb hml hts hown K hC hR ct_7 (c_X7_found hfl D cA g2) 1 q4 kw583 kw580 kw582 kw12 kw55 (by decide +kernel) ⟨by exact Nat.le_of_ble_eq_true rfl, by exact Nat.le_of_ble_eq_true rfl⟩ rfl hl.1 (cat8 _ (by exact Nat.le_of_ble_eq_true rfl)) dX7_between_2 rfl (fun H locs _ _ hC => ?_)
    refine fr_astore (lv' := [(6, va_rf v5), (0, va_rf a0), (1, .int a1), (2, .int a2), (3, .int a3), (4, .int a4), (5, .int a5)]) hx hb dX7_between_5 hl (by decide) (congrArg (List.cons _) (flk rfl (flk rfl (flk rfl (flk rfl (flk rfl (flk rfl fln))))))) (fun ls hl => ?_)
    refine fr_aload_n hx hb dX7_between_7 rfl (lv_at hl 1 rfl) ?_
    refine lv_iload_n hx hb dX7_between_8 rfl (lv_at hl 3 rfl) ?_
    obtain ⟨b10, q11, hf⟩ := obind hf
    obtain ⟨⟨v12 | k13, h14⟩, g9, hf⟩ := obind hf
    · refine fr_callVX hx hb hml hts hown K hC hR ct_7 (c_X7_found hfl D cA g9) 1 q11 kw583 kw580 kw582 kw12 kw55 (by decide +kernel) ⟨by exact Nat.le_of_ble_eq_true rfl, by exact Nat.le_of_ble_eq_true rfl⟩ rfl hl.1 (cat8 _ (by exact Nat.le_of_ble_eq_true rfl)) dX7_between_9 rfl (fun H locs _ _ hC => ?_)
      refine fr_astore (lv' := [(7, va_rf v12), (6, va_rf v5), (0, va_rf a0), (1, .int a1), (2, .int a2), (3, .int a3), (4, .int a4), (5, .int a5)]) hx hb dX7_between_12 hl (by decide) (congrArg (List.cons _) (flk (adj1 _ _) (flk rfl (flk rfl (flk rfl (flk rfl (flk rfl (flk rfl fln)))))))) (fun ls hl => ?_)
      refine lv_iload_n hx hb dX7_between_14 rfl (lv_at hl 5 rfl) ?_
      refine lv_iload hx hb dX7_between_15 (lv_at hl 6 rfl) ?_
      refine lv_iload hx hb dX7_between_17 (lv_at hl 7 rfl) ?_
      obtain ⟨⟨v17 | k18, h19⟩, g16, hf⟩ := obind hf
      · refine fr_callSX hx hb hml hts hown K hC hR (c_X7_checkPoint hfl D cA g16) 3 kw844 kw842 kw843 kw55 (by decide +kernel) ⟨by exact Nat.le_of_ble_eq_true rfl, by exact Nat.le_of_ble_eq_true rfl⟩ rfl hl.1 (cat8 _ (by exact Nat.le_of_ble_eq_true rfl)) dX7_between_19 rfl (fun H locs _ _ hC => ?_)
        refine fr_aload_n hx hb dX7_between_22 rfl (lv_at hl 2 rfl) ?_
        refine fr_aload hx hb dX7_between_23 (lv_at hl 1 rfl) ?_
        refine lv_iload_n hx hb dX7_between_25 rfl (lv_at hl 5 rfl) ?_
        refine lv_iload hx hb dX7_between_26 (lv_at hl 6 rfl) ?_
        obtain ⟨b22, q23, hf⟩ := obind hf
        obtain ⟨r20, g21, hf⟩ := obind hf
        refine fr_callV hx hb hml hts hown K hC hR ct_7 (c_X7_raise hfl D cA g21) 3 q23 kw395 kw392 kw394 kw5 kw55 (by decide +kernel) ⟨by exact Nat.le_of_ble_eq_true rfl, by exact Nat.le_of_ble_eq_true rfl⟩ rfl hl.1 (cat8 _ (by exact Nat.le_of_ble_eq_true rfl)) dX7_between_28 rfl (fun H locs _ _ hC => ?_)
        refine fr_aload_n hx hb dX7_between_31 rfl (lv_at hl 2 rfl) ?_
        obtain ⟨x24, g25, hf⟩ := obind hf
        refine fr_get hx hb hts hown K hC ct_7 (fgR_get g25) (by decide) kw293 rfl dX7_between_32 ?_
        refine fr_aload hx hb dX7_between_35 (lv_at hl 0 rfl) ?_
        refine fr_aload_n hx hb dX7_between_37 rfl (lv_at hl 2 rfl) ?_
        obtain ⟨x26, g27, hf⟩ := obind hf
        refine fr_get hx hb hts hown K hC ct_7 (fgI_get g27) (by decide) kw297 rfl dX7_between_38 ?_
        refine lv_iconst (v := (0 : Int32)) hx hb dX7_between_41 (by decide) ?_
        obtain ⟨r28, g29, hf⟩ := obind hf
        refine fr_callS hx hb hml hts hown K hC hR (c_X7_sink hfl D cA 8 g29) 4 kw423 kw421 kw422 kw55 (by decide +kernel) ⟨by exact Nat.le_of_ble_eq_true rfl, by exact Nat.le_of_ble_eq_true rfl⟩ rfl hl.1 (cat8 _ (by exact Nat.le_of_ble_eq_true rfl)) dX7_between_42 rfl (fun H locs _ _ hC => ?_)
        refine fr_aload_n hx hb dX7_between_45 rfl (lv_at hl 2 rfl) ?_
        obtain ⟨x30, g31, hf⟩ := obind hf
        refine fr_get hx hb hts hown K hC ct_7 (fgR_get g31) (by decide) kw293 rfl dX7_between_46 ?_
        refine lv_iload hx hb dX7_between_49 (lv_at hl 7 rfl) ?_
        obtain ⟨b34, q35, hf⟩ := obind hf
        obtain ⟨r32, g33, hf⟩ := obind hf
        refine fr_callV hx hb hml hts hown K hC hR ct_5 (c_X5_part hfl D cA g33) 1 q35 kw416 kw413 kw414 kw415 kw59 (by decide +kernel) ⟨by exact Nat.le_of_ble_eq_true rfl, by exact Nat.le_of_ble_eq_true rfl⟩ rfl hl.1 (cat8 _ (by exact Nat.le_of_ble_eq_true rfl)) dX7_between_51 rfl (fun H locs _ _ hC => ?_)
        refine lv_l2i (v := (Int64.toInt32 r32.1)) hx hb dX7_between_54 rfl ?_
        obtain rfl := Option.some.inj hf
        exact fr_retQ (fr_iret hx hb hr hlocks hC dX7_between_55)
      · obtain rfl := Option.some.inj hf
        refine fr_callST hx hb hml hts hown K hC hR (c_X7_checkPoint hfl D cA g16) 3 kw844 kw842 kw843 kw55 (by decide +kernel) ⟨by exact Nat.le_of_ble_eq_true rfl, by exact Nat.le_of_ble_eq_true rfl⟩ rfl hl.1 (cat8 _ (by exact Nat.le_of_ble_eq_true rfl)) dX7_between_19 rfl (fun H locs _ _ q ce hC e1 e2 e3 => ?_)
        exact fr_out (fun x hx9 => (hno x hx9).elim) hlocks hC e1 e2 e3
    · obtain rfl := Option.some.inj hf
      refine fr_callVT hx hb hml hts hown K hC hR ct_7 (c_X7_found hfl D cA g9) 1 q11 kw583 kw580 kw582 kw12 kw55 (by decide +kernel) ⟨by exact Nat.le_of_ble_eq_true rfl, by exact Nat.le_of_ble_eq_true rfl⟩ rfl hl.1 (cat8 _ (by exact Nat.le_of_ble_eq_true rfl)) dX7_between_9 rfl (fun H locs _ _ q ce hC e1 e2 e3 => ?_)
      exact fr_out (fun x hx9 => (hno x hx9).elim) hlocks hC e1 e2 e3
  · obtain rfl := Option.some.inj hf
    refine fr_callVT hx hb hml hts hown K hC hR ct_7 (c_X7_found hfl D cA g2) 1 q4 kw583 kw580 kw582 kw12 kw55 (by decide +kernel) ⟨by exact Nat.le_of_ble_eq_true rfl, by exact Nat.le_of_ble_eq_true rfl⟩ rfl hl.1 (cat8 _ (by exact Nat.le_of_ble_eq_true rfl)) dX7_between_2 rfl (fun H locs _ _ q ce hC e1 e2 e3 => ?_)
    exact fr_out (fun x hx9 => (hno x hx9).elim) hlocks hC e1 e2 e3
set_option maxRecDepth 100000 in
theorem c_X7_between {l : Launch} (hfl : l.stackTraces = false) (D : va_G) (cA : Nat → ClassId) {o : Nat} {p0 : Int32} {p1 : Int32} {p2 : Int32} {p3 : Int32} {p4 : Int32} {h : fSt} {r : ((Int32 ⊕ Nat) × fSt)} (hf : f_X7_between o p0 p1 p2 p3 p4 h = some r) : fMetX l yX7_between (wsC yX7_between cX7_between 8 (some (.int))) (25) (615) D cA [.ref o, .int p0, .int p1, .int p2, .int p3, .int p4] h r.2 (rI r.1) := by
  exact fMetX.of (own := RX7) (by decide +kernel) rfl (lva1 rfl (lva1 rfl (lva1 rfl (lva1 rfl (lva1 rfl (lva1 rfl lva0)))))) (lgl1 rfl (lgl1 rfl (lgl1 rfl (lgl1 rfl (lgl1 rfl (lgl1 rfl lgl0)))))) (Nat.le_of_ble_eq_true rfl) (fun p e s m args below meth c ls hno M hC hl => by
    have hl : lv_has ls 8 [(0, va_rf (some o)), (1, .int p0), (2, .int p1), (3, .int p2), (4, .int p3), (5, .int p4)] := hl
    exact w_X7_between_L0 M hfl hno _ _ _ _ _ _ _ hf _ _ _ _ _ hC (lv_sub hl [0, 1, 2, 3, 4, 5] rfl))
set_option maxHeartbeats 4000000 in
set_option maxRecDepth 100000 in
theorem w_L_between_L0 {p : Program} {l : Launch} {e : Env} {s : State} {m : MethodId} {args : Array Value} {below : List Frame} {meth : Method} {c : Code} {D : va_G} {cA : Nat → ClassId} {h0 : fSt} {r : ((Int32 ⊕ Nat) × fSt)} (M : fM p s m args meth c D cA h0 { frames := 26, cells := fCB h0 - fZ h0, slots := fLB h0 - fL h0, locals := 642 } cL_between 8 (some (.int)) RL) (hfl : l.stackTraces = false) (hno : c.exceptionTable.toList = tableOf [(0, 16, 19, 13), (0, 16, 23, 15)]) (a0 : Option Nat) (a1 : Int32) (a2 : Int32) (a3 : Int32) (a4 : Int32) (a5 : Int32) (a6 : Option Nat) (h : fSt) (hf : f_L_between_L0 a0 a1 a2 a3 a4 a5 a6 h = some r) : ∀ (H : Heap) (locs : List Loc) (cells slots : Nat) (ls : Array Slot), fCur D cA s h0 h H locs → lv_has ls 8 [(0, va_rf a0), (1, .int a1), (2, .int a2), (3, .int a3), (4, .int a4), (5, .int a5), (6, va_rf a6)] → W p l e { frames := 26, cells := fCB h0 - fZ h0, slots := fLB h0 - fL h0, locals := 642 } s m args below meth c H locs cells slots (vx_MQ below (fQX D cA h0 r.2 (rI r.1)) (fXC D cA h0 r.2 (rI r.1)) args s (fCB h0 - fZ h0) (fLB h0 - fL h0) (fA h0)) (F0 m 0 ls []) := by
  obtain ⟨hx, hb, hml, hr, hlocks, hts, hown, K, hR⟩ := id M
  intro H locs cells slots ls hC hl
  refine fr_aload hx hb dL_between_0 (lv_at hl 6 rfl) ?_
  refine lv_iconst (v := (0 : Int32)) hx hb dL_between_2 (by decide) ?_
  refine fr_aload_n hx hb dL_between_3 rfl (lv_at hl 0 rfl) ?_
  refine lv_iload_n hx hb dL_between_4 rfl (lv_at hl 1 rfl) ?_
  refine lv_iload_n hx hb dL_between_5 rfl (lv_at hl 2 rfl) ?_
  refine lv_iload_n hx hb dL_between_6 rfl (lv_at hl 3 rfl) ?_
  refine lv_iload hx hb dL_between_7 (lv_at hl 4 rfl) ?_
  refine lv_iload hx hb dL_between_9 (lv_at hl 5 rfl) ?_
  obtain ⟨b3, q4, hf⟩ := obind hf
  obtain ⟨⟨v5 | k6, h7⟩, g2, hf⟩ := obind hf
  · refine fr_callVX hx hb hml hts hown K hC hR ct_7 (c_X7_between hfl D cA g2) 5 q4 kw860 kw857 kw858 kw859 kw55 (by decide +kernel) ⟨by exact Nat.le_of_ble_eq_true rfl, by exact Nat.le_of_ble_eq_true rfl⟩ rfl hl.1 (cat8 _ (by exact Nat.le_of_ble_eq_true rfl)) dL_between_11 rfl (fun H locs _ _ hC => ?_)
    refine lv_i2l (v := (Int32.toInt64 v5)) hx hb dL_between_14 rfl ?_
    obtain ⟨h8, g9, hf⟩ := obind hf
    refine fr_last hx hb K hC (t := 1) rfl g9 dL_between_15 (fun H locs hC => ?_)
    refine lv_goto (tgt := 27) hx hb dL_between_16 (by decide) ?_
    refine lv_iconst (v := (0 : Int32)) hx hb dL_between_27 (by decide) ?_
    obtain rfl := Option.some.inj hf
    exact fr_retQ (fr_iret hx hb hr hlocks hC dL_between_28)
  · refine fr_callVT hx hb hml hts hown K hC hR ct_7 (c_X7_between hfl D cA g2) 5 q4 kw860 kw857 kw858 kw859 kw55 (by decide +kernel) ⟨by exact Nat.le_of_ble_eq_true rfl, by exact Nat.le_of_ble_eq_true rfl⟩ rfl hl.1 (cat8 _ (by exact Nat.le_of_ble_eq_true rfl)) dL_between_11 rfl (fun H locs _ _ q ce hC e1 e2 e3 => ?_)
    by_cases c10 : k6 = 0
    · replace hf := opos c10 hf
      subst c10
      refine fr_catch (k9 := 0) (name := "java/lang/IndexOutOfBoundsException") hts K hown [] ⟨0, 16, 19, 13⟩ [⟨0, 16, 23, 15⟩] (by rw [hno]; rfl) (fun z hz => nomatch hz) (by decide) (by decide) kw573 kn586 e1 e2 e3 ?_
      refine fr_astore (lv' := [(7, va_rf (some q)), (0, va_rf a0), (1, .int a1), (2, .int a2), (3, .int a3), (4, .int a4), (5, .int a5), (6, va_rf a6)]) hx hb dL_between_19 hl (by decide) (congrArg (List.cons _) (flk rfl (flk rfl (flk rfl (flk rfl (flk rfl (flk rfl (flk (adj1 _ _) fln)))))))) (fun ls hl => ?_)
      refine lv_iconst (v := (1 : Int32)) hx hb dL_between_21 (by decide) ?_
      obtain rfl := Option.some.inj hf
      exact fr_retQ (fr_iret hx hb hr hlocks hC dL_between_22)
    replace hf := oneg c10 hf
    by_cases c12 : k6 = 1
    · replace hf := opos c12 hf
      subst c12
      refine fr_catch (k9 := 1) (name := "java/lang/IllegalArgumentException") hts K hown [⟨0, 16, 19, 13⟩] ⟨0, 16, 23, 15⟩ [] (by rw [hno]; rfl) (all1 ⟨by decide, _, kw573, by decide +kernel⟩) (by decide) (by decide) kw574 kn495 e1 e2 e3 ?_
      refine fr_astore (lv' := [(7, va_rf (some q)), (0, va_rf a0), (1, .int a1), (2, .int a2), (3, .int a3), (4, .int a4), (5, .int a5), (6, va_rf a6)]) hx hb dL_between_23 hl (by decide) (congrArg (List.cons _) (flk rfl (flk rfl (flk rfl (flk rfl (flk rfl (flk rfl (flk (adj1 _ _) fln)))))))) (fun ls hl => ?_)
      refine lv_iconst (v := (2 : Int32)) hx hb dL_between_25 (by decide) ?_
      obtain rfl := Option.some.inj hf
      exact fr_retQ (fr_iret hx hb hr hlocks hC dL_between_26)
    replace hf := oneg c12 hf
    exact nomatch hf
set_option maxRecDepth 100000 in
theorem c_L_between {l : Launch} (hfl : l.stackTraces = false) (D : va_G) (cA : Nat → ClassId) {p0 : Option Nat} {p1 : Int32} {p2 : Int32} {p3 : Int32} {p4 : Int32} {p5 : Int32} {p6 : Option Nat} {h : fSt} {r : ((Int32 ⊕ Nat) × fSt)} (hf : f_L_between p0 p1 p2 p3 p4 p5 p6 h = some r) : fMetX l yL_between (wsCH yL_between cL_between 8 (some (.int)) [(0, 16, 19, 13), (0, 16, 23, 15)]) (26) (642) D cA [va_rf p0, .int p1, .int p2, .int p3, .int p4, .int p5, va_rf p6] h r.2 (rI r.1) := by
  exact fMetX.ofH (own := RL) (by decide +kernel) rfl (lva1 (va_rf_cat _) (lva1 rfl (lva1 rfl (lva1 rfl (lva1 rfl (lva1 rfl (lva1 (va_rf_cat _) lva0))))))) (lgl1 (va_rf_cat _) (lgl1 rfl (lgl1 rfl (lgl1 rfl (lgl1 rfl (lgl1 rfl (lgl1 (va_rf_cat _) lgl0))))))) (Nat.le_of_ble_eq_true rfl) (fun p e s m args below meth c ls hno M hC hl => by
    have hl : lv_has ls 8 [(0, va_rf p0), (1, .int p1), (2, .int p2), (3, .int p3), (4, .int p4), (5, .int p5), (6, va_rf p6)] := hl
    exact w_L_between_L0 M hfl hno _ _ _ _ _ _ _ _ hf _ _ _ _ _ hC (lv_sub hl [0, 1, 2, 3, 4, 5, 6] rfl))
set_option maxHeartbeats 4000000 in
set_option maxRecDepth 100000 in
theorem w_X0_side_L0 {p : Program} {l : Launch} {e : Env} {s : State} {m : MethodId} {args : Array Value} {below : List Frame} {meth : Method} {c : Code} {D : va_G} {cA : Nat → ClassId} {h0 : fSt} {r : (Option Nat × fSt)} (M : fM p s m args meth c D cA h0 { frames := 0, cells := fCB h0 - fZ h0, slots := fLB h0 - fL h0, locals := 0 } cX0_side 2 (some (.object "TapestryScene$Fraction")) RX0) (hfl : l.stackTraces = false) (a0 : Option Nat) (a1 : Int32) (h : fSt) (hf : f_X0_side_L0 a0 a1 h = some r) : ∀ (H : Heap) (locs : List Loc) (cells slots : Nat) (ls : Array Slot), fCur D cA s h0 h H locs → lv_has ls 2 [(0, va_rf a0), (1, .int a1)] → W p l e { frames := 0, cells := fCB h0 - fZ h0, slots := fLB h0 - fL h0, locals := 0 } s m args below meth c H locs cells slots (MQ below (fQ D cA h0 r.2 (some (va_rf r.1))) args s (fCB h0 - fZ h0) (fLB h0 - fL h0) (fA h0)) (F0 m 0 ls []) := by
  obtain ⟨hx, hb, hml, hr, hlocks, hts, hown, K, hR⟩ := id M
  intro H locs cells slots ls hC hl
  refine lv_iload_n hx hb dX0_side_0 rfl (lv_at hl 1 rfl) ?_
  by_cases c1 : a1 = (0 : Int32)
  · replace hf := opos c1 hf
    refine lv_tableIn (off := 27) (tgt := 28) hx hb dX0_side_1 (by rw [c1]; decide) (by rw [c1]; decide) (by rw [c1]; rfl) (by decide) ?_
    refine fr_aload_n hx hb dX0_side_28 rfl (lv_at hl 0 rfl) ?_
    obtain ⟨x2, g3, hf⟩ := obind hf
    refine fr_get hx hb hts hown K hC ct_0 (fgR_get g3) (by decide) kw277 rfl dX0_side_29 ?_
    obtain rfl := Option.some.inj hf
    exact fr_aret hx hb hr (Or.inl ⟨_, rfl⟩) hlocks hC dX0_side_32
  replace hf := oneg c1 hf
  by_cases c4 : a1 = (1 : Int32)
  · replace hf := opos c4 hf
    refine lv_tableIn (off := 32) (tgt := 33) hx hb dX0_side_1 (by rw [c4]; decide) (by rw [c4]; decide) (by rw [c4]; rfl) (by decide) ?_
    refine fr_aload_n hx hb dX0_side_33 rfl (lv_at hl 0 rfl) ?_
    obtain ⟨x5, g6, hf⟩ := obind hf
    refine fr_get hx hb hts hown K hC ct_0 (fgR_get g6) (by decide) kw278 rfl dX0_side_34 ?_
    obtain rfl := Option.some.inj hf
    exact fr_aret hx hb hr (Or.inl ⟨_, rfl⟩) hlocks hC dX0_side_37
  replace hf := oneg c4 hf
  by_cases c7 : a1 = (2 : Int32)
  · replace hf := opos c7 hf
    refine lv_tableIn (off := 37) (tgt := 38) hx hb dX0_side_1 (by rw [c7]; decide) (by rw [c7]; decide) (by rw [c7]; rfl) (by decide) ?_
    refine fr_aload_n hx hb dX0_side_38 rfl (lv_at hl 0 rfl) ?_
    obtain ⟨x8, g9, hf⟩ := obind hf
    refine fr_get hx hb hts hown K hC ct_0 (fgR_get g9) (by decide) kw279 rfl dX0_side_39 ?_
    obtain rfl := Option.some.inj hf
    exact fr_aret hx hb hr (Or.inl ⟨_, rfl⟩) hlocks hC dX0_side_42
  replace hf := oneg c7 hf
  refine lv_tableOut (tgt := 43) hx hb dX0_side_1 (swOut3 c1 c4 c7) (by decide) ?_
  refine fr_aload_n hx hb dX0_side_43 rfl (lv_at hl 0 rfl) ?_
  obtain ⟨x10, g11, hf⟩ := obind hf
  refine fr_get hx hb hts hown K hC ct_0 (fgR_get g11) (by decide) kw280 rfl dX0_side_44 ?_
  obtain rfl := Option.some.inj hf
  exact fr_aret hx hb hr (Or.inl ⟨_, rfl⟩) hlocks hC dX0_side_47
set_option maxRecDepth 100000 in
theorem c_X0_side {l : Launch} (hfl : l.stackTraces = false) (D : va_G) (cA : Nat → ClassId) {o : Nat} {p0 : Int32} {h : fSt} {r : (Option Nat × fSt)} (hf : f_X0_side o p0 h = some r) : fMet l yX0_side (wsC yX0_side cX0_side 2 (some (.object "TapestryScene$Fraction"))) (0) (0) D cA [.ref o, .int p0] h r.2 (some (va_rf r.1)) := by
  exact fMet.of (own := RX0) (by decide +kernel) rfl (lva1 rfl (lva1 rfl lva0)) (lgl1 rfl (lgl1 rfl lgl0)) (Nat.le_of_ble_eq_true rfl) (fun p e s m args below meth c ls hnm _ M hC hl => by
    have hl : lv_has ls 2 [(0, va_rf (some o)), (1, .int p0)] := hl
    exact w_X0_side_L0 M hfl _ _ _ hf _ _ _ _ _ hC (lv_sub hl [0, 1] rfl))
set_option maxHeartbeats 4000000 in
set_option maxRecDepth 100000 in
theorem w_X1_set_L0 {p : Program} {l : Launch} {e : Env} {s : State} {m : MethodId} {args : Array Value} {below : List Frame} {meth : Method} {c : Code} {D : va_G} {cA : Nat → ClassId} {h0 : fSt} {r : (Unit × fSt)} (M : fM p s m args meth c D cA h0 { frames := 1, cells := fCB h0 - fZ h0, slots := fLB h0 - fL h0, locals := 30 } cX1_set 7 none RX1) (hfl : l.stackTraces = false) (a0 : Option Nat) (a1 : Int64) (a3 : Int64) (h : fSt) (hf : f_X1_set_L0 a0 a1 a3 h = some r) : ∀ (H : Heap) (locs : List Loc) (cells slots : Nat) (ls : Array Slot), fCur D cA s h0 h H locs → lv_has ls 7 [(0, va_rf a0), (1, .long a1), (3, .long a3)] → W p l e { frames := 1, cells := fCB h0 - fZ h0, slots := fLB h0 - fL h0, locals := 30 } s m args below meth c H locs cells slots (MQ below (fQ D cA h0 r.2 none) args s (fCB h0 - fZ h0) (fLB h0 - fL h0) (fA h0)) (F0 m 0 ls []) := by
  obtain ⟨hx, hb, hml, hr, hlocks, hts, hown, K, hR⟩ := id M
  intro H locs cells slots ls hC hl
  refine lv_lload_n hx hb dX1_set_0 rfl (lv_at hl 1 rfl) ?_
  refine lv_lload_n hx hb dX1_set_1 rfl (lv_at hl 2 rfl) ?_
  obtain ⟨r1, g2, hf⟩ := obind hf
  refine fr_callSN hx hb hml hts hown K hC hR (c_X7_commonDivisor hfl D cA g2) 2 kw419 kn444 kw418 kw55 (by decide +kernel) ⟨by exact Nat.le_of_ble_eq_true rfl, by exact Nat.le_of_ble_eq_true rfl⟩ rfl hl.1 (cat8 _ (by exact Nat.le_of_ble_eq_true rfl)) dX1_set_2 rfl (fun H locs _ _ hC => ?_)
  refine lv_lstore (lv' := [(5, .long r1.1), (0, va_rf a0), (1, .long a1), (3, .long a3)]) hx hb dX1_set_5 hl (by decide) (congrArg (List.cons _) (flk rfl (flk rfl (flk rfl fln)))) (fun ls hl => ?_)
  refine fr_aload_n hx hb dX1_set_7 rfl (lv_at hl 1 rfl) ?_
  refine lv_lload_n hx hb dX1_set_8 rfl (lv_at hl 2 rfl) ?_
  refine lv_lload hx hb dX1_set_9 (lv_at hl 0 rfl) ?_
  by_cases c3 : r1.1 = 0
  · exact nomatch (opos c3 hf)
  replace hf := oneg c3 hf
  refine lv_ldiv hx hb dX1_set_11 c3 ?_
  obtain ⟨h4, g5, hf⟩ := obind hf
  refine fr_put hx hb hts hown K hC ct_1 g5 (by decide) kw268 rfl rfl rfl rfl dX1_set_12 (fun H locs hC => ?_)
  refine fr_aload_n hx hb dX1_set_15 rfl (lv_at hl 1 rfl) ?_
  refine lv_lload_n hx hb dX1_set_16 rfl (lv_at hl 3 rfl) ?_
  refine lv_lload hx hb dX1_set_17 (lv_at hl 0 rfl) ?_
  by_cases c6 : r1.1 = 0
  · exact nomatch (opos c6 hf)
  replace hf := oneg c6 hf
  refine lv_ldiv hx hb dX1_set_19 c6 ?_
  obtain ⟨h7, g8, hf⟩ := obind hf
  refine fr_put hx hb hts hown K hC ct_1 g8 (by decide) kw270 rfl rfl rfl rfl dX1_set_20 (fun H locs hC => ?_)
  obtain rfl := Option.some.inj hf
  exact fr_vret hx hb hr hlocks hC dX1_set_23
set_option maxRecDepth 100000 in
theorem c_X1_set {l : Launch} (hfl : l.stackTraces = false) (D : va_G) (cA : Nat → ClassId) {o : Nat} {p0 : Int64} {p1 : Int64} {h : fSt} {r : (Unit × fSt)} (hf : f_X1_set o p0 p1 h = some r) : fMet l yX1_set (wsC yX1_set cX1_set 7 none) (1) (30) D cA [.ref o, .long p0, .long p1] h r.2 none := by
  exact fMet.of (own := RX1) (by decide +kernel) rfl (lva1 rfl (lva2 rfl (lva2 rfl lva0))) (lgl1 rfl (lgl2 rfl (lgl2 rfl lgl0))) (Nat.le_of_ble_eq_true rfl) (fun p e s m args below meth c ls hnm _ M hC hl => by
    have hl : lv_has ls 7 [(0, va_rf (some o)), (1, .long p0), (3, .long p1)] := hl
    exact w_X1_set_L0 M hfl _ _ _ _ hf _ _ _ _ _ hC (lv_sub hl [0, 1, 2] rfl))
set_option maxHeartbeats 4000000 in
set_option maxRecDepth 100000 in
theorem w_X0_clear_L0 {p : Program} {l : Launch} {e : Env} {s : State} {m : MethodId} {args : Array Value} {below : List Frame} {meth : Method} {c : Code} {D : va_G} {cA : Nat → ClassId} {h0 : fSt} {r : (Unit × fSt)} (M : fM p s m args meth c D cA h0 { frames := 2, cells := fCB h0 - fZ h0, slots := fLB h0 - fL h0, locals := 56 } cX0_clear 1 none RX0) (hfl : l.stackTraces = false) (a0 : Option Nat) (h : fSt) (hf : f_X0_clear_L0 a0 h = some r) : ∀ (H : Heap) (locs : List Loc) (cells slots : Nat) (ls : Array Slot), fCur D cA s h0 h H locs → lv_has ls 1 [(0, va_rf a0)] → W p l e { frames := 2, cells := fCB h0 - fZ h0, slots := fLB h0 - fL h0, locals := 56 } s m args below meth c H locs cells slots (MQ below (fQ D cA h0 r.2 none) args s (fCB h0 - fZ h0) (fLB h0 - fL h0) (fA h0)) (F0 m 0 ls []) := by
  obtain ⟨hx, hb, hml, hr, hlocks, hts, hown, K, hR⟩ := id M
  intro H locs cells slots ls hC hl
  refine fr_aload_n hx hb dX0_clear_0 rfl (lv_at hl 0 rfl) ?_
  obtain ⟨x1, g2, hf⟩ := obind hf
  refine fr_get hx hb hts hown K hC ct_0 (fgR_get g2) (by decide) kw277 rfl dX0_clear_1 ?_
  refine lv_lconst (v := (0 : Int64)) hx hb dX0_clear_4 (by decide) ?_
  refine lv_lconst (v := (0 : Int64)) hx hb dX0_clear_5 (by decide) ?_
  obtain ⟨b5, q6, hf⟩ := obind hf
  obtain ⟨r3, g4, hf⟩ := obind hf
  refine fr_callV hx hb hml hts hown K hC hR ct_1 (c_X1_set hfl D cA g4) 2 q6 kw443 kw440 kw441 kw442 kw61 (by decide +kernel) ⟨by exact Nat.le_of_ble_eq_true rfl, by exact Nat.le_of_ble_eq_true rfl⟩ rfl hl.1 (cat8 _ (by exact Nat.le_of_ble_eq_true rfl)) dX0_clear_6 rfl (fun H locs _ _ hC => ?_)
  refine fr_aload_n hx hb dX0_clear_9 rfl (lv_at hl 0 rfl) ?_
  obtain ⟨x7, g8, hf⟩ := obind hf
  refine fr_get hx hb hts hown K hC ct_0 (fgR_get g8) (by decide) kw278 rfl dX0_clear_10 ?_
  refine lv_lconst (v := (0 : Int64)) hx hb dX0_clear_13 (by decide) ?_
  refine lv_lconst (v := (0 : Int64)) hx hb dX0_clear_14 (by decide) ?_
  obtain ⟨b11, q12, hf⟩ := obind hf
  obtain ⟨r9, g10, hf⟩ := obind hf
  refine fr_callV hx hb hml hts hown K hC hR ct_1 (c_X1_set hfl D cA g10) 2 q12 kw443 kw440 kw441 kw442 kw61 (by decide +kernel) ⟨by exact Nat.le_of_ble_eq_true rfl, by exact Nat.le_of_ble_eq_true rfl⟩ rfl hl.1 (cat8 _ (by exact Nat.le_of_ble_eq_true rfl)) dX0_clear_15 rfl (fun H locs _ _ hC => ?_)
  refine fr_aload_n hx hb dX0_clear_18 rfl (lv_at hl 0 rfl) ?_
  obtain ⟨x13, g14, hf⟩ := obind hf
  refine fr_get hx hb hts hown K hC ct_0 (fgR_get g14) (by decide) kw279 rfl dX0_clear_19 ?_
  refine lv_lconst (v := (0 : Int64)) hx hb dX0_clear_22 (by decide) ?_
  refine lv_lconst (v := (0 : Int64)) hx hb dX0_clear_23 (by decide) ?_
  obtain ⟨b17, q18, hf⟩ := obind hf
  obtain ⟨r15, g16, hf⟩ := obind hf
  refine fr_callV hx hb hml hts hown K hC hR ct_1 (c_X1_set hfl D cA g16) 2 q18 kw443 kw440 kw441 kw442 kw61 (by decide +kernel) ⟨by exact Nat.le_of_ble_eq_true rfl, by exact Nat.le_of_ble_eq_true rfl⟩ rfl hl.1 (cat8 _ (by exact Nat.le_of_ble_eq_true rfl)) dX0_clear_24 rfl (fun H locs _ _ hC => ?_)
  refine fr_aload_n hx hb dX0_clear_27 rfl (lv_at hl 0 rfl) ?_
  obtain ⟨x19, g20, hf⟩ := obind hf
  refine fr_get hx hb hts hown K hC ct_0 (fgR_get g20) (by decide) kw280 rfl dX0_clear_28 ?_
  refine lv_lconst (v := (0 : Int64)) hx hb dX0_clear_31 (by decide) ?_
  refine lv_lconst (v := (0 : Int64)) hx hb dX0_clear_32 (by decide) ?_
  obtain ⟨b23, q24, hf⟩ := obind hf
  obtain ⟨r21, g22, hf⟩ := obind hf
  refine fr_callV hx hb hml hts hown K hC hR ct_1 (c_X1_set hfl D cA g22) 2 q24 kw443 kw440 kw441 kw442 kw61 (by decide +kernel) ⟨by exact Nat.le_of_ble_eq_true rfl, by exact Nat.le_of_ble_eq_true rfl⟩ rfl hl.1 (cat8 _ (by exact Nat.le_of_ble_eq_true rfl)) dX0_clear_33 rfl (fun H locs _ _ hC => ?_)
  obtain rfl := Option.some.inj hf
  exact fr_vret hx hb hr hlocks hC dX0_clear_36
set_option maxRecDepth 100000 in
theorem c_X0_clear {l : Launch} (hfl : l.stackTraces = false) (D : va_G) (cA : Nat → ClassId) {o : Nat} {h : fSt} {r : (Unit × fSt)} (hf : f_X0_clear o h = some r) : fMet l yX0_clear (wsC yX0_clear cX0_clear 1 none) (2) (56) D cA [.ref o] h r.2 none := by
  exact fMet.of (own := RX0) (by decide +kernel) rfl (lva1 rfl lva0) (lgl1 rfl lgl0) (Nat.le_of_ble_eq_true rfl) (fun p e s m args below meth c ls hnm _ M hC hl => by
    have hl : lv_has ls 1 [(0, va_rf (some o))] := hl
    exact w_X0_clear_L0 M hfl _ _ hf _ _ _ _ _ hC (lv_sub hl [0] rfl))
set_option maxHeartbeats 4000000 in
set_option maxRecDepth 100000 in
theorem w_X1_lowerTo_L31 {p : Program} {l : Launch} {e : Env} {s : State} {m : MethodId} {args : Array Value} {below : List Frame} {meth : Method} {c : Code} {D : va_G} {cA : Nat → ClassId} {h0 : fSt} {r : (Unit × fSt)} (M : fM p s m args meth c D cA h0 { frames := 2, cells := fCB h0 - fZ h0, slots := fLB h0 - fL h0, locals := 56 } cX1_lowerTo 5 none RX1) (hfl : l.stackTraces = false)  (h : fSt) (hf : f_X1_lowerTo_L31  h = some r) : ∀ (H : Heap) (locs : List Loc) (cells slots : Nat) (ls : Array Slot), fCur D cA s h0 h H locs → lv_has ls 5 [] → W p l e { frames := 2, cells := fCB h0 - fZ h0, slots := fLB h0 - fL h0, locals := 56 } s m args below meth c H locs cells slots (MQ below (fQ D cA h0 r.2 none) args s (fCB h0 - fZ h0) (fLB h0 - fL h0) (fA h0)) (F0 m 31 ls []) := by
  obtain ⟨hx, hb, hml, hr, hlocks, hts, hown, K, hR⟩ := id M
  intro H locs cells slots ls hC hl
  obtain rfl := Option.some.inj hf
  exact fr_vret hx hb hr hlocks hC dX1_lowerTo_31
set_option maxHeartbeats 4000000 in
set_option maxRecDepth 100000 in
theorem w_X1_lowerTo_L25 {p : Program} {l : Launch} {e : Env} {s : State} {m : MethodId} {args : Array Value} {below : List Frame} {meth : Method} {c : Code} {D : va_G} {cA : Nat → ClassId} {h0 : fSt} {r : (Unit × fSt)} (M : fM p s m args meth c D cA h0 { frames := 2, cells := fCB h0 - fZ h0, slots := fLB h0 - fL h0, locals := 56 } cX1_lowerTo 5 none RX1) (hfl : l.stackTraces = false) (a0 : Option Nat) (a1 : Int64) (a3 : Int64) (h : fSt) (hf : f_X1_lowerTo_L25 a0 a1 a3 h = some r) : ∀ (H : Heap) (locs : List Loc) (cells slots : Nat) (ls : Array Slot), fCur D cA s h0 h H locs → lv_has ls 5 [(0, va_rf a0), (1, .long a1), (3, .long a3)] → W p l e { frames := 2, cells := fCB h0 - fZ h0, slots := fLB h0 - fL h0, locals := 56 } s m args below meth c H locs cells slots (MQ below (fQ D cA h0 r.2 none) args s (fCB h0 - fZ h0) (fLB h0 - fL h0) (fA h0)) (F0 m 25 ls []) := by
  obtain ⟨hx, hb, hml, hr, hlocks, hts, hown, K, hR⟩ := id M
  intro H locs cells slots ls hC hl
  refine fr_aload_n hx hb dX1_lowerTo_25 rfl (lv_at hl 0 rfl) ?_
  refine lv_lload_n hx hb dX1_lowerTo_26 rfl (lv_at hl 1 rfl) ?_
  refine lv_lload_n hx hb dX1_lowerTo_27 rfl (lv_at hl 2 rfl) ?_
  obtain ⟨b3, q4, hf⟩ := obind hf
  obtain ⟨r1, g2, hf⟩ := obind hf
  refine fr_callV hx hb hml hts hown K hC hR ct_1 (c_X1_set hfl D cA g2) 2 q4 kw443 kw457 kw441 kw442 kw61 (by decide +kernel) ⟨by exact Nat.le_of_ble_eq_true rfl, by exact Nat.le_of_ble_eq_true rfl⟩ rfl hl.1 (cat8 _ (by exact Nat.le_of_ble_eq_true rfl)) dX1_lowerTo_28 rfl (fun H locs _ _ hC => ?_)
  exact w_X1_lowerTo_L31 M hfl _ hf _ _ _ _ _ hC (lv_sub hl [] rfl)
set_option maxHeartbeats 4000000 in
set_option maxRecDepth 100000 in
theorem w_X1_lowerTo_L0 {p : Program} {l : Launch} {e : Env} {s : State} {m : MethodId} {args : Array Value} {below : List Frame} {meth : Method} {c : Code} {D : va_G} {cA : Nat → ClassId} {h0 : fSt} {r : (Unit × fSt)} (M : fM p s m args meth c D cA h0 { frames := 2, cells := fCB h0 - fZ h0, slots := fLB h0 - fL h0, locals := 56 } cX1_lowerTo 5 none RX1) (hfl : l.stackTraces = false) (a0 : Option Nat) (a1 : Int64) (a3 : Int64) (h : fSt) (hf : f_X1_lowerTo_L0 a0 a1 a3 h = some r) : ∀ (H : Heap) (locs : List Loc) (cells slots : Nat) (ls : Array Slot), fCur D cA s h0 h H locs → lv_has ls 5 [(0, va_rf a0), (1, .long a1), (3, .long a3)] → W p l e { frames := 2, cells := fCB h0 - fZ h0, slots := fLB h0 - fL h0, locals := 56 } s m args below meth c H locs cells slots (MQ below (fQ D cA h0 r.2 none) args s (fCB h0 - fZ h0) (fLB h0 - fL h0) (fA h0)) (F0 m 0 ls []) := by
  obtain ⟨hx, hb, hml, hr, hlocks, hts, hown, K, hR⟩ := id M
  intro H locs cells slots ls hC hl
  refine fr_aload_n hx hb dX1_lowerTo_0 rfl (lv_at hl 0 rfl) ?_
  obtain ⟨x5, g6, hf⟩ := obind hf
  refine fr_get hx hb hts hown K hC ct_1 (fgJ_get g6) (by decide) kw270 rfl dX1_lowerTo_1 ?_
  refine lv_lconst (v := (0 : Int64)) hx hb dX1_lowerTo_4 (by decide) ?_
  refine fr_lcmp_eq (tgt := 25) hx hb dX1_lowerTo_5 dX1_lowerTo_6 (by decide) (fun c7 => ?_) (fun c7 => ?_)
  · replace hf := opos c7 hf
    exact w_X1_lowerTo_L25 M hfl _ _ _ _ hf _ _ _ _ _ hC (lv_sub hl [0, 1, 2] rfl)
  · replace hf := oneg c7 hf
    refine lv_lload_n hx hb dX1_lowerTo_9 rfl (lv_at hl 1 rfl) ?_
    refine fr_aload_n hx hb dX1_lowerTo_10 rfl (lv_at hl 0 rfl) ?_
    obtain ⟨x8, g9, hf⟩ := obind hf
    refine fr_get hx hb hts hown K hC ct_1 (fgJ_get g9) (by decide) kw270 rfl dX1_lowerTo_11 ?_
    refine lv_lmul hx hb dX1_lowerTo_14 ?_
    refine fr_aload_n hx hb dX1_lowerTo_15 rfl (lv_at hl 0 rfl) ?_
    obtain ⟨x10, g11, hf⟩ := obind hf
    refine fr_get hx hb hts hown K hC ct_1 (fgJ_get g11) (by decide) kw268 rfl dX1_lowerTo_16 ?_
    refine lv_lload_n hx hb dX1_lowerTo_19 rfl (lv_at hl 2 rfl) ?_
    refine lv_lmul hx hb dX1_lowerTo_20 ?_
    refine fr_lcmp_ge (tgt := 31) hx hb dX1_lowerTo_21 dX1_lowerTo_22 (by decide) (fun c12 => ?_) (fun c12 => ?_)
    · replace hf := opos c12 hf
      exact w_X1_lowerTo_L31 M hfl _ hf _ _ _ _ _ hC (lv_sub hl [] rfl)
    · replace hf := oneg c12 hf
      exact w_X1_lowerTo_L25 M hfl _ _ _ _ hf _ _ _ _ _ hC (lv_sub hl [0, 1, 2] rfl)
set_option maxRecDepth 100000 in
theorem c_X1_lowerTo {l : Launch} (hfl : l.stackTraces = false) (D : va_G) (cA : Nat → ClassId) {o : Nat} {p0 : Int64} {p1 : Int64} {h : fSt} {r : (Unit × fSt)} (hf : f_X1_lowerTo o p0 p1 h = some r) : fMet l yX1_lowerTo (wsC yX1_lowerTo cX1_lowerTo 5 none) (2) (56) D cA [.ref o, .long p0, .long p1] h r.2 none := by
  exact fMet.of (own := RX1) (by decide +kernel) rfl (lva1 rfl (lva2 rfl (lva2 rfl lva0))) (lgl1 rfl (lgl2 rfl (lgl2 rfl lgl0))) (Nat.le_of_ble_eq_true rfl) (fun p e s m args below meth c ls hnm _ M hC hl => by
    have hl : lv_has ls 5 [(0, va_rf (some o)), (1, .long p0), (3, .long p1)] := hl
    exact w_X1_lowerTo_L0 M hfl _ _ _ _ hf _ _ _ _ _ hC (lv_sub hl [0, 1, 2] rfl))
set_option maxHeartbeats 4000000 in
set_option maxRecDepth 100000 in
theorem w_X1_raiseTo_L31 {p : Program} {l : Launch} {e : Env} {s : State} {m : MethodId} {args : Array Value} {below : List Frame} {meth : Method} {c : Code} {D : va_G} {cA : Nat → ClassId} {h0 : fSt} {r : (Unit × fSt)} (M : fM p s m args meth c D cA h0 { frames := 2, cells := fCB h0 - fZ h0, slots := fLB h0 - fL h0, locals := 56 } cX1_raiseTo 5 none RX1) (hfl : l.stackTraces = false)  (h : fSt) (hf : f_X1_raiseTo_L31  h = some r) : ∀ (H : Heap) (locs : List Loc) (cells slots : Nat) (ls : Array Slot), fCur D cA s h0 h H locs → lv_has ls 5 [] → W p l e { frames := 2, cells := fCB h0 - fZ h0, slots := fLB h0 - fL h0, locals := 56 } s m args below meth c H locs cells slots (MQ below (fQ D cA h0 r.2 none) args s (fCB h0 - fZ h0) (fLB h0 - fL h0) (fA h0)) (F0 m 31 ls []) := by
  obtain ⟨hx, hb, hml, hr, hlocks, hts, hown, K, hR⟩ := id M
  intro H locs cells slots ls hC hl
  obtain rfl := Option.some.inj hf
  exact fr_vret hx hb hr hlocks hC dX1_raiseTo_31
set_option maxHeartbeats 4000000 in
set_option maxRecDepth 100000 in
theorem w_X1_raiseTo_L25 {p : Program} {l : Launch} {e : Env} {s : State} {m : MethodId} {args : Array Value} {below : List Frame} {meth : Method} {c : Code} {D : va_G} {cA : Nat → ClassId} {h0 : fSt} {r : (Unit × fSt)} (M : fM p s m args meth c D cA h0 { frames := 2, cells := fCB h0 - fZ h0, slots := fLB h0 - fL h0, locals := 56 } cX1_raiseTo 5 none RX1) (hfl : l.stackTraces = false) (a0 : Option Nat) (a1 : Int64) (a3 : Int64) (h : fSt) (hf : f_X1_raiseTo_L25 a0 a1 a3 h = some r) : ∀ (H : Heap) (locs : List Loc) (cells slots : Nat) (ls : Array Slot), fCur D cA s h0 h H locs → lv_has ls 5 [(0, va_rf a0), (1, .long a1), (3, .long a3)] → W p l e { frames := 2, cells := fCB h0 - fZ h0, slots := fLB h0 - fL h0, locals := 56 } s m args below meth c H locs cells slots (MQ below (fQ D cA h0 r.2 none) args s (fCB h0 - fZ h0) (fLB h0 - fL h0) (fA h0)) (F0 m 25 ls []) := by
  obtain ⟨hx, hb, hml, hr, hlocks, hts, hown, K, hR⟩ := id M
  intro H locs cells slots ls hC hl
  refine fr_aload_n hx hb dX1_raiseTo_25 rfl (lv_at hl 0 rfl) ?_
  refine lv_lload_n hx hb dX1_raiseTo_26 rfl (lv_at hl 1 rfl) ?_
  refine lv_lload_n hx hb dX1_raiseTo_27 rfl (lv_at hl 2 rfl) ?_
  obtain ⟨b3, q4, hf⟩ := obind hf
  obtain ⟨r1, g2, hf⟩ := obind hf
  refine fr_callV hx hb hml hts hown K hC hR ct_1 (c_X1_set hfl D cA g2) 2 q4 kw443 kw457 kw441 kw442 kw61 (by decide +kernel) ⟨by exact Nat.le_of_ble_eq_true rfl, by exact Nat.le_of_ble_eq_true rfl⟩ rfl hl.1 (cat8 _ (by exact Nat.le_of_ble_eq_true rfl)) dX1_raiseTo_28 rfl (fun H locs _ _ hC => ?_)
  exact w_X1_raiseTo_L31 M hfl _ hf _ _ _ _ _ hC (lv_sub hl [] rfl)
set_option maxHeartbeats 4000000 in
set_option maxRecDepth 100000 in
theorem w_X1_raiseTo_L0 {p : Program} {l : Launch} {e : Env} {s : State} {m : MethodId} {args : Array Value} {below : List Frame} {meth : Method} {c : Code} {D : va_G} {cA : Nat → ClassId} {h0 : fSt} {r : (Unit × fSt)} (M : fM p s m args meth c D cA h0 { frames := 2, cells := fCB h0 - fZ h0, slots := fLB h0 - fL h0, locals := 56 } cX1_raiseTo 5 none RX1) (hfl : l.stackTraces = false) (a0 : Option Nat) (a1 : Int64) (a3 : Int64) (h : fSt) (hf : f_X1_raiseTo_L0 a0 a1 a3 h = some r) : ∀ (H : Heap) (locs : List Loc) (cells slots : Nat) (ls : Array Slot), fCur D cA s h0 h H locs → lv_has ls 5 [(0, va_rf a0), (1, .long a1), (3, .long a3)] → W p l e { frames := 2, cells := fCB h0 - fZ h0, slots := fLB h0 - fL h0, locals := 56 } s m args below meth c H locs cells slots (MQ below (fQ D cA h0 r.2 none) args s (fCB h0 - fZ h0) (fLB h0 - fL h0) (fA h0)) (F0 m 0 ls []) := by
  obtain ⟨hx, hb, hml, hr, hlocks, hts, hown, K, hR⟩ := id M
  intro H locs cells slots ls hC hl
  refine fr_aload_n hx hb dX1_raiseTo_0 rfl (lv_at hl 0 rfl) ?_
  obtain ⟨x5, g6, hf⟩ := obind hf
  refine fr_get hx hb hts hown K hC ct_1 (fgJ_get g6) (by decide) kw270 rfl dX1_raiseTo_1 ?_
  refine lv_lconst (v := (0 : Int64)) hx hb dX1_raiseTo_4 (by decide) ?_
  refine fr_lcmp_eq (tgt := 25) hx hb dX1_raiseTo_5 dX1_raiseTo_6 (by decide) (fun c7 => ?_) (fun c7 => ?_)
  · replace hf := opos c7 hf
    exact w_X1_raiseTo_L25 M hfl _ _ _ _ hf _ _ _ _ _ hC (lv_sub hl [0, 1, 2] rfl)
  · replace hf := oneg c7 hf
    refine lv_lload_n hx hb dX1_raiseTo_9 rfl (lv_at hl 1 rfl) ?_
    refine fr_aload_n hx hb dX1_raiseTo_10 rfl (lv_at hl 0 rfl) ?_
    obtain ⟨x8, g9, hf⟩ := obind hf
    refine fr_get hx hb hts hown K hC ct_1 (fgJ_get g9) (by decide) kw270 rfl dX1_raiseTo_11 ?_
    refine lv_lmul hx hb dX1_raiseTo_14 ?_
    refine fr_aload_n hx hb dX1_raiseTo_15 rfl (lv_at hl 0 rfl) ?_
    obtain ⟨x10, g11, hf⟩ := obind hf
    refine fr_get hx hb hts hown K hC ct_1 (fgJ_get g11) (by decide) kw268 rfl dX1_raiseTo_16 ?_
    refine lv_lload_n hx hb dX1_raiseTo_19 rfl (lv_at hl 2 rfl) ?_
    refine lv_lmul hx hb dX1_raiseTo_20 ?_
    refine fr_lcmp_le (tgt := 31) hx hb dX1_raiseTo_21 dX1_raiseTo_22 (by decide) (fun c12 => ?_) (fun c12 => ?_)
    · replace hf := opos c12 hf
      exact w_X1_raiseTo_L31 M hfl _ hf _ _ _ _ _ hC (lv_sub hl [] rfl)
    · replace hf := oneg c12 hf
      exact w_X1_raiseTo_L25 M hfl _ _ _ _ hf _ _ _ _ _ hC (lv_sub hl [0, 1, 2] rfl)
set_option maxRecDepth 100000 in
theorem c_X1_raiseTo {l : Launch} (hfl : l.stackTraces = false) (D : va_G) (cA : Nat → ClassId) {o : Nat} {p0 : Int64} {p1 : Int64} {h : fSt} {r : (Unit × fSt)} (hf : f_X1_raiseTo o p0 p1 h = some r) : fMet l yX1_raiseTo (wsC yX1_raiseTo cX1_raiseTo 5 none) (2) (56) D cA [.ref o, .long p0, .long p1] h r.2 none := by
  exact fMet.of (own := RX1) (by decide +kernel) rfl (lva1 rfl (lva2 rfl (lva2 rfl lva0))) (lgl1 rfl (lgl2 rfl (lgl2 rfl lgl0))) (Nat.le_of_ble_eq_true rfl) (fun p e s m args below meth c ls hnm _ M hC hl => by
    have hl : lv_has ls 5 [(0, va_rf (some o)), (1, .long p0), (3, .long p1)] := hl
    exact w_X1_raiseTo_L0 M hfl _ _ _ _ hf _ _ _ _ _ hC (lv_sub hl [0, 1, 2] rfl))
set_option maxHeartbeats 4000000 in
set_option maxRecDepth 100000 in
theorem w_X0_include_L0 {p : Program} {l : Launch} {e : Env} {s : State} {m : MethodId} {args : Array Value} {below : List Frame} {meth : Method} {c : Code} {D : va_G} {cA : Nat → ClassId} {h0 : fSt} {r : (Unit × fSt)} (M : fM p s m args meth c D cA h0 { frames := 3, cells := fCB h0 - fZ h0, slots := fLB h0 - fL h0, locals := 80 } cX0_include 2 none RX0) (hfl : l.stackTraces = false) (a0 : Option Nat) (a1 : Option Nat) (h : fSt) (hf : f_X0_include_L0 a0 a1 h = some r) : ∀ (H : Heap) (locs : List Loc) (cells slots : Nat) (ls : Array Slot), fCur D cA s h0 h H locs → lv_has ls 2 [(0, va_rf a0), (1, va_rf a1)] → W p l e { frames := 3, cells := fCB h0 - fZ h0, slots := fLB h0 - fL h0, locals := 80 } s m args below meth c H locs cells slots (MQ below (fQ D cA h0 r.2 none) args s (fCB h0 - fZ h0) (fLB h0 - fL h0) (fA h0)) (F0 m 0 ls []) := by
  obtain ⟨hx, hb, hml, hr, hlocks, hts, hown, K, hR⟩ := id M
  intro H locs cells slots ls hC hl
  refine fr_aload_n hx hb dX0_include_0 rfl (lv_at hl 0 rfl) ?_
  obtain ⟨x1, g2, hf⟩ := obind hf
  refine fr_get hx hb hts hown K hC ct_0 (fgR_get g2) (by decide) kw277 rfl dX0_include_1 ?_
  refine fr_aload_n hx hb dX0_include_4 rfl (lv_at hl 1 rfl) ?_
  obtain ⟨x3, g4, hf⟩ := obind hf
  refine fr_get hx hb hts hown K hC ct_5 (fgJ_get g4) (by decide) kw238 rfl dX0_include_5 ?_
  refine fr_aload_n hx hb dX0_include_8 rfl (lv_at hl 1 rfl) ?_
  obtain ⟨x5, g6, hf⟩ := obind hf
  refine fr_get hx hb hts hown K hC ct_5 (fgJ_get g6) (by decide) kw244 rfl dX0_include_9 ?_
  obtain ⟨b9, q10, hf⟩ := obind hf
  obtain ⟨r7, g8, hf⟩ := obind hf
  refine fr_callV hx hb hml hts hown K hC hR ct_1 (c_X1_lowerTo hfl D cA g8) 2 q10 kw456 kw453 kw454 kw455 kw61 (by decide +kernel) ⟨by exact Nat.le_of_ble_eq_true rfl, by exact Nat.le_of_ble_eq_true rfl⟩ rfl hl.1 (cat8 _ (by exact Nat.le_of_ble_eq_true rfl)) dX0_include_12 rfl (fun H locs _ _ hC => ?_)
  refine fr_aload_n hx hb dX0_include_15 rfl (lv_at hl 0 rfl) ?_
  obtain ⟨x11, g12, hf⟩ := obind hf
  refine fr_get hx hb hts hown K hC ct_0 (fgR_get g12) (by decide) kw278 rfl dX0_include_16 ?_
  refine fr_aload_n hx hb dX0_include_19 rfl (lv_at hl 1 rfl) ?_
  obtain ⟨x13, g14, hf⟩ := obind hf
  refine fr_get hx hb hts hown K hC ct_5 (fgJ_get g14) (by decide) kw241 rfl dX0_include_20 ?_
  refine fr_aload_n hx hb dX0_include_23 rfl (lv_at hl 1 rfl) ?_
  obtain ⟨x15, g16, hf⟩ := obind hf
  refine fr_get hx hb hts hown K hC ct_5 (fgJ_get g16) (by decide) kw244 rfl dX0_include_24 ?_
  obtain ⟨b19, q20, hf⟩ := obind hf
  obtain ⟨r17, g18, hf⟩ := obind hf
  refine fr_callV hx hb hml hts hown K hC hR ct_1 (c_X1_lowerTo hfl D cA g18) 2 q20 kw456 kw453 kw454 kw455 kw61 (by decide +kernel) ⟨by exact Nat.le_of_ble_eq_true rfl, by exact Nat.le_of_ble_eq_true rfl⟩ rfl hl.1 (cat8 _ (by exact Nat.le_of_ble_eq_true rfl)) dX0_include_27 rfl (fun H locs _ _ hC => ?_)
  refine fr_aload_n hx hb dX0_include_30 rfl (lv_at hl 0 rfl) ?_
  obtain ⟨x21, g22, hf⟩ := obind hf
  refine fr_get hx hb hts hown K hC ct_0 (fgR_get g22) (by decide) kw279 rfl dX0_include_31 ?_
  refine fr_aload_n hx hb dX0_include_34 rfl (lv_at hl 1 rfl) ?_
  obtain ⟨x23, g24, hf⟩ := obind hf
  refine fr_get hx hb hts hown K hC ct_5 (fgJ_get g24) (by decide) kw238 rfl dX0_include_35 ?_
  refine fr_aload_n hx hb dX0_include_38 rfl (lv_at hl 1 rfl) ?_
  obtain ⟨x25, g26, hf⟩ := obind hf
  refine fr_get hx hb hts hown K hC ct_5 (fgJ_get g26) (by decide) kw244 rfl dX0_include_39 ?_
  obtain ⟨b29, q30, hf⟩ := obind hf
  obtain ⟨r27, g28, hf⟩ := obind hf
  refine fr_callV hx hb hml hts hown K hC hR ct_1 (c_X1_raiseTo hfl D cA g28) 2 q30 kw461 kw458 kw459 kw460 kw61 (by decide +kernel) ⟨by exact Nat.le_of_ble_eq_true rfl, by exact Nat.le_of_ble_eq_true rfl⟩ rfl hl.1 (cat8 _ (by exact Nat.le_of_ble_eq_true rfl)) dX0_include_42 rfl (fun H locs _ _ hC => ?_)
  refine fr_aload_n hx hb dX0_include_45 rfl (lv_at hl 0 rfl) ?_
  obtain ⟨x31, g32, hf⟩ := obind hf
  refine fr_get hx hb hts hown K hC ct_0 (fgR_get g32) (by decide) kw280 rfl dX0_include_46 ?_
  refine fr_aload_n hx hb dX0_include_49 rfl (lv_at hl 1 rfl) ?_
  obtain ⟨x33, g34, hf⟩ := obind hf
  refine fr_get hx hb hts hown K hC ct_5 (fgJ_get g34) (by decide) kw241 rfl dX0_include_50 ?_
  refine fr_aload_n hx hb dX0_include_53 rfl (lv_at hl 1 rfl) ?_
  obtain ⟨x35, g36, hf⟩ := obind hf
  refine fr_get hx hb hts hown K hC ct_5 (fgJ_get g36) (by decide) kw244 rfl dX0_include_54 ?_
  obtain ⟨b39, q40, hf⟩ := obind hf
  obtain ⟨r37, g38, hf⟩ := obind hf
  refine fr_callV hx hb hml hts hown K hC hR ct_1 (c_X1_raiseTo hfl D cA g38) 2 q40 kw461 kw458 kw459 kw460 kw61 (by decide +kernel) ⟨by exact Nat.le_of_ble_eq_true rfl, by exact Nat.le_of_ble_eq_true rfl⟩ rfl hl.1 (cat8 _ (by exact Nat.le_of_ble_eq_true rfl)) dX0_include_57 rfl (fun H locs _ _ hC => ?_)
  obtain rfl := Option.some.inj hf
  exact fr_vret hx hb hr hlocks hC dX0_include_60
set_option maxRecDepth 100000 in
theorem c_X0_include {l : Launch} (hfl : l.stackTraces = false) (D : va_G) (cA : Nat → ClassId) {o : Nat} {p0 : Option Nat} {h : fSt} {r : (Unit × fSt)} (hf : f_X0_include o p0 h = some r) : fMet l yX0_include (wsC yX0_include cX0_include 2 none) (3) (80) D cA [.ref o, va_rf p0] h r.2 none := by
  exact fMet.of (own := RX0) (by decide +kernel) rfl (lva1 rfl (lva1 (va_rf_cat _) lva0)) (lgl1 rfl (lgl1 (va_rf_cat _) lgl0)) (Nat.le_of_ble_eq_true rfl) (fun p e s m args below meth c ls hnm _ M hC hl => by
    have hl : lv_has ls 2 [(0, va_rf (some o)), (1, va_rf p0)] := hl
    exact w_X0_include_L0 M hfl _ _ _ hf _ _ _ _ _ hC (lv_sub hl [0, 1] rfl))
set_option maxHeartbeats 4000000 in
set_option maxRecDepth 100000 in
theorem w_X4_isShownAt_L24 {p : Program} {l : Launch} {e : Env} {s : State} {m : MethodId} {args : Array Value} {below : List Frame} {meth : Method} {c : Code} {D : va_G} {cA : Nat → ClassId} {h0 : fSt} {r : (Int32 × fSt)} (M : fM p s m args meth c D cA h0 { frames := 2, cells := fCB h0 - fZ h0, slots := fLB h0 - fL h0, locals := 52 } cX4_isShownAt 3 (some (.boolean)) RX4) (hfl : l.stackTraces = false)  (h : fSt) (hf : f_X4_isShownAt_L24  h = some r) : ∀ (H : Heap) (locs : List Loc) (cells slots : Nat) (ls : Array Slot), fCur D cA s h0 h H locs → lv_has ls 3 [] → W p l e { frames := 2, cells := fCB h0 - fZ h0, slots := fLB h0 - fL h0, locals := 52 } s m args below meth c H locs cells slots (MQ below (fQ D cA h0 r.2 (some (.int r.1))) args s (fCB h0 - fZ h0) (fLB h0 - fL h0) (fA h0)) (F0 m 24 ls []) := by
  obtain ⟨hx, hb, hml, hr, hlocks, hts, hown, K, hR⟩ := id M
  intro H locs cells slots ls hC hl
  refine lv_iconst (v := (0 : Int32)) hx hb dX4_isShownAt_24 (by decide) ?_
  obtain rfl := Option.some.inj hf
  exact fr_zret hx hb hr hlocks hC (Or.inl rfl) dX4_isShownAt_25
set_option maxHeartbeats 4000000 in
set_option maxRecDepth 100000 in
theorem w_X4_isShownAt_L2 {p : Program} {l : Launch} {e : Env} {s : State} {m : MethodId} {args : Array Value} {below : List Frame} {meth : Method} {c : Code} {D : va_G} {cA : Nat → ClassId} {h0 : fSt} {r : (Int32 × fSt)} (M : fM p s m args meth c D cA h0 { frames := 2, cells := fCB h0 - fZ h0, slots := fLB h0 - fL h0, locals := 52 } cX4_isShownAt 3 (some (.boolean)) RX4) (hfl : l.stackTraces = false) : ∀ (n : Nat) (a1 : Int32) (a2 : Option Nat) (h : fSt), f_X4_isShownAt_L2 n a1 a2 h = some r → ∀ (H : Heap) (locs : List Loc) (cells slots : Nat) (ls : Array Slot), fCur D cA s h0 h H locs → lv_has ls 3 [(1, .int a1), (2, va_rf a2)] → W p l e { frames := 2, cells := fCB h0 - fZ h0, slots := fLB h0 - fL h0, locals := 52 } s m args below meth c H locs cells slots (MQ below (fQ D cA h0 r.2 (some (.int r.1))) args s (fCB h0 - fZ h0) (fLB h0 - fL h0) (fA h0)) (F0 m 2 ls []) := by
  obtain ⟨hx, hb, hml, hr, hlocks, hts, hown, K, hR⟩ := id M
  intro n
  induction n with
  | zero =>
    intro a1 a2 h hf
    exact nomatch (show (none : Option (Int32 × fSt)) = some r from hf)
  | succ n hk2 =>
    intro a1 a2 h hf H locs cells slots ls hC hl
    refine fr_aload_n hx hb dX4_isShownAt_2 rfl (lv_at hl 1 rfl) ?_
    refine fr_ifnull (tgt := 34) hx hb dX4_isShownAt_3 (by decide) (fun c1 => ?_) (fun c1 => ?_)
    · replace hf := opos c1 hf
      refine lv_iconst (v := (1 : Int32)) hx hb dX4_isShownAt_34 (by decide) ?_
      obtain rfl := Option.some.inj hf
      exact fr_zret hx hb hr hlocks hC (Or.inr rfl) dX4_isShownAt_35
    · replace hf := oneg c1 hf
      refine fr_aload_n hx hb dX4_isShownAt_6 rfl (lv_at hl 1 rfl) ?_
      obtain ⟨x2, g3, hf⟩ := obind hf
      refine fr_get hx hb hts hown K hC ct_4 (fgI_get g3) (by decide) kw178 rfl dX4_isShownAt_7 ?_
      refine lv_if_ne (tgt := 24) hx hb dX4_isShownAt_10 (by decide) (fun c4 => ?_) (fun c4 => ?_)
      · replace hf := oneg c4 hf
        exact w_X4_isShownAt_L24 M hfl _ hf _ _ _ _ _ hC (lv_sub hl [] rfl)
      · replace hf := opos c4 hf
        refine fr_aload_n hx hb dX4_isShownAt_13 rfl (lv_at hl 1 rfl) ?_
        obtain ⟨x5, g6, hf⟩ := obind hf
        refine fr_get hx hb hts hown K hC ct_4 (fgR_get g6) (by decide) kw166 rfl dX4_isShownAt_14 ?_
        refine lv_iload_n hx hb dX4_isShownAt_17 rfl (lv_at hl 0 rfl) ?_
        obtain ⟨b9, q10, hf⟩ := obind hf
        obtain ⟨r7, g8, hf⟩ := obind hf
        refine fr_callV hx hb hml hts hown K hC hR ct_6 (c_X6_at hfl D cA g8) 1 q10 kw369 kw388 kw367 kw368 kw57 (by decide +kernel) ⟨by exact Nat.le_of_ble_eq_true rfl, by exact Nat.le_of_ble_eq_true rfl⟩ rfl hl.1 (cat8 _ (by exact Nat.le_of_ble_eq_true rfl)) dX4_isShownAt_18 rfl (fun H locs _ _ hC => ?_)
        refine lv_if_ne (tgt := 26) hx hb dX4_isShownAt_21 (by decide) (fun c11 => ?_) (fun c11 => ?_)
        · replace hf := oneg c11 hf
          refine fr_aload_n hx hb dX4_isShownAt_26 rfl (lv_at hl 1 rfl) ?_
          obtain ⟨x12, g13, hf⟩ := obind hf
          refine fr_get hx hb hts hown K hC ct_4 (fgR_get g13) (by decide) kw183 rfl dX4_isShownAt_27 ?_
          refine fr_astore_n (lv' := [(2, va_rf x12), (1, .int a1)]) hx hb dX4_isShownAt_30 rfl hl (by decide) (congrArg (List.cons _) (flk rfl (fld rfl fln))) (fun ls hl => ?_)
          refine lv_goto (tgt := 2) hx hb dX4_isShownAt_31 (by decide) ?_
          exact hk2 _ _ _ hf _ _ _ _ _ hC (lv_sub hl [1, 0] rfl)
        · replace hf := opos c11 hf
          exact w_X4_isShownAt_L24 M hfl _ hf _ _ _ _ _ hC (lv_sub hl [] rfl)
set_option maxHeartbeats 4000000 in
set_option maxRecDepth 100000 in
theorem w_X4_isShownAt_L0 {p : Program} {l : Launch} {e : Env} {s : State} {m : MethodId} {args : Array Value} {below : List Frame} {meth : Method} {c : Code} {D : va_G} {cA : Nat → ClassId} {h0 : fSt} {r : (Int32 × fSt)} (M : fM p s m args meth c D cA h0 { frames := 2, cells := fCB h0 - fZ h0, slots := fLB h0 - fL h0, locals := 52 } cX4_isShownAt 3 (some (.boolean)) RX4) (hfl : l.stackTraces = false) (a0 : Option Nat) (a1 : Int32) (h : fSt) (hf : f_X4_isShownAt_L0 a0 a1 h = some r) : ∀ (H : Heap) (locs : List Loc) (cells slots : Nat) (ls : Array Slot), fCur D cA s h0 h H locs → lv_has ls 3 [(0, va_rf a0), (1, .int a1)] → W p l e { frames := 2, cells := fCB h0 - fZ h0, slots := fLB h0 - fL h0, locals := 52 } s m args below meth c H locs cells slots (MQ below (fQ D cA h0 r.2 (some (.int r.1))) args s (fCB h0 - fZ h0) (fLB h0 - fL h0) (fA h0)) (F0 m 0 ls []) := by
  obtain ⟨hx, hb, hml, hr, hlocks, hts, hown, K, hR⟩ := id M
  intro H locs cells slots ls hC hl
  refine fr_aload_n hx hb dX4_isShownAt_0 rfl (lv_at hl 0 rfl) ?_
  refine fr_astore_n (lv' := [(2, va_rf a0), (0, va_rf a0), (1, .int a1)]) hx hb dX4_isShownAt_1 rfl hl (by decide) (congrArg (List.cons _) (flk rfl (flk rfl fln))) (fun ls hl => ?_)
  exact w_X4_isShownAt_L2 M hfl 4096 _ _ _ hf _ _ _ _ _ hC (lv_sub hl [2, 0] rfl)
set_option maxRecDepth 100000 in
theorem c_X4_isShownAt {l : Launch} (hfl : l.stackTraces = false) (D : va_G) (cA : Nat → ClassId) {o : Nat} {p0 : Int32} {h : fSt} {r : (Int32 × fSt)} (hf : f_X4_isShownAt o p0 h = some r) : fMet l yX4_isShownAt (wsC yX4_isShownAt cX4_isShownAt 3 (some (.boolean))) (2) (52) D cA [.ref o, .int p0] h r.2 (some (.int r.1)) := by
  exact fMet.of (own := RX4) (by decide +kernel) rfl (lva1 rfl (lva1 rfl lva0)) (lgl1 rfl (lgl1 rfl lgl0)) (Nat.le_of_ble_eq_true rfl) (fun p e s m args below meth c ls hnm _ M hC hl => by
    have hl : lv_has ls 3 [(0, va_rf (some o)), (1, .int p0)] := hl
    exact w_X4_isShownAt_L0 M hfl _ _ _ hf _ _ _ _ _ hC (lv_sub hl [0, 1] rfl))
set_option maxHeartbeats 4000000 in
set_option maxRecDepth 100000 in
theorem w_X4_isWithin_L2 {p : Program} {l : Launch} {e : Env} {s : State} {m : MethodId} {args : Array Value} {below : List Frame} {meth : Method} {c : Code} {D : va_G} {cA : Nat → ClassId} {h0 : fSt} {r : (Int32 × fSt)} (M : fM p s m args meth c D cA h0 { frames := 0, cells := fCB h0 - fZ h0, slots := fLB h0 - fL h0, locals := 0 } cX4_isWithin 3 (some (.boolean)) RX4) (hfl : l.stackTraces = false) : ∀ (n : Nat) (a1 : Option Nat) (a2 : Option Nat) (h : fSt), f_X4_isWithin_L2 n a1 a2 h = some r → ∀ (H : Heap) (locs : List Loc) (cells slots : Nat) (ls : Array Slot), fCur D cA s h0 h H locs → lv_has ls 3 [(1, va_rf a1), (2, va_rf a2)] → W p l e { frames := 0, cells := fCB h0 - fZ h0, slots := fLB h0 - fL h0, locals := 0 } s m args below meth c H locs cells slots (MQ below (fQ D cA h0 r.2 (some (.int r.1))) args s (fCB h0 - fZ h0) (fLB h0 - fL h0) (fA h0)) (F0 m 2 ls []) := by
  obtain ⟨hx, hb, hml, hr, hlocks, hts, hown, K, hR⟩ := id M
  intro n
  induction n with
  | zero =>
    intro a1 a2 h hf
    exact nomatch (show (none : Option (Int32 × fSt)) = some r from hf)
  | succ n hk2 =>
    intro a1 a2 h hf H locs cells slots ls hC hl
    refine fr_aload_n hx hb dX4_isWithin_2 rfl (lv_at hl 1 rfl) ?_
    refine fr_ifnull (tgt := 21) hx hb dX4_isWithin_3 (by decide) (fun c1 => ?_) (fun c1 => ?_)
    · replace hf := opos c1 hf
      refine lv_iconst (v := (0 : Int32)) hx hb dX4_isWithin_21 (by decide) ?_
      obtain rfl := Option.some.inj hf
      exact fr_zret hx hb hr hlocks hC (Or.inl rfl) dX4_isWithin_22
    · replace hf := oneg c1 hf
      refine fr_aload_n hx hb dX4_isWithin_6 rfl (lv_at hl 1 rfl) ?_
      refine fr_aload_n hx hb dX4_isWithin_7 rfl (lv_at hl 0 rfl) ?_
      refine lv_acmp_ne (tgt := 13) hx hb dX4_isWithin_8 (by decide) (fun c2 => ?_) (fun c2 => ?_)
      · replace hf := oneg c2 hf
        refine fr_aload_n hx hb dX4_isWithin_13 rfl (lv_at hl 1 rfl) ?_
        obtain ⟨x3, g4, hf⟩ := obind hf
        refine fr_get hx hb hts hown K hC ct_4 (fgR_get g4) (by decide) kw183 rfl dX4_isWithin_14 ?_
        refine fr_astore_n (lv' := [(2, va_rf x3), (1, va_rf a1)]) hx hb dX4_isWithin_17 rfl hl (by decide) (congrArg (List.cons _) (flk (adj1 _ _) (fld rfl fln))) (fun ls hl => ?_)
        refine lv_goto (tgt := 2) hx hb dX4_isWithin_18 (by decide) ?_
        exact hk2 _ _ _ hf _ _ _ _ _ hC (lv_sub hl [1, 0] rfl)
      · replace hf := opos c2 hf
        refine lv_iconst (v := (1 : Int32)) hx hb dX4_isWithin_11 (by decide) ?_
        obtain rfl := Option.some.inj hf
        exact fr_zret hx hb hr hlocks hC (Or.inr rfl) dX4_isWithin_12
set_option maxHeartbeats 4000000 in
set_option maxRecDepth 100000 in
theorem w_X4_isWithin_L0 {p : Program} {l : Launch} {e : Env} {s : State} {m : MethodId} {args : Array Value} {below : List Frame} {meth : Method} {c : Code} {D : va_G} {cA : Nat → ClassId} {h0 : fSt} {r : (Int32 × fSt)} (M : fM p s m args meth c D cA h0 { frames := 0, cells := fCB h0 - fZ h0, slots := fLB h0 - fL h0, locals := 0 } cX4_isWithin 3 (some (.boolean)) RX4) (hfl : l.stackTraces = false) (a0 : Option Nat) (a1 : Option Nat) (h : fSt) (hf : f_X4_isWithin_L0 a0 a1 h = some r) : ∀ (H : Heap) (locs : List Loc) (cells slots : Nat) (ls : Array Slot), fCur D cA s h0 h H locs → lv_has ls 3 [(0, va_rf a0), (1, va_rf a1)] → W p l e { frames := 0, cells := fCB h0 - fZ h0, slots := fLB h0 - fL h0, locals := 0 } s m args below meth c H locs cells slots (MQ below (fQ D cA h0 r.2 (some (.int r.1))) args s (fCB h0 - fZ h0) (fLB h0 - fL h0) (fA h0)) (F0 m 0 ls []) := by
  obtain ⟨hx, hb, hml, hr, hlocks, hts, hown, K, hR⟩ := id M
  intro H locs cells slots ls hC hl
  refine fr_aload_n hx hb dX4_isWithin_0 rfl (lv_at hl 0 rfl) ?_
  refine fr_astore_n (lv' := [(2, va_rf a0), (0, va_rf a0), (1, va_rf a1)]) hx hb dX4_isWithin_1 rfl hl (by decide) (congrArg (List.cons _) (flk rfl (flk (adj1 _ _) fln))) (fun ls hl => ?_)
  exact w_X4_isWithin_L2 M hfl 4096 _ _ _ hf _ _ _ _ _ hC (lv_sub hl [2, 0] rfl)
set_option maxRecDepth 100000 in
theorem c_X4_isWithin {l : Launch} (hfl : l.stackTraces = false) (D : va_G) (cA : Nat → ClassId) {o : Nat} {p0 : Option Nat} {h : fSt} {r : (Int32 × fSt)} (hf : f_X4_isWithin o p0 h = some r) : fMet l yX4_isWithin (wsC yX4_isWithin cX4_isWithin 3 (some (.boolean))) (0) (0) D cA [.ref o, va_rf p0] h r.2 (some (.int r.1)) := by
  exact fMet.of (own := RX4) (by decide +kernel) rfl (lva1 rfl (lva1 (va_rf_cat _) lva0)) (lgl1 rfl (lgl1 (va_rf_cat _) lgl0)) (Nat.le_of_ble_eq_true rfl) (fun p e s m args below meth c ls hnm _ M hC hl => by
    have hl : lv_has ls 3 [(0, va_rf (some o)), (1, va_rf p0)] := hl
    exact w_X4_isWithin_L0 M hfl _ _ _ hf _ _ _ _ _ hC (lv_sub hl [0, 1] rfl))
set_option maxHeartbeats 4000000 in
set_option maxRecDepth 100000 in
theorem w_X7_gatherBounds_L102 {p : Program} {l : Launch} {e : Env} {s : State} {m : MethodId} {args : Array Value} {below : List Frame} {meth : Method} {c : Code} {D : va_G} {cA : Nat → ClassId} {h0 : fSt} {r : (Unit × fSt)} (M : fM p s m args meth c D cA h0 { frames := 4, cells := fCB h0 - fZ h0, slots := fLB h0 - fL h0, locals := 101 } cX7_gatherBounds 3 none RX7) (hfl : l.stackTraces = false) {k12 : Option Nat → Option Nat → Option Nat → fSt → Option (Unit × fSt)} (hk12 : ∀ (a0 : Option Nat) (a1 : Option Nat) (a2 : Option Nat) (h : fSt), k12 a0 a1 a2 h = some r → ∀ (H : Heap) (locs : List Loc) (cells slots : Nat) (ls : Array Slot), fCur D cA s h0 h H locs → lv_has ls 3 [(0, va_rf a0), (1, va_rf a1), (2, va_rf a2)] → W p l e { frames := 4, cells := fCB h0 - fZ h0, slots := fLB h0 - fL h0, locals := 101 } s m args below meth c H locs cells slots (MQ below (fQ D cA h0 r.2 none) args s (fCB h0 - fZ h0) (fLB h0 - fL h0) (fA h0)) (F0 m 12 ls [])) (a0 : Option Nat) (a1 : Option Nat) (a2 : Option Nat) (h : fSt) (hf : f_X7_gatherBounds_L102 k12 a0 a1 a2 h = some r) : ∀ (H : Heap) (locs : List Loc) (cells slots : Nat) (ls : Array Slot), fCur D cA s h0 h H locs → lv_has ls 3 [(0, va_rf a0), (1, va_rf a1), (2, va_rf a2)] → W p l e { frames := 4, cells := fCB h0 - fZ h0, slots := fLB h0 - fL h0, locals := 101 } s m args below meth c H locs cells slots (MQ below (fQ D cA h0 r.2 none) args s (fCB h0 - fZ h0) (fLB h0 - fL h0) (fA h0)) (F0 m 102 ls []) := by
  obtain ⟨hx, hb, hml, hr, hlocks, hts, hown, K, hR⟩ := id M
  intro H locs cells slots ls hC hl
  refine fr_aload_n hx hb dX7_gatherBounds_102 rfl (lv_at hl 2 rfl) ?_
  obtain ⟨x1, g2, hf⟩ := obind hf
  refine fr_get hx hb hts hown K hC ct_4 (fgR_get g2) (by decide) kw189 rfl dX7_gatherBounds_103 ?_
  refine fr_astore_n (lv' := [(2, va_rf x1), (0, va_rf a0), (1, va_rf a1)]) hx hb dX7_gatherBounds_106 rfl hl (by decide) (congrArg (List.cons _) (flk rfl (flk (adj1 _ _) (fld rfl fln)))) (fun ls hl => ?_)
  refine lv_goto (tgt := 12) hx hb dX7_gatherBounds_107 (by decide) ?_
  exact hk12 _ _ _ _ hf _ _ _ _ _ hC (lv_sub hl [1, 2, 0] rfl)
set_option maxHeartbeats 4000000 in
set_option maxRecDepth 100000 in
theorem w_X7_gatherBounds_L12 {p : Program} {l : Launch} {e : Env} {s : State} {m : MethodId} {args : Array Value} {below : List Frame} {meth : Method} {c : Code} {D : va_G} {cA : Nat → ClassId} {h0 : fSt} {r : (Unit × fSt)} (M : fM p s m args meth c D cA h0 { frames := 4, cells := fCB h0 - fZ h0, slots := fLB h0 - fL h0, locals := 101 } cX7_gatherBounds 3 none RX7) (hfl : l.stackTraces = false) : ∀ (n : Nat) (a0 : Option Nat) (a1 : Option Nat) (a2 : Option Nat) (h : fSt), f_X7_gatherBounds_L12 n a0 a1 a2 h = some r → ∀ (H : Heap) (locs : List Loc) (cells slots : Nat) (ls : Array Slot), fCur D cA s h0 h H locs → lv_has ls 3 [(0, va_rf a0), (1, va_rf a1), (2, va_rf a2)] → W p l e { frames := 4, cells := fCB h0 - fZ h0, slots := fLB h0 - fL h0, locals := 101 } s m args below meth c H locs cells slots (MQ below (fQ D cA h0 r.2 none) args s (fCB h0 - fZ h0) (fLB h0 - fL h0) (fA h0)) (F0 m 12 ls []) := by
  obtain ⟨hx, hb, hml, hr, hlocks, hts, hown, K, hR⟩ := id M
  intro n
  induction n with
  | zero =>
    intro a0 a1 a2 h hf
    exact nomatch (show (none : Option (Unit × fSt)) = some r from hf)
  | succ n hk12 =>
    intro a0 a1 a2 h hf H locs cells slots ls hC hl
    refine fr_aload_n hx hb dX7_gatherBounds_12 rfl (lv_at hl 2 rfl) ?_
    refine fr_ifnull (tgt := 110) hx hb dX7_gatherBounds_13 (by decide) (fun c3 => ?_) (fun c3 => ?_)
    · replace hf := opos c3 hf
      obtain rfl := Option.some.inj hf
      exact fr_vret hx hb hr hlocks hC dX7_gatherBounds_110
    · replace hf := oneg c3 hf
      refine fr_aload_n hx hb dX7_gatherBounds_16 rfl (lv_at hl 2 rfl) ?_
      obtain ⟨x4, g5, hf⟩ := obind hf
      refine fr_get hx hb hts hown K hC ct_4 (fgI_get g5) (by decide) kw154 rfl dX7_gatherBounds_17 ?_
      refine lv_if_eq (tgt := 102) hx hb dX7_gatherBounds_20 (by decide) (fun c6 => ?_) (fun c6 => ?_)
      · replace hf := opos c6 hf
        exact w_X7_gatherBounds_L102 M hfl hk12 _ _ _ _ hf _ _ _ _ _ hC (lv_sub hl [0, 1, 2] rfl)
      · replace hf := oneg c6 hf
        refine fr_aload_n hx hb dX7_gatherBounds_23 rfl (lv_at hl 2 rfl) ?_
        refine fr_aload_n hx hb dX7_gatherBounds_24 rfl (lv_at hl 1 rfl) ?_
        obtain ⟨b9, q10, hf⟩ := obind hf
        obtain ⟨r7, g8, hf⟩ := obind hf
        refine fr_callV hx hb hml hts hown K hC hR ct_4 (c_X4_isWithin hfl D cA g8) 1 q10 kw448 kw445 kw446 kw447 kw56 (by decide +kernel) ⟨by exact Nat.le_of_ble_eq_true rfl, by exact Nat.le_of_ble_eq_true rfl⟩ rfl hl.1 (cat8 _ (by exact Nat.le_of_ble_eq_true rfl)) dX7_gatherBounds_25 rfl (fun H locs _ _ hC => ?_)
        refine lv_if_eq (tgt := 102) hx hb dX7_gatherBounds_28 (by decide) (fun c11 => ?_) (fun c11 => ?_)
        · replace hf := opos c11 hf
          exact w_X7_gatherBounds_L102 M hfl hk12 _ _ _ _ hf _ _ _ _ _ hC (lv_sub hl [0, 1, 2] rfl)
        · replace hf := oneg c11 hf
          refine fr_aload_n hx hb dX7_gatherBounds_31 rfl (lv_at hl 2 rfl) ?_
          refine fr_aload_n hx hb dX7_gatherBounds_32 rfl (lv_at hl 0 rfl) ?_
          obtain ⟨x12, g13, hf⟩ := obind hf
          refine fr_get hx hb hts hown K hC ct_7 (fgI_get g13) (by decide) kw297 rfl dX7_gatherBounds_33 ?_
          obtain ⟨b16, q17, hf⟩ := obind hf
          obtain ⟨r14, g15, hf⟩ := obind hf
          refine fr_callV hx hb hml hts hown K hC hR ct_4 (c_X4_isShownAt hfl D cA g15) 1 q17 kw387 kw384 kw385 kw386 kw56 (by decide +kernel) ⟨by exact Nat.le_of_ble_eq_true rfl, by exact Nat.le_of_ble_eq_true rfl⟩ rfl hl.1 (cat8 _ (by exact Nat.le_of_ble_eq_true rfl)) dX7_gatherBounds_36 rfl (fun H locs _ _ hC => ?_)
          refine lv_if_eq (tgt := 102) hx hb dX7_gatherBounds_39 (by decide) (fun c18 => ?_) (fun c18 => ?_)
          · replace hf := opos c18 hf
            exact w_X7_gatherBounds_L102 M hfl hk12 _ _ _ _ hf _ _ _ _ _ hC (lv_sub hl [0, 1, 2] rfl)
          · replace hf := oneg c18 hf
            refine fr_aload_n hx hb dX7_gatherBounds_42 rfl (lv_at hl 0 rfl) ?_
            refine fr_aload_n hx hb dX7_gatherBounds_43 rfl (lv_at hl 2 rfl) ?_
            refine fr_aload_n hx hb dX7_gatherBounds_44 rfl (lv_at hl 2 rfl) ?_
            obtain ⟨x19, g20, hf⟩ := obind hf
            refine fr_get hx hb hts hown K hC ct_4 (fgR_get g20) (by decide) kw156 rfl dX7_gatherBounds_45 ?_
            obtain ⟨x21, g22, hf⟩ := obind hf
            refine fr_get hx hb hts hown K hC ct_2 (fgI_get g22) (by decide) kw135 rfl dX7_gatherBounds_48 ?_
            refine fr_aload_n hx hb dX7_gatherBounds_51 rfl (lv_at hl 2 rfl) ?_
            obtain ⟨x23, g24, hf⟩ := obind hf
            refine fr_get hx hb hts hown K hC ct_4 (fgR_get g24) (by decide) kw156 rfl dX7_gatherBounds_52 ?_
            obtain ⟨x25, g26, hf⟩ := obind hf
            refine fr_get hx hb hts hown K hC ct_2 (fgI_get g26) (by decide) kw137 rfl dX7_gatherBounds_55 ?_
            obtain ⟨b29, q30, hf⟩ := obind hf
            obtain ⟨r27, g28, hf⟩ := obind hf
            refine fr_callV hx hb hml hts hown K hC hR ct_7 (c_X7_raise hfl D cA g28) 3 q30 kw395 kw392 kw394 kw5 kw55 (by decide +kernel) ⟨by exact Nat.le_of_ble_eq_true rfl, by exact Nat.le_of_ble_eq_true rfl⟩ rfl hl.1 (cat8 _ (by exact Nat.le_of_ble_eq_true rfl)) dX7_gatherBounds_58 rfl (fun H locs _ _ hC => ?_)
            refine fr_aload_n hx hb dX7_gatherBounds_61 rfl (lv_at hl 0 rfl) ?_
            obtain ⟨x31, g32, hf⟩ := obind hf
            refine fr_get hx hb hts hown K hC ct_7 (fgR_get g32) (by decide) kw294 rfl dX7_gatherBounds_62 ?_
            refine fr_aload_n hx hb dX7_gatherBounds_65 rfl (lv_at hl 0 rfl) ?_
            obtain ⟨x33, g34, hf⟩ := obind hf
            refine fr_get hx hb hts hown K hC ct_7 (fgR_get g34) (by decide) kw293 rfl dX7_gatherBounds_66 ?_
            obtain ⟨b37, q38, hf⟩ := obind hf
            obtain ⟨r35, g36, hf⟩ := obind hf
            refine fr_callV hx hb hml hts hown K hC hR ct_0 (c_X0_include hfl D cA g36) 1 q38 kw452 kw449 kw450 kw451 kw60 (by decide +kernel) ⟨by exact Nat.le_of_ble_eq_true rfl, by exact Nat.le_of_ble_eq_true rfl⟩ rfl hl.1 (cat8 _ (by exact Nat.le_of_ble_eq_true rfl)) dX7_gatherBounds_69 rfl (fun H locs _ _ hC => ?_)
            refine fr_aload_n hx hb dX7_gatherBounds_72 rfl (lv_at hl 0 rfl) ?_
            refine fr_aload_n hx hb dX7_gatherBounds_73 rfl (lv_at hl 2 rfl) ?_
            refine fr_aload_n hx hb dX7_gatherBounds_74 rfl (lv_at hl 2 rfl) ?_
            obtain ⟨x39, g40, hf⟩ := obind hf
            refine fr_get hx hb hts hown K hC ct_4 (fgR_get g40) (by decide) kw156 rfl dX7_gatherBounds_75 ?_
            obtain ⟨x41, g42, hf⟩ := obind hf
            refine fr_get hx hb hts hown K hC ct_2 (fgI_get g42) (by decide) kw139 rfl dX7_gatherBounds_78 ?_
            refine fr_aload_n hx hb dX7_gatherBounds_81 rfl (lv_at hl 2 rfl) ?_
            obtain ⟨x43, g44, hf⟩ := obind hf
            refine fr_get hx hb hts hown K hC ct_4 (fgR_get g44) (by decide) kw156 rfl dX7_gatherBounds_82 ?_
            obtain ⟨x45, g46, hf⟩ := obind hf
            refine fr_get hx hb hts hown K hC ct_2 (fgI_get g46) (by decide) kw141 rfl dX7_gatherBounds_85 ?_
            obtain ⟨b49, q50, hf⟩ := obind hf
            obtain ⟨r47, g48, hf⟩ := obind hf
            refine fr_callV hx hb hml hts hown K hC hR ct_7 (c_X7_raise hfl D cA g48) 3 q50 kw395 kw392 kw394 kw5 kw55 (by decide +kernel) ⟨by exact Nat.le_of_ble_eq_true rfl, by exact Nat.le_of_ble_eq_true rfl⟩ rfl hl.1 (cat8 _ (by exact Nat.le_of_ble_eq_true rfl)) dX7_gatherBounds_88 rfl (fun H locs _ _ hC => ?_)
            refine fr_aload_n hx hb dX7_gatherBounds_91 rfl (lv_at hl 0 rfl) ?_
            obtain ⟨x51, g52, hf⟩ := obind hf
            refine fr_get hx hb hts hown K hC ct_7 (fgR_get g52) (by decide) kw294 rfl dX7_gatherBounds_92 ?_
            refine fr_aload_n hx hb dX7_gatherBounds_95 rfl (lv_at hl 0 rfl) ?_
            obtain ⟨x53, g54, hf⟩ := obind hf
            refine fr_get hx hb hts hown K hC ct_7 (fgR_get g54) (by decide) kw293 rfl dX7_gatherBounds_96 ?_
            obtain ⟨b57, q58, hf⟩ := obind hf
            obtain ⟨r55, g56, hf⟩ := obind hf
            refine fr_callV hx hb hml hts hown K hC hR ct_0 (c_X0_include hfl D cA g56) 1 q58 kw452 kw449 kw450 kw451 kw60 (by decide +kernel) ⟨by exact Nat.le_of_ble_eq_true rfl, by exact Nat.le_of_ble_eq_true rfl⟩ rfl hl.1 (cat8 _ (by exact Nat.le_of_ble_eq_true rfl)) dX7_gatherBounds_99 rfl (fun H locs _ _ hC => ?_)
            exact w_X7_gatherBounds_L102 M hfl hk12 _ _ _ _ hf _ _ _ _ _ hC (lv_sub hl [0, 1, 2] rfl)
set_option maxHeartbeats 4000000 in
set_option maxRecDepth 100000 in
theorem w_X7_gatherBounds_L0 {p : Program} {l : Launch} {e : Env} {s : State} {m : MethodId} {args : Array Value} {below : List Frame} {meth : Method} {c : Code} {D : va_G} {cA : Nat → ClassId} {h0 : fSt} {r : (Unit × fSt)} (M : fM p s m args meth c D cA h0 { frames := 4, cells := fCB h0 - fZ h0, slots := fLB h0 - fL h0, locals := 101 } cX7_gatherBounds 3 none RX7) (hfl : l.stackTraces = false) (a0 : Option Nat) (a1 : Option Nat) (h : fSt) (hf : f_X7_gatherBounds_L0 a0 a1 h = some r) : ∀ (H : Heap) (locs : List Loc) (cells slots : Nat) (ls : Array Slot), fCur D cA s h0 h H locs → lv_has ls 3 [(0, va_rf a0), (1, va_rf a1)] → W p l e { frames := 4, cells := fCB h0 - fZ h0, slots := fLB h0 - fL h0, locals := 101 } s m args below meth c H locs cells slots (MQ below (fQ D cA h0 r.2 none) args s (fCB h0 - fZ h0) (fLB h0 - fL h0) (fA h0)) (F0 m 0 ls []) := by
  obtain ⟨hx, hb, hml, hr, hlocks, hts, hown, K, hR⟩ := id M
  intro H locs cells slots ls hC hl
  refine fr_aload_n hx hb dX7_gatherBounds_0 rfl (lv_at hl 0 rfl) ?_
  obtain ⟨x59, g60, hf⟩ := obind hf
  refine fr_get hx hb hts hown K hC ct_7 (fgR_get g60) (by decide) kw294 rfl dX7_gatherBounds_1 ?_
  obtain ⟨b63, q64, hf⟩ := obind hf
  obtain ⟨r61, g62, hf⟩ := obind hf
  refine fr_callV hx hb hml hts hown K hC hR ct_0 (c_X0_clear hfl D cA g62) 0 q64 kw439 kw436 kw437 kw438 kw60 (by decide +kernel) ⟨by exact Nat.le_of_ble_eq_true rfl, by exact Nat.le_of_ble_eq_true rfl⟩ rfl hl.1 (cat8 _ (by exact Nat.le_of_ble_eq_true rfl)) dX7_gatherBounds_4 rfl (fun H locs _ _ hC => ?_)
  refine fr_aload_n hx hb dX7_gatherBounds_7 rfl (lv_at hl 0 rfl) ?_
  obtain ⟨x65, g66, hf⟩ := obind hf
  refine fr_get hx hb hts hown K hC ct_7 (fgR_get g66) (by decide) kw298 rfl dX7_gatherBounds_8 ?_
  refine fr_astore_n (lv' := [(2, va_rf x65), (0, va_rf a0), (1, va_rf a1)]) hx hb dX7_gatherBounds_11 rfl hl (by decide) (congrArg (List.cons _) (flk rfl (flk (adj1 _ _) fln))) (fun ls hl => ?_)
  exact w_X7_gatherBounds_L12 M hfl 4096 _ _ _ _ hf _ _ _ _ _ hC (lv_sub hl [1, 2, 0] rfl)
set_option maxRecDepth 100000 in
theorem c_X7_gatherBounds {l : Launch} (hfl : l.stackTraces = false) (D : va_G) (cA : Nat → ClassId) {o : Nat} {p0 : Option Nat} {h : fSt} {r : (Unit × fSt)} (hf : f_X7_gatherBounds o p0 h = some r) : fMet l yX7_gatherBounds (wsC yX7_gatherBounds cX7_gatherBounds 3 none) (4) (101) D cA [.ref o, va_rf p0] h r.2 none := by
  exact fMet.of (own := RX7) (by decide +kernel) rfl (lva1 rfl (lva1 (va_rf_cat _) lva0)) (lgl1 rfl (lgl1 (va_rf_cat _) lgl0)) (Nat.le_of_ble_eq_true rfl) (fun p e s m args below meth c ls hnm _ M hC hl => by
    have hl : lv_has ls 3 [(0, va_rf (some o)), (1, va_rf p0)] := hl
    exact w_X7_gatherBounds_L0 M hfl _ _ _ hf _ _ _ _ _ hC (lv_sub hl [0, 1] rfl))
set_option maxHeartbeats 4000000 in
set_option maxRecDepth 100000 in
theorem w_X7_bound_L60 {p : Program} {l : Launch} {e : Env} {s : State} {m : MethodId} {args : Array Value} {below : List Frame} {meth : Method} {c : Code} {D : va_G} {cA : Nat → ClassId} {h0 : fSt} {r : ((Int32 ⊕ Nat) × fSt)} (M : fM p s m args meth c D cA h0 { frames := 7, cells := fCB h0 - fZ h0, slots := fLB h0 - fL h0, locals := 123 } cX7_bound 6 (some (.int)) RX7) (hfl : l.stackTraces = false) (hno : ∀ x ∈ c.exceptionTable.toList, False) (s0 : Int64) (h : fSt) (hf : f_X7_bound_L60 s0 h = some r) : ∀ (H : Heap) (locs : List Loc) (cells slots : Nat) (ls : Array Slot), fCur D cA s h0 h H locs → lv_has ls 6 [] → W p l e { frames := 7, cells := fCB h0 - fZ h0, slots := fLB h0 - fL h0, locals := 123 } s m args below meth c H locs cells slots (vx_MQ below (fQX D cA h0 r.2 (rI r.1)) (fXC D cA h0 r.2 (rI r.1)) args s (fCB h0 - fZ h0) (fLB h0 - fL h0) (fA h0)) (F0 m 60 ls [.long s0]) := by
  obtain ⟨hx, hb, hml, hr, hlocks, hts, hown, K, hR⟩ := id M
  intro H locs cells slots ls hC hl
  refine lv_l2i (v := (Int64.toInt32 s0)) hx hb dX7_bound_60 rfl ?_
  obtain rfl := Option.some.inj hf
  exact fr_retQ (fr_iret hx hb hr hlocks hC dX7_bound_61)
set_option maxHeartbeats 4000000 in
set_option maxRecDepth 100000 in
theorem w_X7_bound_L0 {p : Program} {l : Launch} {e : Env} {s : State} {m : MethodId} {args : Array Value} {below : List Frame} {meth : Method} {c : Code} {D : va_G} {cA : Nat → ClassId} {h0 : fSt} {r : ((Int32 ⊕ Nat) × fSt)} (M : fM p s m args meth c D cA h0 { frames := 7, cells := fCB h0 - fZ h0, slots := fLB h0 - fL h0, locals := 123 } cX7_bound 6 (some (.int)) RX7) (hfl : l.stackTraces = false) (hno : ∀ x ∈ c.exceptionTable.toList, False) (a0 : Option Nat) (a1 : Int32) (a2 : Int32) (a3 : Int32) (h : fSt) (hf : f_X7_bound_L0 a0 a1 a2 a3 h = some r) : ∀ (H : Heap) (locs : List Loc) (cells slots : Nat) (ls : Array Slot), fCur D cA s h0 h H locs → lv_has ls 6 [(0, va_rf a0), (1, .int a1), (2, .int a2), (3, .int a3)] → W p l e { frames := 7, cells := fCB h0 - fZ h0, slots := fLB h0 - fL h0, locals := 123 } s m args below meth c H locs cells slots (vx_MQ below (fQX D cA h0 r.2 (rI r.1)) (fXC D cA h0 r.2 (rI r.1)) args s (fCB h0 - fZ h0) (fLB h0 - fL h0) (fA h0)) (F0 m 0 ls []) := by
  obtain ⟨hx, hb, hml, hr, hlocks, hts, hown, K, hR⟩ := id M
  intro H locs cells slots ls hC hl
  refine fr_aload_n hx hb dX7_bound_0 rfl (lv_at hl 0 rfl) ?_
  refine lv_iload_n hx hb dX7_bound_1 rfl (lv_at hl 1 rfl) ?_
  obtain ⟨b3, q4, hf⟩ := obind hf
  obtain ⟨⟨v5 | k6, h7⟩, g2, hf⟩ := obind hf
  · refine fr_callVX hx hb hml hts hown K hC hR ct_7 (c_X7_found hfl D cA g2) 1 q4 kw583 kw580 kw582 kw12 kw55 (by decide +kernel) ⟨by exact Nat.le_of_ble_eq_true rfl, by exact Nat.le_of_ble_eq_true rfl⟩ rfl hl.1 (cat8 _ (by exact Nat.le_of_ble_eq_true rfl)) dX7_bound_2 rfl (fun H locs _ _ hC => ?_)
    refine fr_astore (lv' := [(4, va_rf v5), (0, va_rf a0), (1, .int a1), (2, .int a2), (3, .int a3)]) hx hb dX7_bound_5 hl (by decide) (congrArg (List.cons _) (flk rfl (flk rfl (flk rfl (flk rfl fln))))) (fun ls hl => ?_)
    refine lv_iload_n hx hb dX7_bound_7 rfl (lv_at hl 3 rfl) ?_
    refine lv_iconst (v := (0 : Int32)) hx hb dX7_bound_8 (by decide) ?_
    refine lv_iconst (v := (3 : Int32)) hx hb dX7_bound_9 (by decide) ?_
    obtain ⟨r8, g9, hf⟩ := obind hf
    refine fr_callS hx hb hml hts hown K hC hR (c_X7_isFrom hfl D cA g9) 3 kw492 kw490 kw491 kw55 (by decide +kernel) ⟨by exact Nat.le_of_ble_eq_true rfl, by exact Nat.le_of_ble_eq_true rfl⟩ rfl hl.1 (cat8 _ (by exact Nat.le_of_ble_eq_true rfl)) dX7_bound_10 rfl (fun H locs _ _ hC => ?_)
    refine lv_if_ne (tgt := 27) hx hb dX7_bound_13 (by decide) (fun c10 => ?_) (fun c10 => ?_)
    · replace hf := oneg c10 hf
      refine fr_aload_n hx hb dX7_bound_27 rfl (lv_at hl 1 rfl) ?_
      refine fr_aload hx hb dX7_bound_28 (lv_at hl 0 rfl) ?_
      obtain ⟨b13, q14, hf⟩ := obind hf
      obtain ⟨r11, g12, hf⟩ := obind hf
      refine fr_callV hx hb hml hts hown K hC hR ct_7 (c_X7_gatherBounds hfl D cA g12) 1 q14 kw435 kw432 kw434 kw8 kw55 (by decide +kernel) ⟨by exact Nat.le_of_ble_eq_true rfl, by exact Nat.le_of_ble_eq_true rfl⟩ rfl hl.1 (cat8 _ (by exact Nat.le_of_ble_eq_true rfl)) dX7_bound_30 rfl (fun H locs _ _ hC => ?_)
      refine fr_aload_n hx hb dX7_bound_33 rfl (lv_at hl 1 rfl) ?_
      obtain ⟨x15, g16, hf⟩ := obind hf
      refine fr_get hx hb hts hown K hC ct_7 (fgR_get g16) (by decide) kw294 rfl dX7_bound_34 ?_
      refine lv_iload_n hx hb dX7_bound_37 rfl (lv_at hl 3 rfl) ?_
      obtain ⟨b19, q20, hf⟩ := obind hf
      obtain ⟨r17, g18, hf⟩ := obind hf
      refine fr_callV hx hb hml hts hown K hC hR ct_0 (c_X0_side hfl D cA g18) 1 q20 kw465 kw462 kw463 kw464 kw60 (by decide +kernel) ⟨by exact Nat.le_of_ble_eq_true rfl, by exact Nat.le_of_ble_eq_true rfl⟩ rfl hl.1 (cat8 _ (by exact Nat.le_of_ble_eq_true rfl)) dX7_bound_38 rfl (fun H locs _ _ hC => ?_)
      refine fr_astore (lv' := [(5, va_rf r17.1), (4, va_rf v5), (0, va_rf a0), (1, .int a1), (2, .int a2), (3, .int a3)]) hx hb dX7_bound_41 hl (by decide) (congrArg (List.cons _) (flk (adj1 _ _) (flk rfl (flk rfl (flk rfl (flk rfl fln)))))) (fun ls hl => ?_)
      refine lv_iload_n hx hb dX7_bound_43 rfl (lv_at hl 5 rfl) ?_
      refine lv_if_eq (tgt := 55) hx hb dX7_bound_44 (by decide) (fun c21 => ?_) (fun c21 => ?_)
      · replace hf := opos c21 hf
        refine fr_aload hx hb dX7_bound_55 (lv_at hl 0 rfl) ?_
        obtain ⟨x22, g23, hf⟩ := obind hf
        refine fr_get hx hb hts hown K hC ct_1 (fgJ_get g23) (by decide) kw269 rfl dX7_bound_57 ?_
        exact w_X7_bound_L60 M hfl hno _ _ hf _ _ _ _ _ hC (lv_sub hl [] rfl)
      · replace hf := oneg c21 hf
        refine fr_aload hx hb dX7_bound_47 (lv_at hl 0 rfl) ?_
        obtain ⟨x24, g25, hf⟩ := obind hf
        refine fr_get hx hb hts hown K hC ct_1 (fgJ_get g25) (by decide) kw271 rfl dX7_bound_49 ?_
        refine lv_goto (tgt := 60) hx hb dX7_bound_52 (by decide) ?_
        exact w_X7_bound_L60 M hfl hno _ _ hf _ _ _ _ _ hC (lv_sub hl [] rfl)
    · replace hf := opos c10 hf
      obtain ⟨h26, g27, hf⟩ := obind hf
      obtain rfl := Option.some.inj hf
      exact fr_throwSW hx hb hml hts hfl hown K hC hR th_RX7_60_64_1 st_RX7_264 hl.1 dX7_bound_16 dX7_bound_19 dX7_bound_20 dX7_bound_23 dX7_bound_26 hno (by exact Nat.le_of_ble_eq_true rfl) (catL _ _ (by exact Nat.le_of_ble_eq_true rfl) (by exact Nat.le_of_ble_eq_true rfl)) hlocks g27
  · obtain rfl := Option.some.inj hf
    refine fr_callVT hx hb hml hts hown K hC hR ct_7 (c_X7_found hfl D cA g2) 1 q4 kw583 kw580 kw582 kw12 kw55 (by decide +kernel) ⟨by exact Nat.le_of_ble_eq_true rfl, by exact Nat.le_of_ble_eq_true rfl⟩ rfl hl.1 (cat8 _ (by exact Nat.le_of_ble_eq_true rfl)) dX7_bound_2 rfl (fun H locs _ _ q ce hC e1 e2 e3 => ?_)
    exact fr_out (fun x hx9 => (hno x hx9).elim) hlocks hC e1 e2 e3
set_option maxRecDepth 100000 in
theorem c_X7_bound {l : Launch} (hfl : l.stackTraces = false) (D : va_G) (cA : Nat → ClassId) {o : Nat} {p0 : Int32} {p1 : Int32} {p2 : Int32} {h : fSt} {r : ((Int32 ⊕ Nat) × fSt)} (hf : f_X7_bound o p0 p1 p2 h = some r) : fMetX l yX7_bound (wsC yX7_bound cX7_bound 6 (some (.int))) (7) (123) D cA [.ref o, .int p0, .int p1, .int p2] h r.2 (rI r.1) := by
  exact fMetX.of (own := RX7) (by decide +kernel) rfl (lva1 rfl (lva1 rfl (lva1 rfl (lva1 rfl lva0)))) (lgl1 rfl (lgl1 rfl (lgl1 rfl (lgl1 rfl lgl0)))) (Nat.le_of_ble_eq_true rfl) (fun p e s m args below meth c ls hno M hC hl => by
    have hl : lv_has ls 6 [(0, va_rf (some o)), (1, .int p0), (2, .int p1), (3, .int p2)] := hl
    exact w_X7_bound_L0 M hfl hno _ _ _ _ _ hf _ _ _ _ _ hC (lv_sub hl [0, 1, 2, 3] rfl))
set_option maxHeartbeats 4000000 in
set_option maxRecDepth 100000 in
theorem w_L_bound_L0 {p : Program} {l : Launch} {e : Env} {s : State} {m : MethodId} {args : Array Value} {below : List Frame} {meth : Method} {c : Code} {D : va_G} {cA : Nat → ClassId} {h0 : fSt} {r : ((Int32 ⊕ Nat) × fSt)} (M : fM p s m args meth c D cA h0 { frames := 8, cells := fCB h0 - fZ h0, slots := fLB h0 - fL h0, locals := 148 } cL_bound 6 (some (.int)) RL) (hfl : l.stackTraces = false) (hno : c.exceptionTable.toList = tableOf [(0, 12, 15, 13), (0, 12, 19, 15)]) (a0 : Option Nat) (a1 : Int32) (a2 : Int32) (a3 : Int32) (a4 : Option Nat) (h : fSt) (hf : f_L_bound_L0 a0 a1 a2 a3 a4 h = some r) : ∀ (H : Heap) (locs : List Loc) (cells slots : Nat) (ls : Array Slot), fCur D cA s h0 h H locs → lv_has ls 6 [(0, va_rf a0), (1, .int a1), (2, .int a2), (3, .int a3), (4, va_rf a4)] → W p l e { frames := 8, cells := fCB h0 - fZ h0, slots := fLB h0 - fL h0, locals := 148 } s m args below meth c H locs cells slots (vx_MQ below (fQX D cA h0 r.2 (rI r.1)) (fXC D cA h0 r.2 (rI r.1)) args s (fCB h0 - fZ h0) (fLB h0 - fL h0) (fA h0)) (F0 m 0 ls []) := by
  obtain ⟨hx, hb, hml, hr, hlocks, hts, hown, K, hR⟩ := id M
  intro H locs cells slots ls hC hl
  refine fr_aload hx hb dL_bound_0 (lv_at hl 4 rfl) ?_
  refine lv_iconst (v := (0 : Int32)) hx hb dL_bound_2 (by decide) ?_
  refine fr_aload_n hx hb dL_bound_3 rfl (lv_at hl 0 rfl) ?_
  refine lv_iload_n hx hb dL_bound_4 rfl (lv_at hl 1 rfl) ?_
  refine lv_iload_n hx hb dL_bound_5 rfl (lv_at hl 2 rfl) ?_
  refine lv_iload_n hx hb dL_bound_6 rfl (lv_at hl 3 rfl) ?_
  obtain ⟨b3, q4, hf⟩ := obind hf
  obtain ⟨⟨v5 | k6, h7⟩, g2, hf⟩ := obind hf
  · refine fr_callVX hx hb hml hts hown K hC hR ct_7 (c_X7_bound hfl D cA g2) 3 q4 kw867 kw864 kw865 kw866 kw55 (by decide +kernel) ⟨by exact Nat.le_of_ble_eq_true rfl, by exact Nat.le_of_ble_eq_true rfl⟩ rfl hl.1 (cat8 _ (by exact Nat.le_of_ble_eq_true rfl)) dL_bound_7 rfl (fun H locs _ _ hC => ?_)
    refine lv_i2l (v := (Int32.toInt64 v5)) hx hb dL_bound_10 rfl ?_
    obtain ⟨h8, g9, hf⟩ := obind hf
    refine fr_last hx hb K hC (t := 1) rfl g9 dL_bound_11 (fun H locs hC => ?_)
    refine lv_goto (tgt := 23) hx hb dL_bound_12 (by decide) ?_
    refine lv_iconst (v := (0 : Int32)) hx hb dL_bound_23 (by decide) ?_
    obtain rfl := Option.some.inj hf
    exact fr_retQ (fr_iret hx hb hr hlocks hC dL_bound_24)
  · refine fr_callVT hx hb hml hts hown K hC hR ct_7 (c_X7_bound hfl D cA g2) 3 q4 kw867 kw864 kw865 kw866 kw55 (by decide +kernel) ⟨by exact Nat.le_of_ble_eq_true rfl, by exact Nat.le_of_ble_eq_true rfl⟩ rfl hl.1 (cat8 _ (by exact Nat.le_of_ble_eq_true rfl)) dL_bound_7 rfl (fun H locs _ _ q ce hC e1 e2 e3 => ?_)
    by_cases c10 : k6 = 0
    · replace hf := opos c10 hf
      subst c10
      refine fr_catch (k9 := 0) (name := "java/lang/IndexOutOfBoundsException") hts K hown [] ⟨0, 12, 15, 13⟩ [⟨0, 12, 19, 15⟩] (by rw [hno]; rfl) (fun z hz => nomatch hz) (by decide) (by decide) kw573 kn586 e1 e2 e3 ?_
      refine fr_astore (lv' := [(5, va_rf (some q)), (0, va_rf a0), (1, .int a1), (2, .int a2), (3, .int a3), (4, va_rf a4)]) hx hb dL_bound_15 hl (by decide) (congrArg (List.cons _) (flk rfl (flk rfl (flk rfl (flk rfl (flk (adj1 _ _) fln)))))) (fun ls hl => ?_)
      refine lv_iconst (v := (1 : Int32)) hx hb dL_bound_17 (by decide) ?_
      obtain rfl := Option.some.inj hf
      exact fr_retQ (fr_iret hx hb hr hlocks hC dL_bound_18)
    replace hf := oneg c10 hf
    by_cases c12 : k6 = 1
    · replace hf := opos c12 hf
      subst c12
      refine fr_catch (k9 := 1) (name := "java/lang/IllegalArgumentException") hts K hown [⟨0, 12, 15, 13⟩] ⟨0, 12, 19, 15⟩ [] (by rw [hno]; rfl) (all1 ⟨by decide, _, kw573, by decide +kernel⟩) (by decide) (by decide) kw574 kn495 e1 e2 e3 ?_
      refine fr_astore (lv' := [(5, va_rf (some q)), (0, va_rf a0), (1, .int a1), (2, .int a2), (3, .int a3), (4, va_rf a4)]) hx hb dL_bound_19 hl (by decide) (congrArg (List.cons _) (flk rfl (flk rfl (flk rfl (flk rfl (flk (adj1 _ _) fln)))))) (fun ls hl => ?_)
      refine lv_iconst (v := (2 : Int32)) hx hb dL_bound_21 (by decide) ?_
      obtain rfl := Option.some.inj hf
      exact fr_retQ (fr_iret hx hb hr hlocks hC dL_bound_22)
    replace hf := oneg c12 hf
    exact nomatch hf
set_option maxRecDepth 100000 in
theorem c_L_bound {l : Launch} (hfl : l.stackTraces = false) (D : va_G) (cA : Nat → ClassId) {p0 : Option Nat} {p1 : Int32} {p2 : Int32} {p3 : Int32} {p4 : Option Nat} {h : fSt} {r : ((Int32 ⊕ Nat) × fSt)} (hf : f_L_bound p0 p1 p2 p3 p4 h = some r) : fMetX l yL_bound (wsCH yL_bound cL_bound 6 (some (.int)) [(0, 12, 15, 13), (0, 12, 19, 15)]) (8) (148) D cA [va_rf p0, .int p1, .int p2, .int p3, va_rf p4] h r.2 (rI r.1) := by
  exact fMetX.ofH (own := RL) (by decide +kernel) rfl (lva1 (va_rf_cat _) (lva1 rfl (lva1 rfl (lva1 rfl (lva1 (va_rf_cat _) lva0))))) (lgl1 (va_rf_cat _) (lgl1 rfl (lgl1 rfl (lgl1 rfl (lgl1 (va_rf_cat _) lgl0))))) (Nat.le_of_ble_eq_true rfl) (fun p e s m args below meth c ls hno M hC hl => by
    have hl : lv_has ls 6 [(0, va_rf p0), (1, .int p1), (2, .int p2), (3, .int p3), (4, va_rf p4)] := hl
    exact w_L_bound_L0 M hfl hno _ _ _ _ _ _ hf _ _ _ _ _ hC (lv_sub hl [0, 1, 2, 3, 4] rfl))
set_option maxHeartbeats 4000000 in
set_option maxRecDepth 100000 in
theorem w_X6_differs_L25 {p : Program} {l : Launch} {e : Env} {s : State} {m : MethodId} {args : Array Value} {below : List Frame} {meth : Method} {c : Code} {D : va_G} {cA : Nat → ClassId} {h0 : fSt} {r : (Int32 × fSt)} (M : fM p s m args meth c D cA h0 { frames := 2, cells := fCB h0 - fZ h0, slots := fLB h0 - fL h0, locals := 52 } cX6_differs 3 (some (.boolean)) RX6) (hfl : l.stackTraces = false) (s0 : Int32) (h : fSt) (hf : f_X6_differs_L25 s0 h = some r) : ∀ (H : Heap) (locs : List Loc) (cells slots : Nat) (ls : Array Slot), fCur D cA s h0 h H locs → lv_has ls 3 [] → W p l e { frames := 2, cells := fCB h0 - fZ h0, slots := fLB h0 - fL h0, locals := 52 } s m args below meth c H locs cells slots (MQ below (fQ D cA h0 r.2 (some (.int r.1))) args s (fCB h0 - fZ h0) (fLB h0 - fL h0) (fA h0)) (F0 m 25 ls [.int s0]) := by
  obtain ⟨hx, hb, hml, hr, hlocks, hts, hown, K, hR⟩ := id M
  intro H locs cells slots ls hC hl
  by_cases c1 : s0 = 0 ∨ s0 = 1
  rotate_left
  · exact nomatch (oneg c1 hf)
  obtain rfl := Option.some.inj (opos c1 hf)
  exact fr_zret hx hb hr hlocks hC c1 dX6_differs_25
set_option maxHeartbeats 4000000 in
set_option maxRecDepth 100000 in
theorem w_X6_differs_L24 {p : Program} {l : Launch} {e : Env} {s : State} {m : MethodId} {args : Array Value} {below : List Frame} {meth : Method} {c : Code} {D : va_G} {cA : Nat → ClassId} {h0 : fSt} {r : (Int32 × fSt)} (M : fM p s m args meth c D cA h0 { frames := 2, cells := fCB h0 - fZ h0, slots := fLB h0 - fL h0, locals := 52 } cX6_differs 3 (some (.boolean)) RX6) (hfl : l.stackTraces = false)  (h : fSt) (hf : f_X6_differs_L24  h = some r) : ∀ (H : Heap) (locs : List Loc) (cells slots : Nat) (ls : Array Slot), fCur D cA s h0 h H locs → lv_has ls 3 [] → W p l e { frames := 2, cells := fCB h0 - fZ h0, slots := fLB h0 - fL h0, locals := 52 } s m args below meth c H locs cells slots (MQ below (fQ D cA h0 r.2 (some (.int r.1))) args s (fCB h0 - fZ h0) (fLB h0 - fL h0) (fA h0)) (F0 m 24 ls []) := by
  obtain ⟨hx, hb, hml, hr, hlocks, hts, hown, K, hR⟩ := id M
  intro H locs cells slots ls hC hl
  refine lv_iconst (v := (0 : Int32)) hx hb dX6_differs_24 (by decide) ?_
  exact w_X6_differs_L25 M hfl _ _ hf _ _ _ _ _ hC (lv_sub hl [] rfl)
set_option maxHeartbeats 4000000 in
set_option maxRecDepth 100000 in
theorem w_X6_differs_L0 {p : Program} {l : Launch} {e : Env} {s : State} {m : MethodId} {args : Array Value} {below : List Frame} {meth : Method} {c : Code} {D : va_G} {cA : Nat → ClassId} {h0 : fSt} {r : (Int32 × fSt)} (M : fM p s m args meth c D cA h0 { frames := 2, cells := fCB h0 - fZ h0, slots := fLB h0 - fL h0, locals := 52 } cX6_differs 3 (some (.boolean)) RX6) (hfl : l.stackTraces = false) (a0 : Option Nat) (a1 : Int32) (a2 : Int32) (h : fSt) (hf : f_X6_differs_L0 a0 a1 a2 h = some r) : ∀ (H : Heap) (locs : List Loc) (cells slots : Nat) (ls : Array Slot), fCur D cA s h0 h H locs → lv_has ls 3 [(0, va_rf a0), (1, .int a1), (2, .int a2)] → W p l e { frames := 2, cells := fCB h0 - fZ h0, slots := fLB h0 - fL h0, locals := 52 } s m args below meth c H locs cells slots (MQ below (fQ D cA h0 r.2 (some (.int r.1))) args s (fCB h0 - fZ h0) (fLB h0 - fL h0) (fA h0)) (F0 m 0 ls []) := by
  obtain ⟨hx, hb, hml, hr, hlocks, hts, hown, K, hR⟩ := id M
  intro H locs cells slots ls hC hl
  refine fr_aload_n hx hb dX6_differs_0 rfl (lv_at hl 0 rfl) ?_
  obtain ⟨x2, g3, hf⟩ := obind hf
  refine fr_get hx hb hts hown K hC ct_6 (fgR_get g3) (by decide) kw106 rfl dX6_differs_1 ?_
  refine fr_ifnull (tgt := 24) hx hb dX6_differs_4 (by decide) (fun c4 => ?_) (fun c4 => ?_)
  · replace hf := opos c4 hf
    exact w_X6_differs_L24 M hfl _ hf _ _ _ _ _ hC (lv_sub hl [] rfl)
  · replace hf := oneg c4 hf
    refine fr_aload_n hx hb dX6_differs_7 rfl (lv_at hl 0 rfl) ?_
    refine lv_iload_n hx hb dX6_differs_8 rfl (lv_at hl 1 rfl) ?_
    obtain ⟨b7, q8, hf⟩ := obind hf
    obtain ⟨r5, g6, hf⟩ := obind hf
    refine fr_callV hx hb hml hts hown K hC hR ct_6 (c_X6_at hfl D cA g6) 1 q8 kw369 kw569 kw367 kw368 kw57 (by decide +kernel) ⟨by exact Nat.le_of_ble_eq_true rfl, by exact Nat.le_of_ble_eq_true rfl⟩ rfl hl.1 (cat8 _ (by exact Nat.le_of_ble_eq_true rfl)) dX6_differs_9 rfl (fun H locs _ _ hC => ?_)
    refine fr_aload_n hx hb dX6_differs_12 rfl (lv_at hl 0 rfl) ?_
    refine lv_iload_n hx hb dX6_differs_13 rfl (lv_at hl 2 rfl) ?_
    obtain ⟨b11, q12, hf⟩ := obind hf
    obtain ⟨r9, g10, hf⟩ := obind hf
    refine fr_callV hx hb hml hts hown K hC hR ct_6 (c_X6_at hfl D cA g10) 1 q12 kw369 kw569 kw367 kw368 kw57 (by decide +kernel) ⟨by exact Nat.le_of_ble_eq_true rfl, by exact Nat.le_of_ble_eq_true rfl⟩ rfl hl.1 (cat8 _ (by exact Nat.le_of_ble_eq_true rfl)) dX6_differs_14 rfl (fun H locs _ _ hC => ?_)
    refine lv_icmp_eq (tgt := 24) hx hb dX6_differs_17 (by decide) (fun c13 => ?_) (fun c13 => ?_)
    · replace hf := opos c13 hf
      exact w_X6_differs_L24 M hfl _ hf _ _ _ _ _ hC (lv_sub hl [] rfl)
    · replace hf := oneg c13 hf
      refine lv_iconst (v := (1 : Int32)) hx hb dX6_differs_20 (by decide) ?_
      refine lv_goto (tgt := 25) hx hb dX6_differs_21 (by decide) ?_
      exact w_X6_differs_L25 M hfl _ _ hf _ _ _ _ _ hC (lv_sub hl [] rfl)
set_option maxRecDepth 100000 in
theorem c_X6_differs {l : Launch} (hfl : l.stackTraces = false) (D : va_G) (cA : Nat → ClassId) {o : Nat} {p0 : Int32} {p1 : Int32} {h : fSt} {r : (Int32 × fSt)} (hf : f_X6_differs o p0 p1 h = some r) : fMet l yX6_differs (wsC yX6_differs cX6_differs 3 (some (.boolean))) (2) (52) D cA [.ref o, .int p0, .int p1] h r.2 (some (.int r.1)) := by
  exact fMet.of (own := RX6) (by decide +kernel) rfl (lva1 rfl (lva1 rfl (lva1 rfl lva0))) (lgl1 rfl (lgl1 rfl (lgl1 rfl lgl0))) (Nat.le_of_ble_eq_true rfl) (fun p e s m args below meth c ls hnm _ M hC hl => by
    have hl : lv_has ls 3 [(0, va_rf (some o)), (1, .int p0), (2, .int p1)] := hl
    exact w_X6_differs_L0 M hfl _ _ _ _ hf _ _ _ _ _ hC (lv_sub hl [0, 1, 2] rfl))
set_option maxHeartbeats 4000000 in
set_option maxRecDepth 100000 in
theorem w_X4_differs_L54 {p : Program} {l : Launch} {e : Env} {s : State} {m : MethodId} {args : Array Value} {below : List Frame} {meth : Method} {c : Code} {D : va_G} {cA : Nat → ClassId} {h0 : fSt} {r : (Int32 × fSt)} (M : fM p s m args meth c D cA h0 { frames := 3, cells := fCB h0 - fZ h0, slots := fLB h0 - fL h0, locals := 74 } cX4_differs 4 (some (.boolean)) RX4) (hfl : l.stackTraces = false)  (h : fSt) (hf : f_X4_differs_L54  h = some r) : ∀ (H : Heap) (locs : List Loc) (cells slots : Nat) (ls : Array Slot), fCur D cA s h0 h H locs → lv_has ls 4 [] → W p l e { frames := 3, cells := fCB h0 - fZ h0, slots := fLB h0 - fL h0, locals := 74 } s m args below meth c H locs cells slots (MQ below (fQ D cA h0 r.2 (some (.int r.1))) args s (fCB h0 - fZ h0) (fLB h0 - fL h0) (fA h0)) (F0 m 54 ls []) := by
  obtain ⟨hx, hb, hml, hr, hlocks, hts, hown, K, hR⟩ := id M
  intro H locs cells slots ls hC hl
  refine lv_iconst (v := (1 : Int32)) hx hb dX4_differs_54 (by decide) ?_
  obtain rfl := Option.some.inj hf
  exact fr_zret hx hb hr hlocks hC (Or.inr rfl) dX4_differs_55
set_option maxHeartbeats 4000000 in
set_option maxRecDepth 100000 in
theorem w_X4_differs_L2 {p : Program} {l : Launch} {e : Env} {s : State} {m : MethodId} {args : Array Value} {below : List Frame} {meth : Method} {c : Code} {D : va_G} {cA : Nat → ClassId} {h0 : fSt} {r : (Int32 × fSt)} (M : fM p s m args meth c D cA h0 { frames := 3, cells := fCB h0 - fZ h0, slots := fLB h0 - fL h0, locals := 74 } cX4_differs 4 (some (.boolean)) RX4) (hfl : l.stackTraces = false) : ∀ (n : Nat) (a1 : Int32) (a2 : Int32) (a3 : Option Nat) (h : fSt), f_X4_differs_L2 n a1 a2 a3 h = some r → ∀ (H : Heap) (locs : List Loc) (cells slots : Nat) (ls : Array Slot), fCur D cA s h0 h H locs → lv_has ls 4 [(1, .int a1), (2, .int a2), (3, va_rf a3)] → W p l e { frames := 3, cells := fCB h0 - fZ h0, slots := fLB h0 - fL h0, locals := 74 } s m args below meth c H locs cells slots (MQ below (fQ D cA h0 r.2 (some (.int r.1))) args s (fCB h0 - fZ h0) (fLB h0 - fL h0) (fA h0)) (F0 m 2 ls []) := by
  obtain ⟨hx, hb, hml, hr, hlocks, hts, hown, K, hR⟩ := id M
  intro n
  induction n with
  | zero =>
    intro a1 a2 a3 h hf
    exact nomatch (show (none : Option (Int32 × fSt)) = some r from hf)
  | succ n hk2 =>
    intro a1 a2 a3 h hf H locs cells slots ls hC hl
    refine fr_aload_n hx hb dX4_differs_2 rfl (lv_at hl 2 rfl) ?_
    refine fr_ifnull (tgt := 64) hx hb dX4_differs_3 (by decide) (fun c1 => ?_) (fun c1 => ?_)
    · replace hf := opos c1 hf
      refine lv_iconst (v := (0 : Int32)) hx hb dX4_differs_64 (by decide) ?_
      obtain rfl := Option.some.inj hf
      exact fr_zret hx hb hr hlocks hC (Or.inl rfl) dX4_differs_65
    · replace hf := oneg c1 hf
      refine fr_aload_n hx hb dX4_differs_6 rfl (lv_at hl 2 rfl) ?_
      obtain ⟨x2, g3, hf⟩ := obind hf
      refine fr_get hx hb hts hown K hC ct_4 (fgR_get g3) (by decide) kw157 rfl dX4_differs_7 ?_
      refine lv_iload_n hx hb dX4_differs_10 rfl (lv_at hl 0 rfl) ?_
      refine lv_iload_n hx hb dX4_differs_11 rfl (lv_at hl 1 rfl) ?_
      obtain ⟨b6, q7, hf⟩ := obind hf
      obtain ⟨r4, g5, hf⟩ := obind hf
      refine fr_callV hx hb hml hts hown K hC hR ct_6 (c_X6_differs hfl D cA g5) 2 q7 kw568 kw565 kw566 kw567 kw57 (by decide +kernel) ⟨by exact Nat.le_of_ble_eq_true rfl, by exact Nat.le_of_ble_eq_true rfl⟩ rfl hl.1 (cat8 _ (by exact Nat.le_of_ble_eq_true rfl)) dX4_differs_12 rfl (fun H locs _ _ hC => ?_)
      refine lv_if_ne (tgt := 54) hx hb dX4_differs_15 (by decide) (fun c8 => ?_) (fun c8 => ?_)
      · replace hf := oneg c8 hf
        exact w_X4_differs_L54 M hfl _ hf _ _ _ _ _ hC (lv_sub hl [] rfl)
      · replace hf := opos c8 hf
        refine fr_aload_n hx hb dX4_differs_18 rfl (lv_at hl 2 rfl) ?_
        obtain ⟨x9, g10, hf⟩ := obind hf
        refine fr_get hx hb hts hown K hC ct_4 (fgR_get g10) (by decide) kw160 rfl dX4_differs_19 ?_
        refine lv_iload_n hx hb dX4_differs_22 rfl (lv_at hl 0 rfl) ?_
        refine lv_iload_n hx hb dX4_differs_23 rfl (lv_at hl 1 rfl) ?_
        obtain ⟨b13, q14, hf⟩ := obind hf
        obtain ⟨r11, g12, hf⟩ := obind hf
        refine fr_callV hx hb hml hts hown K hC hR ct_6 (c_X6_differs hfl D cA g12) 2 q14 kw568 kw565 kw566 kw567 kw57 (by decide +kernel) ⟨by exact Nat.le_of_ble_eq_true rfl, by exact Nat.le_of_ble_eq_true rfl⟩ rfl hl.1 (cat8 _ (by exact Nat.le_of_ble_eq_true rfl)) dX4_differs_24 rfl (fun H locs _ _ hC => ?_)
        refine lv_if_ne (tgt := 54) hx hb dX4_differs_27 (by decide) (fun c15 => ?_) (fun c15 => ?_)
        · replace hf := oneg c15 hf
          exact w_X4_differs_L54 M hfl _ hf _ _ _ _ _ hC (lv_sub hl [] rfl)
        · replace hf := opos c15 hf
          refine fr_aload_n hx hb dX4_differs_30 rfl (lv_at hl 2 rfl) ?_
          obtain ⟨x16, g17, hf⟩ := obind hf
          refine fr_get hx hb hts hown K hC ct_4 (fgR_get g17) (by decide) kw163 rfl dX4_differs_31 ?_
          refine lv_iload_n hx hb dX4_differs_34 rfl (lv_at hl 0 rfl) ?_
          refine lv_iload_n hx hb dX4_differs_35 rfl (lv_at hl 1 rfl) ?_
          obtain ⟨b20, q21, hf⟩ := obind hf
          obtain ⟨r18, g19, hf⟩ := obind hf
          refine fr_callV hx hb hml hts hown K hC hR ct_6 (c_X6_differs hfl D cA g19) 2 q21 kw568 kw565 kw566 kw567 kw57 (by decide +kernel) ⟨by exact Nat.le_of_ble_eq_true rfl, by exact Nat.le_of_ble_eq_true rfl⟩ rfl hl.1 (cat8 _ (by exact Nat.le_of_ble_eq_true rfl)) dX4_differs_36 rfl (fun H locs _ _ hC => ?_)
          refine lv_if_ne (tgt := 54) hx hb dX4_differs_39 (by decide) (fun c22 => ?_) (fun c22 => ?_)
          · replace hf := oneg c22 hf
            exact w_X4_differs_L54 M hfl _ hf _ _ _ _ _ hC (lv_sub hl [] rfl)
          · replace hf := opos c22 hf
            refine fr_aload_n hx hb dX4_differs_42 rfl (lv_at hl 2 rfl) ?_
            obtain ⟨x23, g24, hf⟩ := obind hf
            refine fr_get hx hb hts hown K hC ct_4 (fgR_get g24) (by decide) kw166 rfl dX4_differs_43 ?_
            refine lv_iload_n hx hb dX4_differs_46 rfl (lv_at hl 0 rfl) ?_
            refine lv_iload_n hx hb dX4_differs_47 rfl (lv_at hl 1 rfl) ?_
            obtain ⟨b27, q28, hf⟩ := obind hf
            obtain ⟨r25, g26, hf⟩ := obind hf
            refine fr_callV hx hb hml hts hown K hC hR ct_6 (c_X6_differs hfl D cA g26) 2 q28 kw568 kw565 kw566 kw567 kw57 (by decide +kernel) ⟨by exact Nat.le_of_ble_eq_true rfl, by exact Nat.le_of_ble_eq_true rfl⟩ rfl hl.1 (cat8 _ (by exact Nat.le_of_ble_eq_true rfl)) dX4_differs_48 rfl (fun H locs _ _ hC => ?_)
            refine lv_if_eq (tgt := 56) hx hb dX4_differs_51 (by decide) (fun c29 => ?_) (fun c29 => ?_)
            · replace hf := opos c29 hf
              refine fr_aload_n hx hb dX4_differs_56 rfl (lv_at hl 2 rfl) ?_
              obtain ⟨x30, g31, hf⟩ := obind hf
              refine fr_get hx hb hts hown K hC ct_4 (fgR_get g31) (by decide) kw183 rfl dX4_differs_57 ?_
              refine fr_astore_n (lv' := [(3, va_rf x30), (1, .int a1), (2, .int a2)]) hx hb dX4_differs_60 rfl hl (by decide) (congrArg (List.cons _) (flk rfl (flk rfl (fld rfl fln)))) (fun ls hl => ?_)
              refine lv_goto (tgt := 2) hx hb dX4_differs_61 (by decide) ?_
              exact hk2 _ _ _ _ hf _ _ _ _ _ hC (lv_sub hl [1, 2, 0] rfl)
            · replace hf := oneg c29 hf
              exact w_X4_differs_L54 M hfl _ hf _ _ _ _ _ hC (lv_sub hl [] rfl)
set_option maxHeartbeats 4000000 in
set_option maxRecDepth 100000 in
theorem w_X4_differs_L0 {p : Program} {l : Launch} {e : Env} {s : State} {m : MethodId} {args : Array Value} {below : List Frame} {meth : Method} {c : Code} {D : va_G} {cA : Nat → ClassId} {h0 : fSt} {r : (Int32 × fSt)} (M : fM p s m args meth c D cA h0 { frames := 3, cells := fCB h0 - fZ h0, slots := fLB h0 - fL h0, locals := 74 } cX4_differs 4 (some (.boolean)) RX4) (hfl : l.stackTraces = false) (a0 : Option Nat) (a1 : Int32) (a2 : Int32) (h : fSt) (hf : f_X4_differs_L0 a0 a1 a2 h = some r) : ∀ (H : Heap) (locs : List Loc) (cells slots : Nat) (ls : Array Slot), fCur D cA s h0 h H locs → lv_has ls 4 [(0, va_rf a0), (1, .int a1), (2, .int a2)] → W p l e { frames := 3, cells := fCB h0 - fZ h0, slots := fLB h0 - fL h0, locals := 74 } s m args below meth c H locs cells slots (MQ below (fQ D cA h0 r.2 (some (.int r.1))) args s (fCB h0 - fZ h0) (fLB h0 - fL h0) (fA h0)) (F0 m 0 ls []) := by
  obtain ⟨hx, hb, hml, hr, hlocks, hts, hown, K, hR⟩ := id M
  intro H locs cells slots ls hC hl
  refine fr_aload_n hx hb dX4_differs_0 rfl (lv_at hl 0 rfl) ?_
  refine fr_astore_n (lv' := [(3, va_rf a0), (0, va_rf a0), (1, .int a1), (2, .int a2)]) hx hb dX4_differs_1 rfl hl (by decide) (congrArg (List.cons _) (flk rfl (flk rfl (flk rfl fln)))) (fun ls hl => ?_)
  exact w_X4_differs_L2 M hfl 4096 _ _ _ _ hf _ _ _ _ _ hC (lv_sub hl [2, 3, 0] rfl)
set_option maxRecDepth 100000 in
theorem c_X4_differs {l : Launch} (hfl : l.stackTraces = false) (D : va_G) (cA : Nat → ClassId) {o : Nat} {p0 : Int32} {p1 : Int32} {h : fSt} {r : (Int32 × fSt)} (hf : f_X4_differs o p0 p1 h = some r) : fMet l yX4_differs (wsC yX4_differs cX4_differs 4 (some (.boolean))) (3) (74) D cA [.ref o, .int p0, .int p1] h r.2 (some (.int r.1)) := by
  exact fMet.of (own := RX4) (by decide +kernel) rfl (lva1 rfl (lva1 rfl (lva1 rfl lva0))) (lgl1 rfl (lgl1 rfl (lgl1 rfl lgl0))) (Nat.le_of_ble_eq_true rfl) (fun p e s m args below meth c ls hnm _ M hC hl => by
    have hl : lv_has ls 4 [(0, va_rf (some o)), (1, .int p0), (2, .int p1)] := hl
    exact w_X4_differs_L0 M hfl _ _ _ _ hf _ _ _ _ _ hC (lv_sub hl [0, 1, 2] rfl))
set_option maxHeartbeats 4000000 in
set_option maxRecDepth 100000 in
theorem w_X7_checkTime_L0 {p : Program} {l : Launch} {e : Env} {s : State} {m : MethodId} {args : Array Value} {below : List Frame} {meth : Method} {c : Code} {D : va_G} {cA : Nat → ClassId} {h0 : fSt} {r : ((Unit ⊕ Nat) × fSt)} (M : fM p s m args meth c D cA h0 { frames := 6, cells := fCB h0 - fZ h0, slots := fLB h0 - fL h0, locals := 90 } cX7_checkTime 1 none RX7) (hfl : l.stackTraces = false) (hno : ∀ x ∈ c.exceptionTable.toList, False) (a0 : Int32) (h : fSt) (hf : f_X7_checkTime_L0 a0 h = some r) : ∀ (H : Heap) (locs : List Loc) (cells slots : Nat) (ls : Array Slot), fCur D cA s h0 h H locs → lv_has ls 1 [(0, .int a0)] → W p l e { frames := 6, cells := fCB h0 - fZ h0, slots := fLB h0 - fL h0, locals := 90 } s m args below meth c H locs cells slots (vx_MQ below (fQX D cA h0 r.2 (rV r.1)) (fXC D cA h0 r.2 (rV r.1)) args s (fCB h0 - fZ h0) (fLB h0 - fL h0) (fA h0)) (F0 m 0 ls []) := by
  obtain ⟨hx, hb, hml, hr, hlocks, hts, hown, K, hR⟩ := id M
  intro H locs cells slots ls hC hl
  refine lv_iload_n hx hb dX7_checkTime_0 rfl (lv_at hl 0 rfl) ?_
  refine lv_iconst (v := (0 : Int32)) hx hb dX7_checkTime_1 (by decide) ?_
  refine lv_sipush (v := (9999 : Int32)) hx hb dX7_checkTime_2 (by decide) ?_
  obtain ⟨r1, g2, hf⟩ := obind hf
  refine fr_callS hx hb hml hts hown K hC hR (c_X7_isFrom hfl D cA g2) 3 kw492 kw490 kw491 kw55 (by decide +kernel) ⟨by exact Nat.le_of_ble_eq_true rfl, by exact Nat.le_of_ble_eq_true rfl⟩ rfl hl.1 (cat8 _ (by exact Nat.le_of_ble_eq_true rfl)) dX7_checkTime_5 rfl (fun H locs _ _ hC => ?_)
  refine lv_if_ne (tgt := 22) hx hb dX7_checkTime_8 (by decide) (fun c3 => ?_) (fun c3 => ?_)
  · replace hf := oneg c3 hf
    obtain rfl := Option.some.inj hf
    exact fr_retQ (fr_vret hx hb hr hlocks hC dX7_checkTime_22)
  · replace hf := opos c3 hf
    obtain ⟨h4, g5, hf⟩ := obind hf
    obtain rfl := Option.some.inj hf
    exact fr_throwSW hx hb hml hts hfl hown K hC hR th_RX7_60_64_1 st_RX7_349 hl.1 dX7_checkTime_11 dX7_checkTime_14 dX7_checkTime_15 dX7_checkTime_18 dX7_checkTime_21 hno (by exact Nat.le_of_ble_eq_true rfl) (catL _ _ (by exact Nat.le_of_ble_eq_true rfl) (by exact Nat.le_of_ble_eq_true rfl)) hlocks g5
set_option maxRecDepth 100000 in
theorem c_X7_checkTime {l : Launch} (hfl : l.stackTraces = false) (D : va_G) (cA : Nat → ClassId) {p0 : Int32} {h : fSt} {r : ((Unit ⊕ Nat) × fSt)} (hf : f_X7_checkTime p0 h = some r) : fMetX l yX7_checkTime (wsC yX7_checkTime cX7_checkTime 1 none) (6) (90) D cA [.int p0] h r.2 (rV r.1) := by
  exact fMetX.of (own := RX7) (by decide +kernel) rfl (lva1 rfl lva0) (lgl1 rfl lgl0) (Nat.le_of_ble_eq_true rfl) (fun p e s m args below meth c ls hno M hC hl => by
    have hl : lv_has ls 1 [(0, .int p0)] := hl
    exact w_X7_checkTime_L0 M hfl hno _ _ hf _ _ _ _ _ hC (lv_sub hl [0] rfl))
set_option maxHeartbeats 4000000 in
set_option maxRecDepth 100000 in
theorem w_X7_changes_L34 {p : Program} {l : Launch} {e : Env} {s : State} {m : MethodId} {args : Array Value} {below : List Frame} {meth : Method} {c : Code} {D : va_G} {cA : Nat → ClassId} {h0 : fSt} {r : ((Int32 ⊕ Nat) × fSt)} (M : fM p s m args meth c D cA h0 { frames := 7, cells := fCB h0 - fZ h0, slots := fLB h0 - fL h0, locals := 110 } cX7_changes 5 (some (.int)) RX7) (hfl : l.stackTraces = false) (hno : ∀ x ∈ c.exceptionTable.toList, False) {k16 : Int32 → Int32 → Int32 → Option Nat → fSt → Option ((Int32 ⊕ Nat) × fSt)} (hk16 : ∀ (a1 : Int32) (a2 : Int32) (a3 : Int32) (a4 : Option Nat) (h : fSt), k16 a1 a2 a3 a4 h = some r → ∀ (H : Heap) (locs : List Loc) (cells slots : Nat) (ls : Array Slot), fCur D cA s h0 h H locs → lv_has ls 5 [(1, .int a1), (2, .int a2), (3, .int a3), (4, va_rf a4)] → W p l e { frames := 7, cells := fCB h0 - fZ h0, slots := fLB h0 - fL h0, locals := 110 } s m args below meth c H locs cells slots (vx_MQ below (fQX D cA h0 r.2 (rI r.1)) (fXC D cA h0 r.2 (rI r.1)) args s (fCB h0 - fZ h0) (fLB h0 - fL h0) (fA h0)) (F0 m 16 ls [])) (a1 : Int32) (a2 : Int32) (a3 : Int32) (a4 : Option Nat) (h : fSt) (hf : f_X7_changes_L34 k16 a1 a2 a3 a4 h = some r) : ∀ (H : Heap) (locs : List Loc) (cells slots : Nat) (ls : Array Slot), fCur D cA s h0 h H locs → lv_has ls 5 [(1, .int a1), (2, .int a2), (3, .int a3), (4, va_rf a4)] → W p l e { frames := 7, cells := fCB h0 - fZ h0, slots := fLB h0 - fL h0, locals := 110 } s m args below meth c H locs cells slots (vx_MQ below (fQX D cA h0 r.2 (rI r.1)) (fXC D cA h0 r.2 (rI r.1)) args s (fCB h0 - fZ h0) (fLB h0 - fL h0) (fA h0)) (F0 m 34 ls []) := by
  obtain ⟨hx, hb, hml, hr, hlocks, hts, hown, K, hR⟩ := id M
  intro H locs cells slots ls hC hl
  refine fr_aload hx hb dX7_changes_34 (lv_at hl 3 rfl) ?_
  obtain ⟨x1, g2, hf⟩ := obind hf
  refine fr_get hx hb hts hown K hC ct_4 (fgR_get g2) (by decide) kw189 rfl dX7_changes_36 ?_
  refine fr_astore (lv' := [(4, va_rf x1), (1, .int a1), (2, .int a2), (3, .int a3)]) hx hb dX7_changes_39 hl (by decide) (congrArg (List.cons _) (flk rfl (flk rfl (flk rfl (fld rfl fln))))) (fun ls hl => ?_)
  refine lv_goto (tgt := 16) hx hb dX7_changes_41 (by decide) ?_
  exact hk16 _ _ _ _ _ hf _ _ _ _ _ hC (lv_sub hl [1, 2, 3, 0] rfl)
set_option maxHeartbeats 4000000 in
set_option maxRecDepth 100000 in
theorem w_X7_changes_L16 {p : Program} {l : Launch} {e : Env} {s : State} {m : MethodId} {args : Array Value} {below : List Frame} {meth : Method} {c : Code} {D : va_G} {cA : Nat → ClassId} {h0 : fSt} {r : ((Int32 ⊕ Nat) × fSt)} (M : fM p s m args meth c D cA h0 { frames := 7, cells := fCB h0 - fZ h0, slots := fLB h0 - fL h0, locals := 110 } cX7_changes 5 (some (.int)) RX7) (hfl : l.stackTraces = false) (hno : ∀ x ∈ c.exceptionTable.toList, False) : ∀ (n : Nat) (a1 : Int32) (a2 : Int32) (a3 : Int32) (a4 : Option Nat) (h : fSt), f_X7_changes_L16 n a1 a2 a3 a4 h = some r → ∀ (H : Heap) (locs : List Loc) (cells slots : Nat) (ls : Array Slot), fCur D cA s h0 h H locs → lv_has ls 5 [(1, .int a1), (2, .int a2), (3, .int a3), (4, va_rf a4)] → W p l e { frames := 7, cells := fCB h0 - fZ h0, slots := fLB h0 - fL h0, locals := 110 } s m args below meth c H locs cells slots (vx_MQ below (fQX D cA h0 r.2 (rI r.1)) (fXC D cA h0 r.2 (rI r.1)) args s (fCB h0 - fZ h0) (fLB h0 - fL h0) (fA h0)) (F0 m 16 ls []) := by
  obtain ⟨hx, hb, hml, hr, hlocks, hts, hown, K, hR⟩ := id M
  intro n
  induction n with
  | zero =>
    intro a1 a2 a3 a4 h hf
    exact nomatch (show (none : Option ((Int32 ⊕ Nat) × fSt)) = some r from hf)
  | succ n hk16 =>
    intro a1 a2 a3 a4 h hf H locs cells slots ls hC hl
    refine fr_aload hx hb dX7_changes_16 (lv_at hl 3 rfl) ?_
    refine fr_ifnull (tgt := 44) hx hb dX7_changes_18 (by decide) (fun c3 => ?_) (fun c3 => ?_)
    · replace hf := opos c3 hf
      refine lv_iload_n hx hb dX7_changes_44 rfl (lv_at hl 2 rfl) ?_
      obtain rfl := Option.some.inj hf
      exact fr_retQ (fr_iret hx hb hr hlocks hC dX7_changes_45)
    · replace hf := oneg c3 hf
      refine fr_aload hx hb dX7_changes_21 (lv_at hl 3 rfl) ?_
      refine lv_iload_n hx hb dX7_changes_23 rfl (lv_at hl 0 rfl) ?_
      refine lv_iload_n hx hb dX7_changes_24 rfl (lv_at hl 1 rfl) ?_
      obtain ⟨b6, q7, hf⟩ := obind hf
      obtain ⟨r4, g5, hf⟩ := obind hf
      refine fr_callV hx hb hml hts hown K hC hR ct_4 (c_X4_differs hfl D cA g5) 2 q7 kw564 kw561 kw562 kw563 kw56 (by decide +kernel) ⟨by exact Nat.le_of_ble_eq_true rfl, by exact Nat.le_of_ble_eq_true rfl⟩ rfl hl.1 (cat8 _ (by exact Nat.le_of_ble_eq_true rfl)) dX7_changes_25 rfl (fun H locs _ _ hC => ?_)
      refine lv_if_eq (tgt := 34) hx hb dX7_changes_28 (by decide) (fun c8 => ?_) (fun c8 => ?_)
      · replace hf := opos c8 hf
        exact w_X7_changes_L34 M hfl hno hk16 _ _ _ _ _ hf _ _ _ _ _ hC (lv_sub hl [0, 1, 2, 3] rfl)
      · replace hf := oneg c8 hf
        refine lv_iinc (v := (a3 + (1 : Int32))) (lv' := [(3, .int (a3 + (1 : Int32))), (1, .int a1), (2, .int a2), (4, va_rf a4)]) hx hb dX7_changes_31 hl (k := 2) rfl rfl (by decide) (congrArg (List.cons _) (flk rfl (flk rfl (fld rfl (flk rfl fln))))) (fun ls hl => ?_)
        exact w_X7_changes_L34 M hfl hno hk16 _ _ _ _ _ hf _ _ _ _ _ hC (lv_sub hl [1, 2, 0, 3] rfl)
set_option maxHeartbeats 4000000 in
set_option maxRecDepth 100000 in
theorem w_X7_changes_L0 {p : Program} {l : Launch} {e : Env} {s : State} {m : MethodId} {args : Array Value} {below : List Frame} {meth : Method} {c : Code} {D : va_G} {cA : Nat → ClassId} {h0 : fSt} {r : ((Int32 ⊕ Nat) × fSt)} (M : fM p s m args meth c D cA h0 { frames := 7, cells := fCB h0 - fZ h0, slots := fLB h0 - fL h0, locals := 110 } cX7_changes 5 (some (.int)) RX7) (hfl : l.stackTraces = false) (hno : ∀ x ∈ c.exceptionTable.toList, False) (a0 : Option Nat) (a1 : Int32) (a2 : Int32) (h : fSt) (hf : f_X7_changes_L0 a0 a1 a2 h = some r) : ∀ (H : Heap) (locs : List Loc) (cells slots : Nat) (ls : Array Slot), fCur D cA s h0 h H locs → lv_has ls 5 [(0, va_rf a0), (1, .int a1), (2, .int a2)] → W p l e { frames := 7, cells := fCB h0 - fZ h0, slots := fLB h0 - fL h0, locals := 110 } s m args below meth c H locs cells slots (vx_MQ below (fQX D cA h0 r.2 (rI r.1)) (fXC D cA h0 r.2 (rI r.1)) args s (fCB h0 - fZ h0) (fLB h0 - fL h0) (fA h0)) (F0 m 0 ls []) := by
  obtain ⟨hx, hb, hml, hr, hlocks, hts, hown, K, hR⟩ := id M
  intro H locs cells slots ls hC hl
  refine lv_iload_n hx hb dX7_changes_0 rfl (lv_at hl 1 rfl) ?_
  obtain ⟨⟨v11 | k12, h13⟩, g10, hf⟩ := obind hf
  · refine fr_callSX hx hb hml hts hown K hC hR (c_X7_checkTime hfl D cA g10) 1 kw489 kw487 kw488 kw55 (by decide +kernel) ⟨by exact Nat.le_of_ble_eq_true rfl, by exact Nat.le_of_ble_eq_true rfl⟩ rfl hl.1 (cat8 _ (by exact Nat.le_of_ble_eq_true rfl)) dX7_changes_1 rfl (fun H locs _ _ hC => ?_)
    refine lv_iload_n hx hb dX7_changes_4 rfl (lv_at hl 2 rfl) ?_
    obtain ⟨⟨v16 | k17, h18⟩, g15, hf⟩ := obind hf
    · refine fr_callSX hx hb hml hts hown K hC hR (c_X7_checkTime hfl D cA g15) 1 kw489 kw487 kw488 kw55 (by decide +kernel) ⟨by exact Nat.le_of_ble_eq_true rfl, by exact Nat.le_of_ble_eq_true rfl⟩ rfl hl.1 (cat8 _ (by exact Nat.le_of_ble_eq_true rfl)) dX7_changes_5 rfl (fun H locs _ _ hC => ?_)
      refine lv_iconst (v := (0 : Int32)) hx hb dX7_changes_8 (by decide) ?_
      refine lv_istore_n (lv' := [(3, .int (0 : Int32)), (0, va_rf a0), (1, .int a1), (2, .int a2)]) hx hb dX7_changes_9 rfl hl (by decide) (congrArg (List.cons _) (flk rfl (flk rfl (flk rfl fln)))) (fun ls hl => ?_)
      refine fr_aload_n hx hb dX7_changes_10 rfl (lv_at hl 1 rfl) ?_
      obtain ⟨x19, g20, hf⟩ := obind hf
      refine fr_get hx hb hts hown K hC ct_7 (fgR_get g20) (by decide) kw298 rfl dX7_changes_11 ?_
      refine fr_astore (lv' := [(4, va_rf x19), (3, .int (0 : Int32)), (0, va_rf a0), (1, .int a1), (2, .int a2)]) hx hb dX7_changes_14 hl (by decide) (congrArg (List.cons _) (flk rfl (flk rfl (flk rfl (flk rfl fln))))) (fun ls hl => ?_)
      exact w_X7_changes_L16 M hfl hno 4096 _ _ _ _ _ hf _ _ _ _ _ hC (lv_sub hl [3, 4, 1, 0] rfl)
    · obtain rfl := Option.some.inj hf
      refine fr_callST hx hb hml hts hown K hC hR (c_X7_checkTime hfl D cA g15) 1 kw489 kw487 kw488 kw55 (by decide +kernel) ⟨by exact Nat.le_of_ble_eq_true rfl, by exact Nat.le_of_ble_eq_true rfl⟩ rfl hl.1 (cat8 _ (by exact Nat.le_of_ble_eq_true rfl)) dX7_changes_5 rfl (fun H locs _ _ q ce hC e1 e2 e3 => ?_)
      exact fr_out (fun x hx9 => (hno x hx9).elim) hlocks hC e1 e2 e3
  · obtain rfl := Option.some.inj hf
    refine fr_callST hx hb hml hts hown K hC hR (c_X7_checkTime hfl D cA g10) 1 kw489 kw487 kw488 kw55 (by decide +kernel) ⟨by exact Nat.le_of_ble_eq_true rfl, by exact Nat.le_of_ble_eq_true rfl⟩ rfl hl.1 (cat8 _ (by exact Nat.le_of_ble_eq_true rfl)) dX7_changes_1 rfl (fun H locs _ _ q ce hC e1 e2 e3 => ?_)
    exact fr_out (fun x hx9 => (hno x hx9).elim) hlocks hC e1 e2 e3
set_option maxRecDepth 100000 in
theorem c_X7_changes {l : Launch} (hfl : l.stackTraces = false) (D : va_G) (cA : Nat → ClassId) {o : Nat} {p0 : Int32} {p1 : Int32} {h : fSt} {r : ((Int32 ⊕ Nat) × fSt)} (hf : f_X7_changes o p0 p1 h = some r) : fMetX l yX7_changes (wsC yX7_changes cX7_changes 5 (some (.int))) (7) (110) D cA [.ref o, .int p0, .int p1] h r.2 (rI r.1) := by
  exact fMetX.of (own := RX7) (by decide +kernel) rfl (lva1 rfl (lva1 rfl (lva1 rfl lva0))) (lgl1 rfl (lgl1 rfl (lgl1 rfl lgl0))) (Nat.le_of_ble_eq_true rfl) (fun p e s m args below meth c ls hno M hC hl => by
    have hl : lv_has ls 5 [(0, va_rf (some o)), (1, .int p0), (2, .int p1)] := hl
    exact w_X7_changes_L0 M hfl hno _ _ _ _ hf _ _ _ _ _ hC (lv_sub hl [0, 1, 2] rfl))
set_option maxHeartbeats 4000000 in
set_option maxRecDepth 100000 in
theorem w_L_changes_L0 {p : Program} {l : Launch} {e : Env} {s : State} {m : MethodId} {args : Array Value} {below : List Frame} {meth : Method} {c : Code} {D : va_G} {cA : Nat → ClassId} {h0 : fSt} {r : ((Int32 ⊕ Nat) × fSt)} (M : fM p s m args meth c D cA h0 { frames := 8, cells := fCB h0 - fZ h0, slots := fLB h0 - fL h0, locals := 134 } cL_changes 5 (some (.int)) RL) (hfl : l.stackTraces = false) (hno : c.exceptionTable.toList = tableOf [(0, 10, 13, 15)]) (a0 : Option Nat) (a1 : Int32) (a2 : Int32) (a3 : Option Nat) (h : fSt) (hf : f_L_changes_L0 a0 a1 a2 a3 h = some r) : ∀ (H : Heap) (locs : List Loc) (cells slots : Nat) (ls : Array Slot), fCur D cA s h0 h H locs → lv_has ls 5 [(0, va_rf a0), (1, .int a1), (2, .int a2), (3, va_rf a3)] → W p l e { frames := 8, cells := fCB h0 - fZ h0, slots := fLB h0 - fL h0, locals := 134 } s m args below meth c H locs cells slots (vx_MQ below (fQX D cA h0 r.2 (rI r.1)) (fXC D cA h0 r.2 (rI r.1)) args s (fCB h0 - fZ h0) (fLB h0 - fL h0) (fA h0)) (F0 m 0 ls []) := by
  obtain ⟨hx, hb, hml, hr, hlocks, hts, hown, K, hR⟩ := id M
  intro H locs cells slots ls hC hl
  refine fr_aload_n hx hb dL_changes_0 rfl (lv_at hl 3 rfl) ?_
  refine lv_iconst (v := (0 : Int32)) hx hb dL_changes_1 (by decide) ?_
  refine fr_aload_n hx hb dL_changes_2 rfl (lv_at hl 0 rfl) ?_
  refine lv_iload_n hx hb dL_changes_3 rfl (lv_at hl 1 rfl) ?_
  refine lv_iload_n hx hb dL_changes_4 rfl (lv_at hl 2 rfl) ?_
  obtain ⟨b3, q4, hf⟩ := obind hf
  obtain ⟨⟨v5 | k6, h7⟩, g2, hf⟩ := obind hf
  · refine fr_callVX hx hb hml hts hown K hC hR ct_7 (c_X7_changes hfl D cA g2) 2 q4 kw486 kw934 kw484 kw485 kw55 (by decide +kernel) ⟨by exact Nat.le_of_ble_eq_true rfl, by exact Nat.le_of_ble_eq_true rfl⟩ rfl hl.1 (cat8 _ (by exact Nat.le_of_ble_eq_true rfl)) dL_changes_5 rfl (fun H locs _ _ hC => ?_)
    refine lv_i2l (v := (Int32.toInt64 v5)) hx hb dL_changes_8 rfl ?_
    obtain ⟨h8, g9, hf⟩ := obind hf
    refine fr_last hx hb K hC (t := 1) rfl g9 dL_changes_9 (fun H locs hC => ?_)
    refine lv_goto (tgt := 17) hx hb dL_changes_10 (by decide) ?_
    refine lv_iconst (v := (0 : Int32)) hx hb dL_changes_17 (by decide) ?_
    obtain rfl := Option.some.inj hf
    exact fr_retQ (fr_iret hx hb hr hlocks hC dL_changes_18)
  · refine fr_callVT hx hb hml hts hown K hC hR ct_7 (c_X7_changes hfl D cA g2) 2 q4 kw486 kw934 kw484 kw485 kw55 (by decide +kernel) ⟨by exact Nat.le_of_ble_eq_true rfl, by exact Nat.le_of_ble_eq_true rfl⟩ rfl hl.1 (cat8 _ (by exact Nat.le_of_ble_eq_true rfl)) dL_changes_5 rfl (fun H locs _ _ q ce hC e1 e2 e3 => ?_)
    by_cases c10 : k6 = 1
    · replace hf := opos c10 hf
      subst c10
      refine fr_catch (k9 := 1) (name := "java/lang/IllegalArgumentException") hts K hown [] ⟨0, 10, 13, 15⟩ [] (by rw [hno]; rfl) (fun z hz => nomatch hz) (by decide) (by decide) kw574 kn495 e1 e2 e3 ?_
      refine fr_astore (lv' := [(4, va_rf (some q)), (0, va_rf a0), (1, .int a1), (2, .int a2), (3, va_rf a3)]) hx hb dL_changes_13 hl (by decide) (congrArg (List.cons _) (flk rfl (flk rfl (flk rfl (flk (adj1 _ _) fln))))) (fun ls hl => ?_)
      refine lv_iconst (v := (1 : Int32)) hx hb dL_changes_15 (by decide) ?_
      obtain rfl := Option.some.inj hf
      exact fr_retQ (fr_iret hx hb hr hlocks hC dL_changes_16)
    replace hf := oneg c10 hf
    exact nomatch hf
set_option maxRecDepth 100000 in
theorem c_L_changes {l : Launch} (hfl : l.stackTraces = false) (D : va_G) (cA : Nat → ClassId) {p0 : Option Nat} {p1 : Int32} {p2 : Int32} {p3 : Option Nat} {h : fSt} {r : ((Int32 ⊕ Nat) × fSt)} (hf : f_L_changes p0 p1 p2 p3 h = some r) : fMetX l yL_changes (wsCH yL_changes cL_changes 5 (some (.int)) [(0, 10, 13, 15)]) (8) (134) D cA [va_rf p0, .int p1, .int p2, va_rf p3] h r.2 (rI r.1) := by
  exact fMetX.ofH (own := RL) (by decide +kernel) rfl (lva1 (va_rf_cat _) (lva1 rfl (lva1 rfl (lva1 (va_rf_cat _) lva0)))) (lgl1 (va_rf_cat _) (lgl1 rfl (lgl1 rfl (lgl1 (va_rf_cat _) lgl0)))) (Nat.le_of_ble_eq_true rfl) (fun p e s m args below meth c ls hno M hC hl => by
    have hl : lv_has ls 5 [(0, va_rf p0), (1, .int p1), (2, .int p2), (3, va_rf p3)] := hl
    exact w_L_changes_L0 M hfl hno _ _ _ _ _ hf _ _ _ _ _ hC (lv_sub hl [0, 1, 2, 3] rfl))
set_option maxHeartbeats 4000000 in
set_option maxRecDepth 100000 in
theorem w_X7_common_L16 {p : Program} {l : Launch} {e : Env} {s : State} {m : MethodId} {args : Array Value} {below : List Frame} {meth : Method} {c : Code} {D : va_G} {cA : Nat → ClassId} {h0 : fSt} {r : ((Int32 ⊕ Nat) × fSt)} (M : fM p s m args meth c D cA h0 { frames := 7, cells := fCB h0 - fZ h0, slots := fLB h0 - fL h0, locals := 112 } cX7_common 6 (some (.int)) RX7) (hfl : l.stackTraces = false) (hno : ∀ x ∈ c.exceptionTable.toList, False) : ∀ (n : Nat) (a0 : Option Nat) (a4 : Option Nat) (a5 : Option Nat) (h : fSt), f_X7_common_L16 n a0 a4 a5 h = some r → ∀ (H : Heap) (locs : List Loc) (cells slots : Nat) (ls : Array Slot), fCur D cA s h0 h H locs → lv_has ls 6 [(0, va_rf a0), (4, va_rf a4), (5, va_rf a5)] → W p l e { frames := 7, cells := fCB h0 - fZ h0, slots := fLB h0 - fL h0, locals := 112 } s m args below meth c H locs cells slots (vx_MQ below (fQX D cA h0 r.2 (rI r.1)) (fXC D cA h0 r.2 (rI r.1)) args s (fCB h0 - fZ h0) (fLB h0 - fL h0) (fA h0)) (F0 m 16 ls []) := by
  obtain ⟨hx, hb, hml, hr, hlocks, hts, hown, K, hR⟩ := id M
  intro n
  induction n with
  | zero =>
    intro a0 a4 a5 h hf
    exact nomatch (show (none : Option ((Int32 ⊕ Nat) × fSt)) = some r from hf)
  | succ n hk16 =>
    intro a0 a4 a5 h hf H locs cells slots ls hC hl
    refine fr_aload hx hb dX7_common_16 (lv_at hl 2 rfl) ?_
    refine fr_ifnull (tgt := 47) hx hb dX7_common_18 (by decide) (fun c1 => ?_) (fun c1 => ?_)
    · replace hf := opos c1 hf
      refine fr_aload_n hx hb dX7_common_47 rfl (lv_at hl 0 rfl) ?_
      obtain ⟨x2, g3, hf⟩ := obind hf
      refine fr_get hx hb hts hown K hC ct_7 (fgR_get g3) (by decide) kw292 rfl dX7_common_48 ?_
      obtain ⟨x4, g5, hf⟩ := obind hf
      refine fr_get hx hb hts hown K hC ct_4 (fgI_get g5) (by decide) kw152 rfl dX7_common_51 ?_
      obtain rfl := Option.some.inj hf
      exact fr_retQ (fr_iret hx hb hr hlocks hC dX7_common_54)
    · replace hf := oneg c1 hf
      refine fr_aload hx hb dX7_common_21 (lv_at hl 1 rfl) ?_
      refine fr_aload hx hb dX7_common_23 (lv_at hl 2 rfl) ?_
      obtain ⟨b8, q9, hf⟩ := obind hf
      obtain ⟨r6, g7, hf⟩ := obind hf
      refine fr_callV hx hb hml hts hown K hC hR ct_4 (c_X4_isWithin hfl D cA g7) 1 q9 kw448 kw445 kw446 kw447 kw56 (by decide +kernel) ⟨by exact Nat.le_of_ble_eq_true rfl, by exact Nat.le_of_ble_eq_true rfl⟩ rfl hl.1 (cat8 _ (by exact Nat.le_of_ble_eq_true rfl)) dX7_common_25 rfl (fun H locs _ _ hC => ?_)
      refine lv_if_eq (tgt := 37) hx hb dX7_common_28 (by decide) (fun c10 => ?_) (fun c10 => ?_)
      · replace hf := opos c10 hf
        refine fr_aload hx hb dX7_common_37 (lv_at hl 2 rfl) ?_
        obtain ⟨x11, g12, hf⟩ := obind hf
        refine fr_get hx hb hts hown K hC ct_4 (fgR_get g12) (by decide) kw184 rfl dX7_common_39 ?_
        refine fr_astore (lv' := [(5, va_rf x11), (0, va_rf a0), (4, va_rf a4)]) hx hb dX7_common_42 hl (by decide) (congrArg (List.cons _) (flk rfl (flk (adj1 _ _) (fld rfl fln)))) (fun ls hl => ?_)
        refine lv_goto (tgt := 16) hx hb dX7_common_44 (by decide) ?_
        exact hk16 _ _ _ _ hf _ _ _ _ _ hC (lv_sub hl [1, 2, 0] rfl)
      · replace hf := oneg c10 hf
        refine fr_aload hx hb dX7_common_31 (lv_at hl 2 rfl) ?_
        obtain ⟨x13, g14, hf⟩ := obind hf
        refine fr_get hx hb hts hown K hC ct_4 (fgI_get g14) (by decide) kw152 rfl dX7_common_33 ?_
        obtain rfl := Option.some.inj hf
        exact fr_retQ (fr_iret hx hb hr hlocks hC dX7_common_36)
set_option maxHeartbeats 4000000 in
set_option maxRecDepth 100000 in
theorem w_X7_common_L0 {p : Program} {l : Launch} {e : Env} {s : State} {m : MethodId} {args : Array Value} {below : List Frame} {meth : Method} {c : Code} {D : va_G} {cA : Nat → ClassId} {h0 : fSt} {r : ((Int32 ⊕ Nat) × fSt)} (M : fM p s m args meth c D cA h0 { frames := 7, cells := fCB h0 - fZ h0, slots := fLB h0 - fL h0, locals := 112 } cX7_common 6 (some (.int)) RX7) (hfl : l.stackTraces = false) (hno : ∀ x ∈ c.exceptionTable.toList, False) (a0 : Option Nat) (a1 : Int32) (a2 : Int32) (h : fSt) (hf : f_X7_common_L0 a0 a1 a2 h = some r) : ∀ (H : Heap) (locs : List Loc) (cells slots : Nat) (ls : Array Slot), fCur D cA s h0 h H locs → lv_has ls 6 [(0, va_rf a0), (1, .int a1), (2, .int a2)] → W p l e { frames := 7, cells := fCB h0 - fZ h0, slots := fLB h0 - fL h0, locals := 112 } s m args below meth c H locs cells slots (vx_MQ below (fQX D cA h0 r.2 (rI r.1)) (fXC D cA h0 r.2 (rI r.1)) args s (fCB h0 - fZ h0) (fLB h0 - fL h0) (fA h0)) (F0 m 0 ls []) := by
  obtain ⟨hx, hb, hml, hr, hlocks, hts, hown, K, hR⟩ := id M
  intro H locs cells slots ls hC hl
  refine fr_aload_n hx hb dX7_common_0 rfl (lv_at hl 0 rfl) ?_
  refine lv_iload_n hx hb dX7_common_1 rfl (lv_at hl 1 rfl) ?_
  obtain ⟨b17, q18, hf⟩ := obind hf
  obtain ⟨⟨v19 | k20, h21⟩, g16, hf⟩ := obind hf
  · refine fr_callVX hx hb hml hts hown K hC hR ct_7 (c_X7_found hfl D cA g16) 1 q18 kw583 kw580 kw582 kw12 kw55 (by decide +kernel) ⟨by exact Nat.le_of_ble_eq_true rfl, by exact Nat.le_of_ble_eq_true rfl⟩ rfl hl.1 (cat8 _ (by exact Nat.le_of_ble_eq_true rfl)) dX7_common_2 rfl (fun H locs _ _ hC => ?_)
    refine fr_astore_n (lv' := [(3, va_rf v19), (0, va_rf a0), (1, .int a1), (2, .int a2)]) hx hb dX7_common_5 rfl hl (by decide) (congrArg (List.cons _) (flk rfl (flk rfl (flk rfl fln)))) (fun ls hl => ?_)
    refine fr_aload_n hx hb dX7_common_6 rfl (lv_at hl 1 rfl) ?_
    refine lv_iload_n hx hb dX7_common_7 rfl (lv_at hl 3 rfl) ?_
    obtain ⟨b24, q25, hf⟩ := obind hf
    obtain ⟨⟨v26 | k27, h28⟩, g23, hf⟩ := obind hf
    · refine fr_callVX hx hb hml hts hown K hC hR ct_7 (c_X7_found hfl D cA g23) 1 q25 kw583 kw580 kw582 kw12 kw55 (by decide +kernel) ⟨by exact Nat.le_of_ble_eq_true rfl, by exact Nat.le_of_ble_eq_true rfl⟩ rfl hl.1 (cat8 _ (by exact Nat.le_of_ble_eq_true rfl)) dX7_common_8 rfl (fun H locs _ _ hC => ?_)
      refine fr_astore (lv' := [(4, va_rf v26), (3, va_rf v19), (0, va_rf a0), (1, .int a1), (2, .int a2)]) hx hb dX7_common_11 hl (by decide) (congrArg (List.cons _) (flk (adj1 _ _) (flk rfl (flk rfl (flk rfl fln))))) (fun ls hl => ?_)
      refine fr_aload_n hx hb dX7_common_13 rfl (lv_at hl 1 rfl) ?_
      refine fr_astore (lv' := [(5, va_rf v19), (4, va_rf v26), (3, va_rf v19), (0, va_rf a0), (1, .int a1), (2, .int a2)]) hx hb dX7_common_14 hl (by decide) (congrArg (List.cons _) (flk (adj1 _ _) (flk rfl (flk rfl (flk rfl (flk rfl fln)))))) (fun ls hl => ?_)
      exact w_X7_common_L16 M hfl hno 4096 _ _ _ _ hf _ _ _ _ _ hC (lv_sub hl [3, 1, 0] rfl)
    · obtain rfl := Option.some.inj hf
      refine fr_callVT hx hb hml hts hown K hC hR ct_7 (c_X7_found hfl D cA g23) 1 q25 kw583 kw580 kw582 kw12 kw55 (by decide +kernel) ⟨by exact Nat.le_of_ble_eq_true rfl, by exact Nat.le_of_ble_eq_true rfl⟩ rfl hl.1 (cat8 _ (by exact Nat.le_of_ble_eq_true rfl)) dX7_common_8 rfl (fun H locs _ _ q ce hC e1 e2 e3 => ?_)
      exact fr_out (fun x hx9 => (hno x hx9).elim) hlocks hC e1 e2 e3
  · obtain rfl := Option.some.inj hf
    refine fr_callVT hx hb hml hts hown K hC hR ct_7 (c_X7_found hfl D cA g16) 1 q18 kw583 kw580 kw582 kw12 kw55 (by decide +kernel) ⟨by exact Nat.le_of_ble_eq_true rfl, by exact Nat.le_of_ble_eq_true rfl⟩ rfl hl.1 (cat8 _ (by exact Nat.le_of_ble_eq_true rfl)) dX7_common_2 rfl (fun H locs _ _ q ce hC e1 e2 e3 => ?_)
    exact fr_out (fun x hx9 => (hno x hx9).elim) hlocks hC e1 e2 e3
set_option maxRecDepth 100000 in
theorem c_X7_common {l : Launch} (hfl : l.stackTraces = false) (D : va_G) (cA : Nat → ClassId) {o : Nat} {p0 : Int32} {p1 : Int32} {h : fSt} {r : ((Int32 ⊕ Nat) × fSt)} (hf : f_X7_common o p0 p1 h = some r) : fMetX l yX7_common (wsC yX7_common cX7_common 6 (some (.int))) (7) (112) D cA [.ref o, .int p0, .int p1] h r.2 (rI r.1) := by
  exact fMetX.of (own := RX7) (by decide +kernel) rfl (lva1 rfl (lva1 rfl (lva1 rfl lva0))) (lgl1 rfl (lgl1 rfl (lgl1 rfl lgl0))) (Nat.le_of_ble_eq_true rfl) (fun p e s m args below meth c ls hno M hC hl => by
    have hl : lv_has ls 6 [(0, va_rf (some o)), (1, .int p0), (2, .int p1)] := hl
    exact w_X7_common_L0 M hfl hno _ _ _ _ hf _ _ _ _ _ hC (lv_sub hl [0, 1, 2] rfl))
set_option maxHeartbeats 4000000 in
set_option maxRecDepth 100000 in
theorem w_L_common_L0 {p : Program} {l : Launch} {e : Env} {s : State} {m : MethodId} {args : Array Value} {below : List Frame} {meth : Method} {c : Code} {D : va_G} {cA : Nat → ClassId} {h0 : fSt} {r : ((Int32 ⊕ Nat) × fSt)} (M : fM p s m args meth c D cA h0 { frames := 8, cells := fCB h0 - fZ h0, slots := fLB h0 - fL h0, locals := 137 } cL_common 5 (some (.int)) RL) (hfl : l.stackTraces = false) (hno : c.exceptionTable.toList = tableOf [(0, 10, 13, 13)]) (a0 : Option Nat) (a1 : Int32) (a2 : Int32) (a3 : Option Nat) (h : fSt) (hf : f_L_common_L0 a0 a1 a2 a3 h = some r) : ∀ (H : Heap) (locs : List Loc) (cells slots : Nat) (ls : Array Slot), fCur D cA s h0 h H locs → lv_has ls 5 [(0, va_rf a0), (1, .int a1), (2, .int a2), (3, va_rf a3)] → W p l e { frames := 8, cells := fCB h0 - fZ h0, slots := fLB h0 - fL h0, locals := 137 } s m args below meth c H locs cells slots (vx_MQ below (fQX D cA h0 r.2 (rI r.1)) (fXC D cA h0 r.2 (rI r.1)) args s (fCB h0 - fZ h0) (fLB h0 - fL h0) (fA h0)) (F0 m 0 ls []) := by
  obtain ⟨hx, hb, hml, hr, hlocks, hts, hown, K, hR⟩ := id M
  intro H locs cells slots ls hC hl
  refine fr_aload_n hx hb dL_common_0 rfl (lv_at hl 3 rfl) ?_
  refine lv_iconst (v := (0 : Int32)) hx hb dL_common_1 (by decide) ?_
  refine fr_aload_n hx hb dL_common_2 rfl (lv_at hl 0 rfl) ?_
  refine lv_iload_n hx hb dL_common_3 rfl (lv_at hl 1 rfl) ?_
  refine lv_iload_n hx hb dL_common_4 rfl (lv_at hl 2 rfl) ?_
  obtain ⟨b3, q4, hf⟩ := obind hf
  obtain ⟨⟨v5 | k6, h7⟩, g2, hf⟩ := obind hf
  · refine fr_callVX hx hb hml hts hown K hC hR ct_7 (c_X7_common hfl D cA g2) 2 q4 kw753 kw750 kw751 kw752 kw55 (by decide +kernel) ⟨by exact Nat.le_of_ble_eq_true rfl, by exact Nat.le_of_ble_eq_true rfl⟩ rfl hl.1 (cat8 _ (by exact Nat.le_of_ble_eq_true rfl)) dL_common_5 rfl (fun H locs _ _ hC => ?_)
    refine lv_i2l (v := (Int32.toInt64 v5)) hx hb dL_common_8 rfl ?_
    obtain ⟨h8, g9, hf⟩ := obind hf
    refine fr_last hx hb K hC (t := 1) rfl g9 dL_common_9 (fun H locs hC => ?_)
    refine lv_goto (tgt := 17) hx hb dL_common_10 (by decide) ?_
    refine lv_iconst (v := (0 : Int32)) hx hb dL_common_17 (by decide) ?_
    obtain rfl := Option.some.inj hf
    exact fr_retQ (fr_iret hx hb hr hlocks hC dL_common_18)
  · refine fr_callVT hx hb hml hts hown K hC hR ct_7 (c_X7_common hfl D cA g2) 2 q4 kw753 kw750 kw751 kw752 kw55 (by decide +kernel) ⟨by exact Nat.le_of_ble_eq_true rfl, by exact Nat.le_of_ble_eq_true rfl⟩ rfl hl.1 (cat8 _ (by exact Nat.le_of_ble_eq_true rfl)) dL_common_5 rfl (fun H locs _ _ q ce hC e1 e2 e3 => ?_)
    by_cases c10 : k6 = 0
    · replace hf := opos c10 hf
      subst c10
      refine fr_catch (k9 := 0) (name := "java/lang/IndexOutOfBoundsException") hts K hown [] ⟨0, 10, 13, 13⟩ [] (by rw [hno]; rfl) (fun z hz => nomatch hz) (by decide) (by decide) kw573 kn586 e1 e2 e3 ?_
      refine fr_astore (lv' := [(4, va_rf (some q)), (0, va_rf a0), (1, .int a1), (2, .int a2), (3, va_rf a3)]) hx hb dL_common_13 hl (by decide) (congrArg (List.cons _) (flk rfl (flk rfl (flk rfl (flk (adj1 _ _) fln))))) (fun ls hl => ?_)
      refine lv_iconst (v := (1 : Int32)) hx hb dL_common_15 (by decide) ?_
      obtain rfl := Option.some.inj hf
      exact fr_retQ (fr_iret hx hb hr hlocks hC dL_common_16)
    replace hf := oneg c10 hf
    exact nomatch hf
set_option maxRecDepth 100000 in
theorem c_L_common {l : Launch} (hfl : l.stackTraces = false) (D : va_G) (cA : Nat → ClassId) {p0 : Option Nat} {p1 : Int32} {p2 : Int32} {p3 : Option Nat} {h : fSt} {r : ((Int32 ⊕ Nat) × fSt)} (hf : f_L_common p0 p1 p2 p3 h = some r) : fMetX l yL_common (wsCH yL_common cL_common 5 (some (.int)) [(0, 10, 13, 13)]) (8) (137) D cA [va_rf p0, .int p1, .int p2, va_rf p3] h r.2 (rI r.1) := by
  exact fMetX.ofH (own := RL) (by decide +kernel) rfl (lva1 (va_rf_cat _) (lva1 rfl (lva1 rfl (lva1 (va_rf_cat _) lva0)))) (lgl1 (va_rf_cat _) (lgl1 rfl (lgl1 rfl (lgl1 (va_rf_cat _) lgl0)))) (Nat.le_of_ble_eq_true rfl) (fun p e s m args below meth c ls hno M hC hl => by
    have hl : lv_has ls 5 [(0, va_rf p0), (1, .int p1), (2, .int p2), (3, va_rf p3)] := hl
    exact w_L_common_L0 M hfl hno _ _ _ _ _ hf _ _ _ _ _ hC (lv_sub hl [0, 1, 2, 3] rfl))
