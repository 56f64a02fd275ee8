theorem dX8_isThere_0 : decode cX8_isThere 0 = .ok (.iload_n 1, 1) := by decide +kernel
theorem dX8_isThere_1 : decode cX8_isThere 1 = .ok (.ifCond .lt 28, 3) := by decide +kernel
theorem dX8_isThere_4 : decode cX8_isThere 4 = .ok (.iload_n 1, 1) := by decide +kernel
theorem dX8_isThere_5 : decode cX8_isThere 5 = .ok (.aload_n 0, 1) := by decide +kernel
theorem dX8_isThere_6 : decode cX8_isThere 6 = .ok (.getfield 16, 3) := by decide +kernel
theorem dX8_isThere_9 : decode cX8_isThere 9 = .ok (.if_icmp .ge 20, 3) := by decide +kernel
theorem dX8_isThere_12 : decode cX8_isThere 12 = .ok (.aload_n 0, 1) := by decide +kernel
theorem dX8_isThere_13 : decode cX8_isThere 13 = .ok (.getfield 22, 3) := by decide +kernel
theorem dX8_isThere_16 : decode cX8_isThere 16 = .ok (.iload_n 1, 1) := by decide +kernel
theorem dX8_isThere_17 : decode cX8_isThere 17 = .ok (.aaload, 1) := by decide +kernel
theorem dX8_isThere_18 : decode cX8_isThere 18 = .ok (.iconst 0, 1) := by decide +kernel
theorem dX8_isThere_19 : decode cX8_isThere 19 = .ok (.iaload, 1) := by decide +kernel
theorem dX8_isThere_20 : decode cX8_isThere 20 = .ok (.bipush (-2), 2) := by decide +kernel
theorem dX8_isThere_22 : decode cX8_isThere 22 = .ok (.if_icmp .le 7, 3) := by decide +kernel
theorem dX8_isThere_25 : decode cX8_isThere 25 = .ok (.iconst 1, 1) := by decide +kernel
theorem dX8_isThere_26 : decode cX8_isThere 26 = .ok (.goto 4, 3) := by decide +kernel
theorem dX8_isThere_29 : decode cX8_isThere 29 = .ok (.iconst 0, 1) := by decide +kernel
theorem dX8_isThere_30 : decode cX8_isThere 30 = .ok (.ireturn, 1) := by decide +kernel
theorem dX8_any_0 : decode cX8_any 0 = .ok (.aload_n 0, 1) := by decide +kernel
theorem dX8_any_1 : decode cX8_any 1 = .ok (.aload_n 0, 1) := by decide +kernel
theorem dX8_any_2 : decode cX8_any 2 = .ok (.getfield 16, 3) := by decide +kernel
theorem dX8_any_5 : decode cX8_any 5 = .ok (.invokevirtual 69, 3) := by decide +kernel
theorem dX8_any_8 : decode cX8_any 8 = .ok (.istore_n 1, 1) := by decide +kernel
theorem dX8_any_9 : decode cX8_any 9 = .ok (.aload_n 0, 1) := by decide +kernel
theorem dX8_any_10 : decode cX8_any 10 = .ok (.iload_n 1, 1) := by decide +kernel
theorem dX8_any_11 : decode cX8_any 11 = .ok (.invokevirtual 73, 3) := by decide +kernel
theorem dX8_any_14 : decode cX8_any 14 = .ok (.ifCond .ne 15, 3) := by decide +kernel
theorem dX8_any_17 : decode cX8_any 17 = .ok (.iload_n 1, 1) := by decide +kernel
theorem dX8_any_18 : decode cX8_any 18 = .ok (.iconst 1, 1) := by decide +kernel
theorem dX8_any_19 : decode cX8_any 19 = .ok (.iadd, 1) := by decide +kernel
theorem dX8_any_20 : decode cX8_any 20 = .ok (.aload_n 0, 1) := by decide +kernel
theorem dX8_any_21 : decode cX8_any 21 = .ok (.getfield 16, 3) := by decide +kernel
theorem dX8_any_24 : decode cX8_any 24 = .ok (.irem, 1) := by decide +kernel
theorem dX8_any_25 : decode cX8_any 25 = .ok (.istore_n 1, 1) := by decide +kernel
theorem dX8_any_26 : decode cX8_any 26 = .ok (.goto (-17), 3) := by decide +kernel
theorem dX8_any_29 : decode cX8_any 29 = .ok (.iload_n 1, 1) := by decide +kernel
theorem dX8_any_30 : decode cX8_any 30 = .ok (.ireturn, 1) := by decide +kernel
theorem dX8_level_0 : decode cX8_level 0 = .ok (.iload_n 1, 1) := by decide +kernel
theorem dX8_level_1 : decode cX8_level 1 = .ok (.ifCond .ne 7, 3) := by decide +kernel
theorem dX8_level_4 : decode cX8_level 4 = .ok (.iconst 0, 1) := by decide +kernel
theorem dX8_level_5 : decode cX8_level 5 = .ok (.goto 17, 3) := by decide +kernel
theorem dX8_level_8 : decode cX8_level 8 = .ok (.iconst 1, 1) := by decide +kernel
theorem dX8_level_9 : decode cX8_level 9 = .ok (.aload_n 0, 1) := by decide +kernel
theorem dX8_level_10 : decode cX8_level 10 = .ok (.aload_n 0, 1) := by decide +kernel
theorem dX8_level_11 : decode cX8_level 11 = .ok (.getfield 22, 3) := by decide +kernel
theorem dX8_level_14 : decode cX8_level 14 = .ok (.iload_n 1, 1) := by decide +kernel
theorem dX8_level_15 : decode cX8_level 15 = .ok (.aaload, 1) := by decide +kernel
theorem dX8_level_16 : decode cX8_level 16 = .ok (.iconst 0, 1) := by decide +kernel
theorem dX8_level_17 : decode cX8_level 17 = .ok (.iaload, 1) := by decide +kernel
theorem dX8_level_18 : decode cX8_level 18 = .ok (.invokevirtual 81, 3) := by decide +kernel
theorem dX8_level_21 : decode cX8_level 21 = .ok (.iadd, 1) := by decide +kernel
theorem dX8_level_22 : decode cX8_level 22 = .ok (.ireturn, 1) := by decide +kernel
theorem dX8_put_0 : decode cX8_put 0 = .ok (.bipush 8, 2) := by decide +kernel
theorem dX8_put_2 : decode cX8_put 2 = .ok (.newarray .int, 2) := by decide +kernel
theorem dX8_put_4 : decode cX8_put 4 = .ok (.dup, 1) := by decide +kernel
theorem dX8_put_5 : decode cX8_put 5 = .ok (.iconst 0, 1) := by decide +kernel
theorem dX8_put_6 : decode cX8_put 6 = .ok (.iload_n 2, 1) := by decide +kernel
theorem dX8_put_7 : decode cX8_put 7 = .ok (.iastore, 1) := by decide +kernel
theorem dX8_put_8 : decode cX8_put 8 = .ok (.dup, 1) := by decide +kernel
theorem dX8_put_9 : decode cX8_put 9 = .ok (.iconst 1, 1) := by decide +kernel
theorem dX8_put_10 : decode cX8_put 10 = .ok (.iload_n 3, 1) := by decide +kernel
theorem dX8_put_11 : decode cX8_put 11 = .ok (.iastore, 1) := by decide +kernel
theorem dX8_put_12 : decode cX8_put 12 = .ok (.dup, 1) := by decide +kernel
theorem dX8_put_13 : decode cX8_put 13 = .ok (.iconst 2, 1) := by decide +kernel
theorem dX8_put_14 : decode cX8_put 14 = .ok (.iload 4, 2) := by decide +kernel
theorem dX8_put_16 : decode cX8_put 16 = .ok (.iastore, 1) := by decide +kernel
theorem dX8_put_17 : decode cX8_put 17 = .ok (.dup, 1) := by decide +kernel
theorem dX8_put_18 : decode cX8_put 18 = .ok (.iconst 3, 1) := by decide +kernel
theorem dX8_put_19 : decode cX8_put 19 = .ok (.iload 5, 2) := by decide +kernel
theorem dX8_put_21 : decode cX8_put 21 = .ok (.iastore, 1) := by decide +kernel
theorem dX8_put_22 : decode cX8_put 22 = .ok (.dup, 1) := by decide +kernel
theorem dX8_put_23 : decode cX8_put 23 = .ok (.iconst 4, 1) := by decide +kernel
theorem dX8_put_24 : decode cX8_put 24 = .ok (.iconst 1, 1) := by decide +kernel
theorem dX8_put_25 : decode cX8_put 25 = .ok (.iastore, 1) := by decide +kernel
theorem dX8_put_26 : decode cX8_put 26 = .ok (.dup, 1) := by decide +kernel
theorem dX8_put_27 : decode cX8_put 27 = .ok (.iconst 5, 1) := by decide +kernel
theorem dX8_put_28 : decode cX8_put 28 = .ok (.iconst 1, 1) := by decide +kernel
theorem dX8_put_29 : decode cX8_put 29 = .ok (.iastore, 1) := by decide +kernel
theorem dX8_put_30 : decode cX8_put 30 = .ok (.dup, 1) := by decide +kernel
theorem dX8_put_31 : decode cX8_put 31 = .ok (.bipush 6, 2) := by decide +kernel
theorem dX8_put_33 : decode cX8_put 33 = .ok (.iconst 0, 1) := by decide +kernel
theorem dX8_put_34 : decode cX8_put 34 = .ok (.iastore, 1) := by decide +kernel
theorem dX8_put_35 : decode cX8_put 35 = .ok (.dup, 1) := by decide +kernel
theorem dX8_put_36 : decode cX8_put 36 = .ok (.bipush 7, 2) := by decide +kernel
theorem dX8_put_38 : decode cX8_put 38 = .ok (.aload_n 0, 1) := by decide +kernel
theorem dX8_put_39 : decode cX8_put 39 = .ok (.dup, 1) := by decide +kernel
theorem dX8_put_40 : decode cX8_put 40 = .ok (.getfield 66, 3) := by decide +kernel
theorem dX8_put_43 : decode cX8_put 43 = .ok (.dup_x1, 1) := by decide +kernel
theorem dX8_put_44 : decode cX8_put 44 = .ok (.iconst 1, 1) := by decide +kernel
theorem dX8_put_45 : decode cX8_put 45 = .ok (.iadd, 1) := by decide +kernel
theorem dX8_put_46 : decode cX8_put 46 = .ok (.putfield 66, 3) := by decide +kernel
theorem dX8_put_49 : decode cX8_put 49 = .ok (.iastore, 1) := by decide +kernel
theorem dX8_put_50 : decode cX8_put 50 = .ok (.astore 6, 2) := by decide +kernel
theorem dX8_put_52 : decode cX8_put 52 = .ok (.iconst 4, 1) := by decide +kernel
theorem dX8_put_53 : decode cX8_put 53 = .ok (.newarray .int, 2) := by decide +kernel
theorem dX8_put_55 : decode cX8_put 55 = .ok (.dup, 1) := by decide +kernel
theorem dX8_put_56 : decode cX8_put 56 = .ok (.iconst 0, 1) := by decide +kernel
theorem dX8_put_57 : decode cX8_put 57 = .ok (.iconst 0, 1) := by decide +kernel
theorem dX8_put_58 : decode cX8_put 58 = .ok (.iastore, 1) := by decide +kernel
theorem dX8_put_59 : decode cX8_put 59 = .ok (.dup, 1) := by decide +kernel
theorem dX8_put_60 : decode cX8_put 60 = .ok (.iconst 1, 1) := by decide +kernel
theorem dX8_put_61 : decode cX8_put 61 = .ok (.iconst 0, 1) := by decide +kernel
theorem dX8_put_62 : decode cX8_put 62 = .ok (.iastore, 1) := by decide +kernel
theorem dX8_put_63 : decode cX8_put 63 = .ok (.dup, 1) := by decide +kernel
theorem dX8_put_64 : decode cX8_put 64 = .ok (.iconst 2, 1) := by decide +kernel
theorem dX8_put_65 : decode cX8_put 65 = .ok (.iconst 0, 1) := by decide +kernel
theorem dX8_put_66 : decode cX8_put 66 = .ok (.iastore, 1) := by decide +kernel
theorem dX8_put_67 : decode cX8_put 67 = .ok (.dup, 1) := by decide +kernel
theorem dX8_put_68 : decode cX8_put 68 = .ok (.iconst 3, 1) := by decide +kernel
theorem dX8_put_69 : decode cX8_put 69 = .ok (.bipush 100, 2) := by decide +kernel
theorem dX8_put_71 : decode cX8_put 71 = .ok (.iastore, 1) := by decide +kernel
theorem dX8_put_72 : decode cX8_put 72 = .ok (.astore 7, 2) := by decide +kernel
theorem dX8_put_74 : decode cX8_put 74 = .ok (.aload_n 0, 1) := by decide +kernel
theorem dX8_put_75 : decode cX8_put 75 = .ok (.getfield 22, 3) := by decide +kernel
theorem dX8_put_78 : decode cX8_put 78 = .ok (.iload_n 1, 1) := by decide +kernel
theorem dX8_put_79 : decode cX8_put 79 = .ok (.aload 6, 2) := by decide +kernel
theorem dX8_put_81 : decode cX8_put 81 = .ok (.aastore, 1) := by decide +kernel
theorem dX8_put_82 : decode cX8_put 82 = .ok (.aload_n 0, 1) := by decide +kernel
theorem dX8_put_83 : decode cX8_put 83 = .ok (.getfield 26, 3) := by decide +kernel
theorem dX8_put_86 : decode cX8_put 86 = .ok (.iload_n 1, 1) := by decide +kernel
theorem dX8_put_87 : decode cX8_put 87 = .ok (.aload 7, 2) := by decide +kernel
theorem dX8_put_89 : decode cX8_put 89 = .ok (.aastore, 1) := by decide +kernel
theorem dX8_put_90 : decode cX8_put 90 = .ok (.return_, 1) := by decide +kernel
theorem dX8_add_0 : decode cX8_add 0 = .ok (.aload_n 0, 1) := by decide +kernel
theorem dX8_add_1 : decode cX8_add 1 = .ok (.invokevirtual 77, 3) := by decide +kernel
theorem dX8_add_4 : decode cX8_add 4 = .ok (.istore_n 1, 1) := by decide +kernel
theorem dX8_add_5 : decode cX8_add 5 = .ok (.aload_n 0, 1) := by decide +kernel
theorem dX8_add_6 : decode cX8_add 6 = .ok (.iload_n 1, 1) := by decide +kernel
theorem dX8_add_7 : decode cX8_add 7 = .ok (.invokevirtual 81, 3) := by decide +kernel
theorem dX8_add_10 : decode cX8_add 10 = .ok (.iconst 4, 1) := by decide +kernel
theorem dX8_add_11 : decode cX8_add 11 = .ok (.if_icmp .ne 15, 3) := by decide +kernel
theorem dX8_add_14 : decode cX8_add 14 = .ok (.aload_n 0, 1) := by decide +kernel
theorem dX8_add_15 : decode cX8_add 15 = .ok (.getfield 22, 3) := by decide +kernel
theorem dX8_add_18 : decode cX8_add 18 = .ok (.iload_n 1, 1) := by decide +kernel
theorem dX8_add_19 : decode cX8_add 19 = .ok (.aaload, 1) := by decide +kernel
theorem dX8_add_20 : decode cX8_add 20 = .ok (.iconst 0, 1) := by decide +kernel
theorem dX8_add_21 : decode cX8_add 21 = .ok (.iaload, 1) := by decide +kernel
theorem dX8_add_22 : decode cX8_add 22 = .ok (.istore_n 1, 1) := by decide +kernel
theorem dX8_add_23 : decode cX8_add 23 = .ok (.goto (-18), 3) := by decide +kernel
theorem dX8_add_26 : decode cX8_add 26 = .ok (.aload_n 0, 1) := by decide +kernel
theorem dX8_add_27 : decode cX8_add 27 = .ok (.iconst 4, 1) := by decide +kernel
theorem dX8_add_28 : decode cX8_add 28 = .ok (.invokevirtual 69, 3) := by decide +kernel
theorem dX8_add_31 : decode cX8_add 31 = .ok (.ifCond .ne 7, 3) := by decide +kernel
theorem dX8_add_34 : decode cX8_add 34 = .ok (.iconst 0, 1) := by decide +kernel
theorem dX8_add_35 : decode cX8_add 35 = .ok (.goto 10, 3) := by decide +kernel
theorem dX8_add_38 : decode cX8_add 38 = .ok (.iconst 1, 1) := by decide +kernel
theorem dX8_add_39 : decode cX8_add 39 = .ok (.aload_n 0, 1) := by decide +kernel
theorem dX8_add_40 : decode cX8_add 40 = .ok (.iconst 2, 1) := by decide +kernel
theorem dX8_add_41 : decode cX8_add 41 = .ok (.invokevirtual 69, 3) := by decide +kernel
theorem dX8_add_44 : decode cX8_add 44 = .ok (.iadd, 1) := by decide +kernel
theorem dX8_add_45 : decode cX8_add 45 = .ok (.istore_n 2, 1) := by decide +kernel
theorem dX8_add_46 : decode cX8_add 46 = .ok (.iconst 1, 1) := by decide +kernel
theorem dX8_add_47 : decode cX8_add 47 = .ok (.aload_n 0, 1) := by decide +kernel
theorem dX8_add_48 : decode cX8_add 48 = .ok (.bipush 40, 2) := by decide +kernel
theorem dX8_add_50 : decode cX8_add 50 = .ok (.invokevirtual 69, 3) := by decide +kernel
theorem dX8_add_53 : decode cX8_add 53 = .ok (.iadd, 1) := by decide +kernel
theorem dX8_add_54 : decode cX8_add 54 = .ok (.istore_n 3, 1) := by decide +kernel
theorem dX8_add_55 : decode cX8_add 55 = .ok (.iconst 1, 1) := by decide +kernel
theorem dX8_add_56 : decode cX8_add 56 = .ok (.aload_n 0, 1) := by decide +kernel
theorem dX8_add_57 : decode cX8_add 57 = .ok (.bipush 40, 2) := by decide +kernel
theorem dX8_add_59 : decode cX8_add 59 = .ok (.invokevirtual 69, 3) := by decide +kernel
theorem dX8_add_62 : decode cX8_add 62 = .ok (.iadd, 1) := by decide +kernel
theorem dX8_add_63 : decode cX8_add 63 = .ok (.istore 4, 2) := by decide +kernel
theorem dX8_add_65 : decode cX8_add 65 = .ok (.aload_n 0, 1) := by decide +kernel
theorem dX8_add_66 : decode cX8_add 66 = .ok (.getfield 16, 3) := by decide +kernel
theorem dX8_add_69 : decode cX8_add 69 = .ok (.bipush 30, 2) := by decide +kernel
theorem dX8_add_71 : decode cX8_add 71 = .ok (.if_icmp .ne 5, 3) := by decide +kernel
theorem dX8_add_74 : decode cX8_add 74 = .ok (.iconst 1, 1) := by decide +kernel
theorem dX8_add_75 : decode cX8_add 75 = .ok (.ireturn, 1) := by decide +kernel
theorem dX8_add_76 : decode cX8_add 76 = .ok (.aload_n 0, 1) := by decide +kernel
theorem dX8_add_77 : decode cX8_add 77 = .ok (.aload_n 0, 1) := by decide +kernel
theorem dX8_add_78 : decode cX8_add 78 = .ok (.getfield 16, 3) := by decide +kernel
theorem dX8_add_81 : decode cX8_add 81 = .ok (.iload_n 1, 1) := by decide +kernel
theorem dX8_add_82 : decode cX8_add 82 = .ok (.iload_n 2, 1) := by decide +kernel
theorem dX8_add_83 : decode cX8_add 83 = .ok (.iload_n 3, 1) := by decide +kernel
theorem dX8_add_84 : decode cX8_add 84 = .ok (.iload 4, 2) := by decide +kernel
theorem dX8_add_86 : decode cX8_add 86 = .ok (.invokevirtual 52, 3) := by decide +kernel
theorem dX8_add_89 : decode cX8_add 89 = .ok (.aload_n 0, 1) := by decide +kernel
theorem dX8_add_90 : decode cX8_add 90 = .ok (.getfield 10, 3) := by decide +kernel
theorem dX8_add_93 : decode cX8_add 93 = .ok (.iload_n 1, 1) := by decide +kernel
theorem dX8_add_94 : decode cX8_add 94 = .ok (.iload_n 2, 1) := by decide +kernel
theorem dX8_add_95 : decode cX8_add 95 = .ok (.iload_n 3, 1) := by decide +kernel
theorem dX8_add_96 : decode cX8_add 96 = .ok (.iload 4, 2) := by decide +kernel
theorem dX8_add_98 : decode cX8_add 98 = .ok (.invokevirtual 88, 3) := by decide +kernel
theorem dX8_add_101 : decode cX8_add 101 = .ok (.aload_n 0, 1) := by decide +kernel
theorem dX8_add_102 : decode cX8_add 102 = .ok (.dup, 1) := by decide +kernel
theorem dX8_add_103 : decode cX8_add 103 = .ok (.getfield 16, 3) := by decide +kernel
theorem dX8_add_106 : decode cX8_add 106 = .ok (.dup_x1, 1) := by decide +kernel
theorem dX8_add_107 : decode cX8_add 107 = .ok (.iconst 1, 1) := by decide +kernel
theorem dX8_add_108 : decode cX8_add 108 = .ok (.iadd, 1) := by decide +kernel
theorem dX8_add_109 : decode cX8_add 109 = .ok (.putfield 16, 3) := by decide +kernel
theorem dX8_add_112 : decode cX8_add 112 = .ok (.if_icmp .ne 7, 3) := by decide +kernel
theorem dX8_add_115 : decode cX8_add 115 = .ok (.iconst 1, 1) := by decide +kernel
theorem dX8_add_116 : decode cX8_add 116 = .ok (.goto 4, 3) := by decide +kernel
theorem dX8_add_119 : decode cX8_add 119 = .ok (.iconst 0, 1) := by decide +kernel
theorem dX8_add_120 : decode cX8_add 120 = .ok (.ireturn, 1) := by decide +kernel
theorem dX4_property_0 : decode cX4_property 0 = .ok (.iload_n 1, 1) := by decide +kernel
theorem dX4_property_1 : decode cX4_property 1 = .ok (.tableswitch 51 0 3 #[31, 36, 41, 46], 31) := by decide +kernel
theorem dX4_property_32 : decode cX4_property 32 = .ok (.aload_n 0, 1) := by decide +kernel
theorem dX4_property_33 : decode cX4_property 33 = .ok (.getfield 14, 3) := by decide +kernel
theorem dX4_property_36 : decode cX4_property 36 = .ok (.areturn, 1) := by decide +kernel
theorem dX4_property_37 : decode cX4_property 37 = .ok (.aload_n 0, 1) := by decide +kernel
theorem dX4_property_38 : decode cX4_property 38 = .ok (.getfield 20, 3) := by decide +kernel
theorem dX4_property_41 : decode cX4_property 41 = .ok (.areturn, 1) := by decide +kernel
theorem dX4_property_42 : decode cX4_property 42 = .ok (.aload_n 0, 1) := by decide +kernel
theorem dX4_property_43 : decode cX4_property 43 = .ok (.getfield 23, 3) := by decide +kernel
theorem dX4_property_46 : decode cX4_property 46 = .ok (.areturn, 1) := by decide +kernel
theorem dX4_property_47 : decode cX4_property 47 = .ok (.aload_n 0, 1) := by decide +kernel
theorem dX4_property_48 : decode cX4_property 48 = .ok (.getfield 26, 3) := by decide +kernel
theorem dX4_property_51 : decode cX4_property 51 = .ok (.areturn, 1) := by decide +kernel
theorem dX4_property_52 : decode cX4_property 52 = .ok (.aconst_null, 1) := by decide +kernel
theorem dX4_property_53 : decode cX4_property 53 = .ok (.areturn, 1) := by decide +kernel
theorem dX7_track_0 : decode cX7_track 0 = .ok (.aload_n 0, 1) := by decide +kernel
theorem dX7_track_1 : decode cX7_track 1 = .ok (.iload_n 1, 1) := by decide +kernel
theorem dX7_track_2 : decode cX7_track 2 = .ok (.invokevirtual 52, 3) := by decide +kernel
theorem dX7_track_5 : decode cX7_track 5 = .ok (.astore 5, 2) := by decide +kernel
theorem dX7_track_7 : decode cX7_track 7 = .ok (.aload 5, 2) := by decide +kernel
theorem dX7_track_9 : decode cX7_track 9 = .ok (.iload_n 2, 1) := by decide +kernel
theorem dX7_track_10 : decode cX7_track 10 = .ok (.invokevirtual 176, 3) := by decide +kernel
theorem dX7_track_13 : decode cX7_track 13 = .ok (.astore 6, 2) := by decide +kernel
theorem dX7_track_15 : decode cX7_track 15 = .ok (.aload 6, 2) := by decide +kernel
theorem dX7_track_17 : decode cX7_track 17 = .ok (.ifnull 22, 3) := by decide +kernel
theorem dX7_track_20 : decode cX7_track 20 = .ok (.iload_n 3, 1) := by decide +kernel
theorem dX7_track_21 : decode cX7_track 21 = .ok (.iconst 0, 1) := by decide +kernel
theorem dX7_track_22 : decode cX7_track 22 = .ok (.iconst 2, 1) := by decide +kernel
theorem dX7_track_23 : decode cX7_track 23 = .ok (.invokestatic 56, 3) := by decide +kernel
theorem dX7_track_26 : decode cX7_track 26 = .ok (.ifCond .eq 13, 3) := by decide +kernel
theorem dX7_track_29 : decode cX7_track 29 = .ok (.iload 4, 2) := by decide +kernel
theorem dX7_track_31 : decode cX7_track 31 = .ok (.iconst 0, 1) := by decide +kernel
theorem dX7_track_32 : decode cX7_track 32 = .ok (.iconst 2, 1) := by decide +kernel
theorem dX7_track_33 : decode cX7_track 33 = .ok (.invokestatic 56, 3) := by decide +kernel
theorem dX7_track_36 : decode cX7_track 36 = .ok (.ifCond .ne 13, 3) := by decide +kernel
theorem dX7_track_39 : decode cX7_track 39 = .ok (.new 60, 3) := by decide +kernel
theorem dX7_track_42 : decode cX7_track 42 = .ok (.dup, 1) := by decide +kernel
theorem dX7_track_43 : decode cX7_track 43 = .ok (.ldc 180, 2) := by decide +kernel
theorem dX7_track_45 : decode cX7_track 45 = .ok (.invokespecial 64, 3) := by decide +kernel
theorem dX7_track_48 : decode cX7_track 48 = .ok (.athrow, 1) := by decide +kernel
theorem dX7_track_49 : decode cX7_track 49 = .ok (.aload 5, 2) := by decide +kernel
theorem dX7_track_51 : decode cX7_track 51 = .ok (.aload_n 0, 1) := by decide +kernel
theorem dX7_track_52 : decode cX7_track 52 = .ok (.getfield 24, 3) := by decide +kernel
theorem dX7_track_55 : decode cX7_track 55 = .ok (.if_acmp .eq 30, 3) := by decide +kernel
theorem dX7_track_58 : decode cX7_track 58 = .ok (.aload 6, 2) := by decide +kernel
theorem dX7_track_60 : decode cX7_track 60 = .ok (.getfield 182, 3) := by decide +kernel
theorem dX7_track_63 : decode cX7_track 63 = .ok (.ifCond .ne 22, 3) := by decide +kernel
theorem dX7_track_66 : decode cX7_track 66 = .ok (.aload_n 0, 1) := by decide +kernel
theorem dX7_track_67 : decode cX7_track 67 = .ok (.getfield 185, 3) := by decide +kernel
theorem dX7_track_70 : decode cX7_track 70 = .ok (.ifCond .lt 15, 3) := by decide +kernel
theorem dX7_track_73 : decode cX7_track 73 = .ok (.aload_n 0, 1) := by decide +kernel
theorem dX7_track_74 : decode cX7_track 74 = .ok (.getfield 185, 3) := by decide +kernel
theorem dX7_track_77 : decode cX7_track 77 = .ok (.aload_n 0, 1) := by decide +kernel
theorem dX7_track_78 : decode cX7_track 78 = .ok (.getfield 17, 3) := by decide +kernel
theorem dX7_track_81 : decode cX7_track 81 = .ok (.arraylength, 1) := by decide +kernel
theorem dX7_track_82 : decode cX7_track 82 = .ok (.if_icmp .lt 13, 3) := by decide +kernel
theorem dX7_track_85 : decode cX7_track 85 = .ok (.new 73, 3) := by decide +kernel
theorem dX7_track_88 : decode cX7_track 88 = .ok (.dup, 1) := by decide +kernel
theorem dX7_track_89 : decode cX7_track 89 = .ok (.ldc 188, 2) := by decide +kernel
theorem dX7_track_91 : decode cX7_track 91 = .ok (.invokespecial 77, 3) := by decide +kernel
theorem dX7_track_94 : decode cX7_track 94 = .ok (.athrow, 1) := by decide +kernel
theorem dX7_track_95 : decode cX7_track 95 = .ok (.aload 6, 2) := by decide +kernel
theorem dX7_track_97 : decode cX7_track 97 = .ok (.iconst 1, 1) := by decide +kernel
theorem dX7_track_98 : decode cX7_track 98 = .ok (.putfield 182, 3) := by decide +kernel
theorem dX7_track_101 : decode cX7_track 101 = .ok (.aload 6, 2) := by decide +kernel
theorem dX7_track_103 : decode cX7_track 103 = .ok (.iload_n 3, 1) := by decide +kernel
theorem dX7_track_104 : decode cX7_track 104 = .ok (.putfield 190, 3) := by decide +kernel
theorem dX7_track_107 : decode cX7_track 107 = .ok (.aload 6, 2) := by decide +kernel
theorem dX7_track_109 : decode cX7_track 109 = .ok (.iload 4, 2) := by decide +kernel
theorem dX7_track_111 : decode cX7_track 111 = .ok (.putfield 193, 3) := by decide +kernel
theorem dX7_track_114 : decode cX7_track 114 = .ok (.aload_n 0, 1) := by decide +kernel
theorem dX7_track_115 : decode cX7_track 115 = .ok (.getfield 17, 3) := by decide +kernel
theorem dX7_track_118 : decode cX7_track 118 = .ok (.aload_n 0, 1) := by decide +kernel
theorem dX7_track_119 : decode cX7_track 119 = .ok (.getfield 185, 3) := by decide +kernel
theorem dX7_track_122 : decode cX7_track 122 = .ok (.aload 6, 2) := by decide +kernel
theorem dX7_track_124 : decode cX7_track 124 = .ok (.aastore, 1) := by decide +kernel
theorem dX7_track_125 : decode cX7_track 125 = .ok (.aload_n 0, 1) := by decide +kernel
theorem dX7_track_126 : decode cX7_track 126 = .ok (.dup, 1) := by decide +kernel
theorem dX7_track_127 : decode cX7_track 127 = .ok (.getfield 185, 3) := by decide +kernel
theorem dX7_track_130 : decode cX7_track 130 = .ok (.iconst 1, 1) := by decide +kernel
theorem dX7_track_131 : decode cX7_track 131 = .ok (.iadd, 1) := by decide +kernel
theorem dX7_track_132 : decode cX7_track 132 = .ok (.putfield 185, 3) := by decide +kernel
theorem dX7_track_135 : decode cX7_track 135 = .ok (.aload_n 0, 1) := by decide +kernel
theorem dX7_track_136 : decode cX7_track 136 = .ok (.getfield 185, 3) := by decide +kernel
theorem dX7_track_139 : decode cX7_track 139 = .ok (.iconst 1, 1) := by decide +kernel
theorem dX7_track_140 : decode cX7_track 140 = .ok (.isub, 1) := by decide +kernel
theorem dX7_track_141 : decode cX7_track 141 = .ok (.ireturn, 1) := by decide +kernel
theorem dX6_allows_0 : decode cX6_allows 0 = .ok (.iload_n 1, 1) := by decide +kernel
theorem dX6_allows_1 : decode cX6_allows 1 = .ok (.aload_n 0, 1) := by decide +kernel
theorem dX6_allows_2 : decode cX6_allows 2 = .ok (.getfield 15, 3) := by decide +kernel
theorem dX6_allows_5 : decode cX6_allows 5 = .ok (.aload_n 0, 1) := by decide +kernel
theorem dX6_allows_6 : decode cX6_allows 6 = .ok (.getfield 18, 3) := by decide +kernel
theorem dX6_allows_9 : decode cX6_allows 9 = .ok (.invokestatic 21, 3) := by decide +kernel
theorem dX6_allows_12 : decode cX6_allows 12 = .ok (.ireturn, 1) := by decide +kernel
theorem dX6_keyAt_0 : decode cX6_keyAt 0 = .ok (.aload_n 0, 1) := by decide +kernel
theorem dX6_keyAt_1 : decode cX6_keyAt 1 = .ok (.iload_n 1, 1) := by decide +kernel
theorem dX6_keyAt_2 : decode cX6_keyAt 2 = .ok (.invokevirtual 25, 3) := by decide +kernel
theorem dX6_keyAt_5 : decode cX6_keyAt 5 = .ok (.astore_n 2, 1) := by decide +kernel
theorem dX6_keyAt_6 : decode cX6_keyAt 6 = .ok (.aload_n 2, 1) := by decide +kernel
theorem dX6_keyAt_7 : decode cX6_keyAt 7 = .ok (.ifnull 11, 3) := by decide +kernel
theorem dX6_keyAt_10 : decode cX6_keyAt 10 = .ok (.aload_n 2, 1) := by decide +kernel
theorem dX6_keyAt_11 : decode cX6_keyAt 11 = .ok (.getfield 29, 3) := by decide +kernel
theorem dX6_keyAt_14 : decode cX6_keyAt 14 = .ok (.iload_n 1, 1) := by decide +kernel
theorem dX6_keyAt_15 : decode cX6_keyAt 15 = .ok (.if_icmp .eq 7, 3) := by decide +kernel
theorem dX6_keyAt_18 : decode cX6_keyAt 18 = .ok (.aconst_null, 1) := by decide +kernel
theorem dX6_keyAt_19 : decode cX6_keyAt 19 = .ok (.goto 4, 3) := by decide +kernel
theorem dX6_keyAt_22 : decode cX6_keyAt 22 = .ok (.aload_n 2, 1) := by decide +kernel
theorem dX6_keyAt_23 : decode cX6_keyAt 23 = .ok (.areturn, 1) := by decide +kernel
theorem dX3_init_0 : decode cX3_init 0 = .ok (.aload_n 0, 1) := by decide +kernel
theorem dX3_init_1 : decode cX3_init 1 = .ok (.invokespecial 1, 3) := by decide +kernel
theorem dX3_init_4 : decode cX3_init 4 = .ok (.aload_n 0, 1) := by decide +kernel
theorem dX3_init_5 : decode cX3_init 5 = .ok (.iload_n 1, 1) := by decide +kernel
theorem dX3_init_6 : decode cX3_init 6 = .ok (.putfield 7, 3) := by decide +kernel
theorem dX3_init_9 : decode cX3_init 9 = .ok (.aload_n 0, 1) := by decide +kernel
theorem dX3_init_10 : decode cX3_init 10 = .ok (.iload_n 2, 1) := by decide +kernel
theorem dX3_init_11 : decode cX3_init 11 = .ok (.putfield 13, 3) := by decide +kernel
theorem dX3_init_14 : decode cX3_init 14 = .ok (.return_, 1) := by decide +kernel
theorem dX6_putKey_0 : decode cX6_putKey 0 = .ok (.aload_n 0, 1) := by decide +kernel
theorem dX6_putKey_1 : decode cX6_putKey 1 = .ok (.iload_n 1, 1) := by decide +kernel
theorem dX6_putKey_2 : decode cX6_putKey 2 = .ok (.invokevirtual 25, 3) := by decide +kernel
theorem dX6_putKey_5 : decode cX6_putKey 5 = .ok (.astore_n 3, 1) := by decide +kernel
theorem dX6_putKey_6 : decode cX6_putKey 6 = .ok (.aload_n 3, 1) := by decide +kernel
theorem dX6_putKey_7 : decode cX6_putKey 7 = .ok (.ifnull 17, 3) := by decide +kernel
theorem dX6_putKey_10 : decode cX6_putKey 10 = .ok (.aload_n 3, 1) := by decide +kernel
theorem dX6_putKey_11 : decode cX6_putKey 11 = .ok (.getfield 29, 3) := by decide +kernel
theorem dX6_putKey_14 : decode cX6_putKey 14 = .ok (.iload_n 1, 1) := by decide +kernel
theorem dX6_putKey_15 : decode cX6_putKey 15 = .ok (.if_icmp .ne 9, 3) := by decide +kernel
theorem dX6_putKey_18 : decode cX6_putKey 18 = .ok (.aload_n 3, 1) := by decide +kernel
theorem dX6_putKey_19 : decode cX6_putKey 19 = .ok (.iload_n 2, 1) := by decide +kernel
theorem dX6_putKey_20 : decode cX6_putKey 20 = .ok (.putfield 34, 3) := by decide +kernel
theorem dX6_putKey_23 : decode cX6_putKey 23 = .ok (.return_, 1) := by decide +kernel
theorem dX6_putKey_24 : decode cX6_putKey 24 = .ok (.new 30, 3) := by decide +kernel
theorem dX6_putKey_27 : decode cX6_putKey 27 = .ok (.dup, 1) := by decide +kernel
theorem dX6_putKey_28 : decode cX6_putKey 28 = .ok (.iload_n 1, 1) := by decide +kernel
theorem dX6_putKey_29 : decode cX6_putKey 29 = .ok (.iload_n 2, 1) := by decide +kernel
theorem dX6_putKey_30 : decode cX6_putKey 30 = .ok (.invokespecial 37, 3) := by decide +kernel
theorem dX6_putKey_33 : decode cX6_putKey 33 = .ok (.astore 4, 2) := by decide +kernel
theorem dX6_putKey_35 : decode cX6_putKey 35 = .ok (.aload_n 3, 1) := by decide +kernel
theorem dX6_putKey_36 : decode cX6_putKey 36 = .ok (.ifnonnull 21, 3) := by decide +kernel
theorem dX6_putKey_39 : decode cX6_putKey 39 = .ok (.aload 4, 2) := by decide +kernel
theorem dX6_putKey_41 : decode cX6_putKey 41 = .ok (.aload_n 0, 1) := by decide +kernel
theorem dX6_putKey_42 : decode cX6_putKey 42 = .ok (.getfield 40, 3) := by decide +kernel
theorem dX6_putKey_45 : decode cX6_putKey 45 = .ok (.putfield 44, 3) := by decide +kernel
theorem dX6_putKey_48 : decode cX6_putKey 48 = .ok (.aload_n 0, 1) := by decide +kernel
theorem dX6_putKey_49 : decode cX6_putKey 49 = .ok (.aload 4, 2) := by decide +kernel
theorem dX6_putKey_51 : decode cX6_putKey 51 = .ok (.putfield 40, 3) := by decide +kernel
theorem dX6_putKey_54 : decode cX6_putKey 54 = .ok (.goto 18, 3) := by decide +kernel
theorem dX6_putKey_57 : decode cX6_putKey 57 = .ok (.aload 4, 2) := by decide +kernel
theorem dX6_putKey_59 : decode cX6_putKey 59 = .ok (.aload_n 3, 1) := by decide +kernel
theorem dX6_putKey_60 : decode cX6_putKey 60 = .ok (.getfield 44, 3) := by decide +kernel
theorem dX6_putKey_63 : decode cX6_putKey 63 = .ok (.putfield 44, 3) := by decide +kernel
theorem dX6_putKey_66 : decode cX6_putKey 66 = .ok (.aload_n 3, 1) := by decide +kernel
theorem dX6_putKey_67 : decode cX6_putKey 67 = .ok (.aload 4, 2) := by decide +kernel
theorem dX6_putKey_69 : decode cX6_putKey 69 = .ok (.putfield 44, 3) := by decide +kernel
theorem dX6_putKey_72 : decode cX6_putKey 72 = .ok (.aload_n 0, 1) := by decide +kernel
theorem dX6_putKey_73 : decode cX6_putKey 73 = .ok (.dup, 1) := by decide +kernel
theorem dX6_putKey_74 : decode cX6_putKey 74 = .ok (.getfield 47, 3) := by decide +kernel
theorem dX6_putKey_77 : decode cX6_putKey 77 = .ok (.iconst 1, 1) := by decide +kernel
theorem dX6_putKey_78 : decode cX6_putKey 78 = .ok (.iadd, 1) := by decide +kernel
theorem dX6_putKey_79 : decode cX6_putKey 79 = .ok (.putfield 47, 3) := by decide +kernel
theorem dX6_putKey_82 : decode cX6_putKey 82 = .ok (.return_, 1) := by decide +kernel
theorem dX7_foundTrack_0 : decode cX7_foundTrack 0 = .ok (.iload_n 1, 1) := by decide +kernel
theorem dX7_foundTrack_1 : decode cX7_foundTrack 1 = .ok (.ifCond .lt 12, 3) := by decide +kernel
theorem dX7_foundTrack_4 : decode cX7_foundTrack 4 = .ok (.iload_n 1, 1) := by decide +kernel
theorem dX7_foundTrack_5 : decode cX7_foundTrack 5 = .ok (.aload_n 0, 1) := by decide +kernel
theorem dX7_foundTrack_6 : decode cX7_foundTrack 6 = .ok (.getfield 17, 3) := by decide +kernel
theorem dX7_foundTrack_9 : decode cX7_foundTrack 9 = .ok (.arraylength, 1) := by decide +kernel
theorem dX7_foundTrack_10 : decode cX7_foundTrack 10 = .ok (.if_icmp .lt 7, 3) := by decide +kernel
theorem dX7_foundTrack_13 : decode cX7_foundTrack 13 = .ok (.aconst_null, 1) := by decide +kernel
theorem dX7_foundTrack_14 : decode cX7_foundTrack 14 = .ok (.goto 9, 3) := by decide +kernel
theorem dX7_foundTrack_17 : decode cX7_foundTrack 17 = .ok (.aload_n 0, 1) := by decide +kernel
theorem dX7_foundTrack_18 : decode cX7_foundTrack 18 = .ok (.getfield 17, 3) := by decide +kernel
theorem dX7_foundTrack_21 : decode cX7_foundTrack 21 = .ok (.iload_n 1, 1) := by decide +kernel
theorem dX7_foundTrack_22 : decode cX7_foundTrack 22 = .ok (.aaload, 1) := by decide +kernel
theorem dX7_foundTrack_23 : decode cX7_foundTrack 23 = .ok (.astore_n 2, 1) := by decide +kernel
theorem dX7_foundTrack_24 : decode cX7_foundTrack 24 = .ok (.aload_n 2, 1) := by decide +kernel
theorem dX7_foundTrack_25 : decode cX7_foundTrack 25 = .ok (.ifnonnull 14, 3) := by decide +kernel
theorem dX7_foundTrack_28 : decode cX7_foundTrack 28 = .ok (.new 290, 3) := by decide +kernel
theorem dX7_foundTrack_31 : decode cX7_foundTrack 31 = .ok (.dup, 1) := by decide +kernel
theorem dX7_foundTrack_32 : decode cX7_foundTrack 32 = .ok (.ldc_w 347, 3) := by decide +kernel
theorem dX7_foundTrack_35 : decode cX7_foundTrack 35 = .ok (.invokespecial 294, 3) := by decide +kernel
theorem dX7_foundTrack_38 : decode cX7_foundTrack 38 = .ok (.athrow, 1) := by decide +kernel
theorem dX7_foundTrack_39 : decode cX7_foundTrack 39 = .ok (.aload_n 2, 1) := by decide +kernel
theorem dX7_foundTrack_40 : decode cX7_foundTrack 40 = .ok (.areturn, 1) := by decide +kernel
theorem dX7_key_0 : decode cX7_key 0 = .ok (.aload_n 0, 1) := by decide +kernel
theorem dX7_key_1 : decode cX7_key 1 = .ok (.iload_n 1, 1) := by decide +kernel
theorem dX7_key_2 : decode cX7_key 2 = .ok (.invokevirtual 196, 3) := by decide +kernel
theorem dX7_key_5 : decode cX7_key 5 = .ok (.astore 4, 2) := by decide +kernel
theorem dX7_key_7 : decode cX7_key 7 = .ok (.iload_n 2, 1) := by decide +kernel
theorem dX7_key_8 : decode cX7_key 8 = .ok (.iconst 0, 1) := by decide +kernel
theorem dX7_key_9 : decode cX7_key 9 = .ok (.sipush 999, 3) := by decide +kernel
theorem dX7_key_12 : decode cX7_key 12 = .ok (.invokestatic 56, 3) := by decide +kernel
theorem dX7_key_15 : decode cX7_key 15 = .ok (.ifCond .eq 12, 3) := by decide +kernel
theorem dX7_key_18 : decode cX7_key 18 = .ok (.aload 4, 2) := by decide +kernel
theorem dX7_key_20 : decode cX7_key 20 = .ok (.iload_n 3, 1) := by decide +kernel
theorem dX7_key_21 : decode cX7_key 21 = .ok (.invokevirtual 119, 3) := by decide +kernel
theorem dX7_key_24 : decode cX7_key 24 = .ok (.ifCond .ne 13, 3) := by decide +kernel
theorem dX7_key_27 : decode cX7_key 27 = .ok (.new 60, 3) := by decide +kernel
theorem dX7_key_30 : decode cX7_key 30 = .ok (.dup, 1) := by decide +kernel
theorem dX7_key_31 : decode cX7_key 31 = .ok (.ldc 199, 2) := by decide +kernel
theorem dX7_key_33 : decode cX7_key 33 = .ok (.invokespecial 64, 3) := by decide +kernel
theorem dX7_key_36 : decode cX7_key 36 = .ok (.athrow, 1) := by decide +kernel
theorem dX7_key_37 : decode cX7_key 37 = .ok (.aload 4, 2) := by decide +kernel
theorem dX7_key_39 : decode cX7_key 39 = .ok (.getfield 201, 3) := by decide +kernel
theorem dX7_key_42 : decode cX7_key 42 = .ok (.ifCond .ne 22, 3) := by decide +kernel
theorem dX7_key_45 : decode cX7_key 45 = .ok (.aload 4, 2) := by decide +kernel
theorem dX7_key_47 : decode cX7_key 47 = .ok (.getfield 204, 3) := by decide +kernel
theorem dX7_key_50 : decode cX7_key 50 = .ok (.bipush 8, 2) := by decide +kernel
theorem dX7_key_52 : decode cX7_key 52 = .ok (.if_icmp .lt 22, 3) := by decide +kernel
theorem dX7_key_55 : decode cX7_key 55 = .ok (.aload 4, 2) := by decide +kernel
theorem dX7_key_57 : decode cX7_key 57 = .ok (.iload_n 2, 1) := by decide +kernel
theorem dX7_key_58 : decode cX7_key 58 = .ok (.invokevirtual 207, 3) := by decide +kernel
theorem dX7_key_61 : decode cX7_key 61 = .ok (.ifnonnull 13, 3) := by decide +kernel
theorem dX7_key_64 : decode cX7_key 64 = .ok (.new 73, 3) := by decide +kernel
theorem dX7_key_67 : decode cX7_key 67 = .ok (.dup, 1) := by decide +kernel
theorem dX7_key_68 : decode cX7_key 68 = .ok (.ldc 211, 2) := by decide +kernel
theorem dX7_key_70 : decode cX7_key 70 = .ok (.invokespecial 77, 3) := by decide +kernel
theorem dX7_key_73 : decode cX7_key 73 = .ok (.athrow, 1) := by decide +kernel
theorem dX7_key_74 : decode cX7_key 74 = .ok (.aload 4, 2) := by decide +kernel
theorem dX7_key_76 : decode cX7_key 76 = .ok (.iload_n 2, 1) := by decide +kernel
theorem dX7_key_77 : decode cX7_key 77 = .ok (.iload_n 3, 1) := by decide +kernel
theorem dX7_key_78 : decode cX7_key 78 = .ok (.invokevirtual 213, 3) := by decide +kernel
theorem dX7_key_81 : decode cX7_key 81 = .ok (.aload 4, 2) := by decide +kernel
theorem dX7_key_83 : decode cX7_key 83 = .ok (.getfield 204, 3) := by decide +kernel
theorem dX7_key_86 : decode cX7_key 86 = .ok (.ireturn, 1) := by decide +kernel
theorem dX8_key_0 : decode cX8_key 0 = .ok (.aload_n 0, 1) := by decide +kernel
theorem dX8_key_1 : decode cX8_key 1 = .ok (.bipush 20, 2) := by decide +kernel
theorem dX8_key_3 : decode cX8_key 3 = .ok (.invokevirtual 69, 3) := by decide +kernel
theorem dX8_key_6 : decode cX8_key 6 = .ok (.istore_n 2, 1) := by decide +kernel
theorem dX8_key_7 : decode cX8_key 7 = .ok (.aload_n 0, 1) := by decide +kernel
theorem dX8_key_8 : decode cX8_key 8 = .ok (.getfield 39, 3) := by decide +kernel
theorem dX8_key_11 : decode cX8_key 11 = .ok (.iload_n 1, 1) := by decide +kernel
theorem dX8_key_12 : decode cX8_key 12 = .ok (.aaload, 1) := by decide +kernel
theorem dX8_key_13 : decode cX8_key 13 = .ok (.iconst 1, 1) := by decide +kernel
theorem dX8_key_14 : decode cX8_key 14 = .ok (.iaload, 1) := by decide +kernel
theorem dX8_key_15 : decode cX8_key 15 = .ok (.iconst 2, 1) := by decide +kernel
theorem dX8_key_16 : decode cX8_key 16 = .ok (.if_icmp .ge 15, 3) := by decide +kernel
theorem dX8_key_19 : decode cX8_key 19 = .ok (.aload_n 0, 1) := by decide +kernel
theorem dX8_key_20 : decode cX8_key 20 = .ok (.bipush 81, 2) := by decide +kernel
theorem dX8_key_22 : decode cX8_key 22 = .ok (.invokevirtual 69, 3) := by decide +kernel
theorem dX8_key_25 : decode cX8_key 25 = .ok (.bipush 40, 2) := by decide +kernel
theorem dX8_key_27 : decode cX8_key 27 = .ok (.isub, 1) := by decide +kernel
theorem dX8_key_28 : decode cX8_key 28 = .ok (.goto 29, 3) := by decide +kernel
theorem dX8_key_31 : decode cX8_key 31 = .ok (.aload_n 0, 1) := by decide +kernel
theorem dX8_key_32 : decode cX8_key 32 = .ok (.getfield 39, 3) := by decide +kernel
theorem dX8_key_35 : decode cX8_key 35 = .ok (.iload_n 1, 1) := by decide +kernel
theorem dX8_key_36 : decode cX8_key 36 = .ok (.aaload, 1) := by decide +kernel
theorem dX8_key_37 : decode cX8_key 37 = .ok (.iconst 1, 1) := by decide +kernel
theorem dX8_key_38 : decode cX8_key 38 = .ok (.iaload, 1) := by decide +kernel
theorem dX8_key_39 : decode cX8_key 39 = .ok (.iconst 2, 1) := by decide +kernel
theorem dX8_key_40 : decode cX8_key 40 = .ok (.if_icmp .ne 11, 3) := by decide +kernel
theorem dX8_key_43 : decode cX8_key 43 = .ok (.aload_n 0, 1) := by decide +kernel
theorem dX8_key_44 : decode cX8_key 44 = .ok (.iconst 4, 1) := by decide +kernel
theorem dX8_key_45 : decode cX8_key 45 = .ok (.invokevirtual 69, 3) := by decide +kernel
theorem dX8_key_48 : decode cX8_key 48 = .ok (.goto 9, 3) := by decide +kernel
theorem dX8_key_51 : decode cX8_key 51 = .ok (.aload_n 0, 1) := by decide +kernel
theorem dX8_key_52 : decode cX8_key 52 = .ok (.bipush 101, 2) := by decide +kernel
theorem dX8_key_54 : decode cX8_key 54 = .ok (.invokevirtual 69, 3) := by decide +kernel
theorem dX8_key_57 : decode cX8_key 57 = .ok (.istore_n 3, 1) := by decide +kernel
theorem dX8_key_58 : decode cX8_key 58 = .ok (.aload_n 0, 1) := by decide +kernel
theorem dX8_key_59 : decode cX8_key 59 = .ok (.aload_n 0, 1) := by decide +kernel
theorem dX8_key_60 : decode cX8_key 60 = .ok (.getfield 39, 3) := by decide +kernel
theorem dX8_key_63 : decode cX8_key 63 = .ok (.iload_n 1, 1) := by decide +kernel
theorem dX8_key_64 : decode cX8_key 64 = .ok (.aaload, 1) := by decide +kernel
theorem dX8_key_65 : decode cX8_key 65 = .ok (.iconst 0, 1) := by decide +kernel
theorem dX8_key_66 : decode cX8_key 66 = .ok (.iaload, 1) := by decide +kernel
theorem dX8_key_67 : decode cX8_key 67 = .ok (.invokevirtual 73, 3) := by decide +kernel
theorem dX8_key_70 : decode cX8_key 70 = .ok (.ifCond .eq 15, 3) := by decide +kernel
theorem dX8_key_73 : decode cX8_key 73 = .ok (.aload_n 0, 1) := by decide +kernel
theorem dX8_key_74 : decode cX8_key 74 = .ok (.getfield 43, 3) := by decide +kernel
theorem dX8_key_77 : decode cX8_key 77 = .ok (.iload_n 1, 1) := by decide +kernel
theorem dX8_key_78 : decode cX8_key 78 = .ok (.aaload, 1) := by decide +kernel
theorem dX8_key_79 : decode cX8_key 79 = .ok (.arraylength, 1) := by decide +kernel
theorem dX8_key_80 : decode cX8_key 80 = .ok (.bipush 16, 2) := by decide +kernel
theorem dX8_key_82 : decode cX8_key 82 = .ok (.if_icmp .ne 5, 3) := by decide +kernel
theorem dX8_key_85 : decode cX8_key 85 = .ok (.iconst 1, 1) := by decide +kernel
theorem dX8_key_86 : decode cX8_key 86 = .ok (.ireturn, 1) := by decide +kernel
theorem dX8_key_87 : decode cX8_key 87 = .ok (.iconst 0, 1) := by decide +kernel
theorem dX8_key_88 : decode cX8_key 88 = .ok (.istore 4, 2) := by decide +kernel
theorem dX8_key_90 : decode cX8_key 90 = .ok (.iload 4, 2) := by decide +kernel
theorem dX8_key_92 : decode cX8_key 92 = .ok (.aload_n 0, 1) := by decide +kernel
theorem dX8_key_93 : decode cX8_key 93 = .ok (.getfield 43, 3) := by decide +kernel
theorem dX8_key_96 : decode cX8_key 96 = .ok (.iload_n 1, 1) := by decide +kernel
theorem dX8_key_97 : decode cX8_key 97 = .ok (.aaload, 1) := by decide +kernel
theorem dX8_key_98 : decode cX8_key 98 = .ok (.arraylength, 1) := by decide +kernel
theorem dX8_key_99 : decode cX8_key 99 = .ok (.if_icmp .ge 22, 3) := by decide +kernel
theorem dX8_key_102 : decode cX8_key 102 = .ok (.aload_n 0, 1) := by decide +kernel
theorem dX8_key_103 : decode cX8_key 103 = .ok (.getfield 43, 3) := by decide +kernel
theorem dX8_key_106 : decode cX8_key 106 = .ok (.iload_n 1, 1) := by decide +kernel
theorem dX8_key_107 : decode cX8_key 107 = .ok (.aaload, 1) := by decide +kernel
theorem dX8_key_108 : decode cX8_key 108 = .ok (.iload 4, 2) := by decide +kernel
theorem dX8_key_110 : decode cX8_key 110 = .ok (.iaload, 1) := by decide +kernel
theorem dX8_key_111 : decode cX8_key 111 = .ok (.iload_n 2, 1) := by decide +kernel
theorem dX8_key_112 : decode cX8_key 112 = .ok (.if_icmp .ge 9, 3) := by decide +kernel
theorem dX8_key_115 : decode cX8_key 115 = .ok (.iinc 4 2, 3) := by decide +kernel
theorem dX8_key_118 : decode cX8_key 118 = .ok (.goto (-28), 3) := by decide +kernel
theorem dX8_key_121 : decode cX8_key 121 = .ok (.iload 4, 2) := by decide +kernel
theorem dX8_key_123 : decode cX8_key 123 = .ok (.aload_n 0, 1) := by decide +kernel
theorem dX8_key_124 : decode cX8_key 124 = .ok (.getfield 43, 3) := by decide +kernel
theorem dX8_key_127 : decode cX8_key 127 = .ok (.iload_n 1, 1) := by decide +kernel
theorem dX8_key_128 : decode cX8_key 128 = .ok (.aaload, 1) := by decide +kernel
theorem dX8_key_129 : decode cX8_key 129 = .ok (.arraylength, 1) := by decide +kernel
theorem dX8_key_130 : decode cX8_key 130 = .ok (.if_icmp .ge 31, 3) := by decide +kernel
theorem dX8_key_133 : decode cX8_key 133 = .ok (.aload_n 0, 1) := by decide +kernel
theorem dX8_key_134 : decode cX8_key 134 = .ok (.getfield 43, 3) := by decide +kernel
theorem dX8_key_137 : decode cX8_key 137 = .ok (.iload_n 1, 1) := by decide +kernel
theorem dX8_key_138 : decode cX8_key 138 = .ok (.aaload, 1) := by decide +kernel
theorem dX8_key_139 : decode cX8_key 139 = .ok (.iload 4, 2) := by decide +kernel
theorem dX8_key_141 : decode cX8_key 141 = .ok (.iaload, 1) := by decide +kernel
theorem dX8_key_142 : decode cX8_key 142 = .ok (.iload_n 2, 1) := by decide +kernel
theorem dX8_key_143 : decode cX8_key 143 = .ok (.if_icmp .ne 18, 3) := by decide +kernel
theorem dX8_key_146 : decode cX8_key 146 = .ok (.aload_n 0, 1) := by decide +kernel
theorem dX8_key_147 : decode cX8_key 147 = .ok (.getfield 43, 3) := by decide +kernel
theorem dX8_key_150 : decode cX8_key 150 = .ok (.iload_n 1, 1) := by decide +kernel
theorem dX8_key_151 : decode cX8_key 151 = .ok (.aaload, 1) := by decide +kernel
theorem dX8_key_152 : decode cX8_key 152 = .ok (.iload 4, 2) := by decide +kernel
theorem dX8_key_154 : decode cX8_key 154 = .ok (.iconst 1, 1) := by decide +kernel
theorem dX8_key_155 : decode cX8_key 155 = .ok (.iadd, 1) := by decide +kernel
theorem dX8_key_156 : decode cX8_key 156 = .ok (.iload_n 3, 1) := by decide +kernel
theorem dX8_key_157 : decode cX8_key 157 = .ok (.iastore, 1) := by decide +kernel
theorem dX8_key_158 : decode cX8_key 158 = .ok (.goto 80, 3) := by decide +kernel
theorem dX8_key_161 : decode cX8_key 161 = .ok (.aload_n 0, 1) := by decide +kernel
theorem dX8_key_162 : decode cX8_key 162 = .ok (.getfield 43, 3) := by decide +kernel
theorem dX8_key_165 : decode cX8_key 165 = .ok (.iload_n 1, 1) := by decide +kernel
theorem dX8_key_166 : decode cX8_key 166 = .ok (.aaload, 1) := by decide +kernel
theorem dX8_key_167 : decode cX8_key 167 = .ok (.arraylength, 1) := by decide +kernel
theorem dX8_key_168 : decode cX8_key 168 = .ok (.iconst 2, 1) := by decide +kernel
theorem dX8_key_169 : decode cX8_key 169 = .ok (.iadd, 1) := by decide +kernel
theorem dX8_key_170 : decode cX8_key 170 = .ok (.newarray .int, 2) := by decide +kernel
theorem dX8_key_172 : decode cX8_key 172 = .ok (.astore 5, 2) := by decide +kernel
theorem dX8_key_174 : decode cX8_key 174 = .ok (.aload_n 0, 1) := by decide +kernel
theorem dX8_key_175 : decode cX8_key 175 = .ok (.getfield 43, 3) := by decide +kernel
theorem dX8_key_178 : decode cX8_key 178 = .ok (.iload_n 1, 1) := by decide +kernel
theorem dX8_key_179 : decode cX8_key 179 = .ok (.aaload, 1) := by decide +kernel
theorem dX8_key_180 : decode cX8_key 180 = .ok (.iconst 0, 1) := by decide +kernel
theorem dX8_key_181 : decode cX8_key 181 = .ok (.aload 5, 2) := by decide +kernel
theorem dX8_key_183 : decode cX8_key 183 = .ok (.iconst 0, 1) := by decide +kernel
theorem dX8_key_184 : decode cX8_key 184 = .ok (.iload 4, 2) := by decide +kernel
theorem dX8_key_186 : decode cX8_key 186 = .ok (.invokestatic 145, 3) := by decide +kernel
theorem dX8_key_189 : decode cX8_key 189 = .ok (.aload 5, 2) := by decide +kernel
theorem dX8_key_191 : decode cX8_key 191 = .ok (.iload 4, 2) := by decide +kernel
theorem dX8_key_193 : decode cX8_key 193 = .ok (.iload_n 2, 1) := by decide +kernel
theorem dX8_key_194 : decode cX8_key 194 = .ok (.iastore, 1) := by decide +kernel
theorem dX8_key_195 : decode cX8_key 195 = .ok (.aload 5, 2) := by decide +kernel
theorem dX8_key_197 : decode cX8_key 197 = .ok (.iload 4, 2) := by decide +kernel
theorem dX8_key_199 : decode cX8_key 199 = .ok (.iconst 1, 1) := by decide +kernel
theorem dX8_key_200 : decode cX8_key 200 = .ok (.iadd, 1) := by decide +kernel
theorem dX8_key_201 : decode cX8_key 201 = .ok (.iload_n 3, 1) := by decide +kernel
theorem dX8_key_202 : decode cX8_key 202 = .ok (.iastore, 1) := by decide +kernel
theorem dX8_key_203 : decode cX8_key 203 = .ok (.aload_n 0, 1) := by decide +kernel
theorem dX8_key_204 : decode cX8_key 204 = .ok (.getfield 43, 3) := by decide +kernel
theorem dX8_key_207 : decode cX8_key 207 = .ok (.iload_n 1, 1) := by decide +kernel
theorem dX8_key_208 : decode cX8_key 208 = .ok (.aaload, 1) := by decide +kernel
theorem dX8_key_209 : decode cX8_key 209 = .ok (.iload 4, 2) := by decide +kernel
theorem dX8_key_211 : decode cX8_key 211 = .ok (.aload 5, 2) := by decide +kernel
theorem dX8_key_213 : decode cX8_key 213 = .ok (.iload 4, 2) := by decide +kernel
theorem dX8_key_215 : decode cX8_key 215 = .ok (.iconst 2, 1) := by decide +kernel
theorem dX8_key_216 : decode cX8_key 216 = .ok (.iadd, 1) := by decide +kernel
theorem dX8_key_217 : decode cX8_key 217 = .ok (.aload_n 0, 1) := by decide +kernel
theorem dX8_key_218 : decode cX8_key 218 = .ok (.getfield 43, 3) := by decide +kernel
theorem dX8_key_221 : decode cX8_key 221 = .ok (.iload_n 1, 1) := by decide +kernel
theorem dX8_key_222 : decode cX8_key 222 = .ok (.aaload, 1) := by decide +kernel
theorem dX8_key_223 : decode cX8_key 223 = .ok (.arraylength, 1) := by decide +kernel
theorem dX8_key_224 : decode cX8_key 224 = .ok (.iload 4, 2) := by decide +kernel
theorem dX8_key_226 : decode cX8_key 226 = .ok (.isub, 1) := by decide +kernel
theorem dX8_key_227 : decode cX8_key 227 = .ok (.invokestatic 145, 3) := by decide +kernel
theorem dX8_key_230 : decode cX8_key 230 = .ok (.aload_n 0, 1) := by decide +kernel
theorem dX8_key_231 : decode cX8_key 231 = .ok (.getfield 43, 3) := by decide +kernel
theorem dX8_key_234 : decode cX8_key 234 = .ok (.iload_n 1, 1) := by decide +kernel
theorem dX8_key_235 : decode cX8_key 235 = .ok (.aload 5, 2) := by decide +kernel
theorem dX8_key_237 : decode cX8_key 237 = .ok (.aastore, 1) := by decide +kernel
theorem dX8_key_238 : decode cX8_key 238 = .ok (.aload_n 0, 1) := by decide +kernel
theorem dX8_key_239 : decode cX8_key 239 = .ok (.getfield 10, 3) := by decide +kernel
theorem dX8_key_242 : decode cX8_key 242 = .ok (.iload_n 1, 1) := by decide +kernel
theorem dX8_key_243 : decode cX8_key 243 = .ok (.iload_n 2, 1) := by decide +kernel
theorem dX8_key_244 : decode cX8_key 244 = .ok (.iload_n 3, 1) := by decide +kernel
theorem dX8_key_245 : decode cX8_key 245 = .ok (.invokevirtual 151, 3) := by decide +kernel
theorem dX8_key_248 : decode cX8_key 248 = .ok (.aload_n 0, 1) := by decide +kernel
theorem dX8_key_249 : decode cX8_key 249 = .ok (.getfield 43, 3) := by decide +kernel
theorem dX8_key_252 : decode cX8_key 252 = .ok (.iload_n 1, 1) := by decide +kernel
theorem dX8_key_253 : decode cX8_key 253 = .ok (.aaload, 1) := by decide +kernel
theorem dX8_key_254 : decode cX8_key 254 = .ok (.arraylength, 1) := by decide +kernel
theorem dX8_key_255 : decode cX8_key 255 = .ok (.iconst 2, 1) := by decide +kernel
theorem dX8_key_256 : decode cX8_key 256 = .ok (.idiv, 1) := by decide +kernel
theorem dX8_key_257 : decode cX8_key 257 = .ok (.if_icmp .ne 7, 3) := by decide +kernel
theorem dX8_key_260 : decode cX8_key 260 = .ok (.iconst 1, 1) := by decide +kernel
theorem dX8_key_261 : decode cX8_key 261 = .ok (.goto 4, 3) := by decide +kernel
theorem dX8_key_264 : decode cX8_key 264 = .ok (.iconst 0, 1) := by decide +kernel
theorem dX8_key_265 : decode cX8_key 265 = .ok (.ireturn, 1) := by decide +kernel
theorem dX8_one_0 : decode cX8_one 0 = .ok (.aload_n 0, 1) := by decide +kernel
theorem dX8_one_1 : decode cX8_one 1 = .ok (.invokevirtual 77, 3) := by decide +kernel
theorem dX8_one_4 : decode cX8_one 4 = .ok (.istore_n 1, 1) := by decide +kernel
theorem dX8_one_5 : decode cX8_one 5 = .ok (.iconst 1, 1) := by decide +kernel
theorem dX8_one_6 : decode cX8_one 6 = .ok (.istore_n 2, 1) := by decide +kernel
theorem dX8_one_7 : decode cX8_one 7 = .ok (.iload_n 2, 1) := by decide +kernel
theorem dX8_one_8 : decode cX8_one 8 = .ok (.aload_n 0, 1) := by decide +kernel
theorem dX8_one_9 : decode cX8_one 9 = .ok (.getfield 16, 3) := by decide +kernel
theorem dX8_one_12 : decode cX8_one 12 = .ok (.if_icmp .ge 23, 3) := by decide +kernel
theorem dX8_one_15 : decode cX8_one 15 = .ok (.iload_n 1, 1) := by decide +kernel
theorem dX8_one_16 : decode cX8_one 16 = .ok (.ifCond .ne 19, 3) := by decide +kernel
theorem dX8_one_19 : decode cX8_one 19 = .ok (.aload_n 0, 1) := by decide +kernel
theorem dX8_one_20 : decode cX8_one 20 = .ok (.iload_n 2, 1) := by decide +kernel
theorem dX8_one_21 : decode cX8_one 21 = .ok (.invokevirtual 73, 3) := by decide +kernel
theorem dX8_one_24 : decode cX8_one 24 = .ok (.ifCond .eq 5, 3) := by decide +kernel
theorem dX8_one_27 : decode cX8_one 27 = .ok (.iload_n 2, 1) := by decide +kernel
theorem dX8_one_28 : decode cX8_one 28 = .ok (.istore_n 1, 1) := by decide +kernel
theorem dX8_one_29 : decode cX8_one 29 = .ok (.iinc 2 1, 3) := by decide +kernel
theorem dX8_one_32 : decode cX8_one 32 = .ok (.goto (-25), 3) := by decide +kernel
theorem dX8_one_35 : decode cX8_one 35 = .ok (.iload_n 1, 1) := by decide +kernel
theorem dX8_one_36 : decode cX8_one 36 = .ok (.ireturn, 1) := by decide +kernel
noncomputable def f_X8_isThere_L30 (s0 : Int32) (h : fSt) : Option (Int32 × fSt) := if s0 = 0 ∨ s0 = 1 then some (s0, h) else none
noncomputable def f_X8_isThere_L29  (h : fSt) : Option (Int32 × fSt) := f_X8_isThere_L30 (0 : Int32) h
noncomputable def f_X8_isThere_L0 (a0 : Option Nat) (a1 : Int32) (h : fSt) : Option (Int32 × fSt) := (if a1 < 0 then f_X8_isThere_L29 h else (fgI h a0 8 3).bind fun x3 => (if x3 ≤ a1 then f_X8_isThere_L29 h else (fgR h a0 8 4).bind fun x6 => (faR h x6 4 a1).bind fun x8 => (faI h x8 0 (0 : Int32)).bind fun x10 => (if x10 ≤ (-2 : Int32) then f_X8_isThere_L29 h else f_X8_isThere_L30 (1 : Int32) h)))
noncomputable def f_X8_isThere (o : Nat) (p0 : Int32) (h : fSt) : Option (Int32 × fSt) := f_X8_isThere_L0 (some o) p0 h
noncomputable def f_X8_any_L9 (n : Nat) : Option Nat → Int32 → fSt → Option (Int32 × fSt) := Nat.rec (motive := fun _ => Option Nat → Int32 → fSt → Option (Int32 × fSt)) (fun _ _ _ => none) (fun _ k9 (a0 : Option Nat) (a1 : Int32) (h : fSt) => (fobj h a0 8).bind fun b3 => (f_X8_isThere b3 a1 h).bind fun r1 => (if r1.1 = 0 then (fgI r1.2 a0 8 3).bind fun x6 => (if x6 = 0 then none else k9 a0 ((a1 + (1 : Int32)) - (a1 + (1 : Int32)) / x6 * x6) r1.2) else some (a1, r1.2))) n
noncomputable def f_X8_any_L0 (a0 : Option Nat) (h : fSt) : Option (Int32 × fSt) := (fgI h a0 8 3).bind fun x9 => (fobj h a0 8).bind fun b13 => (f_X8_draw b13 x9 h).bind fun r11 => f_X8_any_L9 4096 a0 r11.1 r11.2
noncomputable def f_X8_any (o : Nat) (h : fSt) : Option (Int32 × fSt) := f_X8_any_L0 (some o) h
noncomputable def f_X8_level_L22 (self : Nat → Int32 → fSt → Option (Int32 × fSt)) (s0 : Int32) (h : fSt) : Option (Int32 × fSt) := some (s0, h)
noncomputable def f_X8_level_L0 (self : Nat → Int32 → fSt → Option (Int32 × fSt)) (a0 : Option Nat) (a1 : Int32) (h : fSt) : Option (Int32 × fSt) := (if a1 = 0 then f_X8_level_L22 self (0 : Int32) h else (fgR h a0 8 4).bind fun x2 => (faR h x2 4 a1).bind fun x4 => (faI h x4 0 (0 : Int32)).bind fun x6 => (fobj h a0 8).bind fun b10 => (self b10 x6 h).bind fun r8 => f_X8_level_L22 self ((1 : Int32) + r8.1) r8.2)
noncomputable def f_X8_level (d : Nat) : Nat → Int32 → fSt → Option (Int32 × fSt) := Nat.rec (motive := fun _ => Nat → Int32 → fSt → Option (Int32 × fSt)) (fun _ _ _ => none) (fun _ self (o : Nat) (p0 : Int32) (h : fSt) => f_X8_level_L0 self (some o) p0 h) d
noncomputable def f_X8_put_L0 (a0 : Option Nat) (a1 : Int32) (a2 : Int32) (a3 : Int32) (a4 : Int32) (a5 : Int32) (h : fSt) : Option (Unit × fSt) := (if (8 : Int32) < 0 ∨ 67000000 < ((8 : Int32)).toNatClampNeg then none else (fnew h (.inr (0, ((8 : Int32)).toNatClampNeg, .inl (fun _ => 0))) ((8 : Int32)).toNatClampNeg).bind fun r2 => (fsI r2.2 (some r2.1) 0 (0 : Int32) a2).bind fun h4 => (fsI h4 (some r2.1) 0 (1 : Int32) a3).bind fun h6 => (fsI h6 (some r2.1) 0 (2 : Int32) a4).bind fun h8 => (fsI h8 (some r2.1) 0 (3 : Int32) a5).bind fun h10 => (fsI h10 (some r2.1) 0 (4 : Int32) (1 : Int32)).bind fun h12 => (fsI h12 (some r2.1) 0 (5 : Int32) (1 : Int32)).bind fun h14 => (fsI h14 (some r2.1) 0 (6 : Int32) (0 : Int32)).bind fun h16 => (fgI h16 a0 8 9).bind fun x18 => (fput h16 a0 8 9 (.int (x18 + (1 : Int32)))).bind fun h20 => (fsI h20 (some r2.1) 0 (7 : Int32) x18).bind fun h22 => (if (4 : Int32) < 0 ∨ 67000000 < ((4 : Int32)).toNatClampNeg then none else (fnew h22 (.inr (0, ((4 : Int32)).toNatClampNeg, .inl (fun _ => 0))) ((4 : Int32)).toNatClampNeg).bind fun r25 => (fsI r25.2 (some r25.1) 0 (0 : Int32) (0 : Int32)).bind fun h27 => (fsI h27 (some r25.1) 0 (1 : Int32) (0 : Int32)).bind fun h29 => (fsI h29 (some r25.1) 0 (2 : Int32) (0 : Int32)).bind fun h31 => (fsI h31 (some r25.1) 0 (3 : Int32) (100 : Int32)).bind fun h33 => (fgR h33 a0 8 4).bind fun x35 => (fsA h33 x35 4 0 a1 (some r2.1)).bind fun h37 => (fgR h37 a0 8 5).bind fun x39 => (fsA h37 x39 4 0 a1 (some r25.1)).bind fun h41 => some ((), h41)))
noncomputable def f_X8_put (o : Nat) (p0 : Int32) (p1 : Int32) (p2 : Int32) (p3 : Int32) (p4 : Int32) (h : fSt) : Option (Unit × fSt) := f_X8_put_L0 (some o) p0 p1 p2 p3 p4 h
noncomputable def f_X8_add_L120 (s0 : Int32) (h : fSt) : Option (Int32 × fSt) := if s0 = 0 ∨ s0 = 1 then some (s0, h) else none
noncomputable def f_X8_add_L45 (a0 : Option Nat) (a1 : Int32) (s0 : Int32) (h : fSt) : Option (Int32 × fSt) := (fobj h a0 8).bind fun b4 => (f_X8_draw b4 (40 : Int32) h).bind fun r2 => (fobj r2.2 a0 8).bind fun b8 => (f_X8_draw b8 (40 : Int32) r2.2).bind fun r6 => (fgI r6.2 a0 8 3).bind fun x10 => (if x10 = (30 : Int32) then some ((1 : Int32), r6.2) else (fgI r6.2 a0 8 3).bind fun x13 => (fobj r6.2 a0 8).bind fun b17 => (f_X8_put b17 x13 a1 s0 ((1 : Int32) + r2.1) ((1 : Int32) + r6.1) r6.2).bind fun r15 => (fgR r15.2 a0 8 0).bind fun x19 => (fobj r15.2 x19 7).bind fun b23 => (f_X7_add b23 a1 s0 ((1 : Int32) + r2.1) ((1 : Int32) + r6.1) r15.2).bind fun r21 => Sum.elim (fun v25 => (fgI r21.2 a0 8 3).bind fun x28 => (fput r21.2 a0 8 3 (.int (x28 + (1 : Int32)))).bind fun h30 => (if v25 = x28 then f_X8_add_L120 (1 : Int32) h30 else f_X8_add_L120 (0 : Int32) h30)) (fun _ => none) r21.1)
noncomputable def f_X8_add_L5 (n : Nat) : Option Nat → Int32 → fSt → Option (Int32 × fSt) := Nat.rec (motive := fun _ => Option Nat → Int32 → fSt → Option (Int32 × fSt)) (fun _ _ _ => none) (fun _ k5 (a0 : Option Nat) (a1 : Int32) (h : fSt) => (fobj h a0 8).bind fun b35 => (f_X8_level 8 b35 a1 h).bind fun r33 => (if r33.1 = (4 : Int32) then (fgR r33.2 a0 8 4).bind fun x47 => (faR r33.2 x47 4 a1).bind fun x49 => (faI r33.2 x49 0 (0 : Int32)).bind fun x51 => k5 a0 x51 r33.2 else (fobj r33.2 a0 8).bind fun b40 => (f_X8_draw b40 (4 : Int32) r33.2).bind fun r38 => (if r38.1 = 0 then f_X8_add_L45 a0 a1 (0 : Int32) r38.2 else (fobj r38.2 a0 8).bind fun b45 => (f_X8_draw b45 (2 : Int32) r38.2).bind fun r43 => f_X8_add_L45 a0 a1 ((1 : Int32) + r43.1) r43.2))) n
noncomputable def f_X8_add_L0 (a0 : Option Nat) (h : fSt) : Option (Int32 × fSt) := (fobj h a0 8).bind fun b55 => (f_X8_any b55 h).bind fun r53 => f_X8_add_L5 4096 a0 r53.1 r53.2
noncomputable def f_X8_add (o : Nat) (h : fSt) : Option (Int32 × fSt) := f_X8_add_L0 (some o) h
noncomputable def f_X4_property_L0 (a0 : Option Nat) (a1 : Int32) (h : fSt) : Option (Option Nat × fSt) := (if a1 = (0 : Int32) then (fgR h a0 4 3).bind fun x2 => some (x2, h) else (if a1 = (1 : Int32) then (fgR h a0 4 4).bind fun x5 => some (x5, h) else (if a1 = (2 : Int32) then (fgR h a0 4 5).bind fun x8 => some (x8, h) else (if a1 = (3 : Int32) then (fgR h a0 4 6).bind fun x11 => some (x11, h) else some (none, h)))))
noncomputable def f_X4_property (o : Nat) (p0 : Int32) (h : fSt) : Option (Option Nat × fSt) := f_X4_property_L0 (some o) p0 h
noncomputable def f_X7_track_L39  (h : fSt) : Option ((Int32 ⊕ Nat) × fSt) := (fthr h).bind fun h1 => some (.inr 1, h1)
noncomputable def f_X7_track_L85  (h : fSt) : Option ((Int32 ⊕ Nat) × fSt) := (fthr h).bind fun h3 => some (.inr 2, h3)
noncomputable def f_X7_track_L0 (a0 : Option Nat) (a1 : Int32) (a2 : Int32) (a3 : Int32) (a4 : Int32) (h : fSt) : Option ((Int32 ⊕ Nat) × fSt) := (fobj h a0 7).bind fun b7 => (f_X7_found b7 a1 h).bind fun r5 => Sum.elim (fun v9 => (fobj r5.2 v9 4).bind fun b14 => (f_X4_property b14 a2 r5.2).bind fun r12 => (if r12.1 = none then f_X7_track_L39 r12.2 else (f_X7_isFrom a3 (0 : Int32) (2 : Int32) r12.2).bind fun r17 => (if r17.1 = 0 then f_X7_track_L39 r17.2 else (f_X7_isFrom a4 (0 : Int32) (2 : Int32) r17.2).bind fun r20 => (if r20.1 = 0 then f_X7_track_L39 r20.2 else (fgR r20.2 a0 7 2).bind fun x23 => (if v9 = x23 then f_X7_track_L85 r20.2 else (fgI r20.2 r12.1 6 3).bind fun x26 => (if x26 = 0 then (fgI r20.2 a0 7 6).bind fun x29 => (if x29 < 0 then f_X7_track_L85 r20.2 else (fgI r20.2 a0 7 6).bind fun x32 => (fgR r20.2 a0 7 1).bind fun x34 => (flen r20.2 x34 3).bind fun x36 => (if x32 < x36 then (fputZ r20.2 r12.1 6 3 (1 : Int32)).bind fun h39 => (fput h39 r12.1 6 5 (.int a3)).bind fun h42 => (fput h42 r12.1 6 6 (.int a4)).bind fun h44 => (fgR h44 a0 7 1).bind fun x46 => (fgI h44 a0 7 6).bind fun x48 => (fsR h44 x46 3 6 x48 r12.1).bind fun h50 => (fgI h50 a0 7 6).bind fun x52 => (fput h50 a0 7 6 (.int (x52 + (1 : Int32)))).bind fun h54 => (fgI h54 a0 7 6).bind fun x56 => some (.inl (x56 - (1 : Int32)), h54) else f_X7_track_L85 r20.2)) else f_X7_track_L85 r20.2)))))) (fun k10 => some (.inr k10, r5.2)) r5.1
noncomputable def f_X7_track (o : Nat) (p0 : Int32) (p1 : Int32) (p2 : Int32) (p3 : Int32) (h : fSt) : Option ((Int32 ⊕ Nat) × fSt) := f_X7_track_L0 (some o) p0 p1 p2 p3 h
noncomputable def f_X6_allows_L0 (a0 : Option Nat) (a1 : Int32) (h : fSt) : Option (Int32 × fSt) := (fgI h a0 6 0).bind fun x1 => (fgI h a0 6 1).bind fun x3 => (f_X7_isFrom a1 x1 x3 h).bind fun r5 => if r5.1 = 0 ∨ r5.1 = 1 then some (r5.1, r5.2) else none
noncomputable def f_X6_allows (o : Nat) (p0 : Int32) (h : fSt) : Option (Int32 × fSt) := f_X6_allows_L0 (some o) p0 h
noncomputable def f_X6_keyAt_L23 (s0 : Option Nat) (h : fSt) : Option (Option Nat × fSt) := some (s0, h)
noncomputable def f_X6_keyAt_L18  (h : fSt) : Option (Option Nat × fSt) := f_X6_keyAt_L23 none h
noncomputable def f_X6_keyAt_L0 (a0 : Option Nat) (a1 : Int32) (h : fSt) : Option (Option Nat × fSt) := (fobj h a0 6).bind fun b3 => (f_X6_lastKeyUpTo b3 a1 h).bind fun r1 => (if r1.1 = none then f_X6_keyAt_L18 r1.2 else (fgI r1.2 r1.1 3 0).bind fun x6 => (if x6 = a1 then f_X6_keyAt_L23 r1.1 r1.2 else f_X6_keyAt_L18 r1.2))
noncomputable def f_X6_keyAt (o : Nat) (p0 : Int32) (h : fSt) : Option (Option Nat × fSt) := f_X6_keyAt_L0 (some o) p0 h
noncomputable def f_X3_init_L0 (a0 : Option Nat) (a1 : Int32) (a2 : Int32) (h : fSt) : Option (Unit × fSt) := (fobj h a0 3).bind fun b1 => (fput h a0 3 0 (.int a1)).bind fun h3 => (fput h3 a0 3 1 (.int a2)).bind fun h5 => some ((), h5)
noncomputable def f_X3_init (o : Nat) (p0 : Int32) (p1 : Int32) (h : fSt) : Option (Unit × fSt) := f_X3_init_L0 (some o) p0 p1 h
noncomputable def f_X6_putKey_L72 (a0 : Option Nat) (h : fSt) : Option (Unit × fSt) := (fgI h a0 6 8).bind fun x1 => (fput h a0 6 8 (.int (x1 + (1 : Int32)))).bind fun h3 => some ((), h3)
noncomputable def f_X6_putKey_L24 (a0 : Option Nat) (a1 : Int32) (a2 : Int32) (a3 : Option Nat) (h : fSt) : Option (Unit × fSt) := (fnew h (.inl (3, [.int 0, .int 0, .null])) 3).bind fun r5 => (f_X3_init r5.1 a1 a2 r5.2).bind fun r7 => (if a3 = none then (fgR r7.2 a0 6 7).bind fun x16 => (fput r7.2 (some r5.1) 3 2 (va_rf x16)).bind fun h18 => (fput h18 a0 6 7 (va_rf (some r5.1))).bind fun h20 => f_X6_putKey_L72 a0 h20 else (fgR r7.2 a3 3 2).bind fun x10 => (fput r7.2 (some r5.1) 3 2 (va_rf x10)).bind fun h12 => (fput h12 a3 3 2 (va_rf (some r5.1))).bind fun h14 => f_X6_putKey_L72 a0 h14)
noncomputable def f_X6_putKey_L0 (a0 : Option Nat) (a1 : Int32) (a2 : Int32) (h : fSt) : Option (Unit × fSt) := (fobj h a0 6).bind fun b24 => (f_X6_lastKeyUpTo b24 a1 h).bind fun r22 => (if r22.1 = none then f_X6_putKey_L24 a0 a1 a2 r22.1 r22.2 else (fgI r22.2 r22.1 3 0).bind fun x27 => (if x27 = a1 then (fput r22.2 r22.1 3 1 (.int a2)).bind fun h30 => some ((), h30) else f_X6_putKey_L24 a0 a1 a2 r22.1 r22.2))
noncomputable def f_X6_putKey (o : Nat) (p0 : Int32) (p1 : Int32) (h : fSt) : Option (Unit × fSt) := f_X6_putKey_L0 (some o) p0 p1 h
noncomputable def f_X7_foundTrack_L23 (s0 : Option Nat) (h : fSt) : Option ((Option Nat ⊕ Nat) × fSt) := (if s0 = none then (fthr h).bind fun h2 => some (.inr 0, h2) else some (.inl s0, h))
noncomputable def f_X7_foundTrack_L13  (h : fSt) : Option ((Option Nat ⊕ Nat) × fSt) := f_X7_foundTrack_L23 none h
noncomputable def f_X7_foundTrack_L0 (a0 : Option Nat) (a1 : Int32) (h : fSt) : Option ((Option Nat ⊕ Nat) × fSt) := (if a1 < 0 then f_X7_foundTrack_L13 h else (fgR h a0 7 1).bind fun x5 => (flen h x5 3).bind fun x7 => (if a1 < x7 then (fgR h a0 7 1).bind fun x10 => (faR h x10 3 a1).bind fun x12 => f_X7_foundTrack_L23 x12 h else f_X7_foundTrack_L13 h))
noncomputable def f_X7_foundTrack (o : Nat) (p0 : Int32) (h : fSt) : Option ((Option Nat ⊕ Nat) × fSt) := f_X7_foundTrack_L0 (some o) p0 h
noncomputable def f_X7_key_L27  (h : fSt) : Option ((Int32 ⊕ Nat) × fSt) := (fthr h).bind fun h1 => some (.inr 1, h1)
noncomputable def f_X7_key_L64  (h : fSt) : Option ((Int32 ⊕ Nat) × fSt) := (fthr h).bind fun h3 => some (.inr 2, h3)
noncomputable def f_X7_key_L74 (a2 : Int32) (a3 : Int32) (a4 : Option Nat) (h : fSt) : Option ((Int32 ⊕ Nat) × fSt) := (fobj h a4 6).bind fun b7 => (f_X6_putKey b7 a2 a3 h).bind fun r5 => (fgI r5.2 a4 6 8).bind fun x9 => some (.inl x9, r5.2)
noncomputable def f_X7_key_L0 (a0 : Option Nat) (a1 : Int32) (a2 : Int32) (a3 : Int32) (h : fSt) : Option ((Int32 ⊕ Nat) × fSt) := (fobj h a0 7).bind fun b13 => (f_X7_foundTrack b13 a1 h).bind fun r11 => Sum.elim (fun v15 => (f_X7_isFrom a2 (0 : Int32) (999 : Int32) r11.2).bind fun r18 => (if r18.1 = 0 then f_X7_key_L27 r18.2 else (fobj r18.2 v15 6).bind fun b23 => (f_X6_allows b23 a3 r18.2).bind fun r21 => (if r21.1 = 0 then f_X7_key_L27 r21.2 else (fgI r21.2 v15 6 4).bind fun x26 => (if x26 = 0 then (fgI r21.2 v15 6 8).bind fun x29 => (if x29 < (8 : Int32) then f_X7_key_L74 a2 a3 v15 r21.2 else (fobj r21.2 v15 6).bind fun b34 => (f_X6_keyAt b34 a2 r21.2).bind fun r32 => (if r32.1 = none then f_X7_key_L64 r32.2 else f_X7_key_L74 a2 a3 v15 r32.2)) else f_X7_key_L64 r21.2)))) (fun k16 => some (.inr k16, r11.2)) r11.1
noncomputable def f_X7_key (o : Nat) (p0 : Int32) (p1 : Int32) (p2 : Int32) (h : fSt) : Option ((Int32 ⊕ Nat) × fSt) := f_X7_key_L0 (some o) p0 p1 p2 h
noncomputable def f_X8_key_L85  (h : fSt) : Option (Int32 × fSt) := some ((1 : Int32), h)
noncomputable def f_X8_key_L265 (s0 : Int32) (h : fSt) : Option (Int32 × fSt) := if s0 = 0 ∨ s0 = 1 then some (s0, h) else none
noncomputable def f_X8_key_L238 (a0 : Option Nat) (a1 : Int32) (a2 : Int32) (a3 : Int32) (h : fSt) : Option (Int32 × fSt) := (fgR h a0 8 0).bind fun x2 => (fobj h x2 7).bind fun b6 => (f_X7_key b6 a1 a2 a3 h).bind fun r4 => Sum.elim (fun v8 => (fgR r4.2 a0 8 12).bind fun x11 => (faR r4.2 x11 4 a1).bind fun x13 => (flen r4.2 x13 0).bind fun x15 => (if v8 = (x15 / (2 : Int32)) then f_X8_key_L265 (1 : Int32) r4.2 else f_X8_key_L265 (0 : Int32) r4.2)) (fun _ => none) r4.1
noncomputable def f_X8_key_L161 (a0 : Option Nat) (a1 : Int32) (a2 : Int32) (a3 : Int32) (a4 : Int32) (h : fSt) : Option (Int32 × fSt) := (fgR h a0 8 12).bind fun x18 => (faR h x18 4 a1).bind fun x20 => (flen h x20 0).bind fun x22 => (if (x22 + (2 : Int32)) < 0 ∨ 67000000 < ((x22 + (2 : Int32))).toNatClampNeg then none else (fnew h (.inr (0, ((x22 + (2 : Int32))).toNatClampNeg, .inl (fun _ => 0))) ((x22 + (2 : Int32))).toNatClampNeg).bind fun r25 => (fgR r25.2 a0 8 12).bind fun x27 => (faR r25.2 x27 4 a1).bind fun x29 => (fcpy r25.2 x29 (0 : Int32) (some r25.1) (0 : Int32) a4 0).bind fun h31 => (fsI h31 (some r25.1) 0 a4 a2).bind fun h33 => (fsI h33 (some r25.1) 0 (a4 + (1 : Int32)) a3).bind fun h35 => (fgR h35 a0 8 12).bind fun x37 => (faR h35 x37 4 a1).bind fun x39 => (fgR h35 a0 8 12).bind fun x41 => (faR h35 x41 4 a1).bind fun x43 => (flen h35 x43 0).bind fun x45 => (fcpy h35 x39 a4 (some r25.1) (a4 + (2 : Int32)) (x45 - a4) 0).bind fun h47 => (fgR h47 a0 8 12).bind fun x49 => (fsA h47 x49 4 0 a1 (some r25.1)).bind fun h51 => f_X8_key_L238 a0 a1 a2 a3 h51)
noncomputable def f_X8_key_L121 (a0 : Option Nat) (a1 : Int32) (a2 : Int32) (a3 : Int32) (a4 : Int32) (h : fSt) : Option (Int32 × fSt) := (fgR h a0 8 12).bind fun x53 => (faR h x53 4 a1).bind fun x55 => (flen h x55 0).bind fun x57 => (if x57 ≤ a4 then f_X8_key_L161 a0 a1 a2 a3 a4 h else (fgR h a0 8 12).bind fun x60 => (faR h x60 4 a1).bind fun x62 => (faI h x62 0 a4).bind fun x64 => (if x64 = a2 then (fgR h a0 8 12).bind fun x67 => (faR h x67 4 a1).bind fun x69 => (fsI h x69 0 (a4 + (1 : Int32)) a3).bind fun h71 => f_X8_key_L238 a0 a1 a2 a3 h71 else f_X8_key_L161 a0 a1 a2 a3 a4 h))
noncomputable def f_X8_key_L90 (n : Nat) : Option Nat → Int32 → Int32 → Int32 → Int32 → fSt → Option (Int32 × fSt) := Nat.rec (motive := fun _ => Option Nat → Int32 → Int32 → Int32 → Int32 → fSt → Option (Int32 × fSt)) (fun _ _ _ _ _ _ => none) (fun _ k90 (a0 : Option Nat) (a1 : Int32) (a2 : Int32) (a3 : Int32) (a4 : Int32) (h : fSt) => (fgR h a0 8 12).bind fun x73 => (faR h x73 4 a1).bind fun x75 => (flen h x75 0).bind fun x77 => (if x77 ≤ a4 then f_X8_key_L121 a0 a1 a2 a3 a4 h else (fgR h a0 8 12).bind fun x80 => (faR h x80 4 a1).bind fun x82 => (faI h x82 0 a4).bind fun x84 => (if a2 ≤ x84 then f_X8_key_L121 a0 a1 a2 a3 a4 h else k90 a0 a1 a2 a3 (a4 + (2 : Int32)) h))) n
noncomputable def f_X8_key_L57 (a0 : Option Nat) (a1 : Int32) (a2 : Int32) (s0 : Int32) (h : fSt) : Option (Int32 × fSt) := (fgR h a0 8 11).bind fun x87 => (faR h x87 4 a1).bind fun x89 => (faI h x89 0 (0 : Int32)).bind fun x91 => (fobj h a0 8).bind fun b95 => (f_X8_isThere b95 x91 h).bind fun r93 => (if r93.1 = 0 then f_X8_key_L85 r93.2 else (fgR r93.2 a0 8 12).bind fun x98 => (faR r93.2 x98 4 a1).bind fun x100 => (flen r93.2 x100 0).bind fun x102 => (if x102 = (16 : Int32) then f_X8_key_L85 r93.2 else f_X8_key_L90 4096 a0 a1 a2 s0 (0 : Int32) r93.2))
noncomputable def f_X8_key_L0 (a0 : Option Nat) (a1 : Int32) (h : fSt) : Option (Int32 × fSt) := (fobj h a0 8).bind fun b107 => (f_X8_draw b107 (20 : Int32) h).bind fun r105 => (fgR r105.2 a0 8 11).bind fun x109 => (faR r105.2 x109 4 a1).bind fun x111 => (faI r105.2 x111 0 (1 : Int32)).bind fun x113 => (if (2 : Int32) ≤ x113 then (fgR r105.2 a0 8 11).bind fun x116 => (faR r105.2 x116 4 a1).bind fun x118 => (faI r105.2 x118 0 (1 : Int32)).bind fun x120 => (if x120 = (2 : Int32) then (fobj r105.2 a0 8).bind fun b129 => (f_X8_draw b129 (4 : Int32) r105.2).bind fun r127 => f_X8_key_L57 a0 a1 r105.1 r127.1 r127.2 else (fobj r105.2 a0 8).bind fun b125 => (f_X8_draw b125 (101 : Int32) r105.2).bind fun r123 => f_X8_key_L57 a0 a1 r105.1 r123.1 r123.2) else (fobj r105.2 a0 8).bind fun b133 => (f_X8_draw b133 (81 : Int32) r105.2).bind fun r131 => f_X8_key_L57 a0 a1 r105.1 (r131.1 - (40 : Int32)) r131.2)
noncomputable def f_X8_key (o : Nat) (p0 : Int32) (h : fSt) : Option (Int32 × fSt) := f_X8_key_L0 (some o) p0 h
noncomputable def f_X8_one_L29 (k7 : Option Nat → Int32 → Int32 → fSt → Option (Int32 × fSt)) (a0 : Option Nat) (a1 : Int32) (a2 : Int32) (h : fSt) : Option (Int32 × fSt) := k7 a0 a1 (a2 + (1 : Int32)) h
noncomputable def f_X8_one_L35 (a1 : Int32) (h : fSt) : Option (Int32 × fSt) := some (a1, h)
noncomputable def f_X8_one_L7 (n : Nat) : Option Nat → Int32 → Int32 → fSt → Option (Int32 × fSt) := Nat.rec (motive := fun _ => Option Nat → Int32 → Int32 → fSt → Option (Int32 × fSt)) (fun _ _ _ _ => none) (fun _ k7 (a0 : Option Nat) (a1 : Int32) (a2 : Int32) (h : fSt) => (fgI h a0 8 3).bind fun x1 => (if x1 ≤ a2 then f_X8_one_L35 a1 h else (if a1 = 0 then (fobj h a0 8).bind fun b7 => (f_X8_isThere b7 a2 h).bind fun r5 => (if r5.1 = 0 then f_X8_one_L29 k7 a0 a1 a2 r5.2 else f_X8_one_L29 k7 a0 a2 a2 r5.2) else f_X8_one_L35 a1 h))) n
noncomputable def f_X8_one_L0 (a0 : Option Nat) (h : fSt) : Option (Int32 × fSt) := (fobj h a0 8).bind fun b12 => (f_X8_any b12 h).bind fun r10 => f_X8_one_L7 4096 a0 r10.1 (1 : Int32) r10.2
noncomputable def f_X8_one (o : Nat) (h : fSt) : Option (Int32 × fSt) := f_X8_one_L0 (some o) h
set_option maxHeartbeats 4000000 in
set_option maxRecDepth 100000 in
theorem w_X8_isThere_L30 {p : Program} {l : Launch} {e : Env} {s : State} {m : MethodId} {args : Array Value} {below : List Frame} {meth : Method} {c : Code} {D : va_G} {cA : Nat → ClassId} {h0 : fSt} {r : (Int32 × fSt)} (M : fM p s m args meth c D cA h0 { frames := 0, cells := fCB h0 - fZ h0, slots := fLB h0 - fL h0, locals := 0 } cX8_isThere 2 (some (.boolean)) RX8) (hfl : l.stackTraces = false) (s0 : Int32) (h : fSt) (hf : f_X8_isThere_L30 s0 h = some r) : ∀ (H : Heap) (locs : List Loc) (cells slots : Nat) (ls : Array Slot), fCur D cA s h0 h H locs → lv_has ls 2 [] → W p l e { frames := 0, cells := fCB h0 - fZ h0, slots := fLB h0 - fL h0, locals := 0 } s m args below meth c H locs cells slots (MQ below (fQ D cA h0 r.2 (some (.int r.1))) args s (fCB h0 - fZ h0) (fLB h0 - fL h0) (fA h0)) (F0 m 30 ls [.int s0]) := by
  obtain ⟨hx, hb, hml, hr, hlocks, hts, hown, K, hR⟩ := id M
  intro H locs cells slots ls hC hl
  by_cases c1 : s0 = 0 ∨ s0 = 1
  rotate_left
  · exact nomatch (oneg c1 hf)
  obtain rfl := Option.some.inj (opos c1 hf)
  exact fr_zret hx hb hr hlocks hC c1 dX8_isThere_30
set_option maxHeartbeats 4000000 in
set_option maxRecDepth 100000 in
theorem w_X8_isThere_L29 {p : Program} {l : Launch} {e : Env} {s : State} {m : MethodId} {args : Array Value} {below : List Frame} {meth : Method} {c : Code} {D : va_G} {cA : Nat → ClassId} {h0 : fSt} {r : (Int32 × fSt)} (M : fM p s m args meth c D cA h0 { frames := 0, cells := fCB h0 - fZ h0, slots := fLB h0 - fL h0, locals := 0 } cX8_isThere 2 (some (.boolean)) RX8) (hfl : l.stackTraces = false)  (h : fSt) (hf : f_X8_isThere_L29  h = some r) : ∀ (H : Heap) (locs : List Loc) (cells slots : Nat) (ls : Array Slot), fCur D cA s h0 h H locs → lv_has ls 2 [] → W p l e { frames := 0, cells := fCB h0 - fZ h0, slots := fLB h0 - fL h0, locals := 0 } s m args below meth c H locs cells slots (MQ below (fQ D cA h0 r.2 (some (.int r.1))) args s (fCB h0 - fZ h0) (fLB h0 - fL h0) (fA h0)) (F0 m 29 ls []) := by
  obtain ⟨hx, hb, hml, hr, hlocks, hts, hown, K, hR⟩ := id M
  intro H locs cells slots ls hC hl
  refine lv_iconst (v := (0 : Int32)) hx hb dX8_isThere_29 (by decide) ?_
  exact w_X8_isThere_L30 M hfl _ _ hf _ _ _ _ _ hC (lv_sub hl [] rfl)
set_option maxHeartbeats 4000000 in
set_option maxRecDepth 100000 in
theorem w_X8_isThere_L0 {p : Program} {l : Launch} {e : Env} {s : State} {m : MethodId} {args : Array Value} {below : List Frame} {meth : Method} {c : Code} {D : va_G} {cA : Nat → ClassId} {h0 : fSt} {r : (Int32 × fSt)} (M : fM p s m args meth c D cA h0 { frames := 0, cells := fCB h0 - fZ h0, slots := fLB h0 - fL h0, locals := 0 } cX8_isThere 2 (some (.boolean)) RX8) (hfl : l.stackTraces = false) (a0 : Option Nat) (a1 : Int32) (h : fSt) (hf : f_X8_isThere_L0 a0 a1 h = some r) : ∀ (H : Heap) (locs : List Loc) (cells slots : Nat) (ls : Array Slot), fCur D cA s h0 h H locs → lv_has ls 2 [(0, va_rf a0), (1, .int a1)] → W p l e { frames := 0, cells := fCB h0 - fZ h0, slots := fLB h0 - fL h0, locals := 0 } s m args below meth c H locs cells slots (MQ below (fQ D cA h0 r.2 (some (.int r.1))) args s (fCB h0 - fZ h0) (fLB h0 - fL h0) (fA h0)) (F0 m 0 ls []) := by
  obtain ⟨hx, hb, hml, hr, hlocks, hts, hown, K, hR⟩ := id M
  intro H locs cells slots ls hC hl
  refine lv_iload_n hx hb dX8_isThere_0 rfl (lv_at hl 1 rfl) ?_
  refine lv_if_lt (tgt := 29) hx hb dX8_isThere_1 (by decide) (fun c2 => ?_) (fun c2 => ?_)
  · replace hf := opos c2 hf
    exact w_X8_isThere_L29 M hfl _ hf _ _ _ _ _ hC (lv_sub hl [] rfl)
  · replace hf := oneg c2 hf
    refine lv_iload_n hx hb dX8_isThere_4 rfl (lv_at hl 1 rfl) ?_
    refine fr_aload_n hx hb dX8_isThere_5 rfl (lv_at hl 0 rfl) ?_
    obtain ⟨x3, g4, hf⟩ := obind hf
    refine fr_get hx hb hts hown K hC ct_8 (fgI_get g4) (by decide) kw659 rfl dX8_isThere_6 ?_
    refine lv_icmp_ge (tgt := 29) hx hb dX8_isThere_9 (by decide) (fun c5 => ?_) (fun c5 => ?_)
    · replace hf := opos c5 hf
      exact w_X8_isThere_L29 M hfl _ hf _ _ _ _ _ hC (lv_sub hl [] rfl)
    · replace hf := oneg c5 hf
      refine fr_aload_n hx hb dX8_isThere_12 rfl (lv_at hl 0 rfl) ?_
      obtain ⟨x6, g7, hf⟩ := obind hf
      refine fr_get hx hb hts hown K hC ct_8 (fgR_get g7) (by decide) kw661 rfl dX8_isThere_13 ?_
      refine lv_iload_n hx hb dX8_isThere_16 rfl (lv_at hl 1 rfl) ?_
      obtain ⟨x8, g9, hf⟩ := obind hf
      refine fr_aaldA hx hb K hC (t := 4) rfl g9 dX8_isThere_17 ?_
      refine lv_iconst (v := (0 : Int32)) hx hb dX8_isThere_18 (by decide) ?_
      obtain ⟨x10, g11, hf⟩ := obind hf
      refine fr_iald hx hb K hC (t := 0) rfl g11 dX8_isThere_19 ?_
      refine lv_bipush (v := (-2 : Int32)) hx hb dX8_isThere_20 (by decide) ?_
      refine lv_icmp_le (tgt := 29) hx hb dX8_isThere_22 (by decide) (fun c12 => ?_) (fun c12 => ?_)
      · replace hf := opos c12 hf
        exact w_X8_isThere_L29 M hfl _ hf _ _ _ _ _ hC (lv_sub hl [] rfl)
      · replace hf := oneg c12 hf
        refine lv_iconst (v := (1 : Int32)) hx hb dX8_isThere_25 (by decide) ?_
        refine lv_goto (tgt := 30) hx hb dX8_isThere_26 (by decide) ?_
        exact w_X8_isThere_L30 M hfl _ _ hf _ _ _ _ _ hC (lv_sub hl [] rfl)
set_option maxRecDepth 100000 in
theorem c_X8_isThere {l : Launch} (hfl : l.stackTraces = false) (D : va_G) (cA : Nat → ClassId) {o : Nat} {p0 : Int32} {h : fSt} {r : (Int32 × fSt)} (hf : f_X8_isThere o p0 h = some r) : fMet l yX8_isThere (wsC yX8_isThere cX8_isThere 2 (some (.boolean))) (0) (0) D cA [.ref o, .int p0] h r.2 (some (.int r.1)) := by
  exact fMet.of (own := RX8) (by decide +kernel) rfl (lva1 rfl (lva1 rfl lva0)) (lgl1 rfl (lgl1 rfl lgl0)) (Nat.le_of_ble_eq_true rfl) (fun p e s m args below meth c ls hnm _ M hC hl => by
    have hl : lv_has ls 2 [(0, va_rf (some o)), (1, .int p0)] := hl
    exact w_X8_isThere_L0 M hfl _ _ _ hf _ _ _ _ _ hC (lv_sub hl [0, 1] rfl))
set_option maxHeartbeats 4000000 in
set_option maxRecDepth 100000 in
theorem w_X8_any_L9 {p : Program} {l : Launch} {e : Env} {s : State} {m : MethodId} {args : Array Value} {below : List Frame} {meth : Method} {c : Code} {D : va_G} {cA : Nat → ClassId} {h0 : fSt} {r : (Int32 × fSt)} (M : fM p s m args meth c D cA h0 { frames := 2, cells := fCB h0 - fZ h0, slots := fLB h0 - fL h0, locals := 43 } cX8_any 2 (some (.int)) RX8) (hfl : l.stackTraces = false) : ∀ (n : Nat) (a0 : Option Nat) (a1 : Int32) (h : fSt), f_X8_any_L9 n a0 a1 h = some r → ∀ (H : Heap) (locs : List Loc) (cells slots : Nat) (ls : Array Slot), fCur D cA s h0 h H locs → lv_has ls 2 [(0, va_rf a0), (1, .int a1)] → W p l e { frames := 2, cells := fCB h0 - fZ h0, slots := fLB h0 - fL h0, locals := 43 } s m args below meth c H locs cells slots (MQ below (fQ D cA h0 r.2 (some (.int r.1))) args s (fCB h0 - fZ h0) (fLB h0 - fL h0) (fA h0)) (F0 m 9 ls []) := by
  obtain ⟨hx, hb, hml, hr, hlocks, hts, hown, K, hR⟩ := id M
  intro n
  induction n with
  | zero =>
    intro a0 a1 h hf
    exact nomatch (show (none : Option (Int32 × fSt)) = some r from hf)
  | succ n hk9 =>
    intro a0 a1 h hf H locs cells slots ls hC hl
    refine fr_aload_n hx hb dX8_any_9 rfl (lv_at hl 0 rfl) ?_
    refine lv_iload_n hx hb dX8_any_10 rfl (lv_at hl 1 rfl) ?_
    obtain ⟨b3, q4, hf⟩ := obind hf
    obtain ⟨r1, g2, hf⟩ := obind hf
    refine fr_callV hx hb hml hts hown K hC hR ct_8 (c_X8_isThere hfl D cA g2) 1 q4 kw718 kw724 kw716 kw717 kw22 (by decide +kernel) ⟨by exact Nat.le_of_ble_eq_true rfl, by exact Nat.le_of_ble_eq_true rfl⟩ rfl hl.1 (cat8 _ (by exact Nat.le_of_ble_eq_true rfl)) dX8_any_11 rfl (fun H locs _ _ hC => ?_)
    refine lv_if_ne (tgt := 29) hx hb dX8_any_14 (by decide) (fun c5 => ?_) (fun c5 => ?_)
    · replace hf := oneg c5 hf
      refine lv_iload_n hx hb dX8_any_29 rfl (lv_at hl 1 rfl) ?_
      obtain rfl := Option.some.inj hf
      exact fr_iret hx hb hr hlocks hC dX8_any_30
    · replace hf := opos c5 hf
      refine lv_iload_n hx hb dX8_any_17 rfl (lv_at hl 1 rfl) ?_
      refine lv_iconst (v := (1 : Int32)) hx hb dX8_any_18 (by decide) ?_
      refine lv_iadd hx hb dX8_any_19 ?_
      refine fr_aload_n hx hb dX8_any_20 rfl (lv_at hl 0 rfl) ?_
      obtain ⟨x6, g7, hf⟩ := obind hf
      refine fr_get hx hb hts hown K hC ct_8 (fgI_get g7) (by decide) kw659 rfl dX8_any_21 ?_
      by_cases c8 : x6 = 0
      · exact nomatch (opos c8 hf)
      replace hf := oneg c8 hf
      refine lv_irem hx hb dX8_any_24 c8 ?_
      refine lv_istore_n (lv' := [(1, .int ((a1 + (1 : Int32)) - (a1 + (1 : Int32)) / x6 * x6)), (0, va_rf a0)]) hx hb dX8_any_25 rfl hl (by decide) (congrArg (List.cons _) (flk (adj1 _ _) (fld rfl fln))) (fun ls hl => ?_)
      refine lv_goto (tgt := 9) hx hb dX8_any_26 (by decide) ?_
      exact hk9 _ _ _ hf _ _ _ _ _ hC (lv_sub hl [1, 0] rfl)
set_option maxHeartbeats 4000000 in
set_option maxRecDepth 100000 in
theorem w_X8_any_L0 {p : Program} {l : Launch} {e : Env} {s : State} {m : MethodId} {args : Array Value} {below : List Frame} {meth : Method} {c : Code} {D : va_G} {cA : Nat → ClassId} {h0 : fSt} {r : (Int32 × fSt)} (M : fM p s m args meth c D cA h0 { frames := 2, cells := fCB h0 - fZ h0, slots := fLB h0 - fL h0, locals := 43 } cX8_any 2 (some (.int)) RX8) (hfl : l.stackTraces = false) (a0 : Option Nat) (h : fSt) (hf : f_X8_any_L0 a0 h = some r) : ∀ (H : Heap) (locs : List Loc) (cells slots : Nat) (ls : Array Slot), fCur D cA s h0 h H locs → lv_has ls 2 [(0, va_rf a0)] → W p l e { frames := 2, cells := fCB h0 - fZ h0, slots := fLB h0 - fL h0, locals := 43 } s m args below meth c H locs cells slots (MQ below (fQ D cA h0 r.2 (some (.int r.1))) args s (fCB h0 - fZ h0) (fLB h0 - fL h0) (fA h0)) (F0 m 0 ls []) := by
  obtain ⟨hx, hb, hml, hr, hlocks, hts, hown, K, hR⟩ := id M
  intro H locs cells slots ls hC hl
  refine fr_aload_n hx hb dX8_any_0 rfl (lv_at hl 0 rfl) ?_
  refine fr_aload_n hx hb dX8_any_1 rfl (lv_at hl 0 rfl) ?_
  obtain ⟨x9, g10, hf⟩ := obind hf
  refine fr_get hx hb hts hown K hC ct_8 (fgI_get g10) (by decide) kw659 rfl dX8_any_2 ?_
  obtain ⟨b13, q14, hf⟩ := obind hf
  obtain ⟨r11, g12, hf⟩ := obind hf
  refine fr_callV hx hb hml hts hown K hC hR ct_8 (c_X8_draw hfl D cA g12) 1 q14 kw706 kw723 kw704 kw705 kw22 (by decide +kernel) ⟨by exact Nat.le_of_ble_eq_true rfl, by exact Nat.le_of_ble_eq_true rfl⟩ rfl hl.1 (cat8 _ (by exact Nat.le_of_ble_eq_true rfl)) dX8_any_5 rfl (fun H locs _ _ hC => ?_)
  refine lv_istore_n (lv' := [(1, .int r11.1), (0, va_rf a0)]) hx hb dX8_any_8 rfl hl (by decide) (congrArg (List.cons _) (flk (adj1 _ _) fln)) (fun ls hl => ?_)
  exact w_X8_any_L9 M hfl 4096 _ _ _ hf _ _ _ _ _ hC (lv_sub hl [1, 0] rfl)
set_option maxRecDepth 100000 in
theorem c_X8_any {l : Launch} (hfl : l.stackTraces = false) (D : va_G) (cA : Nat → ClassId) {o : Nat} {h : fSt} {r : (Int32 × fSt)} (hf : f_X8_any o h = some r) : fMet l yX8_any (wsC yX8_any cX8_any 2 (some (.int))) (2) (43) D cA [.ref o] h r.2 (some (.int r.1)) := by
  exact fMet.of (own := RX8) (by decide +kernel) rfl (lva1 rfl lva0) (lgl1 rfl lgl0) (Nat.le_of_ble_eq_true rfl) (fun p e s m args below meth c ls hnm _ M hC hl => by
    have hl : lv_has ls 2 [(0, va_rf (some o))] := hl
    exact w_X8_any_L0 M hfl _ _ hf _ _ _ _ _ hC (lv_sub hl [0] rfl))
set_option maxHeartbeats 4000000 in
set_option maxRecDepth 100000 in
theorem w_X8_level_L22 {p : Program} {l : Launch} {e : Env} {s : State} {m : MethodId} {args : Array Value} {below : List Frame} {meth : Method} {c : Code} {D : va_G} {cA : Nat → ClassId} {h0 : fSt} {self : Nat → Int32 → fSt → Option (Int32 × fSt)} {fd ld : Nat} {r : (Int32 × fSt)} (hself : ∀ {o : Nat} {p0 : Int32} {h : fSt} {r : (Int32 × fSt)}, self o p0 h = some r → fMet l yX8_level (wsC yX8_level cX8_level 2 (some (.int))) fd ld D cA [.ref o, .int p0] h r.2 (some (.int r.1))) (M : fM p s m args meth c D cA h0 { frames := fd + 1, cells := fCB h0 - fZ h0, slots := fLB h0 - fL h0, locals := ld + 21 } cX8_level 2 (some (.int)) RX8) (hfl : l.stackTraces = false) (s0 : Int32) (h : fSt) (hf : f_X8_level_L22 self s0 h = some r) : ∀ (H : Heap) (locs : List Loc) (cells slots : Nat) (ls : Array Slot), fCur D cA s h0 h H locs → lv_has ls 2 [] → W p l e { frames := fd + 1, cells := fCB h0 - fZ h0, slots := fLB h0 - fL h0, locals := ld + 21 } s m args below meth c H locs cells slots (MQ below (fQ D cA h0 r.2 (some (.int r.1))) args s (fCB h0 - fZ h0) (fLB h0 - fL h0) (fA h0)) (F0 m 22 ls [.int s0]) := by
  obtain ⟨hx, hb, hml, hr, hlocks, hts, hown, K, hR⟩ := id M
  intro H locs cells slots ls hC hl
  obtain rfl := Option.some.inj hf
  exact fr_iret hx hb hr hlocks hC dX8_level_22
set_option maxHeartbeats 4000000 in
set_option maxRecDepth 100000 in
theorem w_X8_level_L0 {p : Program} {l : Launch} {e : Env} {s : State} {m : MethodId} {args : Array Value} {below : List Frame} {meth : Method} {c : Code} {D : va_G} {cA : Nat → ClassId} {h0 : fSt} {self : Nat → Int32 → fSt → Option (Int32 × fSt)} {fd ld : Nat} {r : (Int32 × fSt)} (hself : ∀ {o : Nat} {p0 : Int32} {h : fSt} {r : (Int32 × fSt)}, self o p0 h = some r → fMet l yX8_level (wsC yX8_level cX8_level 2 (some (.int))) fd ld D cA [.ref o, .int p0] h r.2 (some (.int r.1))) (M : fM p s m args meth c D cA h0 { frames := fd + 1, cells := fCB h0 - fZ h0, slots := fLB h0 - fL h0, locals := ld + 21 } cX8_level 2 (some (.int)) RX8) (hfl : l.stackTraces = false) (a0 : Option Nat) (a1 : Int32) (h : fSt) (hf : f_X8_level_L0 self a0 a1 h = some r) : ∀ (H : Heap) (locs : List Loc) (cells slots : Nat) (ls : Array Slot), fCur D cA s h0 h H locs → lv_has ls 2 [(0, va_rf a0), (1, .int a1)] → W p l e { frames := fd + 1, cells := fCB h0 - fZ h0, slots := fLB h0 - fL h0, locals := ld + 21 } s m args below meth c H locs cells slots (MQ below (fQ D cA h0 r.2 (some (.int r.1))) args s (fCB h0 - fZ h0) (fLB h0 - fL h0) (fA h0)) (F0 m 0 ls []) := by
  obtain ⟨hx, hb, hml, hr, hlocks, hts, hown, K, hR⟩ := id M
  intro H locs cells slots ls hC hl
  refine lv_iload_n hx hb dX8_level_0 rfl (lv_at hl 1 rfl) ?_
  refine lv_if_ne (tgt := 8) hx hb dX8_level_1 (by decide) (fun c1 => ?_) (fun c1 => ?_)
  · replace hf := oneg c1 hf
    refine lv_iconst (v := (1 : Int32)) hx hb dX8_level_8 (by decide) ?_
    refine fr_aload_n hx hb dX8_level_9 rfl (lv_at hl 0 rfl) ?_
    refine fr_aload_n hx hb dX8_level_10 rfl (lv_at hl 0 rfl) ?_
    obtain ⟨x2, g3, hf⟩ := obind hf
    refine fr_get hx hb hts hown K hC ct_8 (fgR_get g3) (by decide) kw661 rfl dX8_level_11 ?_
    refine lv_iload_n hx hb dX8_level_14 rfl (lv_at hl 1 rfl) ?_
    obtain ⟨x4, g5, hf⟩ := obind hf
    refine fr_aaldA hx hb K hC (t := 4) rfl g5 dX8_level_15 ?_
    refine lv_iconst (v := (0 : Int32)) hx hb dX8_level_16 (by decide) ?_
    obtain ⟨x6, g7, hf⟩ := obind hf
    refine fr_iald hx hb K hC (t := 0) rfl g7 dX8_level_17 ?_
    obtain ⟨b10, q11, hf⟩ := obind hf
    obtain ⟨r8, g9, hf⟩ := obind hf
    refine fr_callV hx hb hml hts hown K hC hR ct_8 (hself g9) 1 q11 kw737 kw734 kw735 kw736 kw22 (by decide +kernel) ⟨by dsimp only; omega, by dsimp only; omega⟩ rfl hl.1 (cat8 _ (by exact Nat.le_of_ble_eq_true rfl)) dX8_level_18 rfl (fun H locs _ _ hC => ?_)
    refine lv_iadd hx hb dX8_level_21 ?_
    exact w_X8_level_L22 @hself M hfl _ _ hf _ _ _ _ _ hC (lv_sub hl [] rfl)
  · replace hf := opos c1 hf
    refine lv_iconst (v := (0 : Int32)) hx hb dX8_level_4 (by decide) ?_
    refine lv_goto (tgt := 22) hx hb dX8_level_5 (by decide) ?_
    exact w_X8_level_L22 @hself M hfl _ _ hf _ _ _ _ _ hC (lv_sub hl [] rfl)
set_option maxRecDepth 100000 in
theorem c_X8_level {l : Launch} (hfl : l.stackTraces = false) (D : va_G) (cA : Nat → ClassId) (d : Nat) : ∀ {o : Nat} {p0 : Int32} {h : fSt} {r : (Int32 × fSt)}, f_X8_level d o p0 h = some r → fMet l yX8_level (wsC yX8_level cX8_level 2 (some (.int))) (1 * d) (21 * d) D cA [.ref o, .int p0] h r.2 (some (.int r.1)) := by
  induction d with
  | zero =>
    intro o p0 h r hf
    exact nomatch (show (none : Option (Int32 × fSt)) = some r from hf)
  | succ d hself =>
    intro o p0 h r hf
    have hf : f_X8_level_L0 (f_X8_level d) (some o) p0 h = some r := hf
    exact fMet.of (own := RX8) (by decide +kernel) rfl (lva1 rfl (lva1 rfl lva0)) (lgl1 rfl (lgl1 rfl lgl0)) (Nat.le_of_ble_eq_true rfl) (fun p e s m args below meth c ls hnm _ M hC hl => by
    have hl : lv_has ls 2 [(0, va_rf (some o)), (1, .int p0)] := hl
    exact w_X8_level_L0 @hself M hfl _ _ _ hf _ _ _ _ _ hC (lv_sub hl [0, 1] rfl))
set_option maxHeartbeats 4000000 in
set_option maxRecDepth 100000 in
theorem w_X8_put_L0 {p : Program} {l : Launch} {e : Env} {s : State} {m : MethodId} {args : Array Value} {below : List Frame} {meth : Method} {c : Code} {D : va_G} {cA : Nat → ClassId} {h0 : fSt} {r : (Unit × fSt)} (M : fM p s m args meth c D cA h0 { frames := 0, cells := fCB h0 - fZ h0, slots := fLB h0 - fL h0, locals := 0 } cX8_put 8 none RX8) (hfl : l.stackTraces = false) (a0 : Option Nat) (a1 : Int32) (a2 : Int32) (a3 : Int32) (a4 : Int32) (a5 : Int32) (h : fSt) (hf : f_X8_put_L0 a0 a1 a2 a3 a4 a5 h = some r) : ∀ (H : Heap) (locs : List Loc) (cells slots : Nat) (ls : Array Slot), fCur D cA s h0 h H locs → lv_has ls 8 [(0, va_rf a0), (1, .int a1), (2, .int a2), (3, .int a3), (4, .int a4), (5, .int a5)] → W p l e { frames := 0, cells := fCB h0 - fZ h0, slots := fLB h0 - fL h0, locals := 0 } s m args below meth c H locs cells slots (MQ below (fQ D cA h0 r.2 none) args s (fCB h0 - fZ h0) (fLB h0 - fL h0) (fA h0)) (F0 m 0 ls []) := by
  obtain ⟨hx, hb, hml, hr, hlocks, hts, hown, K, hR⟩ := id M
  intro H locs cells slots ls hC hl
  refine lv_bipush (v := (8 : Int32)) hx hb dX8_put_0 (by decide) ?_
  by_cases c1 : (8 : Int32) < 0 ∨ 67000000 < ((8 : Int32)).toNatClampNeg
  · exact nomatch (opos c1 hf)
  obtain ⟨r2, g3, hf⟩ := obind (oneg c1 hf)
  refine fr_newa hx hb hts K hC hR (atype := .int) (t := 0) rfl kw702 (fun _ => rfl) rfl (fun z => c1 (Or.inl z)) g3 (newa_b (fun z => c1 (Or.inr z)) (Nat.le_of_ble_eq_true rfl)) dX8_put_2 (fun H _ _ hC => ?_)
  refine lv_dup hx hb dX8_put_4 (va_rf_cat _) ?_
  refine lv_iconst (v := (0 : Int32)) hx hb dX8_put_5 (by decide) ?_
  refine lv_iload_n hx hb dX8_put_6 rfl (lv_at hl 2 rfl) ?_
  obtain ⟨h4, g5, hf⟩ := obind hf
  refine fr_iast hx hb K hC (t := 0) rfl g5 dX8_put_7 (fun H locs hC => ?_)
  refine lv_dup hx hb dX8_put_8 (va_rf_cat _) ?_
  refine lv_iconst (v := (1 : Int32)) hx hb dX8_put_9 (by decide) ?_
  refine lv_iload_n hx hb dX8_put_10 rfl (lv_at hl 3 rfl) ?_
  obtain ⟨h6, g7, hf⟩ := obind hf
  refine fr_iast hx hb K hC (t := 0) rfl g7 dX8_put_11 (fun H locs hC => ?_)
  refine lv_dup hx hb dX8_put_12 (va_rf_cat _) ?_
  refine lv_iconst (v := (2 : Int32)) hx hb dX8_put_13 (by decide) ?_
  refine lv_iload hx hb dX8_put_14 (lv_at hl 4 rfl) ?_
  obtain ⟨h8, g9, hf⟩ := obind hf
  refine fr_iast hx hb K hC (t := 0) rfl g9 dX8_put_16 (fun H locs hC => ?_)
  refine lv_dup hx hb dX8_put_17 (va_rf_cat _) ?_
  refine lv_iconst (v := (3 : Int32)) hx hb dX8_put_18 (by decide) ?_
  refine lv_iload hx hb dX8_put_19 (lv_at hl 5 rfl) ?_
  obtain ⟨h10, g11, hf⟩ := obind hf
  refine fr_iast hx hb K hC (t := 0) rfl g11 dX8_put_21 (fun H locs hC => ?_)
  refine lv_dup hx hb dX8_put_22 (va_rf_cat _) ?_
  refine lv_iconst (v := (4 : Int32)) hx hb dX8_put_23 (by decide) ?_
  refine lv_iconst (v := (1 : Int32)) hx hb dX8_put_24 (by decide) ?_
  obtain ⟨h12, g13, hf⟩ := obind hf
  refine fr_iast hx hb K hC (t := 0) rfl g13 dX8_put_25 (fun H locs hC => ?_)
  refine lv_dup hx hb dX8_put_26 (va_rf_cat _) ?_
  refine lv_iconst (v := (5 : Int32)) hx hb dX8_put_27 (by decide) ?_
  refine lv_iconst (v := (1 : Int32)) hx hb dX8_put_28 (by decide) ?_
  obtain ⟨h14, g15, hf⟩ := obind hf
  refine fr_iast hx hb K hC (t := 0) rfl g15 dX8_put_29 (fun H locs hC => ?_)
  refine lv_dup hx hb dX8_put_30 (va_rf_cat _) ?_
  refine lv_bipush (v := (6 : Int32)) hx hb dX8_put_31 (by decide) ?_
  refine lv_iconst (v := (0 : Int32)) hx hb dX8_put_33 (by decide) ?_
  obtain ⟨h16, g17, hf⟩ := obind hf
  refine fr_iast hx hb K hC (t := 0) rfl g17 dX8_put_34 (fun H locs hC => ?_)
  refine lv_dup hx hb dX8_put_35 (va_rf_cat _) ?_
  refine lv_bipush (v := (7 : Int32)) hx hb dX8_put_36 (by decide) ?_
  refine fr_aload_n hx hb dX8_put_38 rfl (lv_at hl 0 rfl) ?_
  refine lv_dup hx hb dX8_put_39 (va_rf_cat _) ?_
  obtain ⟨x18, g19, hf⟩ := obind hf
  refine fr_get hx hb hts hown K hC ct_8 (fgI_get g19) (by decide) kw667 rfl dX8_put_40 ?_
  refine lv_dup_x1 hx hb dX8_put_43 rfl (va_rf_cat _) ?_
  refine lv_iconst (v := (1 : Int32)) hx hb dX8_put_44 (by decide) ?_
  refine lv_iadd hx hb dX8_put_45 ?_
  obtain ⟨h20, g21, hf⟩ := obind hf
  refine fr_put hx hb hts hown K hC ct_8 g21 (by decide) kw667 rfl rfl rfl rfl dX8_put_46 (fun H locs hC => ?_)
  obtain ⟨h22, g23, hf⟩ := obind hf
  refine fr_iast hx hb K hC (t := 0) rfl g23 dX8_put_49 (fun H locs hC => ?_)
  refine fr_astore (lv' := [(6, va_rf (some r2.1)), (0, va_rf a0), (1, .int a1), (2, .int a2), (3, .int a3), (4, .int a4), (5, .int a5)]) hx hb dX8_put_50 hl (by decide) (congrArg (List.cons _) (flk rfl (flk rfl (flk rfl (flk rfl (flk rfl (flk rfl fln))))))) (fun ls hl => ?_)
  refine lv_iconst (v := (4 : Int32)) hx hb dX8_put_52 (by decide) ?_
  by_cases c24 : (4 : Int32) < 0 ∨ 67000000 < ((4 : Int32)).toNatClampNeg
  · exact nomatch (opos c24 hf)
  obtain ⟨r25, g26, hf⟩ := obind (oneg c24 hf)
  refine fr_newa hx hb hts K hC hR (atype := .int) (t := 0) rfl kw702 (fun _ => rfl) rfl (fun z => c24 (Or.inl z)) g26 (newa_b (fun z => c24 (Or.inr z)) (Nat.le_of_ble_eq_true rfl)) dX8_put_53 (fun H _ _ hC => ?_)
  refine lv_dup hx hb dX8_put_55 (va_rf_cat _) ?_
  refine lv_iconst (v := (0 : Int32)) hx hb dX8_put_56 (by decide) ?_
  refine lv_iconst (v := (0 : Int32)) hx hb dX8_put_57 (by decide) ?_
  obtain ⟨h27, g28, hf⟩ := obind hf
  refine fr_iast hx hb K hC (t := 0) rfl g28 dX8_put_58 (fun H locs hC => ?_)
  refine lv_dup hx hb dX8_put_59 (va_rf_cat _) ?_
  refine lv_iconst (v := (1 : Int32)) hx hb dX8_put_60 (by decide) ?_
  refine lv_iconst (v := (0 : Int32)) hx hb dX8_put_61 (by decide) ?_
  obtain ⟨h29, g30, hf⟩ := obind hf
  refine fr_iast hx hb K hC (t := 0) rfl g30 dX8_put_62 (fun H locs hC => ?_)
  refine lv_dup hx hb dX8_put_63 (va_rf_cat _) ?_
  refine lv_iconst (v := (2 : Int32)) hx hb dX8_put_64 (by decide) ?_
  refine lv_iconst (v := (0 : Int32)) hx hb dX8_put_65 (by decide) ?_
  obtain ⟨h31, g32, hf⟩ := obind hf
  refine fr_iast hx hb K hC (t := 0) rfl g32 dX8_put_66 (fun H locs hC => ?_)
  refine lv_dup hx hb dX8_put_67 (va_rf_cat _) ?_
  refine lv_iconst (v := (3 : Int32)) hx hb dX8_put_68 (by decide) ?_
  refine lv_bipush (v := (100 : Int32)) hx hb dX8_put_69 (by decide) ?_
  obtain ⟨h33, g34, hf⟩ := obind hf
  refine fr_iast hx hb K hC (t := 0) rfl g34 dX8_put_71 (fun H locs hC => ?_)
  refine fr_astore (lv' := [(7, va_rf (some r25.1)), (6, va_rf (some r2.1)), (0, va_rf a0), (1, .int a1), (2, .int a2), (3, .int a3), (4, .int a4), (5, .int a5)]) hx hb dX8_put_72 hl (by decide) (congrArg (List.cons _) (flk (adj1 _ _) (flk rfl (flk rfl (flk rfl (flk rfl (flk rfl (flk rfl fln)))))))) (fun ls hl => ?_)
  refine fr_aload_n hx hb dX8_put_74 rfl (lv_at hl 2 rfl) ?_
  obtain ⟨x35, g36, hf⟩ := obind hf
  refine fr_get hx hb hts hown K hC ct_8 (fgR_get g36) (by decide) kw661 rfl dX8_put_75 ?_
  refine lv_iload_n hx hb dX8_put_78 rfl (lv_at hl 3 rfl) ?_
  refine fr_aload hx hb dX8_put_79 (lv_at hl 1 rfl) ?_
  obtain ⟨h37, g38, hf⟩ := obind hf
  refine fr_aastA hx hb K hC rfl rfl g38 dX8_put_81 (fun H locs hC => ?_)
  refine fr_aload_n hx hb dX8_put_82 rfl (lv_at hl 2 rfl) ?_
  obtain ⟨x39, g40, hf⟩ := obind hf
  refine fr_get hx hb hts hown K hC ct_8 (fgR_get g40) (by decide) kw663 rfl dX8_put_83 ?_
  refine lv_iload_n hx hb dX8_put_86 rfl (lv_at hl 3 rfl) ?_
  refine fr_aload hx hb dX8_put_87 (lv_at hl 0 rfl) ?_
  obtain ⟨h41, g42, hf⟩ := obind hf
  refine fr_aastA hx hb K hC rfl rfl g42 dX8_put_89 (fun H locs hC => ?_)
  obtain rfl := Option.some.inj hf
  exact fr_vret hx hb hr hlocks hC dX8_put_90
set_option maxRecDepth 100000 in
theorem c_X8_put {l : Launch} (hfl : l.stackTraces = false) (D : va_G) (cA : Nat → ClassId) {o : Nat} {p0 : Int32} {p1 : Int32} {p2 : Int32} {p3 : Int32} {p4 : Int32} {h : fSt} {r : (Unit × fSt)} (hf : f_X8_put o p0 p1 p2 p3 p4 h = some r) : fMet l yX8_put (wsC yX8_put cX8_put 8 none) (0) (0) D cA [.ref o, .int p0, .int p1, .int p2, .int p3, .int p4] h r.2 none := by
  exact fMet.of (own := RX8) (by decide +kernel) rfl (lva1 rfl (lva1 rfl (lva1 rfl (lva1 rfl (lva1 rfl (lva1 rfl lva0)))))) (lgl1 rfl (lgl1 rfl (lgl1 rfl (lgl1 rfl (lgl1 rfl (lgl1 rfl lgl0)))))) (Nat.le_of_ble_eq_true rfl) (fun p e s m args below meth c ls hnm _ M hC hl => by
    have hl : lv_has ls 8 [(0, va_rf (some o)), (1, .int p0), (2, .int p1), (3, .int p2), (4, .int p3), (5, .int p4)] := hl
    exact w_X8_put_L0 M hfl _ _ _ _ _ _ _ hf _ _ _ _ _ hC (lv_sub hl [0, 1, 2, 3, 4, 5] rfl))
set_option maxHeartbeats 4000000 in
set_option maxRecDepth 100000 in
theorem w_X8_add_L120 {p : Program} {l : Launch} {e : Env} {s : State} {m : MethodId} {args : Array Value} {below : List Frame} {meth : Method} {c : Code} {D : va_G} {cA : Nat → ClassId} {h0 : fSt} {r : (Int32 × fSt)} (M : fM p s m args meth c D cA h0 { frames := 19, cells := fCB h0 - fZ h0, slots := fLB h0 - fL h0, locals := 452 } cX8_add 5 (some (.boolean)) RX8) (hfl : l.stackTraces = false) (s0 : Int32) (h : fSt) (hf : f_X8_add_L120 s0 h = some r) : ∀ (H : Heap) (locs : List Loc) (cells slots : Nat) (ls : Array Slot), fCur D cA s h0 h H locs → lv_has ls 5 [] → W p l e { frames := 19, cells := fCB h0 - fZ h0, slots := fLB h0 - fL h0, locals := 452 } s m args below meth c H locs cells slots (MQ below (fQ D cA h0 r.2 (some (.int r.1))) args s (fCB h0 - fZ h0) (fLB h0 - fL h0) (fA h0)) (F0 m 120 ls [.int s0]) := by
  obtain ⟨hx, hb, hml, hr, hlocks, hts, hown, K, hR⟩ := id M
  intro H locs cells slots ls hC hl
  by_cases c1 : s0 = 0 ∨ s0 = 1
  rotate_left
  · exact nomatch (oneg c1 hf)
  obtain rfl := Option.some.inj (opos c1 hf)
  exact fr_zret hx hb hr hlocks hC c1 dX8_add_120
set_option maxHeartbeats 4000000 in
set_option maxRecDepth 100000 in
theorem w_X8_add_L45 {p : Program} {l : Launch} {e : Env} {s : State} {m : MethodId} {args : Array Value} {below : List Frame} {meth : Method} {c : Code} {D : va_G} {cA : Nat → ClassId} {h0 : fSt} {r : (Int32 × fSt)} (M : fM p s m args meth c D cA h0 { frames := 19, cells := fCB h0 - fZ h0, slots := fLB h0 - fL h0, locals := 452 } cX8_add 5 (some (.boolean)) RX8) (hfl : l.stackTraces = false) (a0 : Option Nat) (a1 : Int32) (s0 : Int32) (h : fSt) (hf : f_X8_add_L45 a0 a1 s0 h = some r) : ∀ (H : Heap) (locs : List Loc) (cells slots : Nat) (ls : Array Slot), fCur D cA s h0 h H locs → lv_has ls 5 [(0, va_rf a0), (1, .int a1)] → W p l e { frames := 19, cells := fCB h0 - fZ h0, slots := fLB h0 - fL h0, locals := 452 } s m args below meth c H locs cells slots (MQ below (fQ D cA h0 r.2 (some (.int r.1))) args s (fCB h0 - fZ h0) (fLB h0 - fL h0) (fA h0)) (F0 m 45 ls [.int s0]) := by
  obtain ⟨hx, hb, hml, hr, hlocks, hts, hown, K, hR⟩ := id M
  intro H locs cells slots ls hC hl
  refine lv_istore_n (lv' := [(2, .int s0), (0, va_rf a0), (1, .int a1)]) hx hb dX8_add_45 rfl hl (by decide) (congrArg (List.cons _) (flk rfl (flk rfl fln))) (fun ls hl => ?_)
  refine lv_iconst (v := (1 : Int32)) hx hb dX8_add_46 (by decide) ?_
  refine fr_aload_n hx hb dX8_add_47 rfl (lv_at hl 1 rfl) ?_
  refine lv_bipush (v := (40 : Int32)) hx hb dX8_add_48 (by decide) ?_
  obtain ⟨b4, q5, hf⟩ := obind hf
  obtain ⟨r2, g3, hf⟩ := obind hf
  refine fr_callV hx hb hml hts hown K hC hR ct_8 (c_X8_draw hfl D cA g3) 1 q5 kw706 kw723 kw704 kw705 kw22 (by decide +kernel) ⟨by exact Nat.le_of_ble_eq_true rfl, by exact Nat.le_of_ble_eq_true rfl⟩ rfl hl.1 (cat8 _ (by exact Nat.le_of_ble_eq_true rfl)) dX8_add_50 rfl (fun H locs _ _ hC => ?_)
  refine lv_iadd hx hb dX8_add_53 ?_
  refine lv_istore_n (lv' := [(3, .int ((1 : Int32) + r2.1)), (2, .int s0), (0, va_rf a0), (1, .int a1)]) hx hb dX8_add_54 rfl hl (by decide) (congrArg (List.cons _) (flk rfl (flk rfl (flk rfl fln)))) (fun ls hl => ?_)
  refine lv_iconst (v := (1 : Int32)) hx hb dX8_add_55 (by decide) ?_
  refine fr_aload_n hx hb dX8_add_56 rfl (lv_at hl 2 rfl) ?_
  refine lv_bipush (v := (40 : Int32)) hx hb dX8_add_57 (by decide) ?_
  obtain ⟨b8, q9, hf⟩ := obind hf
  obtain ⟨r6, g7, hf⟩ := obind hf
  refine fr_callV hx hb hml hts hown K hC hR ct_8 (c_X8_draw hfl D cA g7) 1 q9 kw706 kw723 kw704 kw705 kw22 (by decide +kernel) ⟨by exact Nat.le_of_ble_eq_true rfl, by exact Nat.le_of_ble_eq_true rfl⟩ rfl hl.1 (cat8 _ (by exact Nat.le_of_ble_eq_true rfl)) dX8_add_59 rfl (fun H locs _ _ hC => ?_)
  refine lv_iadd hx hb dX8_add_62 ?_
  refine lv_istore (lv' := [(4, .int ((1 : Int32) + r6.1)), (3, .int ((1 : Int32) + r2.1)), (2, .int s0), (0, va_rf a0), (1, .int a1)]) hx hb dX8_add_63 hl (by decide) (congrArg (List.cons _) (flk rfl (flk rfl (flk rfl (flk rfl fln))))) (fun ls hl => ?_)
  refine fr_aload_n hx hb dX8_add_65 rfl (lv_at hl 3 rfl) ?_
  obtain ⟨x10, g11, hf⟩ := obind hf
  refine fr_get hx hb hts hown K hC ct_8 (fgI_get g11) (by decide) kw659 rfl dX8_add_66 ?_
  refine lv_bipush (v := (30 : Int32)) hx hb dX8_add_69 (by decide) ?_
  refine lv_icmp_ne (tgt := 76) hx hb dX8_add_71 (by decide) (fun c12 => ?_) (fun c12 => ?_)
  · replace hf := oneg c12 hf
    refine fr_aload_n hx hb dX8_add_76 rfl (lv_at hl 3 rfl) ?_
    refine fr_aload_n hx hb dX8_add_77 rfl (lv_at hl 3 rfl) ?_
    obtain ⟨x13, g14, hf⟩ := obind hf
    refine fr_get hx hb hts hown K hC ct_8 (fgI_get g14) (by decide) kw659 rfl dX8_add_78 ?_
    refine lv_iload_n hx hb dX8_add_81 rfl (lv_at hl 4 rfl) ?_
    refine lv_iload_n hx hb dX8_add_82 rfl (lv_at hl 2 rfl) ?_
    refine lv_iload_n hx hb dX8_add_83 rfl (lv_at hl 1 rfl) ?_
    refine lv_iload hx hb dX8_add_84 (lv_at hl 0 rfl) ?_
    obtain ⟨b17, q18, hf⟩ := obind hf
    obtain ⟨r15, g16, hf⟩ := obind hf
    refine fr_callV hx hb hml hts hown K hC hR ct_8 (c_X8_put hfl D cA g16) 5 q18 kw654 kw651 kw653 kw14 kw22 (by decide +kernel) ⟨by exact Nat.le_of_ble_eq_true rfl, by exact Nat.le_of_ble_eq_true rfl⟩ rfl hl.1 (cat8 _ (by exact Nat.le_of_ble_eq_true rfl)) dX8_add_86 rfl (fun H locs _ _ hC => ?_)
    refine fr_aload_n hx hb dX8_add_89 rfl (lv_at hl 3 rfl) ?_
    obtain ⟨x19, g20, hf⟩ := obind hf
    refine fr_get hx hb hts hown K hC ct_8 (fgR_get g20) (by decide) kw655 rfl dX8_add_90 ?_
    refine lv_iload_n hx hb dX8_add_93 rfl (lv_at hl 4 rfl) ?_
    refine lv_iload_n hx hb dX8_add_94 rfl (lv_at hl 2 rfl) ?_
    refine lv_iload_n hx hb dX8_add_95 rfl (lv_at hl 1 rfl) ?_
    refine lv_iload hx hb dX8_add_96 (lv_at hl 0 rfl) ?_
    obtain ⟨b23, q24, hf⟩ := obind hf
    obtain ⟨⟨v25 | k26, h27⟩, g22, hf⟩ := obind hf
    rotate_left
    · exact nomatch (show (none : Option (Int32 × fSt)) = some _ from hf)
    replace hf := fci hf
    refine fr_callVX hx hb hml hts hown K hC hR ct_7 (c_X7_add hfl D cA g22) 4 q24 kw741 kw738 kw739 kw740 kw23 (by decide +kernel) ⟨by exact Nat.le_of_ble_eq_true rfl, by exact Nat.le_of_ble_eq_true rfl⟩ rfl hl.1 (cat8 _ (by exact Nat.le_of_ble_eq_true rfl)) dX8_add_98 rfl (fun H locs _ _ hC => ?_)
    refine fr_aload_n hx hb dX8_add_101 rfl (lv_at hl 3 rfl) ?_
    refine lv_dup hx hb dX8_add_102 (va_rf_cat _) ?_
    obtain ⟨x28, g29, hf⟩ := obind hf
    refine fr_get hx hb hts hown K hC ct_8 (fgI_get g29) (by decide) kw659 rfl dX8_add_103 ?_
    refine lv_dup_x1 hx hb dX8_add_106 rfl (va_rf_cat _) ?_
    refine lv_iconst (v := (1 : Int32)) hx hb dX8_add_107 (by decide) ?_
    refine lv_iadd hx hb dX8_add_108 ?_
    obtain ⟨h30, g31, hf⟩ := obind hf
    refine fr_put hx hb hts hown K hC ct_8 g31 (by decide) kw659 rfl rfl rfl rfl dX8_add_109 (fun H locs hC => ?_)
    refine lv_icmp_ne (tgt := 119) hx hb dX8_add_112 (by decide) (fun c32 => ?_) (fun c32 => ?_)
    · replace hf := oneg c32 hf
      refine lv_iconst (v := (0 : Int32)) hx hb dX8_add_119 (by decide) ?_
      exact w_X8_add_L120 M hfl _ _ hf _ _ _ _ _ hC (lv_sub hl [] rfl)
    · replace hf := opos c32 hf
      refine lv_iconst (v := (1 : Int32)) hx hb dX8_add_115 (by decide) ?_
      refine lv_goto (tgt := 120) hx hb dX8_add_116 (by decide) ?_
      exact w_X8_add_L120 M hfl _ _ hf _ _ _ _ _ hC (lv_sub hl [] rfl)
  · replace hf := opos c12 hf
    refine lv_iconst (v := (1 : Int32)) hx hb dX8_add_74 (by decide) ?_
    obtain rfl := Option.some.inj hf
    exact fr_zret hx hb hr hlocks hC (Or.inr rfl) dX8_add_75
set_option maxHeartbeats 4000000 in
set_option maxRecDepth 100000 in
theorem w_X8_add_L5 {p : Program} {l : Launch} {e : Env} {s : State} {m : MethodId} {args : Array Value} {below : List Frame} {meth : Method} {c : Code} {D : va_G} {cA : Nat → ClassId} {h0 : fSt} {r : (Int32 × fSt)} (M : fM p s m args meth c D cA h0 { frames := 19, cells := fCB h0 - fZ h0, slots := fLB h0 - fL h0, locals := 452 } cX8_add 5 (some (.boolean)) RX8) (hfl : l.stackTraces = false) : ∀ (n : Nat) (a0 : Option Nat) (a1 : Int32) (h : fSt), f_X8_add_L5 n a0 a1 h = some r → ∀ (H : Heap) (locs : List Loc) (cells slots : Nat) (ls : Array Slot), fCur D cA s h0 h H locs → lv_has ls 5 [(0, va_rf a0), (1, .int a1)] → W p l e { frames := 19, cells := fCB h0 - fZ h0, slots := fLB h0 - fL h0, locals := 452 } s m args below meth c H locs cells slots (MQ below (fQ D cA h0 r.2 (some (.int r.1))) args s (fCB h0 - fZ h0) (fLB h0 - fL h0) (fA h0)) (F0 m 5 ls []) := by
  obtain ⟨hx, hb, hml, hr, hlocks, hts, hown, K, hR⟩ := id M
  intro n
  induction n with
  | zero =>
    intro a0 a1 h hf
    exact nomatch (show (none : Option (Int32 × fSt)) = some r from hf)
  | succ n hk5 =>
    intro a0 a1 h hf H locs cells slots ls hC hl
    refine fr_aload_n hx hb dX8_add_5 rfl (lv_at hl 0 rfl) ?_
    refine lv_iload_n hx hb dX8_add_6 rfl (lv_at hl 1 rfl) ?_
    obtain ⟨b35, q36, hf⟩ := obind hf
    obtain ⟨r33, g34, hf⟩ := obind hf
    refine fr_callV hx hb hml hts hown K hC hR ct_8 (c_X8_level hfl D cA 8 g34) 1 q36 kw737 kw734 kw735 kw736 kw22 (by decide +kernel) ⟨by exact Nat.le_of_ble_eq_true rfl, by exact Nat.le_of_ble_eq_true rfl⟩ rfl hl.1 (cat8 _ (by exact Nat.le_of_ble_eq_true rfl)) dX8_add_7 rfl (fun H locs _ _ hC => ?_)
    refine lv_iconst (v := (4 : Int32)) hx hb dX8_add_10 (by decide) ?_
    refine lv_icmp_ne (tgt := 26) hx hb dX8_add_11 (by decide) (fun c37 => ?_) (fun c37 => ?_)
    · replace hf := oneg c37 hf
      refine fr_aload_n hx hb dX8_add_26 rfl (lv_at hl 0 rfl) ?_
      refine lv_iconst (v := (4 : Int32)) hx hb dX8_add_27 (by decide) ?_
      obtain ⟨b40, q41, hf⟩ := obind hf
      obtain ⟨r38, g39, hf⟩ := obind hf
      refine fr_callV hx hb hml hts hown K hC hR ct_8 (c_X8_draw hfl D cA g39) 1 q41 kw706 kw723 kw704 kw705 kw22 (by decide +kernel) ⟨by exact Nat.le_of_ble_eq_true rfl, by exact Nat.le_of_ble_eq_true rfl⟩ rfl hl.1 (cat8 _ (by exact Nat.le_of_ble_eq_true rfl)) dX8_add_28 rfl (fun H locs _ _ hC => ?_)
      refine lv_if_ne (tgt := 38) hx hb dX8_add_31 (by decide) (fun c42 => ?_) (fun c42 => ?_)
      · replace hf := oneg c42 hf
        refine lv_iconst (v := (1 : Int32)) hx hb dX8_add_38 (by decide) ?_
        refine fr_aload_n hx hb dX8_add_39 rfl (lv_at hl 0 rfl) ?_
        refine lv_iconst (v := (2 : Int32)) hx hb dX8_add_40 (by decide) ?_
        obtain ⟨b45, q46, hf⟩ := obind hf
        obtain ⟨r43, g44, hf⟩ := obind hf
        refine fr_callV hx hb hml hts hown K hC hR ct_8 (c_X8_draw hfl D cA g44) 1 q46 kw706 kw723 kw704 kw705 kw22 (by decide +kernel) ⟨by exact Nat.le_of_ble_eq_true rfl, by exact Nat.le_of_ble_eq_true rfl⟩ rfl hl.1 (cat8 _ (by exact Nat.le_of_ble_eq_true rfl)) dX8_add_41 rfl (fun H locs _ _ hC => ?_)
        refine lv_iadd hx hb dX8_add_44 ?_
        exact w_X8_add_L45 M hfl _ _ _ _ hf _ _ _ _ _ hC (lv_sub hl [0, 1] rfl)
      · replace hf := opos c42 hf
        refine lv_iconst (v := (0 : Int32)) hx hb dX8_add_34 (by decide) ?_
        refine lv_goto (tgt := 45) hx hb dX8_add_35 (by decide) ?_
        exact w_X8_add_L45 M hfl _ _ _ _ hf _ _ _ _ _ hC (lv_sub hl [0, 1] rfl)
    · replace hf := opos c37 hf
      refine fr_aload_n hx hb dX8_add_14 rfl (lv_at hl 0 rfl) ?_
      obtain ⟨x47, g48, hf⟩ := obind hf
      refine fr_get hx hb hts hown K hC ct_8 (fgR_get g48) (by decide) kw661 rfl dX8_add_15 ?_
      refine lv_iload_n hx hb dX8_add_18 rfl (lv_at hl 1 rfl) ?_
      obtain ⟨x49, g50, hf⟩ := obind hf
      refine fr_aaldA hx hb K hC (t := 4) rfl g50 dX8_add_19 ?_
      refine lv_iconst (v := (0 : Int32)) hx hb dX8_add_20 (by decide) ?_
      obtain ⟨x51, g52, hf⟩ := obind hf
      refine fr_iald hx hb K hC (t := 0) rfl g52 dX8_add_21 ?_
      refine lv_istore_n (lv' := [(1, .int x51), (0, va_rf a0)]) hx hb dX8_add_22 rfl hl (by decide) (congrArg (List.cons _) (flk (adj1 _ _) (fld rfl fln))) (fun ls hl => ?_)
      refine lv_goto (tgt := 5) hx hb dX8_add_23 (by decide) ?_
      exact hk5 _ _ _ hf _ _ _ _ _ hC (lv_sub hl [1, 0] rfl)
set_option maxHeartbeats 4000000 in
set_option maxRecDepth 100000 in
theorem w_X8_add_L0 {p : Program} {l : Launch} {e : Env} {s : State} {m : MethodId} {args : Array Value} {below : List Frame} {meth : Method} {c : Code} {D : va_G} {cA : Nat → ClassId} {h0 : fSt} {r : (Int32 × fSt)} (M : fM p s m args meth c D cA h0 { frames := 19, cells := fCB h0 - fZ h0, slots := fLB h0 - fL h0, locals := 452 } cX8_add 5 (some (.boolean)) RX8) (hfl : l.stackTraces = false) (a0 : Option Nat) (h : fSt) (hf : f_X8_add_L0 a0 h = some r) : ∀ (H : Heap) (locs : List Loc) (cells slots : Nat) (ls : Array Slot), fCur D cA s h0 h H locs → lv_has ls 5 [(0, va_rf a0)] → W p l e { frames := 19, cells := fCB h0 - fZ h0, slots := fLB h0 - fL h0, locals := 452 } s m args below meth c H locs cells slots (MQ below (fQ D cA h0 r.2 (some (.int r.1))) args s (fCB h0 - fZ h0) (fLB h0 - fL h0) (fA h0)) (F0 m 0 ls []) := by
  obtain ⟨hx, hb, hml, hr, hlocks, hts, hown, K, hR⟩ := id M
  intro H locs cells slots ls hC hl
  refine fr_aload_n hx hb dX8_add_0 rfl (lv_at hl 0 rfl) ?_
  obtain ⟨b55, q56, hf⟩ := obind hf
  obtain ⟨r53, g54, hf⟩ := obind hf
  refine fr_callV hx hb hml hts hown K hC hR ct_8 (c_X8_any hfl D cA g54) 0 q56 kw722 kw729 kw720 kw721 kw22 (by decide +kernel) ⟨by exact Nat.le_of_ble_eq_true rfl, by exact Nat.le_of_ble_eq_true rfl⟩ rfl hl.1 (cat8 _ (by exact Nat.le_of_ble_eq_true rfl)) dX8_add_1 rfl (fun H locs _ _ hC => ?_)
  refine lv_istore_n (lv' := [(1, .int r53.1), (0, va_rf a0)]) hx hb dX8_add_4 rfl hl (by decide) (congrArg (List.cons _) (flk (adj1 _ _) fln)) (fun ls hl => ?_)
  exact w_X8_add_L5 M hfl 4096 _ _ _ hf _ _ _ _ _ hC (lv_sub hl [1, 0] rfl)
set_option maxRecDepth 100000 in
theorem c_X8_add {l : Launch} (hfl : l.stackTraces = false) (D : va_G) (cA : Nat → ClassId) {o : Nat} {h : fSt} {r : (Int32 × fSt)} (hf : f_X8_add o h = some r) : fMet l yX8_add (wsC yX8_add cX8_add 5 (some (.boolean))) (19) (452) D cA [.ref o] h r.2 (some (.int r.1)) := by
  exact fMet.of (own := RX8) (by decide +kernel) rfl (lva1 rfl lva0) (lgl1 rfl lgl0) (Nat.le_of_ble_eq_true rfl) (fun p e s m args below meth c ls hnm _ M hC hl => by
    have hl : lv_has ls 5 [(0, va_rf (some o))] := hl
    exact w_X8_add_L0 M hfl _ _ hf _ _ _ _ _ hC (lv_sub hl [0] rfl))
set_option maxHeartbeats 4000000 in
set_option maxRecDepth 100000 in
theorem w_X4_property_L0 {p : Program} {l : Launch} {e : Env} {s : State} {m : MethodId} {args : Array Value} {below : List Frame} {meth : Method} {c : Code} {D : va_G} {cA : Nat → ClassId} {h0 : fSt} {r : (Option Nat × fSt)} (M : fM p s m args meth c D cA h0 { frames := 0, cells := fCB h0 - fZ h0, slots := fLB h0 - fL h0, locals := 0 } cX4_property 2 (some (.object "TapestryScene$Property")) RX4) (hfl : l.stackTraces = false) (a0 : Option Nat) (a1 : Int32) (h : fSt) (hf : f_X4_property_L0 a0 a1 h = some r) : ∀ (H : Heap) (locs : List Loc) (cells slots : Nat) (ls : Array Slot), fCur D cA s h0 h H locs → lv_has ls 2 [(0, va_rf a0), (1, .int a1)] → W p l e { frames := 0, cells := fCB h0 - fZ h0, slots := fLB h0 - fL h0, locals := 0 } s m args below meth c H locs cells slots (MQ below (fQ D cA h0 r.2 (some (va_rf r.1))) args s (fCB h0 - fZ h0) (fLB h0 - fL h0) (fA h0)) (F0 m 0 ls []) := by
  obtain ⟨hx, hb, hml, hr, hlocks, hts, hown, K, hR⟩ := id M
  intro H locs cells slots ls hC hl
  refine lv_iload_n hx hb dX4_property_0 rfl (lv_at hl 1 rfl) ?_
  by_cases c1 : a1 = (0 : Int32)
  · replace hf := opos c1 hf
    refine lv_tableIn (off := 31) (tgt := 32) hx hb dX4_property_1 (by rw [c1]; decide) (by rw [c1]; decide) (by rw [c1]; rfl) (by decide) ?_
    refine fr_aload_n hx hb dX4_property_32 rfl (lv_at hl 0 rfl) ?_
    obtain ⟨x2, g3, hf⟩ := obind hf
    refine fr_get hx hb hts hown K hC ct_4 (fgR_get g3) (by decide) kw485 rfl dX4_property_33 ?_
    obtain rfl := Option.some.inj hf
    exact fr_aret hx hb hr (Or.inl ⟨_, rfl⟩) hlocks hC dX4_property_36
  replace hf := oneg c1 hf
  by_cases c4 : a1 = (1 : Int32)
  · replace hf := opos c4 hf
    refine lv_tableIn (off := 36) (tgt := 37) hx hb dX4_property_1 (by rw [c4]; decide) (by rw [c4]; decide) (by rw [c4]; rfl) (by decide) ?_
    refine fr_aload_n hx hb dX4_property_37 rfl (lv_at hl 0 rfl) ?_
    obtain ⟨x5, g6, hf⟩ := obind hf
    refine fr_get hx hb hts hown K hC ct_4 (fgR_get g6) (by decide) kw488 rfl dX4_property_38 ?_
    obtain rfl := Option.some.inj hf
    exact fr_aret hx hb hr (Or.inl ⟨_, rfl⟩) hlocks hC dX4_property_41
  replace hf := oneg c4 hf
  by_cases c7 : a1 = (2 : Int32)
  · replace hf := opos c7 hf
    refine lv_tableIn (off := 41) (tgt := 42) hx hb dX4_property_1 (by rw [c7]; decide) (by rw [c7]; decide) (by rw [c7]; rfl) (by decide) ?_
    refine fr_aload_n hx hb dX4_property_42 rfl (lv_at hl 0 rfl) ?_
    obtain ⟨x8, g9, hf⟩ := obind hf
    refine fr_get hx hb hts hown K hC ct_4 (fgR_get g9) (by decide) kw491 rfl dX4_property_43 ?_
    obtain rfl := Option.some.inj hf
    exact fr_aret hx hb hr (Or.inl ⟨_, rfl⟩) hlocks hC dX4_property_46
  replace hf := oneg c7 hf
  by_cases c10 : a1 = (3 : Int32)
  · replace hf := opos c10 hf
    refine lv_tableIn (off := 46) (tgt := 47) hx hb dX4_property_1 (by rw [c10]; decide) (by rw [c10]; decide) (by rw [c10]; rfl) (by decide) ?_
    refine fr_aload_n hx hb dX4_property_47 rfl (lv_at hl 0 rfl) ?_
    obtain ⟨x11, g12, hf⟩ := obind hf
    refine fr_get hx hb hts hown K hC ct_4 (fgR_get g12) (by decide) kw494 rfl dX4_property_48 ?_
    obtain rfl := Option.some.inj hf
    exact fr_aret hx hb hr (Or.inl ⟨_, rfl⟩) hlocks hC dX4_property_51
  replace hf := oneg c10 hf
  refine lv_tableOut (tgt := 52) hx hb dX4_property_1 (swOut4 c1 c4 c7 c10) (by decide) ?_
  refine fr_null hx hb dX4_property_52 ?_
  obtain rfl := Option.some.inj hf
  exact fr_aret hx hb hr (Or.inl ⟨_, rfl⟩) hlocks hC dX4_property_53
set_option maxRecDepth 100000 in
theorem c_X4_property {l : Launch} (hfl : l.stackTraces = false) (D : va_G) (cA : Nat → ClassId) {o : Nat} {p0 : Int32} {h : fSt} {r : (Option Nat × fSt)} (hf : f_X4_property o p0 h = some r) : fMet l yX4_property (wsC yX4_property cX4_property 2 (some (.object "TapestryScene$Property"))) (0) (0) D cA [.ref o, .int p0] h r.2 (some (va_rf r.1)) := by
  exact fMet.of (own := RX4) (by decide +kernel) rfl (lva1 rfl (lva1 rfl lva0)) (lgl1 rfl (lgl1 rfl lgl0)) (Nat.le_of_ble_eq_true rfl) (fun p e s m args below meth c ls hnm _ M hC hl => by
    have hl : lv_has ls 2 [(0, va_rf (some o)), (1, .int p0)] := hl
    exact w_X4_property_L0 M hfl _ _ _ hf _ _ _ _ _ hC (lv_sub hl [0, 1] rfl))
set_option maxHeartbeats 4000000 in
set_option maxRecDepth 100000 in
theorem w_X7_track_L39 {p : Program} {l : Launch} {e : Env} {s : State} {m : MethodId} {args : Array Value} {below : List Frame} {meth : Method} {c : Code} {D : va_G} {cA : Nat → ClassId} {h0 : fSt} {r : ((Int32 ⊕ Nat) × fSt)} (M : fM p s m args meth c D cA h0 { frames := 7, cells := fCB h0 - fZ h0, slots := fLB h0 - fL h0, locals := 112 } cX7_track 7 (some (.int)) RX7) (hfl : l.stackTraces = false) (hno : ∀ x ∈ c.exceptionTable.toList, False)  (h : fSt) (hf : f_X7_track_L39  h = some r) : ∀ (H : Heap) (locs : List Loc) (cells slots : Nat) (ls : Array Slot), fCur D cA s h0 h H locs → lv_has ls 7 [] → W p l e { frames := 7, cells := fCB h0 - fZ h0, slots := fLB h0 - fL h0, locals := 112 } s m args below meth c H locs cells slots (vx_MQ below (fQX D cA h0 r.2 (rI r.1)) (fXC D cA h0 r.2 (rI r.1)) args s (fCB h0 - fZ h0) (fLB h0 - fL h0) (fA h0)) (F0 m 39 ls []) := by
  obtain ⟨hx, hb, hml, hr, hlocks, hts, hown, K, hR⟩ := id M
  intro H locs cells slots ls hC hl
  obtain ⟨h1, g2, hf⟩ := obind hf
  obtain rfl := Option.some.inj hf
  exact fr_throwS hx hb hml hts hfl hown K hC hR th_RX7_60_64_1 st_RX7_180 hl.1 dX7_track_39 dX7_track_42 dX7_track_43 dX7_track_45 dX7_track_48 hno (by exact Nat.le_of_ble_eq_true rfl) (catL _ _ (by exact Nat.le_of_ble_eq_true rfl) (by exact Nat.le_of_ble_eq_true rfl)) hlocks g2
set_option maxHeartbeats 4000000 in
set_option maxRecDepth 100000 in
theorem w_X7_track_L85 {p : Program} {l : Launch} {e : Env} {s : State} {m : MethodId} {args : Array Value} {below : List Frame} {meth : Method} {c : Code} {D : va_G} {cA : Nat → ClassId} {h0 : fSt} {r : ((Int32 ⊕ Nat) × fSt)} (M : fM p s m args meth c D cA h0 { frames := 7, cells := fCB h0 - fZ h0, slots := fLB h0 - fL h0, locals := 112 } cX7_track 7 (some (.int)) RX7) (hfl : l.stackTraces = false) (hno : ∀ x ∈ c.exceptionTable.toList, False)  (h : fSt) (hf : f_X7_track_L85  h = some r) : ∀ (H : Heap) (locs : List Loc) (cells slots : Nat) (ls : Array Slot), fCur D cA s h0 h H locs → lv_has ls 7 [] → W p l e { frames := 7, cells := fCB h0 - fZ h0, slots := fLB h0 - fL h0, locals := 112 } s m args below meth c H locs cells slots (vx_MQ below (fQX D cA h0 r.2 (rI r.1)) (fXC D cA h0 r.2 (rI r.1)) args s (fCB h0 - fZ h0) (fLB h0 - fL h0) (fA h0)) (F0 m 85 ls []) := by
  obtain ⟨hx, hb, hml, hr, hlocks, hts, hown, K, hR⟩ := id M
  intro H locs cells slots ls hC hl
  obtain ⟨h3, g4, hf⟩ := obind hf
  obtain rfl := Option.some.inj hf
  exact fr_throwS hx hb hml hts hfl hown K hC hR th_RX7_73_77_2 st_RX7_188 hl.1 dX7_track_85 dX7_track_88 dX7_track_89 dX7_track_91 dX7_track_94 hno (by exact Nat.le_of_ble_eq_true rfl) (catL _ _ (by exact Nat.le_of_ble_eq_true rfl) (by exact Nat.le_of_ble_eq_true rfl)) hlocks g4
set_option maxHeartbeats 4000000 in
set_option maxRecDepth 100000 in
theorem w_X7_track_L0 {p : Program} {l : Launch} {e : Env} {s : State} {m : MethodId} {args : Array Value} {below : List Frame} {meth : Method} {c : Code} {D : va_G} {cA : Nat → ClassId} {h0 : fSt} {r : ((Int32 ⊕ Nat) × fSt)} (M : fM p s m args meth c D cA h0 { frames := 7, cells := fCB h0 - fZ h0, slots := fLB h0 - fL h0, locals := 112 } cX7_track 7 (some (.int)) RX7) (hfl : l.stackTraces = false) (hno : ∀ x ∈ c.exceptionTable.toList, False) (a0 : Option Nat) (a1 : Int32) (a2 : Int32) (a3 : Int32) (a4 : Int32) (h : fSt) (hf : f_X7_track_L0 a0 a1 a2 a3 a4 h = some r) : ∀ (H : Heap) (locs : List Loc) (cells slots : Nat) (ls : Array Slot), fCur D cA s h0 h H locs → lv_has ls 7 [(0, va_rf a0), (1, .int a1), (2, .int a2), (3, .int a3), (4, .int a4)] → W p l e { frames := 7, cells := fCB h0 - fZ h0, slots := fLB h0 - fL h0, locals := 112 } s m args below meth c H locs cells slots (vx_MQ below (fQX D cA h0 r.2 (rI r.1)) (fXC D cA h0 r.2 (rI r.1)) args s (fCB h0 - fZ h0) (fLB h0 - fL h0) (fA h0)) (F0 m 0 ls []) := by
  obtain ⟨hx, hb, hml, hr, hlocks, hts, hown, K, hR⟩ := id M
  intro H locs cells slots ls hC hl
  refine fr_aload_n hx hb dX7_track_0 rfl (lv_at hl 0 rfl) ?_
  refine lv_iload_n hx hb dX7_track_1 rfl (lv_at hl 1 rfl) ?_
  obtain ⟨b7, q8, hf⟩ := obind hf
  obtain ⟨⟨v9 | k10, h11⟩, g6, hf⟩ := obind hf
  · refine fr_callVX hx hb hml hts hown K hC hR ct_7 (c_X7_found hfl D cA g6) 1 q8 kw51 kw47 kw49 kw0 kw23 (by decide +kernel) ⟨by exact Nat.le_of_ble_eq_true rfl, by exact Nat.le_of_ble_eq_true rfl⟩ rfl hl.1 (cat8 _ (by exact Nat.le_of_ble_eq_true rfl)) dX7_track_2 rfl (fun H locs _ _ hC => ?_)
    refine fr_astore (lv' := [(5, va_rf v9), (0, va_rf a0), (1, .int a1), (2, .int a2), (3, .int a3), (4, .int a4)]) hx hb dX7_track_5 hl (by decide) (congrArg (List.cons _) (flk rfl (flk rfl (flk rfl (flk rfl (flk rfl fln)))))) (fun ls hl => ?_)
    refine fr_aload hx hb dX7_track_7 (lv_at hl 0 rfl) ?_
    refine lv_iload_n hx hb dX7_track_9 rfl (lv_at hl 3 rfl) ?_
    obtain ⟨b14, q15, hf⟩ := obind hf
    obtain ⟨r12, g13, hf⟩ := obind hf
    refine fr_callV hx hb hml hts hown K hC hR ct_4 (c_X4_property hfl D cA g13) 1 q15 kw930 kw927 kw928 kw929 kw24 (by decide +kernel) ⟨by exact Nat.le_of_ble_eq_true rfl, by exact Nat.le_of_ble_eq_true rfl⟩ rfl hl.1 (cat8 _ (by exact Nat.le_of_ble_eq_true rfl)) dX7_track_10 rfl (fun H locs _ _ hC => ?_)
    refine fr_astore (lv' := [(6, va_rf r12.1), (5, va_rf v9), (0, va_rf a0), (1, .int a1), (2, .int a2), (3, .int a3), (4, .int a4)]) hx hb dX7_track_13 hl (by decide) (congrArg (List.cons _) (flk (adj1 _ _) (flk rfl (flk rfl (flk rfl (flk rfl (flk rfl fln))))))) (fun ls hl => ?_)
    refine fr_aload hx hb dX7_track_15 (lv_at hl 0 rfl) ?_
    refine fr_ifnull (tgt := 39) hx hb dX7_track_17 (by decide) (fun c16 => ?_) (fun c16 => ?_)
    · replace hf := opos c16 hf
      exact w_X7_track_L39 M hfl hno _ hf _ _ _ _ _ hC (lv_sub hl [] rfl)
    · replace hf := oneg c16 hf
      refine lv_iload_n hx hb dX7_track_20 rfl (lv_at hl 5 rfl) ?_
      refine lv_iconst (v := (0 : Int32)) hx hb dX7_track_21 (by decide) ?_
      refine lv_iconst (v := (2 : Int32)) hx hb dX7_track_22 (by decide) ?_
      obtain ⟨r17, g18, hf⟩ := obind hf
      refine fr_callS hx hb hml hts hown K hC hR (c_X7_isFrom hfl D cA g18) 3 kw154 kw152 kw153 kw23 (by decide +kernel) ⟨by exact Nat.le_of_ble_eq_true rfl, by exact Nat.le_of_ble_eq_true rfl⟩ rfl hl.1 (cat8 _ (by exact Nat.le_of_ble_eq_true rfl)) dX7_track_23 rfl (fun H locs _ _ hC => ?_)
      refine lv_if_eq (tgt := 39) hx hb dX7_track_26 (by decide) (fun c19 => ?_) (fun c19 => ?_)
      · replace hf := opos c19 hf
        exact w_X7_track_L39 M hfl hno _ hf _ _ _ _ _ hC (lv_sub hl [] rfl)
      · replace hf := oneg c19 hf
        refine lv_iload hx hb dX7_track_29 (lv_at hl 6 rfl) ?_
        refine lv_iconst (v := (0 : Int32)) hx hb dX7_track_31 (by decide) ?_
        refine lv_iconst (v := (2 : Int32)) hx hb dX7_track_32 (by decide) ?_
        obtain ⟨r20, g21, hf⟩ := obind hf
        refine fr_callS hx hb hml hts hown K hC hR (c_X7_isFrom hfl D cA g21) 3 kw154 kw152 kw153 kw23 (by decide +kernel) ⟨by exact Nat.le_of_ble_eq_true rfl, by exact Nat.le_of_ble_eq_true rfl⟩ rfl hl.1 (cat8 _ (by exact Nat.le_of_ble_eq_true rfl)) dX7_track_33 rfl (fun H locs _ _ hC => ?_)
        refine lv_if_ne (tgt := 49) hx hb dX7_track_36 (by decide) (fun c22 => ?_) (fun c22 => ?_)
        · replace hf := oneg c22 hf
          refine fr_aload hx hb dX7_track_49 (lv_at hl 1 rfl) ?_
          refine fr_aload_n hx hb dX7_track_51 rfl (lv_at hl 2 rfl) ?_
          obtain ⟨x23, g24, hf⟩ := obind hf
          refine fr_get hx hb hts hown K hC ct_7 (fgR_get g24) (by decide) kw619 rfl dX7_track_52 ?_
          refine lv_acmp_eq (tgt := 85) hx hb dX7_track_55 (by decide) (fun c25 => ?_) (fun c25 => ?_)
          · replace hf := opos c25 hf
            exact w_X7_track_L85 M hfl hno _ hf _ _ _ _ _ hC (lv_sub hl [] rfl)
          · replace hf := oneg c25 hf
            refine fr_aload hx hb dX7_track_58 (lv_at hl 0 rfl) ?_
            obtain ⟨x26, g27, hf⟩ := obind hf
            refine fr_get hx hb hts hown K hC ct_6 (fgI_get g27) (by decide) kw427 rfl dX7_track_60 ?_
            refine lv_if_ne (tgt := 85) hx hb dX7_track_63 (by decide) (fun c28 => ?_) (fun c28 => ?_)
            · replace hf := oneg c28 hf
              exact w_X7_track_L85 M hfl hno _ hf _ _ _ _ _ hC (lv_sub hl [] rfl)
            · replace hf := opos c28 hf
              refine fr_aload_n hx hb dX7_track_66 rfl (lv_at hl 2 rfl) ?_
              obtain ⟨x29, g30, hf⟩ := obind hf
              refine fr_get hx hb hts hown K hC ct_7 (fgI_get g30) (by decide) kw623 rfl dX7_track_67 ?_
              refine lv_if_lt (tgt := 85) hx hb dX7_track_70 (by decide) (fun c31 => ?_) (fun c31 => ?_)
              · replace hf := opos c31 hf
                exact w_X7_track_L85 M hfl hno _ hf _ _ _ _ _ hC (lv_sub hl [] rfl)
              · replace hf := oneg c31 hf
                refine fr_aload_n hx hb dX7_track_73 rfl (lv_at hl 2 rfl) ?_
                obtain ⟨x32, g33, hf⟩ := obind hf
                refine fr_get hx hb hts hown K hC ct_7 (fgI_get g33) (by decide) kw623 rfl dX7_track_74 ?_
                refine fr_aload_n hx hb dX7_track_77 rfl (lv_at hl 2 rfl) ?_
                obtain ⟨x34, g35, hf⟩ := obind hf
                refine fr_get hx hb hts hown K hC ct_7 (fgR_get g35) (by decide) kw618 rfl dX7_track_78 ?_
                obtain ⟨x36, g37, hf⟩ := obind hf
                refine fr_alen hx hb K hC (t := 3) rfl g37 dX7_track_81 ?_
                refine lv_icmp_lt (tgt := 95) hx hb dX7_track_82 (by decide) (fun c38 => ?_) (fun c38 => ?_)
                · replace hf := opos c38 hf
                  refine fr_aload hx hb dX7_track_95 (lv_at hl 0 rfl) ?_
                  refine lv_iconst (v := (1 : Int32)) hx hb dX7_track_97 (by decide) ?_
                  obtain ⟨h39, g40, hf⟩ := obind hf
                  obtain ⟨z41, g40⟩ := fputZ_inv g40
                  refine fr_put hx hb hts hown K hC ct_6 g40 (by decide) kw427 rfl rfl (nZ z41) (fZ9 z41) dX7_track_98 (fun H locs hC => ?_)
                  refine fr_aload hx hb dX7_track_101 (lv_at hl 0 rfl) ?_
                  refine lv_iload_n hx hb dX7_track_103 rfl (lv_at hl 5 rfl) ?_
                  obtain ⟨h42, g43, hf⟩ := obind hf
                  refine fr_put hx hb hts hown K hC ct_6 g43 (by decide) kw431 rfl rfl rfl rfl dX7_track_104 (fun H locs hC => ?_)
                  refine fr_aload hx hb dX7_track_107 (lv_at hl 0 rfl) ?_
                  refine lv_iload hx hb dX7_track_109 (lv_at hl 6 rfl) ?_
                  obtain ⟨h44, g45, hf⟩ := obind hf
                  refine fr_put hx hb hts hown K hC ct_6 g45 (by decide) kw433 rfl rfl rfl rfl dX7_track_111 (fun H locs hC => ?_)
                  refine fr_aload_n hx hb dX7_track_114 rfl (lv_at hl 2 rfl) ?_
                  obtain ⟨x46, g47, hf⟩ := obind hf
                  refine fr_get hx hb hts hown K hC ct_7 (fgR_get g47) (by decide) kw618 rfl dX7_track_115 ?_
                  refine fr_aload_n hx hb dX7_track_118 rfl (lv_at hl 2 rfl) ?_
                  obtain ⟨x48, g49, hf⟩ := obind hf
                  refine fr_get hx hb hts hown K hC ct_7 (fgI_get g49) (by decide) kw623 rfl dX7_track_119 ?_
                  refine fr_aload hx hb dX7_track_122 (lv_at hl 0 rfl) ?_
                  obtain ⟨h50, g51, hf⟩ := obind hf
                  refine fr_aast hx hb K hC (t := 3) ct_6 rfl g51 dX7_track_124 (fun H locs hC => ?_)
                  refine fr_aload_n hx hb dX7_track_125 rfl (lv_at hl 2 rfl) ?_
                  refine lv_dup hx hb dX7_track_126 (va_rf_cat _) ?_
                  obtain ⟨x52, g53, hf⟩ := obind hf
                  refine fr_get hx hb hts hown K hC ct_7 (fgI_get g53) (by decide) kw623 rfl dX7_track_127 ?_
                  refine lv_iconst (v := (1 : Int32)) hx hb dX7_track_130 (by decide) ?_
                  refine lv_iadd hx hb dX7_track_131 ?_
                  obtain ⟨h54, g55, hf⟩ := obind hf
                  refine fr_put hx hb hts hown K hC ct_7 g55 (by decide) kw623 rfl rfl rfl rfl dX7_track_132 (fun H locs hC => ?_)
                  refine fr_aload_n hx hb dX7_track_135 rfl (lv_at hl 2 rfl) ?_
                  obtain ⟨x56, g57, hf⟩ := obind hf
                  refine fr_get hx hb hts hown K hC ct_7 (fgI_get g57) (by decide) kw623 rfl dX7_track_136 ?_
                  refine lv_iconst (v := (1 : Int32)) hx hb dX7_track_139 (by decide) ?_
                  refine lv_isub hx hb dX7_track_140 ?_
                  obtain rfl := Option.some.inj hf
                  exact fr_retQ (fr_iret hx hb hr hlocks hC dX7_track_141)
                · replace hf := oneg c38 hf
                  exact w_X7_track_L85 M hfl hno _ hf _ _ _ _ _ hC (lv_sub hl [] rfl)
        · replace hf := opos c22 hf
          exact w_X7_track_L39 M hfl hno _ hf _ _ _ _ _ hC (lv_sub hl [] rfl)
  · obtain rfl := Option.some.inj hf
    refine fr_callVT hx hb hml hts hown K hC hR ct_7 (c_X7_found hfl D cA g6) 1 q8 kw51 kw47 kw49 kw0 kw23 (by decide +kernel) ⟨by exact Nat.le_of_ble_eq_true rfl, by exact Nat.le_of_ble_eq_true rfl⟩ rfl hl.1 (cat8 _ (by exact Nat.le_of_ble_eq_true rfl)) dX7_track_2 rfl (fun H locs _ _ q ce hC e1 e2 e3 => ?_)
    exact fr_out (fun x hx9 => (hno x hx9).elim) hlocks hC e1 e2 e3
set_option maxRecDepth 100000 in
theorem c_X7_track {l : Launch} (hfl : l.stackTraces = false) (D : va_G) (cA : Nat → ClassId) {o : Nat} {p0 : Int32} {p1 : Int32} {p2 : Int32} {p3 : Int32} {h : fSt} {r : ((Int32 ⊕ Nat) × fSt)} (hf : f_X7_track o p0 p1 p2 p3 h = some r) : fMetX l yX7_track (wsC yX7_track cX7_track 7 (some (.int))) (7) (112) D cA [.ref o, .int p0, .int p1, .int p2, .int p3] h r.2 (rI r.1) := by
  exact fMetX.of (own := RX7) (by decide +kernel) rfl (lva1 rfl (lva1 rfl (lva1 rfl (lva1 rfl (lva1 rfl lva0))))) (lgl1 rfl (lgl1 rfl (lgl1 rfl (lgl1 rfl (lgl1 rfl lgl0))))) (Nat.le_of_ble_eq_true rfl) (fun p e s m args below meth c ls hno M hC hl => by
    have hl : lv_has ls 7 [(0, va_rf (some o)), (1, .int p0), (2, .int p1), (3, .int p2), (4, .int p3)] := hl
    exact w_X7_track_L0 M hfl hno _ _ _ _ _ _ hf _ _ _ _ _ hC (lv_sub hl [0, 1, 2, 3, 4] rfl))
set_option maxHeartbeats 4000000 in
set_option maxRecDepth 100000 in
theorem w_X6_allows_L0 {p : Program} {l : Launch} {e : Env} {s : State} {m : MethodId} {args : Array Value} {below : List Frame} {meth : Method} {c : Code} {D : va_G} {cA : Nat → ClassId} {h0 : fSt} {r : (Int32 × fSt)} (M : fM p s m args meth c D cA h0 { frames := 1, cells := fCB h0 - fZ h0, slots := fLB h0 - fL h0, locals := 22 } cX6_allows 2 (some (.boolean)) RX6) (hfl : l.stackTraces = false) (a0 : Option Nat) (a1 : Int32) (h : fSt) (hf : f_X6_allows_L0 a0 a1 h = some r) : ∀ (H : Heap) (locs : List Loc) (cells slots : Nat) (ls : Array Slot), fCur D cA s h0 h H locs → lv_has ls 2 [(0, va_rf a0), (1, .int a1)] → W p l e { frames := 1, cells := fCB h0 - fZ h0, slots := fLB h0 - fL h0, locals := 22 } s m args below meth c H locs cells slots (MQ below (fQ D cA h0 r.2 (some (.int r.1))) args s (fCB h0 - fZ h0) (fLB h0 - fL h0) (fA h0)) (F0 m 0 ls []) := by
  obtain ⟨hx, hb, hml, hr, hlocks, hts, hown, K, hR⟩ := id M
  intro H locs cells slots ls hC hl
  refine lv_iload_n hx hb dX6_allows_0 rfl (lv_at hl 1 rfl) ?_
  refine fr_aload_n hx hb dX6_allows_1 rfl (lv_at hl 0 rfl) ?_
  obtain ⟨x1, g2, hf⟩ := obind hf
  refine fr_get hx hb hts hown K hC ct_6 (fgI_get g2) (by decide) kw423 rfl dX6_allows_2 ?_
  refine fr_aload_n hx hb dX6_allows_5 rfl (lv_at hl 0 rfl) ?_
  obtain ⟨x3, g4, hf⟩ := obind hf
  refine fr_get hx hb hts hown K hC ct_6 (fgI_get g4) (by decide) kw424 rfl dX6_allows_6 ?_
  obtain ⟨r5, g6, hf⟩ := obind hf
  refine fr_callSN hx hb hml hts hown K hC hR (c_X7_isFrom hfl D cA g6) 3 kw154 kn795 kw153 kw23 (by decide +kernel) ⟨by exact Nat.le_of_ble_eq_true rfl, by exact Nat.le_of_ble_eq_true rfl⟩ rfl hl.1 (cat8 _ (by exact Nat.le_of_ble_eq_true rfl)) dX6_allows_9 rfl (fun H locs _ _ hC => ?_)
  by_cases c7 : r5.1 = 0 ∨ r5.1 = 1
  rotate_left
  · exact nomatch (oneg c7 hf)
  obtain rfl := Option.some.inj (opos c7 hf)
  exact fr_zret hx hb hr hlocks hC c7 dX6_allows_12
set_option maxRecDepth 100000 in
theorem c_X6_allows {l : Launch} (hfl : l.stackTraces = false) (D : va_G) (cA : Nat → ClassId) {o : Nat} {p0 : Int32} {h : fSt} {r : (Int32 × fSt)} (hf : f_X6_allows o p0 h = some r) : fMet l yX6_allows (wsC yX6_allows cX6_allows 2 (some (.boolean))) (1) (22) D cA [.ref o, .int p0] h r.2 (some (.int r.1)) := by
  exact fMet.of (own := RX6) (by decide +kernel) rfl (lva1 rfl (lva1 rfl lva0)) (lgl1 rfl (lgl1 rfl lgl0)) (Nat.le_of_ble_eq_true rfl) (fun p e s m args below meth c ls hnm _ M hC hl => by
    have hl : lv_has ls 2 [(0, va_rf (some o)), (1, .int p0)] := hl
    exact w_X6_allows_L0 M hfl _ _ _ hf _ _ _ _ _ hC (lv_sub hl [0, 1] rfl))
set_option maxHeartbeats 4000000 in
set_option maxRecDepth 100000 in
theorem w_X6_keyAt_L23 {p : Program} {l : Launch} {e : Env} {s : State} {m : MethodId} {args : Array Value} {below : List Frame} {meth : Method} {c : Code} {D : va_G} {cA : Nat → ClassId} {h0 : fSt} {r : (Option Nat × fSt)} (M : fM p s m args meth c D cA h0 { frames := 1, cells := fCB h0 - fZ h0, slots := fLB h0 - fL h0, locals := 23 } cX6_keyAt 3 (some (.object "TapestryScene$Key")) RX6) (hfl : l.stackTraces = false) (s0 : Option Nat) (h : fSt) (hf : f_X6_keyAt_L23 s0 h = some r) : ∀ (H : Heap) (locs : List Loc) (cells slots : Nat) (ls : Array Slot), fCur D cA s h0 h H locs → lv_has ls 3 [] → W p l e { frames := 1, cells := fCB h0 - fZ h0, slots := fLB h0 - fL h0, locals := 23 } s m args below meth c H locs cells slots (MQ below (fQ D cA h0 r.2 (some (va_rf r.1))) args s (fCB h0 - fZ h0) (fLB h0 - fL h0) (fA h0)) (F0 m 23 ls [va_rf s0]) := by
  obtain ⟨hx, hb, hml, hr, hlocks, hts, hown, K, hR⟩ := id M
  intro H locs cells slots ls hC hl
  obtain rfl := Option.some.inj hf
  exact fr_aret hx hb hr (Or.inl ⟨_, rfl⟩) hlocks hC dX6_keyAt_23
set_option maxHeartbeats 4000000 in
set_option maxRecDepth 100000 in
theorem w_X6_keyAt_L18 {p : Program} {l : Launch} {e : Env} {s : State} {m : MethodId} {args : Array Value} {below : List Frame} {meth : Method} {c : Code} {D : va_G} {cA : Nat → ClassId} {h0 : fSt} {r : (Option Nat × fSt)} (M : fM p s m args meth c D cA h0 { frames := 1, cells := fCB h0 - fZ h0, slots := fLB h0 - fL h0, locals := 23 } cX6_keyAt 3 (some (.object "TapestryScene$Key")) RX6) (hfl : l.stackTraces = false)  (h : fSt) (hf : f_X6_keyAt_L18  h = some r) : ∀ (H : Heap) (locs : List Loc) (cells slots : Nat) (ls : Array Slot), fCur D cA s h0 h H locs → lv_has ls 3 [] → W p l e { frames := 1, cells := fCB h0 - fZ h0, slots := fLB h0 - fL h0, locals := 23 } s m args below meth c H locs cells slots (MQ below (fQ D cA h0 r.2 (some (va_rf r.1))) args s (fCB h0 - fZ h0) (fLB h0 - fL h0) (fA h0)) (F0 m 18 ls []) := by
  obtain ⟨hx, hb, hml, hr, hlocks, hts, hown, K, hR⟩ := id M
  intro H locs cells slots ls hC hl
  refine fr_null hx hb dX6_keyAt_18 ?_
  refine lv_goto (tgt := 23) hx hb dX6_keyAt_19 (by decide) ?_
  exact w_X6_keyAt_L23 M hfl _ _ hf _ _ _ _ _ hC (lv_sub hl [] rfl)
set_option maxHeartbeats 4000000 in
set_option maxRecDepth 100000 in
theorem w_X6_keyAt_L0 {p : Program} {l : Launch} {e : Env} {s : State} {m : MethodId} {args : Array Value} {below : List Frame} {meth : Method} {c : Code} {D : va_G} {cA : Nat → ClassId} {h0 : fSt} {r : (Option Nat × fSt)} (M : fM p s m args meth c D cA h0 { frames := 1, cells := fCB h0 - fZ h0, slots := fLB h0 - fL h0, locals := 23 } cX6_keyAt 3 (some (.object "TapestryScene$Key")) RX6) (hfl : l.stackTraces = false) (a0 : Option Nat) (a1 : Int32) (h : fSt) (hf : f_X6_keyAt_L0 a0 a1 h = some r) : ∀ (H : Heap) (locs : List Loc) (cells slots : Nat) (ls : Array Slot), fCur D cA s h0 h H locs → lv_has ls 3 [(0, va_rf a0), (1, .int a1)] → W p l e { frames := 1, cells := fCB h0 - fZ h0, slots := fLB h0 - fL h0, locals := 23 } s m args below meth c H locs cells slots (MQ below (fQ D cA h0 r.2 (some (va_rf r.1))) args s (fCB h0 - fZ h0) (fLB h0 - fL h0) (fA h0)) (F0 m 0 ls []) := by
  obtain ⟨hx, hb, hml, hr, hlocks, hts, hown, K, hR⟩ := id M
  intro H locs cells slots ls hC hl
  refine fr_aload_n hx hb dX6_keyAt_0 rfl (lv_at hl 0 rfl) ?_
  refine lv_iload_n hx hb dX6_keyAt_1 rfl (lv_at hl 1 rfl) ?_
  obtain ⟨b3, q4, hf⟩ := obind hf
  obtain ⟨r1, g2, hf⟩ := obind hf
  refine fr_callV hx hb hml hts hown K hC hR ct_6 (c_X6_lastKeyUpTo hfl D cA g2) 1 q4 kw200 kw196 kw198 kw4 kw25 (by decide +kernel) ⟨by exact Nat.le_of_ble_eq_true rfl, by exact Nat.le_of_ble_eq_true rfl⟩ rfl hl.1 (cat8 _ (by exact Nat.le_of_ble_eq_true rfl)) dX6_keyAt_2 rfl (fun H locs _ _ hC => ?_)
  refine fr_astore_n (lv' := [(2, va_rf r1.1), (0, va_rf a0), (1, .int a1)]) hx hb dX6_keyAt_5 rfl hl (by decide) (congrArg (List.cons _) (flk rfl (flk rfl fln))) (fun ls hl => ?_)
  refine fr_aload_n hx hb dX6_keyAt_6 rfl (lv_at hl 0 rfl) ?_
  refine fr_ifnull (tgt := 18) hx hb dX6_keyAt_7 (by decide) (fun c5 => ?_) (fun c5 => ?_)
  · replace hf := opos c5 hf
    exact w_X6_keyAt_L18 M hfl _ hf _ _ _ _ _ hC (lv_sub hl [] rfl)
  · replace hf := oneg c5 hf
    refine fr_aload_n hx hb dX6_keyAt_10 rfl (lv_at hl 0 rfl) ?_
    obtain ⟨x6, g7, hf⟩ := obind hf
    refine fr_get hx hb hts hown K hC ct_3 (fgI_get g7) (by decide) kw912 rfl dX6_keyAt_11 ?_
    refine lv_iload_n hx hb dX6_keyAt_14 rfl (lv_at hl 2 rfl) ?_
    refine lv_icmp_eq (tgt := 22) hx hb dX6_keyAt_15 (by decide) (fun c8 => ?_) (fun c8 => ?_)
    · replace hf := opos c8 hf
      refine fr_aload_n hx hb dX6_keyAt_22 rfl (lv_at hl 0 rfl) ?_
      exact w_X6_keyAt_L23 M hfl _ _ hf _ _ _ _ _ hC (lv_sub hl [] rfl)
    · replace hf := oneg c8 hf
      exact w_X6_keyAt_L18 M hfl _ hf _ _ _ _ _ hC (lv_sub hl [] rfl)
set_option maxRecDepth 100000 in
theorem c_X6_keyAt {l : Launch} (hfl : l.stackTraces = false) (D : va_G) (cA : Nat → ClassId) {o : Nat} {p0 : Int32} {h : fSt} {r : (Option Nat × fSt)} (hf : f_X6_keyAt o p0 h = some r) : fMet l yX6_keyAt (wsC yX6_keyAt cX6_keyAt 3 (some (.object "TapestryScene$Key"))) (1) (23) D cA [.ref o, .int p0] h r.2 (some (va_rf r.1)) := by
  exact fMet.of (own := RX6) (by decide +kernel) rfl (lva1 rfl (lva1 rfl lva0)) (lgl1 rfl (lgl1 rfl lgl0)) (Nat.le_of_ble_eq_true rfl) (fun p e s m args below meth c ls hnm _ M hC hl => by
    have hl : lv_has ls 3 [(0, va_rf (some o)), (1, .int p0)] := hl
    exact w_X6_keyAt_L0 M hfl _ _ _ hf _ _ _ _ _ hC (lv_sub hl [0, 1] rfl))
set_option maxHeartbeats 4000000 in
set_option maxRecDepth 100000 in
theorem w_X3_init_L0 {p : Program} {l : Launch} {e : Env} {s : State} {m : MethodId} {args : Array Value} {below : List Frame} {meth : Method} {c : Code} {D : va_G} {cA : Nat → ClassId} {h0 : fSt} {r : (Unit × fSt)} (M : fM p s m args meth c D cA h0 { frames := 1, cells := fCB h0 - fZ h0, slots := fLB h0 - fL h0, locals := 20 } cX3_init 3 none RX3) (hfl : l.stackTraces = false) (hnm : meth.name = "<init>") (a0 : Option Nat) (a1 : Int32) (a2 : Int32) (h : fSt) (hf : f_X3_init_L0 a0 a1 a2 h = some r) : ∀ (H : Heap) (locs : List Loc) (cells slots : Nat) (ls : Array Slot), fCur D cA s h0 h H locs → lv_has ls 3 [(0, va_rf a0), (1, .int a1), (2, .int a2)] → W p l e { frames := 1, cells := fCB h0 - fZ h0, slots := fLB h0 - fL h0, locals := 20 } s m args below meth c H locs cells slots (MQ below (fQ D cA h0 r.2 none) args s (fCB h0 - fZ h0) (fLB h0 - fL h0) (fA h0)) (F0 m 0 ls []) := by
  obtain ⟨hx, hb, hml, hr, hlocks, hts, hown, K, hR⟩ := id M
  intro H locs cells slots ls hC hl
  refine fr_aload_n hx hb dX3_init_0 rfl (lv_at hl 0 rfl) ?_
  obtain ⟨b1, q2, hf⟩ := obind hf
  refine fr_objInit hx hb hml hts hown kw910 kw82 kw83 hl.1 (fobj_inv q2).1 dX3_init_1 (by exact Nat.le_of_ble_eq_true rfl) (catL _ _ (by exact Nat.le_of_ble_eq_true rfl) (by exact Nat.le_of_ble_eq_true rfl)) ?_
  refine fr_aload_n hx hb dX3_init_4 rfl (lv_at hl 0 rfl) ?_
  refine lv_iload_n hx hb dX3_init_5 rfl (lv_at hl 1 rfl) ?_
  obtain ⟨h3, g4, hf⟩ := obind hf
  refine fr_putF hx hb hts hown K hC ct_3 g4 (by decide) kw911 rfl rfl hnm rfl rfl rfl dX3_init_6 (fun H locs hC => ?_)
  refine fr_aload_n hx hb dX3_init_9 rfl (lv_at hl 0 rfl) ?_
  refine lv_iload_n hx hb dX3_init_10 rfl (lv_at hl 2 rfl) ?_
  obtain ⟨h5, g6, hf⟩ := obind hf
  refine fr_put hx hb hts hown K hC ct_3 g6 (by decide) kw913 rfl rfl rfl rfl dX3_init_11 (fun H locs hC => ?_)
  obtain rfl := Option.some.inj hf
  exact fr_vret hx hb hr hlocks hC dX3_init_14
set_option maxRecDepth 100000 in
theorem c_X3_init {l : Launch} (hfl : l.stackTraces = false) (D : va_G) (cA : Nat → ClassId) {o : Nat} {p0 : Int32} {p1 : Int32} {h : fSt} {r : (Unit × fSt)} (hf : f_X3_init o p0 p1 h = some r) : fMet l yX3_init (wsC yX3_init cX3_init 3 none) (1) (20) D cA [.ref o, .int p0, .int p1] h r.2 none := by
  exact fMet.of (own := RX3) (by decide +kernel) rfl (lva1 rfl (lva1 rfl (lva1 rfl lva0))) (lgl1 rfl (lgl1 rfl (lgl1 rfl lgl0))) (Nat.le_of_ble_eq_true rfl) (fun p e s m args below meth c ls hnm _ M hC hl => by
    have hl : lv_has ls 3 [(0, va_rf (some o)), (1, .int p0), (2, .int p1)] := hl
    exact w_X3_init_L0 M hfl (show meth.name = "<init>" from hnm) _ _ _ _ hf _ _ _ _ _ hC (lv_sub hl [0, 1, 2] rfl))
set_option maxHeartbeats 4000000 in
set_option maxRecDepth 100000 in
theorem w_X6_putKey_L72 {p : Program} {l : Launch} {e : Env} {s : State} {m : MethodId} {args : Array Value} {below : List Frame} {meth : Method} {c : Code} {D : va_G} {cA : Nat → ClassId} {h0 : fSt} {r : (Unit × fSt)} (M : fM p s m args meth c D cA h0 { frames := 2, cells := fCB h0 - fZ h0, slots := fLB h0 - fL h0, locals := 42 } cX6_putKey 5 none RX6) (hfl : l.stackTraces = false) (a0 : Option Nat) (h : fSt) (hf : f_X6_putKey_L72 a0 h = some r) : ∀ (H : Heap) (locs : List Loc) (cells slots : Nat) (ls : Array Slot), fCur D cA s h0 h H locs → lv_has ls 5 [(0, va_rf a0)] → W p l e { frames := 2, cells := fCB h0 - fZ h0, slots := fLB h0 - fL h0, locals := 42 } s m args below meth c H locs cells slots (MQ below (fQ D cA h0 r.2 none) args s (fCB h0 - fZ h0) (fLB h0 - fL h0) (fA h0)) (F0 m 72 ls []) := by
  obtain ⟨hx, hb, hml, hr, hlocks, hts, hown, K, hR⟩ := id M
  intro H locs cells slots ls hC hl
  refine fr_aload_n hx hb dX6_putKey_72 rfl (lv_at hl 0 rfl) ?_
  refine lv_dup hx hb dX6_putKey_73 (va_rf_cat _) ?_
  obtain ⟨x1, g2, hf⟩ := obind hf
  refine fr_get hx hb hts hown K hC ct_6 (fgI_get g2) (by decide) kw435 rfl dX6_putKey_74 ?_
  refine lv_iconst (v := (1 : Int32)) hx hb dX6_putKey_77 (by decide) ?_
  refine lv_iadd hx hb dX6_putKey_78 ?_
  obtain ⟨h3, g4, hf⟩ := obind hf
  refine fr_put hx hb hts hown K hC ct_6 g4 (by decide) kw435 rfl rfl rfl rfl dX6_putKey_79 (fun H locs hC => ?_)
  obtain rfl := Option.some.inj hf
  exact fr_vret hx hb hr hlocks hC dX6_putKey_82
set_option maxHeartbeats 4000000 in
set_option maxRecDepth 100000 in
theorem w_X6_putKey_L24 {p : Program} {l : Launch} {e : Env} {s : State} {m : MethodId} {args : Array Value} {below : List Frame} {meth : Method} {c : Code} {D : va_G} {cA : Nat → ClassId} {h0 : fSt} {r : (Unit × fSt)} (M : fM p s m args meth c D cA h0 { frames := 2, cells := fCB h0 - fZ h0, slots := fLB h0 - fL h0, locals := 42 } cX6_putKey 5 none RX6) (hfl : l.stackTraces = false) (a0 : Option Nat) (a1 : Int32) (a2 : Int32) (a3 : Option Nat) (h : fSt) (hf : f_X6_putKey_L24 a0 a1 a2 a3 h = some r) : ∀ (H : Heap) (locs : List Loc) (cells slots : Nat) (ls : Array Slot), fCur D cA s h0 h H locs → lv_has ls 5 [(0, va_rf a0), (1, .int a1), (2, .int a2), (3, va_rf a3)] → W p l e { frames := 2, cells := fCB h0 - fZ h0, slots := fLB h0 - fL h0, locals := 42 } s m args below meth c H locs cells slots (MQ below (fQ D cA h0 r.2 none) args s (fCB h0 - fZ h0) (fLB h0 - fL h0) (fA h0)) (F0 m 24 ls []) := by
  obtain ⟨hx, hb, hml, hr, hlocks, hts, hown, K, hR⟩ := id M
  intro H locs cells slots ls hC hl
  obtain ⟨r5, g6, hf⟩ := obind hf
  refine fr_new hx hb hts hown K hC ct_3 hR g6 dv_3 kw905 kw906 kw37 dX6_putKey_24 (fun H _ _ hC => ?_)
  refine lv_dup hx hb dX6_putKey_27 (va_rf_cat _) ?_
  refine lv_iload_n hx hb dX6_putKey_28 rfl (lv_at hl 1 rfl) ?_
  refine lv_iload_n hx hb dX6_putKey_29 rfl (lv_at hl 2 rfl) ?_
  obtain ⟨r7, g8, hf⟩ := obind hf
  refine fr_callI hx hb hml hts hown K hC hR (c_X3_init hfl D cA g8) 2 kw909 kw907 kw908 kw37 rfl (by decide +kernel) ⟨by exact Nat.le_of_ble_eq_true rfl, by exact Nat.le_of_ble_eq_true rfl⟩ rfl hl.1 (cat8 _ (by exact Nat.le_of_ble_eq_true rfl)) dX6_putKey_30 rfl (fun H locs _ _ hC => ?_)
  refine fr_astore (lv' := [(4, va_rf (some r5.1)), (0, va_rf a0), (1, .int a1), (2, .int a2), (3, va_rf a3)]) hx hb dX6_putKey_33 hl (by decide) (congrArg (List.cons _) (flk rfl (flk rfl (flk rfl (flk (adj1 _ _) fln))))) (fun ls hl => ?_)
  refine fr_aload_n hx hb dX6_putKey_35 rfl (lv_at hl 4 rfl) ?_
  refine fr_ifnonnull (tgt := 57) hx hb dX6_putKey_36 (by decide) (fun c9 => ?_) (fun c9 => ?_)
  · replace hf := oneg c9 hf
    refine fr_aload hx hb dX6_putKey_57 (lv_at hl 0 rfl) ?_
    refine fr_aload_n hx hb dX6_putKey_59 rfl (lv_at hl 4 rfl) ?_
    obtain ⟨x10, g11, hf⟩ := obind hf
    refine fr_get hx hb hts hown K hC ct_3 (fgR_get g11) (by decide) kw915 rfl dX6_putKey_60 ?_
    obtain ⟨h12, g13, hf⟩ := obind hf
    refine fr_put hx hb hts hown K hC ct_3 g13 (by decide) kw915 rfl rfl (nR _ _) (fR _ _) dX6_putKey_63 (fun H locs hC => ?_)
    refine fr_aload_n hx hb dX6_putKey_66 rfl (lv_at hl 4 rfl) ?_
    refine fr_aload hx hb dX6_putKey_67 (lv_at hl 0 rfl) ?_
    obtain ⟨h14, g15, hf⟩ := obind hf
    refine fr_put hx hb hts hown K hC ct_3 g15 (by decide) kw915 rfl rfl (nR _ _) (fR _ _) dX6_putKey_69 (fun H locs hC => ?_)
    exact w_X6_putKey_L72 M hfl _ _ hf _ _ _ _ _ hC (lv_sub hl [1] rfl)
  · replace hf := opos c9 hf
    refine fr_aload hx hb dX6_putKey_39 (lv_at hl 0 rfl) ?_
    refine fr_aload_n hx hb dX6_putKey_41 rfl (lv_at hl 1 rfl) ?_
    obtain ⟨x16, g17, hf⟩ := obind hf
    refine fr_get hx hb hts hown K hC ct_6 (fgR_get g17) (by decide) kw434 rfl dX6_putKey_42 ?_
    obtain ⟨h18, g19, hf⟩ := obind hf
    refine fr_put hx hb hts hown K hC ct_3 g19 (by decide) kw915 rfl rfl (nR _ _) (fR _ _) dX6_putKey_45 (fun H locs hC => ?_)
    refine fr_aload_n hx hb dX6_putKey_48 rfl (lv_at hl 1 rfl) ?_
    refine fr_aload hx hb dX6_putKey_49 (lv_at hl 0 rfl) ?_
    obtain ⟨h20, g21, hf⟩ := obind hf
    refine fr_put hx hb hts hown K hC ct_6 g21 (by decide) kw434 rfl rfl (nR _ _) (fR _ _) dX6_putKey_51 (fun H locs hC => ?_)
    refine lv_goto (tgt := 72) hx hb dX6_putKey_54 (by decide) ?_
    exact w_X6_putKey_L72 M hfl _ _ hf _ _ _ _ _ hC (lv_sub hl [1] rfl)
set_option maxHeartbeats 4000000 in
set_option maxRecDepth 100000 in
theorem w_X6_putKey_L0 {p : Program} {l : Launch} {e : Env} {s : State} {m : MethodId} {args : Array Value} {below : List Frame} {meth : Method} {c : Code} {D : va_G} {cA : Nat → ClassId} {h0 : fSt} {r : (Unit × fSt)} (M : fM p s m args meth c D cA h0 { frames := 2, cells := fCB h0 - fZ h0, slots := fLB h0 - fL h0, locals := 42 } cX6_putKey 5 none RX6) (hfl : l.stackTraces = false) (a0 : Option Nat) (a1 : Int32) (a2 : Int32) (h : fSt) (hf : f_X6_putKey_L0 a0 a1 a2 h = some r) : ∀ (H : Heap) (locs : List Loc) (cells slots : Nat) (ls : Array Slot), fCur D cA s h0 h H locs → lv_has ls 5 [(0, va_rf a0), (1, .int a1), (2, .int a2)] → W p l e { frames := 2, cells := fCB h0 - fZ h0, slots := fLB h0 - fL h0, locals := 42 } s m args below meth c H locs cells slots (MQ below (fQ D cA h0 r.2 none) args s (fCB h0 - fZ h0) (fLB h0 - fL h0) (fA h0)) (F0 m 0 ls []) := by
  obtain ⟨hx, hb, hml, hr, hlocks, hts, hown, K, hR⟩ := id M
  intro H locs cells slots ls hC hl
  refine fr_aload_n hx hb dX6_putKey_0 rfl (lv_at hl 0 rfl) ?_
  refine lv_iload_n hx hb dX6_putKey_1 rfl (lv_at hl 1 rfl) ?_
  obtain ⟨b24, q25, hf⟩ := obind hf
  obtain ⟨r22, g23, hf⟩ := obind hf
  refine fr_callV hx hb hml hts hown K hC hR ct_6 (c_X6_lastKeyUpTo hfl D cA g23) 1 q25 kw200 kw196 kw198 kw4 kw25 (by decide +kernel) ⟨by exact Nat.le_of_ble_eq_true rfl, by exact Nat.le_of_ble_eq_true rfl⟩ rfl hl.1 (cat8 _ (by exact Nat.le_of_ble_eq_true rfl)) dX6_putKey_2 rfl (fun H locs _ _ hC => ?_)
  refine fr_astore_n (lv' := [(3, va_rf r22.1), (0, va_rf a0), (1, .int a1), (2, .int a2)]) hx hb dX6_putKey_5 rfl hl (by decide) (congrArg (List.cons _) (flk rfl (flk rfl (flk rfl fln)))) (fun ls hl => ?_)
  refine fr_aload_n hx hb dX6_putKey_6 rfl (lv_at hl 0 rfl) ?_
  refine fr_ifnull (tgt := 24) hx hb dX6_putKey_7 (by decide) (fun c26 => ?_) (fun c26 => ?_)
  · replace hf := opos c26 hf
    exact w_X6_putKey_L24 M hfl _ _ _ _ _ hf _ _ _ _ _ hC (lv_sub hl [1, 2, 3, 0] rfl)
  · replace hf := oneg c26 hf
    refine fr_aload_n hx hb dX6_putKey_10 rfl (lv_at hl 0 rfl) ?_
    obtain ⟨x27, g28, hf⟩ := obind hf
    refine fr_get hx hb hts hown K hC ct_3 (fgI_get g28) (by decide) kw912 rfl dX6_putKey_11 ?_
    refine lv_iload_n hx hb dX6_putKey_14 rfl (lv_at hl 2 rfl) ?_
    refine lv_icmp_ne (tgt := 24) hx hb dX6_putKey_15 (by decide) (fun c29 => ?_) (fun c29 => ?_)
    · replace hf := oneg c29 hf
      exact w_X6_putKey_L24 M hfl _ _ _ _ _ hf _ _ _ _ _ hC (lv_sub hl [1, 2, 3, 0] rfl)
    · replace hf := opos c29 hf
      refine fr_aload_n hx hb dX6_putKey_18 rfl (lv_at hl 0 rfl) ?_
      refine lv_iload_n hx hb dX6_putKey_19 rfl (lv_at hl 3 rfl) ?_
      obtain ⟨h30, g31, hf⟩ := obind hf
      refine fr_put hx hb hts hown K hC ct_3 g31 (by decide) kw914 rfl rfl rfl rfl dX6_putKey_20 (fun H locs hC => ?_)
      obtain rfl := Option.some.inj hf
      exact fr_vret hx hb hr hlocks hC dX6_putKey_23
set_option maxRecDepth 100000 in
theorem c_X6_putKey {l : Launch} (hfl : l.stackTraces = false) (D : va_G) (cA : Nat → ClassId) {o : Nat} {p0 : Int32} {p1 : Int32} {h : fSt} {r : (Unit × fSt)} (hf : f_X6_putKey o p0 p1 h = some r) : fMet l yX6_putKey (wsC yX6_putKey cX6_putKey 5 none) (2) (42) D cA [.ref o, .int p0, .int p1] h r.2 none := by
  exact fMet.of (own := RX6) (by decide +kernel) rfl (lva1 rfl (lva1 rfl (lva1 rfl lva0))) (lgl1 rfl (lgl1 rfl (lgl1 rfl lgl0))) (Nat.le_of_ble_eq_true rfl) (fun p e s m args below meth c ls hnm _ M hC hl => by
    have hl : lv_has ls 5 [(0, va_rf (some o)), (1, .int p0), (2, .int p1)] := hl
    exact w_X6_putKey_L0 M hfl _ _ _ _ hf _ _ _ _ _ hC (lv_sub hl [0, 1, 2] rfl))
set_option maxHeartbeats 4000000 in
set_option maxRecDepth 100000 in
theorem w_X7_foundTrack_L23 {p : Program} {l : Launch} {e : Env} {s : State} {m : MethodId} {args : Array Value} {below : List Frame} {meth : Method} {c : Code} {D : va_G} {cA : Nat → ClassId} {h0 : fSt} {r : ((Option Nat ⊕ Nat) × fSt)} (M : fM p s m args meth c D cA h0 { frames := 6, cells := fCB h0 - fZ h0, slots := fLB h0 - fL h0, locals := 90 } cX7_foundTrack 3 (some (.object "TapestryScene$Property")) RX7) (hfl : l.stackTraces = false) (hno : ∀ x ∈ c.exceptionTable.toList, False) (s0 : Option Nat) (h : fSt) (hf : f_X7_foundTrack_L23 s0 h = some r) : ∀ (H : Heap) (locs : List Loc) (cells slots : Nat) (ls : Array Slot), fCur D cA s h0 h H locs → lv_has ls 3 [] → W p l e { frames := 6, cells := fCB h0 - fZ h0, slots := fLB h0 - fL h0, locals := 90 } s m args below meth c H locs cells slots (vx_MQ below (fQX D cA h0 r.2 (rR r.1)) (fXC D cA h0 r.2 (rR r.1)) args s (fCB h0 - fZ h0) (fLB h0 - fL h0) (fA h0)) (F0 m 23 ls [va_rf s0]) := by
  obtain ⟨hx, hb, hml, hr, hlocks, hts, hown, K, hR⟩ := id M
  intro H locs cells slots ls hC hl
  refine fr_astore_n (lv' := [(2, va_rf s0)]) hx hb dX7_foundTrack_23 rfl hl (by decide) (congrArg (List.cons _) fln) (fun ls hl => ?_)
  refine fr_aload_n hx hb dX7_foundTrack_24 rfl (lv_at hl 0 rfl) ?_
  refine fr_ifnonnull (tgt := 39) hx hb dX7_foundTrack_25 (by decide) (fun c1 => ?_) (fun c1 => ?_)
  · replace hf := oneg c1 hf
    refine fr_aload_n hx hb dX7_foundTrack_39 rfl (lv_at hl 0 rfl) ?_
    obtain rfl := Option.some.inj hf
    exact fr_retQ (fr_aret hx hb hr (Or.inl ⟨_, rfl⟩) hlocks hC dX7_foundTrack_40)
  · replace hf := opos c1 hf
    obtain ⟨h2, g3, hf⟩ := obind hf
    obtain rfl := Option.some.inj hf
    exact fr_throwSW hx hb hml hts hfl hown K hC hR th_RX7_290_294_0 st_RX7_347 hl.1 dX7_foundTrack_28 dX7_foundTrack_31 dX7_foundTrack_32 dX7_foundTrack_35 dX7_foundTrack_38 hno (by exact Nat.le_of_ble_eq_true rfl) (catL _ _ (by exact Nat.le_of_ble_eq_true rfl) (by exact Nat.le_of_ble_eq_true rfl)) hlocks g3
set_option maxHeartbeats 4000000 in
set_option maxRecDepth 100000 in
theorem w_X7_foundTrack_L13 {p : Program} {l : Launch} {e : Env} {s : State} {m : MethodId} {args : Array Value} {below : List Frame} {meth : Method} {c : Code} {D : va_G} {cA : Nat → ClassId} {h0 : fSt} {r : ((Option Nat ⊕ Nat) × fSt)} (M : fM p s m args meth c D cA h0 { frames := 6, cells := fCB h0 - fZ h0, slots := fLB h0 - fL h0, locals := 90 } cX7_foundTrack 3 (some (.object "TapestryScene$Property")) RX7) (hfl : l.stackTraces = false) (hno : ∀ x ∈ c.exceptionTable.toList, False)  (h : fSt) (hf : f_X7_foundTrack_L13  h = some r) : ∀ (H : Heap) (locs : List Loc) (cells slots : Nat) (ls : Array Slot), fCur D cA s h0 h H locs → lv_has ls 3 [] → W p l e { frames := 6, cells := fCB h0 - fZ h0, slots := fLB h0 - fL h0, locals := 90 } s m args below meth c H locs cells slots (vx_MQ below (fQX D cA h0 r.2 (rR r.1)) (fXC D cA h0 r.2 (rR r.1)) args s (fCB h0 - fZ h0) (fLB h0 - fL h0) (fA h0)) (F0 m 13 ls []) := by
  obtain ⟨hx, hb, hml, hr, hlocks, hts, hown, K, hR⟩ := id M
  intro H locs cells slots ls hC hl
  refine fr_null hx hb dX7_foundTrack_13 ?_
  refine lv_goto (tgt := 23) hx hb dX7_foundTrack_14 (by decide) ?_
  exact w_X7_foundTrack_L23 M hfl hno _ _ hf _ _ _ _ _ hC (lv_sub hl [] rfl)
set_option maxHeartbeats 4000000 in
set_option maxRecDepth 100000 in
theorem w_X7_foundTrack_L0 {p : Program} {l : Launch} {e : Env} {s : State} {m : MethodId} {args : Array Value} {below : List Frame} {meth : Method} {c : Code} {D : va_G} {cA : Nat → ClassId} {h0 : fSt} {r : ((Option Nat ⊕ Nat) × fSt)} (M : fM p s m args meth c D cA h0 { frames := 6, cells := fCB h0 - fZ h0, slots := fLB h0 - fL h0, locals := 90 } cX7_foundTrack 3 (some (.object "TapestryScene$Property")) RX7) (hfl : l.stackTraces = false) (hno : ∀ x ∈ c.exceptionTable.toList, False) (a0 : Option Nat) (a1 : Int32) (h : fSt) (hf : f_X7_foundTrack_L0 a0 a1 h = some r) : ∀ (H : Heap) (locs : List Loc) (cells slots : Nat) (ls : Array Slot), fCur D cA s h0 h H locs → lv_has ls 3 [(0, va_rf a0), (1, .int a1)] → W p l e { frames := 6, cells := fCB h0 - fZ h0, slots := fLB h0 - fL h0, locals := 90 } s m args below meth c H locs cells slots (vx_MQ below (fQX D cA h0 r.2 (rR r.1)) (fXC D cA h0 r.2 (rR r.1)) args s (fCB h0 - fZ h0) (fLB h0 - fL h0) (fA h0)) (F0 m 0 ls []) := by
  obtain ⟨hx, hb, hml, hr, hlocks, hts, hown, K, hR⟩ := id M
  intro H locs cells slots ls hC hl
  refine lv_iload_n hx hb dX7_foundTrack_0 rfl (lv_at hl 1 rfl) ?_
  refine lv_if_lt (tgt := 13) hx hb dX7_foundTrack_1 (by decide) (fun c4 => ?_) (fun c4 => ?_)
  · replace hf := opos c4 hf
    exact w_X7_foundTrack_L13 M hfl hno _ hf _ _ _ _ _ hC (lv_sub hl [] rfl)
  · replace hf := oneg c4 hf
    refine lv_iload_n hx hb dX7_foundTrack_4 rfl (lv_at hl 1 rfl) ?_
    refine fr_aload_n hx hb dX7_foundTrack_5 rfl (lv_at hl 0 rfl) ?_
    obtain ⟨x5, g6, hf⟩ := obind hf
    refine fr_get hx hb hts hown K hC ct_7 (fgR_get g6) (by decide) kw618 rfl dX7_foundTrack_6 ?_
    obtain ⟨x7, g8, hf⟩ := obind hf
    refine fr_alen hx hb K hC (t := 3) rfl g8 dX7_foundTrack_9 ?_
    refine lv_icmp_lt (tgt := 17) hx hb dX7_foundTrack_10 (by decide) (fun c9 => ?_) (fun c9 => ?_)
    · replace hf := opos c9 hf
      refine fr_aload_n hx hb dX7_foundTrack_17 rfl (lv_at hl 0 rfl) ?_
      obtain ⟨x10, g11, hf⟩ := obind hf
      refine fr_get hx hb hts hown K hC ct_7 (fgR_get g11) (by decide) kw618 rfl dX7_foundTrack_18 ?_
      refine lv_iload_n hx hb dX7_foundTrack_21 rfl (lv_at hl 1 rfl) ?_
      obtain ⟨x12, g13, hf⟩ := obind hf
      refine fr_aald hx hb K hC (t := 3) rfl g13 dX7_foundTrack_22 ?_
      exact w_X7_foundTrack_L23 M hfl hno _ _ hf _ _ _ _ _ hC (lv_sub hl [] rfl)
    · replace hf := oneg c9 hf
      exact w_X7_foundTrack_L13 M hfl hno _ hf _ _ _ _ _ hC (lv_sub hl [] rfl)
set_option maxRecDepth 100000 in
theorem c_X7_foundTrack {l : Launch} (hfl : l.stackTraces = false) (D : va_G) (cA : Nat → ClassId) {o : Nat} {p0 : Int32} {h : fSt} {r : ((Option Nat ⊕ Nat) × fSt)} (hf : f_X7_foundTrack o p0 h = some r) : fMetX l yX7_foundTrack (wsC yX7_foundTrack cX7_foundTrack 3 (some (.object "TapestryScene$Property"))) (6) (90) D cA [.ref o, .int p0] h r.2 (rR r.1) := by
  exact fMetX.of (own := RX7) (by decide +kernel) rfl (lva1 rfl (lva1 rfl lva0)) (lgl1 rfl (lgl1 rfl lgl0)) (Nat.le_of_ble_eq_true rfl) (fun p e s m args below meth c ls hno M hC hl => by
    have hl : lv_has ls 3 [(0, va_rf (some o)), (1, .int p0)] := hl
    exact w_X7_foundTrack_L0 M hfl hno _ _ _ hf _ _ _ _ _ hC (lv_sub hl [0, 1] rfl))
set_option maxHeartbeats 4000000 in
set_option maxRecDepth 100000 in
theorem w_X7_key_L27 {p : Program} {l : Launch} {e : Env} {s : State} {m : MethodId} {args : Array Value} {below : List Frame} {meth : Method} {c : Code} {D : va_G} {cA : Nat → ClassId} {h0 : fSt} {r : ((Int32 ⊕ Nat) × fSt)} (M : fM p s m args meth c D cA h0 { frames := 7, cells := fCB h0 - fZ h0, slots := fLB h0 - fL h0, locals := 112 } cX7_key 5 (some (.int)) RX7) (hfl : l.stackTraces = false) (hno : ∀ x ∈ c.exceptionTable.toList, False)  (h : fSt) (hf : f_X7_key_L27  h = some r) : ∀ (H : Heap) (locs : List Loc) (cells slots : Nat) (ls : Array Slot), fCur D cA s h0 h H locs → lv_has ls 5 [] → W p l e { frames := 7, cells := fCB h0 - fZ h0, slots := fLB h0 - fL h0, locals := 112 } s m args below meth c H locs cells slots (vx_MQ below (fQX D cA h0 r.2 (rI r.1)) (fXC D cA h0 r.2 (rI r.1)) args s (fCB h0 - fZ h0) (fLB h0 - fL h0) (fA h0)) (F0 m 27 ls []) := by
  obtain ⟨hx, hb, hml, hr, hlocks, hts, hown, K, hR⟩ := id M
  intro H locs cells slots ls hC hl
  obtain ⟨h1, g2, hf⟩ := obind hf
  obtain rfl := Option.some.inj hf
  exact fr_throwS hx hb hml hts hfl hown K hC hR th_RX7_60_64_1 st_RX7_199 hl.1 dX7_key_27 dX7_key_30 dX7_key_31 dX7_key_33 dX7_key_36 hno (by exact Nat.le_of_ble_eq_true rfl) (catL _ _ (by exact Nat.le_of_ble_eq_true rfl) (by exact Nat.le_of_ble_eq_true rfl)) hlocks g2
set_option maxHeartbeats 4000000 in
set_option maxRecDepth 100000 in
theorem w_X7_key_L64 {p : Program} {l : Launch} {e : Env} {s : State} {m : MethodId} {args : Array Value} {below : List Frame} {meth : Method} {c : Code} {D : va_G} {cA : Nat → ClassId} {h0 : fSt} {r : ((Int32 ⊕ Nat) × fSt)} (M : fM p s m args meth c D cA h0 { frames := 7, cells := fCB h0 - fZ h0, slots := fLB h0 - fL h0, locals := 112 } cX7_key 5 (some (.int)) RX7) (hfl : l.stackTraces = false) (hno : ∀ x ∈ c.exceptionTable.toList, False)  (h : fSt) (hf : f_X7_key_L64  h = some r) : ∀ (H : Heap) (locs : List Loc) (cells slots : Nat) (ls : Array Slot), fCur D cA s h0 h H locs → lv_has ls 5 [] → W p l e { frames := 7, cells := fCB h0 - fZ h0, slots := fLB h0 - fL h0, locals := 112 } s m args below meth c H locs cells slots (vx_MQ below (fQX D cA h0 r.2 (rI r.1)) (fXC D cA h0 r.2 (rI r.1)) args s (fCB h0 - fZ h0) (fLB h0 - fL h0) (fA h0)) (F0 m 64 ls []) := by
  obtain ⟨hx, hb, hml, hr, hlocks, hts, hown, K, hR⟩ := id M
  intro H locs cells slots ls hC hl
  obtain ⟨h3, g4, hf⟩ := obind hf
  obtain rfl := Option.some.inj hf
  exact fr_throwS hx hb hml hts hfl hown K hC hR th_RX7_73_77_2 st_RX7_211 hl.1 dX7_key_64 dX7_key_67 dX7_key_68 dX7_key_70 dX7_key_73 hno (by exact Nat.le_of_ble_eq_true rfl) (catL _ _ (by exact Nat.le_of_ble_eq_true rfl) (by exact Nat.le_of_ble_eq_true rfl)) hlocks g4
set_option maxHeartbeats 4000000 in
set_option maxRecDepth 100000 in
theorem w_X7_key_L74 {p : Program} {l : Launch} {e : Env} {s : State} {m : MethodId} {args : Array Value} {below : List Frame} {meth : Method} {c : Code} {D : va_G} {cA : Nat → ClassId} {h0 : fSt} {r : ((Int32 ⊕ Nat) × fSt)} (M : fM p s m args meth c D cA h0 { frames := 7, cells := fCB h0 - fZ h0, slots := fLB h0 - fL h0, locals := 112 } cX7_key 5 (some (.int)) RX7) (hfl : l.stackTraces = false) (hno : ∀ x ∈ c.exceptionTable.toList, False) (a2 : Int32) (a3 : Int32) (a4 : Option Nat) (h : fSt) (hf : f_X7_key_L74 a2 a3 a4 h = some r) : ∀ (H : Heap) (locs : List Loc) (cells slots : Nat) (ls : Array Slot), fCur D cA s h0 h H locs → lv_has ls 5 [(2, .int a2), (3, .int a3), (4, va_rf a4)] → W p l e { frames := 7, cells := fCB h0 - fZ h0, slots := fLB h0 - fL h0, locals := 112 } s m args below meth c H locs cells slots (vx_MQ below (fQX D cA h0 r.2 (rI r.1)) (fXC D cA h0 r.2 (rI r.1)) args s (fCB h0 - fZ h0) (fLB h0 - fL h0) (fA h0)) (F0 m 74 ls []) := by
  obtain ⟨hx, hb, hml, hr, hlocks, hts, hown, K, hR⟩ := id M
  intro H locs cells slots ls hC hl
  refine fr_aload hx hb dX7_key_74 (lv_at hl 2 rfl) ?_
  refine lv_iload_n hx hb dX7_key_76 rfl (lv_at hl 0 rfl) ?_
  refine lv_iload_n hx hb dX7_key_77 rfl (lv_at hl 1 rfl) ?_
  obtain ⟨b7, q8, hf⟩ := obind hf
  obtain ⟨r5, g6, hf⟩ := obind hf
  refine fr_callV hx hb hml hts hown K hC hR ct_6 (c_X6_putKey hfl D cA g6) 2 q8 kw904 kw901 kw902 kw903 kw25 (by decide +kernel) ⟨by exact Nat.le_of_ble_eq_true rfl, by exact Nat.le_of_ble_eq_true rfl⟩ rfl hl.1 (cat8 _ (by exact Nat.le_of_ble_eq_true rfl)) dX7_key_78 rfl (fun H locs _ _ hC => ?_)
  refine fr_aload hx hb dX7_key_81 (lv_at hl 2 rfl) ?_
  obtain ⟨x9, g10, hf⟩ := obind hf
  refine fr_get hx hb hts hown K hC ct_6 (fgI_get g10) (by decide) kw436 rfl dX7_key_83 ?_
  obtain rfl := Option.some.inj hf
  exact fr_retQ (fr_iret hx hb hr hlocks hC dX7_key_86)
set_option maxHeartbeats 4000000 in
set_option maxRecDepth 100000 in
theorem w_X7_key_L0 {p : Program} {l : Launch} {e : Env} {s : State} {m : MethodId} {args : Array Value} {below : List Frame} {meth : Method} {c : Code} {D : va_G} {cA : Nat → ClassId} {h0 : fSt} {r : ((Int32 ⊕ Nat) × fSt)} (M : fM p s m args meth c D cA h0 { frames := 7, cells := fCB h0 - fZ h0, slots := fLB h0 - fL h0, locals := 112 } cX7_key 5 (some (.int)) RX7) (hfl : l.stackTraces = false) (hno : ∀ x ∈ c.exceptionTable.toList, False) (a0 : Option Nat) (a1 : Int32) (a2 : Int32) (a3 : Int32) (h : fSt) (hf : f_X7_key_L0 a0 a1 a2 a3 h = some r) : ∀ (H : Heap) (locs : List Loc) (cells slots : Nat) (ls : Array Slot), fCur D cA s h0 h H locs → lv_has ls 5 [(0, va_rf a0), (1, .int a1), (2, .int a2), (3, .int a3)] → W p l e { frames := 7, cells := fCB h0 - fZ h0, slots := fLB h0 - fL h0, locals := 112 } s m args below meth c H locs cells slots (vx_MQ below (fQX D cA h0 r.2 (rI r.1)) (fXC D cA h0 r.2 (rI r.1)) args s (fCB h0 - fZ h0) (fLB h0 - fL h0) (fA h0)) (F0 m 0 ls []) := by
  obtain ⟨hx, hb, hml, hr, hlocks, hts, hown, K, hR⟩ := id M
  intro H locs cells slots ls hC hl
  refine fr_aload_n hx hb dX7_key_0 rfl (lv_at hl 0 rfl) ?_
  refine lv_iload_n hx hb dX7_key_1 rfl (lv_at hl 1 rfl) ?_
  obtain ⟨b13, q14, hf⟩ := obind hf
  obtain ⟨⟨v15 | k16, h17⟩, g12, hf⟩ := obind hf
  · refine fr_callVX hx hb hml hts hown K hC hR ct_7 (c_X7_foundTrack hfl D cA g12) 1 q14 kw893 kw890 kw892 kw20 kw23 (by decide +kernel) ⟨by exact Nat.le_of_ble_eq_true rfl, by exact Nat.le_of_ble_eq_true rfl⟩ rfl hl.1 (cat8 _ (by exact Nat.le_of_ble_eq_true rfl)) dX7_key_2 rfl (fun H locs _ _ hC => ?_)
    refine fr_astore (lv' := [(4, va_rf v15), (0, va_rf a0), (1, .int a1), (2, .int a2), (3, .int a3)]) hx hb dX7_key_5 hl (by decide) (congrArg (List.cons _) (flk rfl (flk rfl (flk rfl (flk rfl fln))))) (fun ls hl => ?_)
    refine lv_iload_n hx hb dX7_key_7 rfl (lv_at hl 3 rfl) ?_
    refine lv_iconst (v := (0 : Int32)) hx hb dX7_key_8 (by decide) ?_
    refine lv_sipush (v := (999 : Int32)) hx hb dX7_key_9 (by decide) ?_
    obtain ⟨r18, g19, hf⟩ := obind hf
    refine fr_callS hx hb hml hts hown K hC hR (c_X7_isFrom hfl D cA g19) 3 kw154 kw152 kw153 kw23 (by decide +kernel) ⟨by exact Nat.le_of_ble_eq_true rfl, by exact Nat.le_of_ble_eq_true rfl⟩ rfl hl.1 (cat8 _ (by exact Nat.le_of_ble_eq_true rfl)) dX7_key_12 rfl (fun H locs _ _ hC => ?_)
    refine lv_if_eq (tgt := 27) hx hb dX7_key_15 (by decide) (fun c20 => ?_) (fun c20 => ?_)
    · replace hf := opos c20 hf
      exact w_X7_key_L27 M hfl hno _ hf _ _ _ _ _ hC (lv_sub hl [] rfl)
    · replace hf := oneg c20 hf
      refine fr_aload hx hb dX7_key_18 (lv_at hl 0 rfl) ?_
      refine lv_iload_n hx hb dX7_key_20 rfl (lv_at hl 4 rfl) ?_
      obtain ⟨b23, q24, hf⟩ := obind hf
      obtain ⟨r21, g22, hf⟩ := obind hf
      refine fr_callV hx hb hml hts hown K hC hR ct_6 (c_X6_allows hfl D cA g22) 1 q24 kw794 kw791 kw792 kw793 kw25 (by decide +kernel) ⟨by exact Nat.le_of_ble_eq_true rfl, by exact Nat.le_of_ble_eq_true rfl⟩ rfl hl.1 (cat8 _ (by exact Nat.le_of_ble_eq_true rfl)) dX7_key_21 rfl (fun H locs _ _ hC => ?_)
      refine lv_if_ne (tgt := 37) hx hb dX7_key_24 (by decide) (fun c25 => ?_) (fun c25 => ?_)
      · replace hf := oneg c25 hf
        refine fr_aload hx hb dX7_key_37 (lv_at hl 0 rfl) ?_
        obtain ⟨x26, g27, hf⟩ := obind hf
        refine fr_get hx hb hts hown K hC ct_6 (fgI_get g27) (by decide) kw429 rfl dX7_key_39 ?_
        refine lv_if_ne (tgt := 64) hx hb dX7_key_42 (by decide) (fun c28 => ?_) (fun c28 => ?_)
        · replace hf := oneg c28 hf
          exact w_X7_key_L64 M hfl hno _ hf _ _ _ _ _ hC (lv_sub hl [] rfl)
        · replace hf := opos c28 hf
          refine fr_aload hx hb dX7_key_45 (lv_at hl 0 rfl) ?_
          obtain ⟨x29, g30, hf⟩ := obind hf
          refine fr_get hx hb hts hown K hC ct_6 (fgI_get g30) (by decide) kw436 rfl dX7_key_47 ?_
          refine lv_bipush (v := (8 : Int32)) hx hb dX7_key_50 (by decide) ?_
          refine lv_icmp_lt (tgt := 74) hx hb dX7_key_52 (by decide) (fun c31 => ?_) (fun c31 => ?_)
          · replace hf := opos c31 hf
            exact w_X7_key_L74 M hfl hno _ _ _ _ hf _ _ _ _ _ hC (lv_sub hl [3, 4, 0] rfl)
          · replace hf := oneg c31 hf
            refine fr_aload hx hb dX7_key_55 (lv_at hl 0 rfl) ?_
            refine lv_iload_n hx hb dX7_key_57 rfl (lv_at hl 3 rfl) ?_
            obtain ⟨b34, q35, hf⟩ := obind hf
            obtain ⟨r32, g33, hf⟩ := obind hf
            refine fr_callV hx hb hml hts hown K hC hR ct_6 (c_X6_keyAt hfl D cA g33) 1 q35 kw899 kw896 kw897 kw898 kw25 (by decide +kernel) ⟨by exact Nat.le_of_ble_eq_true rfl, by exact Nat.le_of_ble_eq_true rfl⟩ rfl hl.1 (cat8 _ (by exact Nat.le_of_ble_eq_true rfl)) dX7_key_58 rfl (fun H locs _ _ hC => ?_)
            refine fr_ifnonnull (tgt := 74) hx hb dX7_key_61 (by decide) (fun c36 => ?_) (fun c36 => ?_)
            · replace hf := oneg c36 hf
              exact w_X7_key_L74 M hfl hno _ _ _ _ hf _ _ _ _ _ hC (lv_sub hl [3, 4, 0] rfl)
            · replace hf := opos c36 hf
              exact w_X7_key_L64 M hfl hno _ hf _ _ _ _ _ hC (lv_sub hl [] rfl)
      · replace hf := opos c25 hf
        exact w_X7_key_L27 M hfl hno _ hf _ _ _ _ _ hC (lv_sub hl [] rfl)
  · obtain rfl := Option.some.inj hf
    refine fr_callVT hx hb hml hts hown K hC hR ct_7 (c_X7_foundTrack hfl D cA g12) 1 q14 kw893 kw890 kw892 kw20 kw23 (by decide +kernel) ⟨by exact Nat.le_of_ble_eq_true rfl, by exact Nat.le_of_ble_eq_true rfl⟩ rfl hl.1 (cat8 _ (by exact Nat.le_of_ble_eq_true rfl)) dX7_key_2 rfl (fun H locs _ _ q ce hC e1 e2 e3 => ?_)
    exact fr_out (fun x hx9 => (hno x hx9).elim) hlocks hC e1 e2 e3
set_option maxRecDepth 100000 in
theorem c_X7_key {l : Launch} (hfl : l.stackTraces = false) (D : va_G) (cA : Nat → ClassId) {o : Nat} {p0 : Int32} {p1 : Int32} {p2 : Int32} {h : fSt} {r : ((Int32 ⊕ Nat) × fSt)} (hf : f_X7_key o p0 p1 p2 h = some r) : fMetX l yX7_key (wsC yX7_key cX7_key 5 (some (.int))) (7) (112) D cA [.ref o, .int p0, .int p1, .int p2] h r.2 (rI r.1) := by
  exact fMetX.of (own := RX7) (by decide +kernel) rfl (lva1 rfl (lva1 rfl (lva1 rfl (lva1 rfl lva0)))) (lgl1 rfl (lgl1 rfl (lgl1 rfl (lgl1 rfl lgl0)))) (Nat.le_of_ble_eq_true rfl) (fun p e s m args below meth c ls hno M hC hl => by
    have hl : lv_has ls 5 [(0, va_rf (some o)), (1, .int p0), (2, .int p1), (3, .int p2)] := hl
    exact w_X7_key_L0 M hfl hno _ _ _ _ _ hf _ _ _ _ _ hC (lv_sub hl [0, 1, 2, 3] rfl))
set_option maxHeartbeats 4000000 in
set_option maxRecDepth 100000 in
theorem w_X8_key_L85 {p : Program} {l : Launch} {e : Env} {s : State} {m : MethodId} {args : Array Value} {below : List Frame} {meth : Method} {c : Code} {D : va_G} {cA : Nat → ClassId} {h0 : fSt} {r : (Int32 × fSt)} (M : fM p s m args meth c D cA h0 { frames := 8, cells := fCB h0 - fZ h0, slots := fLB h0 - fL h0, locals := 136 } cX8_key 6 (some (.boolean)) RX8) (hfl : l.stackTraces = false)  (h : fSt) (hf : f_X8_key_L85  h = some r) : ∀ (H : Heap) (locs : List Loc) (cells slots : Nat) (ls : Array Slot), fCur D cA s h0 h H locs → lv_has ls 6 [] → W p l e { frames := 8, cells := fCB h0 - fZ h0, slots := fLB h0 - fL h0, locals := 136 } s m args below meth c H locs cells slots (MQ below (fQ D cA h0 r.2 (some (.int r.1))) args s (fCB h0 - fZ h0) (fLB h0 - fL h0) (fA h0)) (F0 m 85 ls []) := by
  obtain ⟨hx, hb, hml, hr, hlocks, hts, hown, K, hR⟩ := id M
  intro H locs cells slots ls hC hl
  refine lv_iconst (v := (1 : Int32)) hx hb dX8_key_85 (by decide) ?_
  obtain rfl := Option.some.inj hf
  exact fr_zret hx hb hr hlocks hC (Or.inr rfl) dX8_key_86
set_option maxHeartbeats 4000000 in
set_option maxRecDepth 100000 in
theorem w_X8_key_L265 {p : Program} {l : Launch} {e : Env} {s : State} {m : MethodId} {args : Array Value} {below : List Frame} {meth : Method} {c : Code} {D : va_G} {cA : Nat → ClassId} {h0 : fSt} {r : (Int32 × fSt)} (M : fM p s m args meth c D cA h0 { frames := 8, cells := fCB h0 - fZ h0, slots := fLB h0 - fL h0, locals := 136 } cX8_key 6 (some (.boolean)) RX8) (hfl : l.stackTraces = false) (s0 : Int32) (h : fSt) (hf : f_X8_key_L265 s0 h = some r) : ∀ (H : Heap) (locs : List Loc) (cells slots : Nat) (ls : Array Slot), fCur D cA s h0 h H locs → lv_has ls 6 [] → W p l e { frames := 8, cells := fCB h0 - fZ h0, slots := fLB h0 - fL h0, locals := 136 } s m args below meth c H locs cells slots (MQ below (fQ D cA h0 r.2 (some (.int r.1))) args s (fCB h0 - fZ h0) (fLB h0 - fL h0) (fA h0)) (F0 m 265 ls [.int s0]) := by
  obtain ⟨hx, hb, hml, hr, hlocks, hts, hown, K, hR⟩ := id M
  intro H locs cells slots ls hC hl
  by_cases c1 : s0 = 0 ∨ s0 = 1
  rotate_left
  · exact nomatch (oneg c1 hf)
  obtain rfl := Option.some.inj (opos c1 hf)
  exact fr_zret hx hb hr hlocks hC c1 dX8_key_265
set_option maxHeartbeats 4000000 in
set_option maxRecDepth 100000 in
theorem w_X8_key_L238 {p : Program} {l : Launch} {e : Env} {s : State} {m : MethodId} {args : Array Value} {below : List Frame} {meth : Method} {c : Code} {D : va_G} {cA : Nat → ClassId} {h0 : fSt} {r : (Int32 × fSt)} (M : fM p s m args meth c D cA h0 { frames := 8, cells := fCB h0 - fZ h0, slots := fLB h0 - fL h0, locals := 136 } cX8_key 6 (some (.boolean)) RX8) (hfl : l.stackTraces = false) (a0 : Option Nat) (a1 : Int32) (a2 : Int32) (a3 : Int32) (h : fSt) (hf : f_X8_key_L238 a0 a1 a2 a3 h = some r) : ∀ (H : Heap) (locs : List Loc) (cells slots : Nat) (ls : Array Slot), fCur D cA s h0 h H locs → lv_has ls 6 [(0, va_rf a0), (1, .int a1), (2, .int a2), (3, .int a3)] → W p l e { frames := 8, cells := fCB h0 - fZ h0, slots := fLB h0 - fL h0, locals := 136 } s m args below meth c H locs cells slots (MQ below (fQ D cA h0 r.2 (some (.int r.1))) args s (fCB h0 - fZ h0) (fLB h0 - fL h0) (fA h0)) (F0 m 238 ls []) := by
  obtain ⟨hx, hb, hml, hr, hlocks, hts, hown, K, hR⟩ := id M
  intro H locs cells slots ls hC hl
  refine fr_aload_n hx hb dX8_key_238 rfl (lv_at hl 0 rfl) ?_
  obtain ⟨x2, g3, hf⟩ := obind hf
  refine fr_get hx hb hts hown K hC ct_8 (fgR_get g3) (by decide) kw655 rfl dX8_key_239 ?_
  refine lv_iload_n hx hb dX8_key_242 rfl (lv_at hl 1 rfl) ?_
  refine lv_iload_n hx hb dX8_key_243 rfl (lv_at hl 2 rfl) ?_
  refine lv_iload_n hx hb dX8_key_244 rfl (lv_at hl 3 rfl) ?_
  obtain ⟨b6, q7, hf⟩ := obind hf
  obtain ⟨⟨v8 | k9, h10⟩, g5, hf⟩ := obind hf
  rotate_left
  · exact nomatch (show (none : Option (Int32 × fSt)) = some _ from hf)
  replace hf := fci hf
  refine fr_callVX hx hb hml hts hown K hC hR ct_7 (c_X7_key hfl D cA g5) 3 q7 kw889 kw886 kw887 kw888 kw23 (by decide +kernel) ⟨by exact Nat.le_of_ble_eq_true rfl, by exact Nat.le_of_ble_eq_true rfl⟩ rfl hl.1 (cat8 _ (by exact Nat.le_of_ble_eq_true rfl)) dX8_key_245 rfl (fun H locs _ _ hC => ?_)
  refine fr_aload_n hx hb dX8_key_248 rfl (lv_at hl 0 rfl) ?_
  obtain ⟨x11, g12, hf⟩ := obind hf
  refine fr_get hx hb hts hown K hC ct_8 (fgR_get g12) (by decide) kw670 rfl dX8_key_249 ?_
  refine lv_iload_n hx hb dX8_key_252 rfl (lv_at hl 1 rfl) ?_
  obtain ⟨x13, g14, hf⟩ := obind hf
  refine fr_aaldA hx hb K hC (t := 4) rfl g14 dX8_key_253 ?_
  obtain ⟨x15, g16, hf⟩ := obind hf
  refine fr_alen hx hb K hC (t := 0) rfl g16 dX8_key_254 ?_
  refine lv_iconst (v := (2 : Int32)) hx hb dX8_key_255 (by decide) ?_
  refine lv_idiv hx hb dX8_key_256 (by decide) ?_
  refine lv_icmp_ne (tgt := 264) hx hb dX8_key_257 (by decide) (fun c17 => ?_) (fun c17 => ?_)
  · replace hf := oneg c17 hf
    refine lv_iconst (v := (0 : Int32)) hx hb dX8_key_264 (by decide) ?_
    exact w_X8_key_L265 M hfl _ _ hf _ _ _ _ _ hC (lv_sub hl [] rfl)
  · replace hf := opos c17 hf
    refine lv_iconst (v := (1 : Int32)) hx hb dX8_key_260 (by decide) ?_
    refine lv_goto (tgt := 265) hx hb dX8_key_261 (by decide) ?_
    exact w_X8_key_L265 M hfl _ _ hf _ _ _ _ _ hC (lv_sub hl [] rfl)
set_option maxHeartbeats 4000000 in
set_option maxRecDepth 100000 in
theorem w_X8_key_L161 {p : Program} {l : Launch} {e : Env} {s : State} {m : MethodId} {args : Array Value} {below : List Frame} {meth : Method} {c : Code} {D : va_G} {cA : Nat → ClassId} {h0 : fSt} {r : (Int32 × fSt)} (M : fM p s m args meth c D cA h0 { frames := 8, cells := fCB h0 - fZ h0, slots := fLB h0 - fL h0, locals := 136 } cX8_key 6 (some (.boolean)) RX8) (hfl : l.stackTraces = false) (a0 : Option Nat) (a1 : Int32) (a2 : Int32) (a3 : Int32) (a4 : Int32) (h : fSt) (hf : f_X8_key_L161 a0 a1 a2 a3 a4 h = some r) : ∀ (H : Heap) (locs : List Loc) (cells slots : Nat) (ls : Array Slot), fCur D cA s h0 h H locs → lv_has ls 6 [(0, va_rf a0), (1, .int a1), (2, .int a2), (3, .int a3), (4, .int a4)] → W p l e { frames := 8, cells := fCB h0 - fZ h0, slots := fLB h0 - fL h0, locals := 136 } s m args below meth c H locs cells slots (MQ below (fQ D cA h0 r.2 (some (.int r.1))) args s (fCB h0 - fZ h0) (fLB h0 - fL h0) (fA h0)) (F0 m 161 ls []) := by
  obtain ⟨hx, hb, hml, hr, hlocks, hts, hown, K, hR⟩ := id M
  intro H locs cells slots ls hC hl
  refine fr_aload_n hx hb dX8_key_161 rfl (lv_at hl 0 rfl) ?_
  obtain ⟨x18, g19, hf⟩ := obind hf
  refine fr_get hx hb hts hown K hC ct_8 (fgR_get g19) (by decide) kw670 rfl dX8_key_162 ?_
  refine lv_iload_n hx hb dX8_key_165 rfl (lv_at hl 1 rfl) ?_
  obtain ⟨x20, g21, hf⟩ := obind hf
  refine fr_aaldA hx hb K hC (t := 4) rfl g21 dX8_key_166 ?_
  obtain ⟨x22, g23, hf⟩ := obind hf
  refine fr_alen hx hb K hC (t := 0) rfl g23 dX8_key_167 ?_
  refine lv_iconst (v := (2 : Int32)) hx hb dX8_key_168 (by decide) ?_
  refine lv_iadd hx hb dX8_key_169 ?_
  by_cases c24 : (x22 + (2 : Int32)) < 0 ∨ 67000000 < ((x22 + (2 : Int32))).toNatClampNeg
  · exact nomatch (opos c24 hf)
  obtain ⟨r25, g26, hf⟩ := obind (oneg c24 hf)
  refine fr_newa hx hb hts K hC hR (atype := .int) (t := 0) rfl kw702 (fun _ => rfl) rfl (fun z => c24 (Or.inl z)) g26 (newa_b (fun z => c24 (Or.inr z)) (Nat.le_of_ble_eq_true rfl)) dX8_key_170 (fun H _ _ hC => ?_)
  refine fr_astore (lv' := [(5, va_rf (some r25.1)), (0, va_rf a0), (1, .int a1), (2, .int a2), (3, .int a3), (4, .int a4)]) hx hb dX8_key_172 hl (by decide) (congrArg (List.cons _) (flk rfl (flk rfl (flk rfl (flk rfl (flk rfl fln)))))) (fun ls hl => ?_)
  refine fr_aload_n hx hb dX8_key_174 rfl (lv_at hl 1 rfl) ?_
  obtain ⟨x27, g28, hf⟩ := obind hf
  refine fr_get hx hb hts hown K hC ct_8 (fgR_get g28) (by decide) kw670 rfl dX8_key_175 ?_
  refine lv_iload_n hx hb dX8_key_178 rfl (lv_at hl 2 rfl) ?_
  obtain ⟨x29, g30, hf⟩ := obind hf
  refine fr_aaldA hx hb K hC (t := 4) rfl g30 dX8_key_179 ?_
  refine lv_iconst (v := (0 : Int32)) hx hb dX8_key_180 (by decide) ?_
  refine fr_aload hx hb dX8_key_181 (lv_at hl 0 rfl) ?_
  refine lv_iconst (v := (0 : Int32)) hx hb dX8_key_183 (by decide) ?_
  refine lv_iload hx hb dX8_key_184 (lv_at hl 5 rfl) ?_
  obtain ⟨h31, g32, hf⟩ := obind hf
  refine fr_copyi hx hb hml hts hown K hC kw883 kw885 kw884 kw36 (t := 0) rfl g32 hl.1 (by exact Nat.le_of_ble_eq_true rfl) (catL _ _ (by exact Nat.le_of_ble_eq_true rfl) (by exact Nat.le_of_ble_eq_true rfl)) dX8_key_186 (fun H locs hC => ?_)
  refine fr_aload hx hb dX8_key_189 (lv_at hl 0 rfl) ?_
  refine lv_iload hx hb dX8_key_191 (lv_at hl 5 rfl) ?_
  refine lv_iload_n hx hb dX8_key_193 rfl (lv_at hl 3 rfl) ?_
  obtain ⟨h33, g34, hf⟩ := obind hf
  refine fr_iast hx hb K hC (t := 0) rfl g34 dX8_key_194 (fun H locs hC => ?_)
  refine fr_aload hx hb dX8_key_195 (lv_at hl 0 rfl) ?_
  refine lv_iload hx hb dX8_key_197 (lv_at hl 5 rfl) ?_
  refine lv_iconst (v := (1 : Int32)) hx hb dX8_key_199 (by decide) ?_
  refine lv_iadd hx hb dX8_key_200 ?_
  refine lv_iload_n hx hb dX8_key_201 rfl (lv_at hl 4 rfl) ?_
  obtain ⟨h35, g36, hf⟩ := obind hf
  refine fr_iast hx hb K hC (t := 0) rfl g36 dX8_key_202 (fun H locs hC => ?_)
  refine fr_aload_n hx hb dX8_key_203 rfl (lv_at hl 1 rfl) ?_
  obtain ⟨x37, g38, hf⟩ := obind hf
  refine fr_get hx hb hts hown K hC ct_8 (fgR_get g38) (by decide) kw670 rfl dX8_key_204 ?_
  refine lv_iload_n hx hb dX8_key_207 rfl (lv_at hl 2 rfl) ?_
  obtain ⟨x39, g40, hf⟩ := obind hf
  refine fr_aaldA hx hb K hC (t := 4) rfl g40 dX8_key_208 ?_
  refine lv_iload hx hb dX8_key_209 (lv_at hl 5 rfl) ?_
  refine fr_aload hx hb dX8_key_211 (lv_at hl 0 rfl) ?_
  refine lv_iload hx hb dX8_key_213 (lv_at hl 5 rfl) ?_
  refine lv_iconst (v := (2 : Int32)) hx hb dX8_key_215 (by decide) ?_
  refine lv_iadd hx hb dX8_key_216 ?_
  refine fr_aload_n hx hb dX8_key_217 rfl (lv_at hl 1 rfl) ?_
  obtain ⟨x41, g42, hf⟩ := obind hf
  refine fr_get hx hb hts hown K hC ct_8 (fgR_get g42) (by decide) kw670 rfl dX8_key_218 ?_
  refine lv_iload_n hx hb dX8_key_221 rfl (lv_at hl 2 rfl) ?_
  obtain ⟨x43, g44, hf⟩ := obind hf
  refine fr_aaldA hx hb K hC (t := 4) rfl g44 dX8_key_222 ?_
  obtain ⟨x45, g46, hf⟩ := obind hf
  refine fr_alen hx hb K hC (t := 0) rfl g46 dX8_key_223 ?_
  refine lv_iload hx hb dX8_key_224 (lv_at hl 5 rfl) ?_
  refine lv_isub hx hb dX8_key_226 ?_
  obtain ⟨h47, g48, hf⟩ := obind hf
  refine fr_copyi hx hb hml hts hown K hC kw883 kw885 kw884 kw36 (t := 0) rfl g48 hl.1 (by exact Nat.le_of_ble_eq_true rfl) (catL _ _ (by exact Nat.le_of_ble_eq_true rfl) (by exact Nat.le_of_ble_eq_true rfl)) dX8_key_227 (fun H locs hC => ?_)
  refine fr_aload_n hx hb dX8_key_230 rfl (lv_at hl 1 rfl) ?_
  obtain ⟨x49, g50, hf⟩ := obind hf
  refine fr_get hx hb hts hown K hC ct_8 (fgR_get g50) (by decide) kw670 rfl dX8_key_231 ?_
  refine lv_iload_n hx hb dX8_key_234 rfl (lv_at hl 2 rfl) ?_
  refine fr_aload hx hb dX8_key_235 (lv_at hl 0 rfl) ?_
  obtain ⟨h51, g52, hf⟩ := obind hf
  refine fr_aastA hx hb K hC rfl rfl g52 dX8_key_237 (fun H locs hC => ?_)
  exact w_X8_key_L238 M hfl _ _ _ _ _ hf _ _ _ _ _ hC (lv_sub hl [1, 2, 3, 4] rfl)
set_option maxHeartbeats 4000000 in
set_option maxRecDepth 100000 in
theorem w_X8_key_L121 {p : Program} {l : Launch} {e : Env} {s : State} {m : MethodId} {args : Array Value} {below : List Frame} {meth : Method} {c : Code} {D : va_G} {cA : Nat → ClassId} {h0 : fSt} {r : (Int32 × fSt)} (M : fM p s m args meth c D cA h0 { frames := 8, cells := fCB h0 - fZ h0, slots := fLB h0 - fL h0, locals := 136 } cX8_key 6 (some (.boolean)) RX8) (hfl : l.stackTraces = false) (a0 : Option Nat) (a1 : Int32) (a2 : Int32) (a3 : Int32) (a4 : Int32) (h : fSt) (hf : f_X8_key_L121 a0 a1 a2 a3 a4 h = some r) : ∀ (H : Heap) (locs : List Loc) (cells slots : Nat) (ls : Array Slot), fCur D cA s h0 h H locs → lv_has ls 6 [(0, va_rf a0), (1, .int a1), (2, .int a2), (3, .int a3), (4, .int a4)] → W p l e { frames := 8, cells := fCB h0 - fZ h0, slots := fLB h0 - fL h0, locals := 136 } s m args below meth c H locs cells slots (MQ below (fQ D cA h0 r.2 (some (.int r.1))) args s (fCB h0 - fZ h0) (fLB h0 - fL h0) (fA h0)) (F0 m 121 ls []) := by
  obtain ⟨hx, hb, hml, hr, hlocks, hts, hown, K, hR⟩ := id M
  intro H locs cells slots ls hC hl
  refine lv_iload hx hb dX8_key_121 (lv_at hl 4 rfl) ?_
  refine fr_aload_n hx hb dX8_key_123 rfl (lv_at hl 0 rfl) ?_
  obtain ⟨x53, g54, hf⟩ := obind hf
  refine fr_get hx hb hts hown K hC ct_8 (fgR_get g54) (by decide) kw670 rfl dX8_key_124 ?_
  refine lv_iload_n hx hb dX8_key_127 rfl (lv_at hl 1 rfl) ?_
  obtain ⟨x55, g56, hf⟩ := obind hf
  refine fr_aaldA hx hb K hC (t := 4) rfl g56 dX8_key_128 ?_
  obtain ⟨x57, g58, hf⟩ := obind hf
  refine fr_alen hx hb K hC (t := 0) rfl g58 dX8_key_129 ?_
  refine lv_icmp_ge (tgt := 161) hx hb dX8_key_130 (by decide) (fun c59 => ?_) (fun c59 => ?_)
  · replace hf := opos c59 hf
    exact w_X8_key_L161 M hfl _ _ _ _ _ _ hf _ _ _ _ _ hC (lv_sub hl [0, 1, 2, 3, 4] rfl)
  · replace hf := oneg c59 hf
    refine fr_aload_n hx hb dX8_key_133 rfl (lv_at hl 0 rfl) ?_
    obtain ⟨x60, g61, hf⟩ := obind hf
    refine fr_get hx hb hts hown K hC ct_8 (fgR_get g61) (by decide) kw670 rfl dX8_key_134 ?_
    refine lv_iload_n hx hb dX8_key_137 rfl (lv_at hl 1 rfl) ?_
    obtain ⟨x62, g63, hf⟩ := obind hf
    refine fr_aaldA hx hb K hC (t := 4) rfl g63 dX8_key_138 ?_
    refine lv_iload hx hb dX8_key_139 (lv_at hl 4 rfl) ?_
    obtain ⟨x64, g65, hf⟩ := obind hf
    refine fr_iald hx hb K hC (t := 0) rfl g65 dX8_key_141 ?_
    refine lv_iload_n hx hb dX8_key_142 rfl (lv_at hl 2 rfl) ?_
    refine lv_icmp_ne (tgt := 161) hx hb dX8_key_143 (by decide) (fun c66 => ?_) (fun c66 => ?_)
    · replace hf := oneg c66 hf
      exact w_X8_key_L161 M hfl _ _ _ _ _ _ hf _ _ _ _ _ hC (lv_sub hl [0, 1, 2, 3, 4] rfl)
    · replace hf := opos c66 hf
      refine fr_aload_n hx hb dX8_key_146 rfl (lv_at hl 0 rfl) ?_
      obtain ⟨x67, g68, hf⟩ := obind hf
      refine fr_get hx hb hts hown K hC ct_8 (fgR_get g68) (by decide) kw670 rfl dX8_key_147 ?_
      refine lv_iload_n hx hb dX8_key_150 rfl (lv_at hl 1 rfl) ?_
      obtain ⟨x69, g70, hf⟩ := obind hf
      refine fr_aaldA hx hb K hC (t := 4) rfl g70 dX8_key_151 ?_
      refine lv_iload hx hb dX8_key_152 (lv_at hl 4 rfl) ?_
      refine lv_iconst (v := (1 : Int32)) hx hb dX8_key_154 (by decide) ?_
      refine lv_iadd hx hb dX8_key_155 ?_
      refine lv_iload_n hx hb dX8_key_156 rfl (lv_at hl 3 rfl) ?_
      obtain ⟨h71, g72, hf⟩ := obind hf
      refine fr_iast hx hb K hC (t := 0) rfl g72 dX8_key_157 (fun H locs hC => ?_)
      refine lv_goto (tgt := 238) hx hb dX8_key_158 (by decide) ?_
      exact w_X8_key_L238 M hfl _ _ _ _ _ hf _ _ _ _ _ hC (lv_sub hl [0, 1, 2, 3] rfl)
set_option maxHeartbeats 4000000 in
set_option maxRecDepth 100000 in
theorem w_X8_key_L90 {p : Program} {l : Launch} {e : Env} {s : State} {m : MethodId} {args : Array Value} {below : List Frame} {meth : Method} {c : Code} {D : va_G} {cA : Nat → ClassId} {h0 : fSt} {r : (Int32 × fSt)} (M : fM p s m args meth c D cA h0 { frames := 8, cells := fCB h0 - fZ h0, slots := fLB h0 - fL h0, locals := 136 } cX8_key 6 (some (.boolean)) RX8) (hfl : l.stackTraces = false) : ∀ (n : Nat) (a0 : Option Nat) (a1 : Int32) (a2 : Int32) (a3 : Int32) (a4 : Int32) (h : fSt), f_X8_key_L90 n a0 a1 a2 a3 a4 h = some r → ∀ (H : Heap) (locs : List Loc) (cells slots : Nat) (ls : Array Slot), fCur D cA s h0 h H locs → lv_has ls 6 [(0, va_rf a0), (1, .int a1), (2, .int a2), (3, .int a3), (4, .int a4)] → W p l e { frames := 8, cells := fCB h0 - fZ h0, slots := fLB h0 - fL h0, locals := 136 } s m args below meth c H locs cells slots (MQ below (fQ D cA h0 r.2 (some (.int r.1))) args s (fCB h0 - fZ h0) (fLB h0 - fL h0) (fA h0)) (F0 m 90 ls []) := by
  obtain ⟨hx, hb, hml, hr, hlocks, hts, hown, K, hR⟩ := id M
  intro n
  induction n with
  | zero =>
    intro a0 a1 a2 a3 a4 h hf
    exact nomatch (show (none : Option (Int32 × fSt)) = some r from hf)
  | succ n hk90 =>
    intro a0 a1 a2 a3 a4 h hf H locs cells slots ls hC hl
    refine lv_iload hx hb dX8_key_90 (lv_at hl 4 rfl) ?_
    refine fr_aload_n hx hb dX8_key_92 rfl (lv_at hl 0 rfl) ?_
    obtain ⟨x73, g74, hf⟩ := obind hf
    refine fr_get hx hb hts hown K hC ct_8 (fgR_get g74) (by decide) kw670 rfl dX8_key_93 ?_
    refine lv_iload_n hx hb dX8_key_96 rfl (lv_at hl 1 rfl) ?_
    obtain ⟨x75, g76, hf⟩ := obind hf
    refine fr_aaldA hx hb K hC (t := 4) rfl g76 dX8_key_97 ?_
    obtain ⟨x77, g78, hf⟩ := obind hf
    refine fr_alen hx hb K hC (t := 0) rfl g78 dX8_key_98 ?_
    refine lv_icmp_ge (tgt := 121) hx hb dX8_key_99 (by decide) (fun c79 => ?_) (fun c79 => ?_)
    · replace hf := opos c79 hf
      exact w_X8_key_L121 M hfl _ _ _ _ _ _ hf _ _ _ _ _ hC (lv_sub hl [0, 1, 2, 3, 4] rfl)
    · replace hf := oneg c79 hf
      refine fr_aload_n hx hb dX8_key_102 rfl (lv_at hl 0 rfl) ?_
      obtain ⟨x80, g81, hf⟩ := obind hf
      refine fr_get hx hb hts hown K hC ct_8 (fgR_get g81) (by decide) kw670 rfl dX8_key_103 ?_
      refine lv_iload_n hx hb dX8_key_106 rfl (lv_at hl 1 rfl) ?_
      obtain ⟨x82, g83, hf⟩ := obind hf
      refine fr_aaldA hx hb K hC (t := 4) rfl g83 dX8_key_107 ?_
      refine lv_iload hx hb dX8_key_108 (lv_at hl 4 rfl) ?_
      obtain ⟨x84, g85, hf⟩ := obind hf
      refine fr_iald hx hb K hC (t := 0) rfl g85 dX8_key_110 ?_
      refine lv_iload_n hx hb dX8_key_111 rfl (lv_at hl 2 rfl) ?_
      refine lv_icmp_ge (tgt := 121) hx hb dX8_key_112 (by decide) (fun c86 => ?_) (fun c86 => ?_)
      · replace hf := opos c86 hf
        exact w_X8_key_L121 M hfl _ _ _ _ _ _ hf _ _ _ _ _ hC (lv_sub hl [0, 1, 2, 3, 4] rfl)
      · replace hf := oneg c86 hf
        refine lv_iinc (v := (a4 + (2 : Int32))) (lv' := [(4, .int (a4 + (2 : Int32))), (0, va_rf a0), (1, .int a1), (2, .int a2), (3, .int a3)]) hx hb dX8_key_115 hl (k := 4) rfl rfl (by decide) (congrArg (List.cons _) (flk rfl (flk rfl (flk rfl (flk rfl (fld rfl fln)))))) (fun ls hl => ?_)
        refine lv_goto (tgt := 90) hx hb dX8_key_118 (by decide) ?_
        exact hk90 _ _ _ _ _ _ hf _ _ _ _ _ hC (lv_sub hl [1, 2, 3, 4, 0] rfl)
set_option maxHeartbeats 4000000 in
set_option maxRecDepth 100000 in
theorem w_X8_key_L57 {p : Program} {l : Launch} {e : Env} {s : State} {m : MethodId} {args : Array Value} {below : List Frame} {meth : Method} {c : Code} {D : va_G} {cA : Nat → ClassId} {h0 : fSt} {r : (Int32 × fSt)} (M : fM p s m args meth c D cA h0 { frames := 8, cells := fCB h0 - fZ h0, slots := fLB h0 - fL h0, locals := 136 } cX8_key 6 (some (.boolean)) RX8) (hfl : l.stackTraces = false) (a0 : Option Nat) (a1 : Int32) (a2 : Int32) (s0 : Int32) (h : fSt) (hf : f_X8_key_L57 a0 a1 a2 s0 h = some r) : ∀ (H : Heap) (locs : List Loc) (cells slots : Nat) (ls : Array Slot), fCur D cA s h0 h H locs → lv_has ls 6 [(0, va_rf a0), (1, .int a1), (2, .int a2)] → W p l e { frames := 8, cells := fCB h0 - fZ h0, slots := fLB h0 - fL h0, locals := 136 } s m args below meth c H locs cells slots (MQ below (fQ D cA h0 r.2 (some (.int r.1))) args s (fCB h0 - fZ h0) (fLB h0 - fL h0) (fA h0)) (F0 m 57 ls [.int s0]) := by
  obtain ⟨hx, hb, hml, hr, hlocks, hts, hown, K, hR⟩ := id M
  intro H locs cells slots ls hC hl
  refine lv_istore_n (lv' := [(3, .int s0), (0, va_rf a0), (1, .int a1), (2, .int a2)]) hx hb dX8_key_57 rfl hl (by decide) (congrArg (List.cons _) (flk rfl (flk rfl (flk rfl fln)))) (fun ls hl => ?_)
  refine fr_aload_n hx hb dX8_key_58 rfl (lv_at hl 1 rfl) ?_
  refine fr_aload_n hx hb dX8_key_59 rfl (lv_at hl 1 rfl) ?_
  obtain ⟨x87, g88, hf⟩ := obind hf
  refine fr_get hx hb hts hown K hC ct_8 (fgR_get g88) (by decide) kw669 rfl dX8_key_60 ?_
  refine lv_iload_n hx hb dX8_key_63 rfl (lv_at hl 2 rfl) ?_
  obtain ⟨x89, g90, hf⟩ := obind hf
  refine fr_aaldA hx hb K hC (t := 4) rfl g90 dX8_key_64 ?_
  refine lv_iconst (v := (0 : Int32)) hx hb dX8_key_65 (by decide) ?_
  obtain ⟨x91, g92, hf⟩ := obind hf
  refine fr_iald hx hb K hC (t := 0) rfl g92 dX8_key_66 ?_
  obtain ⟨b95, q96, hf⟩ := obind hf
  obtain ⟨r93, g94, hf⟩ := obind hf
  refine fr_callV hx hb hml hts hown K hC hR ct_8 (c_X8_isThere hfl D cA g94) 1 q96 kw718 kw724 kw716 kw717 kw22 (by decide +kernel) ⟨by exact Nat.le_of_ble_eq_true rfl, by exact Nat.le_of_ble_eq_true rfl⟩ rfl hl.1 (cat8 _ (by exact Nat.le_of_ble_eq_true rfl)) dX8_key_67 rfl (fun H locs _ _ hC => ?_)
  refine lv_if_eq (tgt := 85) hx hb dX8_key_70 (by decide) (fun c97 => ?_) (fun c97 => ?_)
  · replace hf := opos c97 hf
    exact w_X8_key_L85 M hfl _ hf _ _ _ _ _ hC (lv_sub hl [] rfl)
  · replace hf := oneg c97 hf
    refine fr_aload_n hx hb dX8_key_73 rfl (lv_at hl 1 rfl) ?_
    obtain ⟨x98, g99, hf⟩ := obind hf
    refine fr_get hx hb hts hown K hC ct_8 (fgR_get g99) (by decide) kw670 rfl dX8_key_74 ?_
    refine lv_iload_n hx hb dX8_key_77 rfl (lv_at hl 2 rfl) ?_
    obtain ⟨x100, g101, hf⟩ := obind hf
    refine fr_aaldA hx hb K hC (t := 4) rfl g101 dX8_key_78 ?_
    obtain ⟨x102, g103, hf⟩ := obind hf
    refine fr_alen hx hb K hC (t := 0) rfl g103 dX8_key_79 ?_
    refine lv_bipush (v := (16 : Int32)) hx hb dX8_key_80 (by decide) ?_
    refine lv_icmp_ne (tgt := 87) hx hb dX8_key_82 (by decide) (fun c104 => ?_) (fun c104 => ?_)
    · replace hf := oneg c104 hf
      refine lv_iconst (v := (0 : Int32)) hx hb dX8_key_87 (by decide) ?_
      refine lv_istore (lv' := [(4, .int (0 : Int32)), (3, .int s0), (0, va_rf a0), (1, .int a1), (2, .int a2)]) hx hb dX8_key_88 hl (by decide) (congrArg (List.cons _) (flk rfl (flk rfl (flk rfl (flk rfl fln))))) (fun ls hl => ?_)
      exact w_X8_key_L90 M hfl 4096 _ _ _ _ _ _ hf _ _ _ _ _ hC (lv_sub hl [2, 3, 4, 1, 0] rfl)
    · replace hf := opos c104 hf
      exact w_X8_key_L85 M hfl _ hf _ _ _ _ _ hC (lv_sub hl [] rfl)
set_option maxHeartbeats 4000000 in
set_option maxRecDepth 100000 in
theorem w_X8_key_L0 {p : Program} {l : Launch} {e : Env} {s : State} {m : MethodId} {args : Array Value} {below : List Frame} {meth : Method} {c : Code} {D : va_G} {cA : Nat → ClassId} {h0 : fSt} {r : (Int32 × fSt)} (M : fM p s m args meth c D cA h0 { frames := 8, cells := fCB h0 - fZ h0, slots := fLB h0 - fL h0, locals := 136 } cX8_key 6 (some (.boolean)) RX8) (hfl : l.stackTraces = false) (a0 : Option Nat) (a1 : Int32) (h : fSt) (hf : f_X8_key_L0 a0 a1 h = some r) : ∀ (H : Heap) (locs : List Loc) (cells slots : Nat) (ls : Array Slot), fCur D cA s h0 h H locs → lv_has ls 6 [(0, va_rf a0), (1, .int a1)] → W p l e { frames := 8, cells := fCB h0 - fZ h0, slots := fLB h0 - fL h0, locals := 136 } s m args below meth c H locs cells slots (MQ below (fQ D cA h0 r.2 (some (.int r.1))) args s (fCB h0 - fZ h0) (fLB h0 - fL h0) (fA h0)) (F0 m 0 ls []) := by
  obtain ⟨hx, hb, hml, hr, hlocks, hts, hown, K, hR⟩ := id M
  intro H locs cells slots ls hC hl
  refine fr_aload_n hx hb dX8_key_0 rfl (lv_at hl 0 rfl) ?_
  refine lv_bipush (v := (20 : Int32)) hx hb dX8_key_1 (by decide) ?_
  obtain ⟨b107, q108, hf⟩ := obind hf
  obtain ⟨r105, g106, hf⟩ := obind hf
  refine fr_callV hx hb hml hts hown K hC hR ct_8 (c_X8_draw hfl D cA g106) 1 q108 kw706 kw723 kw704 kw705 kw22 (by decide +kernel) ⟨by exact Nat.le_of_ble_eq_true rfl, by exact Nat.le_of_ble_eq_true rfl⟩ rfl hl.1 (cat8 _ (by exact Nat.le_of_ble_eq_true rfl)) dX8_key_3 rfl (fun H locs _ _ hC => ?_)
  refine lv_istore_n (lv' := [(2, .int r105.1), (0, va_rf a0), (1, .int a1)]) hx hb dX8_key_6 rfl hl (by decide) (congrArg (List.cons _) (flk rfl (flk rfl fln))) (fun ls hl => ?_)
  refine fr_aload_n hx hb dX8_key_7 rfl (lv_at hl 1 rfl) ?_
  obtain ⟨x109, g110, hf⟩ := obind hf
  refine fr_get hx hb hts hown K hC ct_8 (fgR_get g110) (by decide) kw669 rfl dX8_key_8 ?_
  refine lv_iload_n hx hb dX8_key_11 rfl (lv_at hl 2 rfl) ?_
  obtain ⟨x111, g112, hf⟩ := obind hf
  refine fr_aaldA hx hb K hC (t := 4) rfl g112 dX8_key_12 ?_
  refine lv_iconst (v := (1 : Int32)) hx hb dX8_key_13 (by decide) ?_
  obtain ⟨x113, g114, hf⟩ := obind hf
  refine fr_iald hx hb K hC (t := 0) rfl g114 dX8_key_14 ?_
  refine lv_iconst (v := (2 : Int32)) hx hb dX8_key_15 (by decide) ?_
  refine lv_icmp_ge (tgt := 31) hx hb dX8_key_16 (by decide) (fun c115 => ?_) (fun c115 => ?_)
  · replace hf := opos c115 hf
    refine fr_aload_n hx hb dX8_key_31 rfl (lv_at hl 1 rfl) ?_
    obtain ⟨x116, g117, hf⟩ := obind hf
    refine fr_get hx hb hts hown K hC ct_8 (fgR_get g117) (by decide) kw669 rfl dX8_key_32 ?_
    refine lv_iload_n hx hb dX8_key_35 rfl (lv_at hl 2 rfl) ?_
    obtain ⟨x118, g119, hf⟩ := obind hf
    refine fr_aaldA hx hb K hC (t := 4) rfl g119 dX8_key_36 ?_
    refine lv_iconst (v := (1 : Int32)) hx hb dX8_key_37 (by decide) ?_
    obtain ⟨x120, g121, hf⟩ := obind hf
    refine fr_iald hx hb K hC (t := 0) rfl g121 dX8_key_38 ?_
    refine lv_iconst (v := (2 : Int32)) hx hb dX8_key_39 (by decide) ?_
    refine lv_icmp_ne (tgt := 51) hx hb dX8_key_40 (by decide) (fun c122 => ?_) (fun c122 => ?_)
    · replace hf := oneg c122 hf
      refine fr_aload_n hx hb dX8_key_51 rfl (lv_at hl 1 rfl) ?_
      refine lv_bipush (v := (101 : Int32)) hx hb dX8_key_52 (by decide) ?_
      obtain ⟨b125, q126, hf⟩ := obind hf
      obtain ⟨r123, g124, hf⟩ := obind hf
      refine fr_callV hx hb hml hts hown K hC hR ct_8 (c_X8_draw hfl D cA g124) 1 q126 kw706 kw723 kw704 kw705 kw22 (by decide +kernel) ⟨by exact Nat.le_of_ble_eq_true rfl, by exact Nat.le_of_ble_eq_true rfl⟩ rfl hl.1 (cat8 _ (by exact Nat.le_of_ble_eq_true rfl)) dX8_key_54 rfl (fun H locs _ _ hC => ?_)
      exact w_X8_key_L57 M hfl _ _ _ _ _ hf _ _ _ _ _ hC (lv_sub hl [1, 2, 0] rfl)
    · replace hf := opos c122 hf
      refine fr_aload_n hx hb dX8_key_43 rfl (lv_at hl 1 rfl) ?_
      refine lv_iconst (v := (4 : Int32)) hx hb dX8_key_44 (by decide) ?_
      obtain ⟨b129, q130, hf⟩ := obind hf
      obtain ⟨r127, g128, hf⟩ := obind hf
      refine fr_callV hx hb hml hts hown K hC hR ct_8 (c_X8_draw hfl D cA g128) 1 q130 kw706 kw723 kw704 kw705 kw22 (by decide +kernel) ⟨by exact Nat.le_of_ble_eq_true rfl, by exact Nat.le_of_ble_eq_true rfl⟩ rfl hl.1 (cat8 _ (by exact Nat.le_of_ble_eq_true rfl)) dX8_key_45 rfl (fun H locs _ _ hC => ?_)
      refine lv_goto (tgt := 57) hx hb dX8_key_48 (by decide) ?_
      exact w_X8_key_L57 M hfl _ _ _ _ _ hf _ _ _ _ _ hC (lv_sub hl [1, 2, 0] rfl)
  · replace hf := oneg c115 hf
    refine fr_aload_n hx hb dX8_key_19 rfl (lv_at hl 1 rfl) ?_
    refine lv_bipush (v := (81 : Int32)) hx hb dX8_key_20 (by decide) ?_
    obtain ⟨b133, q134, hf⟩ := obind hf
    obtain ⟨r131, g132, hf⟩ := obind hf
    refine fr_callV hx hb hml hts hown K hC hR ct_8 (c_X8_draw hfl D cA g132) 1 q134 kw706 kw723 kw704 kw705 kw22 (by decide +kernel) ⟨by exact Nat.le_of_ble_eq_true rfl, by exact Nat.le_of_ble_eq_true rfl⟩ rfl hl.1 (cat8 _ (by exact Nat.le_of_ble_eq_true rfl)) dX8_key_22 rfl (fun H locs _ _ hC => ?_)
    refine lv_bipush (v := (40 : Int32)) hx hb dX8_key_25 (by decide) ?_
    refine lv_isub hx hb dX8_key_27 ?_
    refine lv_goto (tgt := 57) hx hb dX8_key_28 (by decide) ?_
    exact w_X8_key_L57 M hfl _ _ _ _ _ hf _ _ _ _ _ hC (lv_sub hl [1, 2, 0] rfl)
set_option maxRecDepth 100000 in
theorem c_X8_key {l : Launch} (hfl : l.stackTraces = false) (D : va_G) (cA : Nat → ClassId) {o : Nat} {p0 : Int32} {h : fSt} {r : (Int32 × fSt)} (hf : f_X8_key o p0 h = some r) : fMet l yX8_key (wsC yX8_key cX8_key 6 (some (.boolean))) (8) (136) D cA [.ref o, .int p0] h r.2 (some (.int r.1)) := by
  exact fMet.of (own := RX8) (by decide +kernel) rfl (lva1 rfl (lva1 rfl lva0)) (lgl1 rfl (lgl1 rfl lgl0)) (Nat.le_of_ble_eq_true rfl) (fun p e s m args below meth c ls hnm _ M hC hl => by
    have hl : lv_has ls 6 [(0, va_rf (some o)), (1, .int p0)] := hl
    exact w_X8_key_L0 M hfl _ _ _ hf _ _ _ _ _ hC (lv_sub hl [0, 1] rfl))
set_option maxHeartbeats 4000000 in
set_option maxRecDepth 100000 in
theorem w_X8_one_L29 {p : Program} {l : Launch} {e : Env} {s : State} {m : MethodId} {args : Array Value} {below : List Frame} {meth : Method} {c : Code} {D : va_G} {cA : Nat → ClassId} {h0 : fSt} {r : (Int32 × fSt)} (M : fM p s m args meth c D cA h0 { frames := 3, cells := fCB h0 - fZ h0, slots := fLB h0 - fL h0, locals := 64 } cX8_one 3 (some (.int)) RX8) (hfl : l.stackTraces = false) {k7 : Option Nat → Int32 → Int32 → fSt → Option (Int32 × fSt)} (hk7 : ∀ (a0 : Option Nat) (a1 : Int32) (a2 : Int32) (h : fSt), k7 a0 a1 a2 h = some r → ∀ (H : Heap) (locs : List Loc) (cells slots : Nat) (ls : Array Slot), fCur D cA s h0 h H locs → lv_has ls 3 [(0, va_rf a0), (1, .int a1), (2, .int a2)] → W p l e { frames := 3, cells := fCB h0 - fZ h0, slots := fLB h0 - fL h0, locals := 64 } s m args below meth c H locs cells slots (MQ below (fQ D cA h0 r.2 (some (.int r.1))) args s (fCB h0 - fZ h0) (fLB h0 - fL h0) (fA h0)) (F0 m 7 ls [])) (a0 : Option Nat) (a1 : Int32) (a2 : Int32) (h : fSt) (hf : f_X8_one_L29 k7 a0 a1 a2 h = some r) : ∀ (H : Heap) (locs : List Loc) (cells slots : Nat) (ls : Array Slot), fCur D cA s h0 h H locs → lv_has ls 3 [(0, va_rf a0), (1, .int a1), (2, .int a2)] → W p l e { frames := 3, cells := fCB h0 - fZ h0, slots := fLB h0 - fL h0, locals := 64 } s m args below meth c H locs cells slots (MQ below (fQ D cA h0 r.2 (some (.int r.1))) args s (fCB h0 - fZ h0) (fLB h0 - fL h0) (fA h0)) (F0 m 29 ls []) := by
  obtain ⟨hx, hb, hml, hr, hlocks, hts, hown, K, hR⟩ := id M
  intro H locs cells slots ls hC hl
  refine lv_iinc (v := (a2 + (1 : Int32))) (lv' := [(2, .int (a2 + (1 : Int32))), (0, va_rf a0), (1, .int a1)]) hx hb dX8_one_29 hl (k := 2) rfl rfl (by decide) (congrArg (List.cons _) (flk rfl (flk rfl (fld rfl fln)))) (fun ls hl => ?_)
  refine lv_goto (tgt := 7) hx hb dX8_one_32 (by decide) ?_
  exact hk7 _ _ _ _ hf _ _ _ _ _ hC (lv_sub hl [1, 2, 0] rfl)
set_option maxHeartbeats 4000000 in
set_option maxRecDepth 100000 in
theorem w_X8_one_L35 {p : Program} {l : Launch} {e : Env} {s : State} {m : MethodId} {args : Array Value} {below : List Frame} {meth : Method} {c : Code} {D : va_G} {cA : Nat → ClassId} {h0 : fSt} {r : (Int32 × fSt)} (M : fM p s m args meth c D cA h0 { frames := 3, cells := fCB h0 - fZ h0, slots := fLB h0 - fL h0, locals := 64 } cX8_one 3 (some (.int)) RX8) (hfl : l.stackTraces = false) (a1 : Int32) (h : fSt) (hf : f_X8_one_L35 a1 h = some r) : ∀ (H : Heap) (locs : List Loc) (cells slots : Nat) (ls : Array Slot), fCur D cA s h0 h H locs → lv_has ls 3 [(1, .int a1)] → W p l e { frames := 3, cells := fCB h0 - fZ h0, slots := fLB h0 - fL h0, locals := 64 } s m args below meth c H locs cells slots (MQ below (fQ D cA h0 r.2 (some (.int r.1))) args s (fCB h0 - fZ h0) (fLB h0 - fL h0) (fA h0)) (F0 m 35 ls []) := by
  obtain ⟨hx, hb, hml, hr, hlocks, hts, hown, K, hR⟩ := id M
  intro H locs cells slots ls hC hl
  refine lv_iload_n hx hb dX8_one_35 rfl (lv_at hl 0 rfl) ?_
  obtain rfl := Option.some.inj hf
  exact fr_iret hx hb hr hlocks hC dX8_one_36
set_option maxHeartbeats 4000000 in
set_option maxRecDepth 100000 in
theorem w_X8_one_L7 {p : Program} {l : Launch} {e : Env} {s : State} {m : MethodId} {args : Array Value} {below : List Frame} {meth : Method} {c : Code} {D : va_G} {cA : Nat → ClassId} {h0 : fSt} {r : (Int32 × fSt)} (M : fM p s m args meth c D cA h0 { frames := 3, cells := fCB h0 - fZ h0, slots := fLB h0 - fL h0, locals := 64 } cX8_one 3 (some (.int)) RX8) (hfl : l.stackTraces = false) : ∀ (n : Nat) (a0 : Option Nat) (a1 : Int32) (a2 : Int32) (h : fSt), f_X8_one_L7 n a0 a1 a2 h = some r → ∀ (H : Heap) (locs : List Loc) (cells slots : Nat) (ls : Array Slot), fCur D cA s h0 h H locs → lv_has ls 3 [(0, va_rf a0), (1, .int a1), (2, .int a2)] → W p l e { frames := 3, cells := fCB h0 - fZ h0, slots := fLB h0 - fL h0, locals := 64 } s m args below meth c H locs cells slots (MQ below (fQ D cA h0 r.2 (some (.int r.1))) args s (fCB h0 - fZ h0) (fLB h0 - fL h0) (fA h0)) (F0 m 7 ls []) := by
  obtain ⟨hx, hb, hml, hr, hlocks, hts, hown, K, hR⟩ := id M
  intro n
  induction n with
  | zero =>
    intro a0 a1 a2 h hf
    exact nomatch (show (none : Option (Int32 × fSt)) = some r from hf)
  | succ n hk7 =>
    intro a0 a1 a2 h hf H locs cells slots ls hC hl
    refine lv_iload_n hx hb dX8_one_7 rfl (lv_at hl 2 rfl) ?_
    refine fr_aload_n hx hb dX8_one_8 rfl (lv_at hl 0 rfl) ?_
    obtain ⟨x1, g2, hf⟩ := obind hf
    refine fr_get hx hb hts hown K hC ct_8 (fgI_get g2) (by decide) kw659 rfl dX8_one_9 ?_
    refine lv_icmp_ge (tgt := 35) hx hb dX8_one_12 (by decide) (fun c3 => ?_) (fun c3 => ?_)
    · replace hf := opos c3 hf
      exact w_X8_one_L35 M hfl _ _ hf _ _ _ _ _ hC (lv_sub hl [1] rfl)
    · replace hf := oneg c3 hf
      refine lv_iload_n hx hb dX8_one_15 rfl (lv_at hl 1 rfl) ?_
      refine lv_if_ne (tgt := 35) hx hb dX8_one_16 (by decide) (fun c4 => ?_) (fun c4 => ?_)
      · replace hf := oneg c4 hf
        exact w_X8_one_L35 M hfl _ _ hf _ _ _ _ _ hC (lv_sub hl [1] rfl)
      · replace hf := opos c4 hf
        refine fr_aload_n hx hb dX8_one_19 rfl (lv_at hl 0 rfl) ?_
        refine lv_iload_n hx hb dX8_one_20 rfl (lv_at hl 2 rfl) ?_
        obtain ⟨b7, q8, hf⟩ := obind hf
        obtain ⟨r5, g6, hf⟩ := obind hf
        refine fr_callV hx hb hml hts hown K hC hR ct_8 (c_X8_isThere hfl D cA g6) 1 q8 kw718 kw724 kw716 kw717 kw22 (by decide +kernel) ⟨by exact Nat.le_of_ble_eq_true rfl, by exact Nat.le_of_ble_eq_true rfl⟩ rfl hl.1 (cat8 _ (by exact Nat.le_of_ble_eq_true rfl)) dX8_one_21 rfl (fun H locs _ _ hC => ?_)
        refine lv_if_eq (tgt := 29) hx hb dX8_one_24 (by decide) (fun c9 => ?_) (fun c9 => ?_)
        · replace hf := opos c9 hf
          exact w_X8_one_L29 M hfl hk7 _ _ _ _ hf _ _ _ _ _ hC (lv_sub hl [0, 1, 2] rfl)
        · replace hf := oneg c9 hf
          refine lv_iload_n hx hb dX8_one_27 rfl (lv_at hl 2 rfl) ?_
          refine lv_istore_n (lv' := [(1, .int a2), (0, va_rf a0), (2, .int a2)]) hx hb dX8_one_28 rfl hl (by decide) (congrArg (List.cons _) (flk (adj1 _ _) (fld rfl (flk rfl fln)))) (fun ls hl => ?_)
          exact w_X8_one_L29 M hfl hk7 _ _ _ _ hf _ _ _ _ _ hC (lv_sub hl [1, 0, 2] rfl)
set_option maxHeartbeats 4000000 in
set_option maxRecDepth 100000 in
theorem w_X8_one_L0 {p : Program} {l : Launch} {e : Env} {s : State} {m : MethodId} {args : Array Value} {below : List Frame} {meth : Method} {c : Code} {D : va_G} {cA : Nat → ClassId} {h0 : fSt} {r : (Int32 × fSt)} (M : fM p s m args meth c D cA h0 { frames := 3, cells := fCB h0 - fZ h0, slots := fLB h0 - fL h0, locals := 64 } cX8_one 3 (some (.int)) RX8) (hfl : l.stackTraces = false) (a0 : Option Nat) (h : fSt) (hf : f_X8_one_L0 a0 h = some r) : ∀ (H : Heap) (locs : List Loc) (cells slots : Nat) (ls : Array Slot), fCur D cA s h0 h H locs → lv_has ls 3 [(0, va_rf a0)] → W p l e { frames := 3, cells := fCB h0 - fZ h0, slots := fLB h0 - fL h0, locals := 64 } s m args below meth c H locs cells slots (MQ below (fQ D cA h0 r.2 (some (.int r.1))) args s (fCB h0 - fZ h0) (fLB h0 - fL h0) (fA h0)) (F0 m 0 ls []) := by
  obtain ⟨hx, hb, hml, hr, hlocks, hts, hown, K, hR⟩ := id M
  intro H locs cells slots ls hC hl
  refine fr_aload_n hx hb dX8_one_0 rfl (lv_at hl 0 rfl) ?_
  obtain ⟨b12, q13, hf⟩ := obind hf
  obtain ⟨r10, g11, hf⟩ := obind hf
  refine fr_callV hx hb hml hts hown K hC hR ct_8 (c_X8_any hfl D cA g11) 0 q13 kw722 kw729 kw720 kw721 kw22 (by decide +kernel) ⟨by exact Nat.le_of_ble_eq_true rfl, by exact Nat.le_of_ble_eq_true rfl⟩ rfl hl.1 (cat8 _ (by exact Nat.le_of_ble_eq_true rfl)) dX8_one_1 rfl (fun H locs _ _ hC => ?_)
  refine lv_istore_n (lv' := [(1, .int r10.1), (0, va_rf a0)]) hx hb dX8_one_4 rfl hl (by decide) (congrArg (List.cons _) (flk (adj1 _ _) fln)) (fun ls hl => ?_)
  refine lv_iconst (v := (1 : Int32)) hx hb dX8_one_5 (by decide) ?_
  refine lv_istore_n (lv' := [(2, .int (1 : Int32)), (1, .int r10.1), (0, va_rf a0)]) hx hb dX8_one_6 rfl hl (by decide) (congrArg (List.cons _) (flk rfl (flk rfl fln))) (fun ls hl => ?_)
  exact w_X8_one_L7 M hfl 4096 _ _ _ _ hf _ _ _ _ _ hC (lv_sub hl [2, 1, 0] rfl)
set_option maxRecDepth 100000 in
theorem c_X8_one {l : Launch} (hfl : l.stackTraces = false) (D : va_G) (cA : Nat → ClassId) {o : Nat} {h : fSt} {r : (Int32 × fSt)} (hf : f_X8_one o h = some r) : fMet l yX8_one (wsC yX8_one cX8_one 3 (some (.int))) (3) (64) D cA [.ref o] h r.2 (some (.int r.1)) := by
  exact fMet.of (own := RX8) (by decide +kernel) rfl (lva1 rfl lva0) (lgl1 rfl lgl0) (Nat.le_of_ble_eq_true rfl) (fun p e s m args below meth c ls hnm _ M hC hl => by
    have hl : lv_has ls 3 [(0, va_rf (some o))] := hl
    exact w_X8_one_L0 M hfl _ _ hf _ _ _ _ _ hC (lv_sub hl [0] rfl))
