theorem dX8_now_0 : decode cX8_now 0 = .ok (.aload_n 0, 1) := by decide +kernel
theorem dX8_now_1 : decode cX8_now 1 = .ok (.iconst 0, 1) := by decide +kernel
theorem dX8_now_2 : decode cX8_now 2 = .ok (.putfield 81, 3) := by decide +kernel
theorem dX8_now_5 : decode cX8_now 5 = .ok (.aload_n 0, 1) := by decide +kernel
theorem dX8_now_6 : decode cX8_now 6 = .ok (.iload_n 1, 1) := by decide +kernel
theorem dX8_now_7 : decode cX8_now 7 = .ok (.invokevirtual 88, 3) := by decide +kernel
theorem dX8_now_10 : decode cX8_now 10 = .ok (.ifCond .ne 9, 3) := by decide +kernel
theorem dX8_now_13 : decode cX8_now 13 = .ok (.aload_n 0, 1) := by decide +kernel
theorem dX8_now_14 : decode cX8_now 14 = .ok (.iconst 1, 1) := by decide +kernel
theorem dX8_now_15 : decode cX8_now 15 = .ok (.invokevirtual 92, 3) := by decide +kernel
theorem dX8_now_18 : decode cX8_now 18 = .ok (.ireturn, 1) := by decide +kernel
theorem dX8_now_19 : decode cX8_now 19 = .ok (.iload_n 2, 1) := by decide +kernel
theorem dX8_now_20 : decode cX8_now 20 = .ok (.iconst 0, 1) := by decide +kernel
theorem dX8_now_21 : decode cX8_now 21 = .ok (.iconst 3, 1) := by decide +kernel
theorem dX8_now_22 : decode cX8_now 22 = .ok (.invokestatic 84, 3) := by decide +kernel
theorem dX8_now_25 : decode cX8_now 25 = .ok (.ifCond .eq 12, 3) := by decide +kernel
theorem dX8_now_28 : decode cX8_now 28 = .ok (.aload_n 0, 1) := by decide +kernel
theorem dX8_now_29 : decode cX8_now 29 = .ok (.iload_n 1, 1) := by decide +kernel
theorem dX8_now_30 : decode cX8_now 30 = .ok (.iload_n 2, 1) := by decide +kernel
theorem dX8_now_31 : decode cX8_now 31 = .ok (.invokevirtual 164, 3) := by decide +kernel
theorem dX8_now_34 : decode cX8_now 34 = .ok (.goto 8, 3) := by decide +kernel
theorem dX8_now_37 : decode cX8_now 37 = .ok (.aload_n 0, 1) := by decide +kernel
theorem dX8_now_38 : decode cX8_now 38 = .ok (.iconst 2, 1) := by decide +kernel
theorem dX8_now_39 : decode cX8_now 39 = .ok (.invokevirtual 92, 3) := by decide +kernel
theorem dX8_now_42 : decode cX8_now 42 = .ok (.ireturn, 1) := by decide +kernel
theorem dX8_orderAt_0 : decode cX8_orderAt 0 = .ok (.aload_n 0, 1) := by decide +kernel
theorem dX8_orderAt_1 : decode cX8_orderAt 1 = .ok (.iconst 0, 1) := by decide +kernel
theorem dX8_orderAt_2 : decode cX8_orderAt 2 = .ok (.putfield 81, 3) := by decide +kernel
theorem dX8_orderAt_5 : decode cX8_orderAt 5 = .ok (.iload_n 1, 1) := by decide +kernel
theorem dX8_orderAt_6 : decode cX8_orderAt 6 = .ok (.iconst 0, 1) := by decide +kernel
theorem dX8_orderAt_7 : decode cX8_orderAt 7 = .ok (.aload_n 0, 1) := by decide +kernel
theorem dX8_orderAt_8 : decode cX8_orderAt 8 = .ok (.invokevirtual 131, 3) := by decide +kernel
theorem dX8_orderAt_11 : decode cX8_orderAt 11 = .ok (.iconst 1, 1) := by decide +kernel
theorem dX8_orderAt_12 : decode cX8_orderAt 12 = .ok (.isub, 1) := by decide +kernel
theorem dX8_orderAt_13 : decode cX8_orderAt 13 = .ok (.invokestatic 84, 3) := by decide +kernel
theorem dX8_orderAt_16 : decode cX8_orderAt 16 = .ok (.ifCond .eq 12, 3) := by decide +kernel
theorem dX8_orderAt_19 : decode cX8_orderAt 19 = .ok (.aload_n 0, 1) := by decide +kernel
theorem dX8_orderAt_20 : decode cX8_orderAt 20 = .ok (.invokevirtual 223, 3) := by decide +kernel
theorem dX8_orderAt_23 : decode cX8_orderAt 23 = .ok (.iload_n 1, 1) := by decide +kernel
theorem dX8_orderAt_24 : decode cX8_orderAt 24 = .ok (.iaload, 1) := by decide +kernel
theorem dX8_orderAt_25 : decode cX8_orderAt 25 = .ok (.goto 8, 3) := by decide +kernel
theorem dX8_orderAt_28 : decode cX8_orderAt 28 = .ok (.aload_n 0, 1) := by decide +kernel
theorem dX8_orderAt_29 : decode cX8_orderAt 29 = .ok (.iconst 1, 1) := by decide +kernel
theorem dX8_orderAt_30 : decode cX8_orderAt 30 = .ok (.invokevirtual 92, 3) := by decide +kernel
theorem dX8_orderAt_33 : decode cX8_orderAt 33 = .ok (.ireturn, 1) := by decide +kernel
theorem dX8_parent_0 : decode cX8_parent 0 = .ok (.aload_n 0, 1) := by decide +kernel
theorem dX8_parent_1 : decode cX8_parent 1 = .ok (.iconst 0, 1) := by decide +kernel
theorem dX8_parent_2 : decode cX8_parent 2 = .ok (.putfield 81, 3) := by decide +kernel
theorem dX8_parent_5 : decode cX8_parent 5 = .ok (.aload_n 0, 1) := by decide +kernel
theorem dX8_parent_6 : decode cX8_parent 6 = .ok (.iload_n 1, 1) := by decide +kernel
theorem dX8_parent_7 : decode cX8_parent 7 = .ok (.invokevirtual 88, 3) := by decide +kernel
theorem dX8_parent_10 : decode cX8_parent 10 = .ok (.ifCond .eq 12, 3) := by decide +kernel
theorem dX8_parent_13 : decode cX8_parent 13 = .ok (.aload_n 0, 1) := by decide +kernel
theorem dX8_parent_14 : decode cX8_parent 14 = .ok (.getfield 26, 3) := by decide +kernel
theorem dX8_parent_17 : decode cX8_parent 17 = .ok (.iload_n 1, 1) := by decide +kernel
theorem dX8_parent_18 : decode cX8_parent 18 = .ok (.iaload, 1) := by decide +kernel
theorem dX8_parent_19 : decode cX8_parent 19 = .ok (.goto 8, 3) := by decide +kernel
theorem dX8_parent_22 : decode cX8_parent 22 = .ok (.aload_n 0, 1) := by decide +kernel
theorem dX8_parent_23 : decode cX8_parent 23 = .ok (.iconst 1, 1) := by decide +kernel
theorem dX8_parent_24 : decode cX8_parent 24 = .ok (.invokevirtual 92, 3) := by decide +kernel
theorem dX8_parent_27 : decode cX8_parent 27 = .ok (.ireturn, 1) := by decide +kernel
theorem dX8_pick_0 : decode cX8_pick 0 = .ok (.aload_n 0, 1) := by decide +kernel
theorem dX8_pick_1 : decode cX8_pick 1 = .ok (.iconst 0, 1) := by decide +kernel
theorem dX8_pick_2 : decode cX8_pick 2 = .ok (.putfield 81, 3) := by decide +kernel
theorem dX8_pick_5 : decode cX8_pick 5 = .ok (.iload_n 1, 1) := by decide +kernel
theorem dX8_pick_6 : decode cX8_pick 6 = .ok (.iload_n 2, 1) := by decide +kernel
theorem dX8_pick_7 : decode cX8_pick 7 = .ok (.iload_n 3, 1) := by decide +kernel
theorem dX8_pick_8 : decode cX8_pick 8 = .ok (.invokestatic 231, 3) := by decide +kernel
theorem dX8_pick_11 : decode cX8_pick 11 = .ok (.ifCond .eq 13, 3) := by decide +kernel
theorem dX8_pick_14 : decode cX8_pick 14 = .ok (.aload_n 0, 1) := by decide +kernel
theorem dX8_pick_15 : decode cX8_pick 15 = .ok (.iload_n 1, 1) := by decide +kernel
theorem dX8_pick_16 : decode cX8_pick 16 = .ok (.iload_n 2, 1) := by decide +kernel
theorem dX8_pick_17 : decode cX8_pick 17 = .ok (.iload_n 3, 1) := by decide +kernel
theorem dX8_pick_18 : decode cX8_pick 18 = .ok (.invokevirtual 238, 3) := by decide +kernel
theorem dX8_pick_21 : decode cX8_pick 21 = .ok (.goto 8, 3) := by decide +kernel
theorem dX8_pick_24 : decode cX8_pick 24 = .ok (.aload_n 0, 1) := by decide +kernel
theorem dX8_pick_25 : decode cX8_pick 25 = .ok (.iconst 1, 1) := by decide +kernel
theorem dX8_pick_26 : decode cX8_pick 26 = .ok (.invokevirtual 92, 3) := by decide +kernel
theorem dX8_pick_29 : decode cX8_pick 29 = .ok (.ireturn, 1) := by decide +kernel
theorem dX8_pickWithout_0 : decode cX8_pickWithout 0 = .ok (.aload_n 0, 1) := by decide +kernel
theorem dX8_pickWithout_1 : decode cX8_pickWithout 1 = .ok (.iconst 0, 1) := by decide +kernel
theorem dX8_pickWithout_2 : decode cX8_pickWithout 2 = .ok (.putfield 81, 3) := by decide +kernel
theorem dX8_pickWithout_5 : decode cX8_pickWithout 5 = .ok (.aload_n 0, 1) := by decide +kernel
theorem dX8_pickWithout_6 : decode cX8_pickWithout 6 = .ok (.iload_n 1, 1) := by decide +kernel
theorem dX8_pickWithout_7 : decode cX8_pickWithout 7 = .ok (.invokevirtual 88, 3) := by decide +kernel
theorem dX8_pickWithout_10 : decode cX8_pickWithout 10 = .ok (.ifCond .ne 9, 3) := by decide +kernel
theorem dX8_pickWithout_13 : decode cX8_pickWithout 13 = .ok (.aload_n 0, 1) := by decide +kernel
theorem dX8_pickWithout_14 : decode cX8_pickWithout 14 = .ok (.iconst 1, 1) := by decide +kernel
theorem dX8_pickWithout_15 : decode cX8_pickWithout 15 = .ok (.invokevirtual 92, 3) := by decide +kernel
theorem dX8_pickWithout_18 : decode cX8_pickWithout 18 = .ok (.ireturn, 1) := by decide +kernel
theorem dX8_pickWithout_19 : decode cX8_pickWithout 19 = .ok (.iload_n 2, 1) := by decide +kernel
theorem dX8_pickWithout_20 : decode cX8_pickWithout 20 = .ok (.iload_n 3, 1) := by decide +kernel
theorem dX8_pickWithout_21 : decode cX8_pickWithout 21 = .ok (.iload 4, 2) := by decide +kernel
theorem dX8_pickWithout_23 : decode cX8_pickWithout 23 = .ok (.invokestatic 231, 3) := by decide +kernel
theorem dX8_pickWithout_26 : decode cX8_pickWithout 26 = .ok (.ifCond .ne 9, 3) := by decide +kernel
theorem dX8_pickWithout_29 : decode cX8_pickWithout 29 = .ok (.aload_n 0, 1) := by decide +kernel
theorem dX8_pickWithout_30 : decode cX8_pickWithout 30 = .ok (.iconst 2, 1) := by decide +kernel
theorem dX8_pickWithout_31 : decode cX8_pickWithout 31 = .ok (.invokevirtual 92, 3) := by decide +kernel
theorem dX8_pickWithout_34 : decode cX8_pickWithout 34 = .ok (.ireturn, 1) := by decide +kernel
theorem dX8_pickWithout_35 : decode cX8_pickWithout 35 = .ok (.aload_n 0, 1) := by decide +kernel
theorem dX8_pickWithout_36 : decode cX8_pickWithout 36 = .ok (.getfield 20, 3) := by decide +kernel
theorem dX8_pickWithout_39 : decode cX8_pickWithout 39 = .ok (.iload_n 1, 1) := by decide +kernel
theorem dX8_pickWithout_40 : decode cX8_pickWithout 40 = .ok (.baload, 1) := by decide +kernel
theorem dX8_pickWithout_41 : decode cX8_pickWithout 41 = .ok (.istore 5, 2) := by decide +kernel
theorem dX8_pickWithout_43 : decode cX8_pickWithout 43 = .ok (.aload_n 0, 1) := by decide +kernel
theorem dX8_pickWithout_44 : decode cX8_pickWithout 44 = .ok (.getfield 20, 3) := by decide +kernel
theorem dX8_pickWithout_47 : decode cX8_pickWithout 47 = .ok (.iload_n 1, 1) := by decide +kernel
theorem dX8_pickWithout_48 : decode cX8_pickWithout 48 = .ok (.iconst 1, 1) := by decide +kernel
theorem dX8_pickWithout_49 : decode cX8_pickWithout 49 = .ok (.bastore, 1) := by decide +kernel
theorem dX8_pickWithout_50 : decode cX8_pickWithout 50 = .ok (.aload_n 0, 1) := by decide +kernel
theorem dX8_pickWithout_51 : decode cX8_pickWithout 51 = .ok (.iload_n 2, 1) := by decide +kernel
theorem dX8_pickWithout_52 : decode cX8_pickWithout 52 = .ok (.iload_n 3, 1) := by decide +kernel
theorem dX8_pickWithout_53 : decode cX8_pickWithout 53 = .ok (.iload 4, 2) := by decide +kernel
theorem dX8_pickWithout_55 : decode cX8_pickWithout 55 = .ok (.invokevirtual 238, 3) := by decide +kernel
theorem dX8_pickWithout_58 : decode cX8_pickWithout 58 = .ok (.istore 6, 2) := by decide +kernel
theorem dX8_pickWithout_60 : decode cX8_pickWithout 60 = .ok (.aload_n 0, 1) := by decide +kernel
theorem dX8_pickWithout_61 : decode cX8_pickWithout 61 = .ok (.getfield 20, 3) := by decide +kernel
theorem dX8_pickWithout_64 : decode cX8_pickWithout 64 = .ok (.iload_n 1, 1) := by decide +kernel
theorem dX8_pickWithout_65 : decode cX8_pickWithout 65 = .ok (.iload 5, 2) := by decide +kernel
theorem dX8_pickWithout_67 : decode cX8_pickWithout 67 = .ok (.bastore, 1) := by decide +kernel
theorem dX8_pickWithout_68 : decode cX8_pickWithout 68 = .ok (.iload 6, 2) := by decide +kernel
theorem dX8_pickWithout_70 : decode cX8_pickWithout 70 = .ok (.ireturn, 1) := by decide +kernel
theorem dX8_placeOf_0 : decode cX8_placeOf 0 = .ok (.aload_n 0, 1) := by decide +kernel
theorem dX8_placeOf_1 : decode cX8_placeOf 1 = .ok (.iconst 0, 1) := by decide +kernel
theorem dX8_placeOf_2 : decode cX8_placeOf 2 = .ok (.putfield 81, 3) := by decide +kernel
theorem dX8_placeOf_5 : decode cX8_placeOf 5 = .ok (.aload_n 0, 1) := by decide +kernel
theorem dX8_placeOf_6 : decode cX8_placeOf 6 = .ok (.iload_n 1, 1) := by decide +kernel
theorem dX8_placeOf_7 : decode cX8_placeOf 7 = .ok (.invokevirtual 88, 3) := by decide +kernel
theorem dX8_placeOf_10 : decode cX8_placeOf 10 = .ok (.ifCond .eq 14, 3) := by decide +kernel
theorem dX8_placeOf_13 : decode cX8_placeOf 13 = .ok (.aload_n 0, 1) := by decide +kernel
theorem dX8_placeOf_14 : decode cX8_placeOf 14 = .ok (.invokevirtual 223, 3) := by decide +kernel
theorem dX8_placeOf_17 : decode cX8_placeOf 17 = .ok (.iload_n 1, 1) := by decide +kernel
theorem dX8_placeOf_18 : decode cX8_placeOf 18 = .ok (.invokestatic 227, 3) := by decide +kernel
theorem dX8_placeOf_21 : decode cX8_placeOf 21 = .ok (.goto 8, 3) := by decide +kernel
theorem dX8_placeOf_24 : decode cX8_placeOf 24 = .ok (.aload_n 0, 1) := by decide +kernel
theorem dX8_placeOf_25 : decode cX8_placeOf 25 = .ok (.iconst 1, 1) := by decide +kernel
theorem dX8_placeOf_26 : decode cX8_placeOf 26 = .ok (.invokevirtual 92, 3) := by decide +kernel
theorem dX8_placeOf_29 : decode cX8_placeOf 29 = .ok (.ireturn, 1) := by decide +kernel
theorem dX8_remove_0 : decode cX8_remove 0 = .ok (.aload_n 0, 1) := by decide +kernel
theorem dX8_remove_1 : decode cX8_remove 1 = .ok (.iconst 0, 1) := by decide +kernel
theorem dX8_remove_2 : decode cX8_remove 2 = .ok (.putfield 81, 3) := by decide +kernel
theorem dX8_remove_5 : decode cX8_remove 5 = .ok (.aload_n 0, 1) := by decide +kernel
theorem dX8_remove_6 : decode cX8_remove 6 = .ok (.iload_n 1, 1) := by decide +kernel
theorem dX8_remove_7 : decode cX8_remove 7 = .ok (.invokevirtual 88, 3) := by decide +kernel
theorem dX8_remove_10 : decode cX8_remove 10 = .ok (.ifCond .ne 9, 3) := by decide +kernel
theorem dX8_remove_13 : decode cX8_remove 13 = .ok (.aload_n 0, 1) := by decide +kernel
theorem dX8_remove_14 : decode cX8_remove 14 = .ok (.iconst 1, 1) := by decide +kernel
theorem dX8_remove_15 : decode cX8_remove 15 = .ok (.invokevirtual 92, 3) := by decide +kernel
theorem dX8_remove_18 : decode cX8_remove 18 = .ok (.ireturn, 1) := by decide +kernel
theorem dX8_remove_19 : decode cX8_remove 19 = .ok (.iload_n 1, 1) := by decide +kernel
theorem dX8_remove_20 : decode cX8_remove 20 = .ok (.ifCond .ne 9, 3) := by decide +kernel
theorem dX8_remove_23 : decode cX8_remove 23 = .ok (.aload_n 0, 1) := by decide +kernel
theorem dX8_remove_24 : decode cX8_remove 24 = .ok (.iconst 2, 1) := by decide +kernel
theorem dX8_remove_25 : decode cX8_remove 25 = .ok (.invokevirtual 92, 3) := by decide +kernel
theorem dX8_remove_28 : decode cX8_remove 28 = .ok (.ireturn, 1) := by decide +kernel
theorem dX8_remove_29 : decode cX8_remove 29 = .ok (.iconst 0, 1) := by decide +kernel
theorem dX8_remove_30 : decode cX8_remove 30 = .ok (.istore_n 2, 1) := by decide +kernel
theorem dX8_remove_31 : decode cX8_remove 31 = .ok (.iconst 1, 1) := by decide +kernel
theorem dX8_remove_32 : decode cX8_remove 32 = .ok (.istore_n 3, 1) := by decide +kernel
theorem dX8_remove_33 : decode cX8_remove 33 = .ok (.iload_n 3, 1) := by decide +kernel
theorem dX8_remove_34 : decode cX8_remove 34 = .ok (.aload_n 0, 1) := by decide +kernel
theorem dX8_remove_35 : decode cX8_remove 35 = .ok (.getfield 7, 3) := by decide +kernel
theorem dX8_remove_38 : decode cX8_remove 38 = .ok (.if_icmp .ge 77, 3) := by decide +kernel
theorem dX8_remove_41 : decode cX8_remove 41 = .ok (.aload_n 0, 1) := by decide +kernel
theorem dX8_remove_42 : decode cX8_remove 42 = .ok (.getfield 13, 3) := by decide +kernel
theorem dX8_remove_45 : decode cX8_remove 45 = .ok (.iload_n 3, 1) := by decide +kernel
theorem dX8_remove_46 : decode cX8_remove 46 = .ok (.baload, 1) := by decide +kernel
theorem dX8_remove_47 : decode cX8_remove 47 = .ok (.ifCond .ne 62, 3) := by decide +kernel
theorem dX8_remove_50 : decode cX8_remove 50 = .ok (.aload_n 0, 1) := by decide +kernel
theorem dX8_remove_51 : decode cX8_remove 51 = .ok (.iload_n 3, 1) := by decide +kernel
theorem dX8_remove_52 : decode cX8_remove 52 = .ok (.iload_n 1, 1) := by decide +kernel
theorem dX8_remove_53 : decode cX8_remove 53 = .ok (.invokevirtual 99, 3) := by decide +kernel
theorem dX8_remove_56 : decode cX8_remove 56 = .ok (.ifCond .ne 6, 3) := by decide +kernel
theorem dX8_remove_59 : decode cX8_remove 59 = .ok (.goto 50, 3) := by decide +kernel
theorem dX8_remove_62 : decode cX8_remove 62 = .ok (.iinc 2 1, 3) := by decide +kernel
theorem dX8_remove_65 : decode cX8_remove 65 = .ok (.aload_n 0, 1) := by decide +kernel
theorem dX8_remove_66 : decode cX8_remove 66 = .ok (.getfield 13, 3) := by decide +kernel
theorem dX8_remove_69 : decode cX8_remove 69 = .ok (.iload_n 3, 1) := by decide +kernel
theorem dX8_remove_70 : decode cX8_remove 70 = .ok (.iconst 1, 1) := by decide +kernel
theorem dX8_remove_71 : decode cX8_remove 71 = .ok (.bastore, 1) := by decide +kernel
theorem dX8_remove_72 : decode cX8_remove 72 = .ok (.iconst 0, 1) := by decide +kernel
theorem dX8_remove_73 : decode cX8_remove 73 = .ok (.istore 4, 2) := by decide +kernel
theorem dX8_remove_75 : decode cX8_remove 75 = .ok (.iload 4, 2) := by decide +kernel
theorem dX8_remove_77 : decode cX8_remove 77 = .ok (.aload_n 0, 1) := by decide +kernel
theorem dX8_remove_78 : decode cX8_remove 78 = .ok (.getfield 103, 3) := by decide +kernel
theorem dX8_remove_81 : decode cX8_remove 81 = .ok (.if_icmp .ge 28, 3) := by decide +kernel
theorem dX8_remove_84 : decode cX8_remove 84 = .ok (.aload_n 0, 1) := by decide +kernel
theorem dX8_remove_85 : decode cX8_remove 85 = .ok (.getfield 60, 3) := by decide +kernel
theorem dX8_remove_88 : decode cX8_remove 88 = .ok (.iload 4, 2) := by decide +kernel
theorem dX8_remove_90 : decode cX8_remove 90 = .ok (.iaload, 1) := by decide +kernel
theorem dX8_remove_91 : decode cX8_remove 91 = .ok (.iload_n 3, 1) := by decide +kernel
theorem dX8_remove_92 : decode cX8_remove 92 = .ok (.if_icmp .ne 11, 3) := by decide +kernel
theorem dX8_remove_95 : decode cX8_remove 95 = .ok (.aload_n 0, 1) := by decide +kernel
theorem dX8_remove_96 : decode cX8_remove 96 = .ok (.getfield 72, 3) := by decide +kernel
theorem dX8_remove_99 : decode cX8_remove 99 = .ok (.iload 4, 2) := by decide +kernel
theorem dX8_remove_101 : decode cX8_remove 101 = .ok (.iconst 0, 1) := by decide +kernel
theorem dX8_remove_102 : decode cX8_remove 102 = .ok (.iastore, 1) := by decide +kernel
theorem dX8_remove_103 : decode cX8_remove 103 = .ok (.iinc 4 1, 3) := by decide +kernel
theorem dX8_remove_106 : decode cX8_remove 106 = .ok (.goto (-31), 3) := by decide +kernel
theorem dX8_remove_109 : decode cX8_remove 109 = .ok (.iinc 3 1, 3) := by decide +kernel
theorem dX8_remove_112 : decode cX8_remove 112 = .ok (.goto (-79), 3) := by decide +kernel
theorem dX8_remove_115 : decode cX8_remove 115 = .ok (.iload_n 2, 1) := by decide +kernel
theorem dX8_remove_116 : decode cX8_remove 116 = .ok (.ireturn, 1) := by decide +kernel
theorem dX8_scale_0 : decode cX8_scale 0 = .ok (.aload_n 0, 1) := by decide +kernel
theorem dX8_scale_1 : decode cX8_scale 1 = .ok (.aload_n 0, 1) := by decide +kernel
theorem dX8_scale_2 : decode cX8_scale 2 = .ok (.iload_n 1, 1) := by decide +kernel
theorem dX8_scale_3 : decode cX8_scale 3 = .ok (.iload_n 2, 1) := by decide +kernel
theorem dX8_scale_4 : decode cX8_scale 4 = .ok (.iconst 1, 1) := by decide +kernel
theorem dX8_scale_5 : decode cX8_scale 5 = .ok (.iconst 4, 1) := by decide +kernel
theorem dX8_scale_6 : decode cX8_scale 6 = .ok (.invokestatic 84, 3) := by decide +kernel
theorem dX8_scale_9 : decode cX8_scale 9 = .ok (.ifCond .eq 16, 3) := by decide +kernel
theorem dX8_scale_12 : decode cX8_scale 12 = .ok (.iload_n 3, 1) := by decide +kernel
theorem dX8_scale_13 : decode cX8_scale 13 = .ok (.iconst 1, 1) := by decide +kernel
theorem dX8_scale_14 : decode cX8_scale 14 = .ok (.iconst 4, 1) := by decide +kernel
theorem dX8_scale_15 : decode cX8_scale 15 = .ok (.invokestatic 84, 3) := by decide +kernel
theorem dX8_scale_18 : decode cX8_scale 18 = .ok (.ifCond .eq 7, 3) := by decide +kernel
theorem dX8_scale_21 : decode cX8_scale 21 = .ok (.iconst 1, 1) := by decide +kernel
theorem dX8_scale_22 : decode cX8_scale 22 = .ok (.goto 4, 3) := by decide +kernel
theorem dX8_scale_25 : decode cX8_scale 25 = .ok (.iconst 0, 1) := by decide +kernel
theorem dX8_scale_26 : decode cX8_scale 26 = .ok (.invokevirtual 115, 3) := by decide +kernel
theorem dX8_scale_29 : decode cX8_scale 29 = .ok (.putfield 81, 3) := by decide +kernel
theorem dX8_scale_32 : decode cX8_scale 32 = .ok (.aload_n 0, 1) := by decide +kernel
theorem dX8_scale_33 : decode cX8_scale 33 = .ok (.getfield 81, 3) := by decide +kernel
theorem dX8_scale_36 : decode cX8_scale 36 = .ok (.ifCond .eq 5, 3) := by decide +kernel
theorem dX8_scale_39 : decode cX8_scale 39 = .ok (.iconst 0, 1) := by decide +kernel
theorem dX8_scale_40 : decode cX8_scale 40 = .ok (.ireturn, 1) := by decide +kernel
theorem dX8_scale_41 : decode cX8_scale 41 = .ok (.aload_n 0, 1) := by decide +kernel
theorem dX8_scale_42 : decode cX8_scale 42 = .ok (.getfield 39, 3) := by decide +kernel
theorem dX8_scale_45 : decode cX8_scale 45 = .ok (.iload_n 1, 1) := by decide +kernel
theorem dX8_scale_46 : decode cX8_scale 46 = .ok (.iaload, 1) := by decide +kernel
theorem dX8_scale_47 : decode cX8_scale 47 = .ok (.bipush 10, 2) := by decide +kernel
theorem dX8_scale_49 : decode cX8_scale 49 = .ok (.imul, 1) := by decide +kernel
theorem dX8_scale_50 : decode cX8_scale 50 = .ok (.aload_n 0, 1) := by decide +kernel
theorem dX8_scale_51 : decode cX8_scale 51 = .ok (.getfield 42, 3) := by decide +kernel
theorem dX8_scale_54 : decode cX8_scale 54 = .ok (.iload_n 1, 1) := by decide +kernel
theorem dX8_scale_55 : decode cX8_scale 55 = .ok (.iaload, 1) := by decide +kernel
theorem dX8_scale_56 : decode cX8_scale 56 = .ok (.iadd, 1) := by decide +kernel
theorem dX8_scale_57 : decode cX8_scale 57 = .ok (.istore 4, 2) := by decide +kernel
theorem dX8_scale_59 : decode cX8_scale 59 = .ok (.aload_n 0, 1) := by decide +kernel
theorem dX8_scale_60 : decode cX8_scale 60 = .ok (.getfield 39, 3) := by decide +kernel
theorem dX8_scale_63 : decode cX8_scale 63 = .ok (.iload_n 1, 1) := by decide +kernel
theorem dX8_scale_64 : decode cX8_scale 64 = .ok (.iload_n 2, 1) := by decide +kernel
theorem dX8_scale_65 : decode cX8_scale 65 = .ok (.iastore, 1) := by decide +kernel
theorem dX8_scale_66 : decode cX8_scale 66 = .ok (.aload_n 0, 1) := by decide +kernel
theorem dX8_scale_67 : decode cX8_scale 67 = .ok (.getfield 42, 3) := by decide +kernel
theorem dX8_scale_70 : decode cX8_scale 70 = .ok (.iload_n 1, 1) := by decide +kernel
theorem dX8_scale_71 : decode cX8_scale 71 = .ok (.iload_n 3, 1) := by decide +kernel
theorem dX8_scale_72 : decode cX8_scale 72 = .ok (.iastore, 1) := by decide +kernel
theorem dX8_scale_73 : decode cX8_scale 73 = .ok (.iload 4, 2) := by decide +kernel
theorem dX8_scale_75 : decode cX8_scale 75 = .ok (.ireturn, 1) := by decide +kernel
theorem dX8_setTime_0 : decode cX8_setTime 0 = .ok (.aload_n 0, 1) := by decide +kernel
theorem dX8_setTime_1 : decode cX8_setTime 1 = .ok (.iconst 0, 1) := by decide +kernel
theorem dX8_setTime_2 : decode cX8_setTime 2 = .ok (.putfield 81, 3) := by decide +kernel
theorem dX8_setTime_5 : decode cX8_setTime 5 = .ok (.iload_n 1, 1) := by decide +kernel
theorem dX8_setTime_6 : decode cX8_setTime 6 = .ok (.iconst 0, 1) := by decide +kernel
theorem dX8_setTime_7 : decode cX8_setTime 7 = .ok (.sipush 9999, 3) := by decide +kernel
theorem dX8_setTime_10 : decode cX8_setTime 10 = .ok (.invokestatic 84, 3) := by decide +kernel
theorem dX8_setTime_13 : decode cX8_setTime 13 = .ok (.ifCond .ne 9, 3) := by decide +kernel
theorem dX8_setTime_16 : decode cX8_setTime 16 = .ok (.aload_n 0, 1) := by decide +kernel
theorem dX8_setTime_17 : decode cX8_setTime 17 = .ok (.iconst 1, 1) := by decide +kernel
theorem dX8_setTime_18 : decode cX8_setTime 18 = .ok (.invokevirtual 92, 3) := by decide +kernel
theorem dX8_setTime_21 : decode cX8_setTime 21 = .ok (.ireturn, 1) := by decide +kernel
theorem dX8_setTime_22 : decode cX8_setTime 22 = .ok (.aload_n 0, 1) := by decide +kernel
theorem dX8_setTime_23 : decode cX8_setTime 23 = .ok (.getfield 150, 3) := by decide +kernel
theorem dX8_setTime_26 : decode cX8_setTime 26 = .ok (.istore_n 2, 1) := by decide +kernel
theorem dX8_setTime_27 : decode cX8_setTime 27 = .ok (.aload_n 0, 1) := by decide +kernel
theorem dX8_setTime_28 : decode cX8_setTime 28 = .ok (.iload_n 1, 1) := by decide +kernel
theorem dX8_setTime_29 : decode cX8_setTime 29 = .ok (.putfield 150, 3) := by decide +kernel
theorem dX8_setTime_32 : decode cX8_setTime 32 = .ok (.iload_n 2, 1) := by decide +kernel
theorem dX8_setTime_33 : decode cX8_setTime 33 = .ok (.ireturn, 1) := by decide +kernel
theorem dX8_size_0 : decode cX8_size 0 = .ok (.aload_n 0, 1) := by decide +kernel
theorem dX8_size_1 : decode cX8_size 1 = .ok (.aload_n 0, 1) := by decide +kernel
theorem dX8_size_2 : decode cX8_size 2 = .ok (.iload_n 1, 1) := by decide +kernel
theorem dX8_size_3 : decode cX8_size 3 = .ok (.invokevirtual 88, 3) := by decide +kernel
theorem dX8_size_6 : decode cX8_size 6 = .ok (.ifCond .eq 7, 3) := by decide +kernel
theorem dX8_size_9 : decode cX8_size 9 = .ok (.iconst 0, 1) := by decide +kernel
theorem dX8_size_10 : decode cX8_size 10 = .ok (.goto 4, 3) := by decide +kernel
theorem dX8_size_13 : decode cX8_size 13 = .ok (.iconst 1, 1) := by decide +kernel
theorem dX8_size_14 : decode cX8_size 14 = .ok (.putfield 81, 3) := by decide +kernel
theorem dX8_size_17 : decode cX8_size 17 = .ok (.aload_n 0, 1) := by decide +kernel
theorem dX8_size_18 : decode cX8_size 18 = .ok (.getfield 81, 3) := by decide +kernel
theorem dX8_size_21 : decode cX8_size 21 = .ok (.ifCond .eq 5, 3) := by decide +kernel
theorem dX8_size_24 : decode cX8_size 24 = .ok (.dconst 0, 1) := by decide +kernel
theorem dX8_size_25 : decode cX8_size 25 = .ok (.dreturn, 1) := by decide +kernel
theorem dX8_size_26 : decode cX8_size 26 = .ok (.iconst 1, 1) := by decide +kernel
theorem dX8_size_27 : decode cX8_size 27 = .ok (.istore_n 2, 1) := by decide +kernel
theorem dX8_size_28 : decode cX8_size 28 = .ok (.iconst 1, 1) := by decide +kernel
theorem dX8_size_29 : decode cX8_size 29 = .ok (.istore_n 3, 1) := by decide +kernel
theorem dX8_size_30 : decode cX8_size 30 = .ok (.iload_n 1, 1) := by decide +kernel
theorem dX8_size_31 : decode cX8_size 31 = .ok (.istore 4, 2) := by decide +kernel
theorem dX8_size_33 : decode cX8_size 33 = .ok (.iload 4, 2) := by decide +kernel
theorem dX8_size_35 : decode cX8_size 35 = .ok (.ifCond .eq 35, 3) := by decide +kernel
theorem dX8_size_38 : decode cX8_size 38 = .ok (.iload_n 2, 1) := by decide +kernel
theorem dX8_size_39 : decode cX8_size 39 = .ok (.aload_n 0, 1) := by decide +kernel
theorem dX8_size_40 : decode cX8_size 40 = .ok (.getfield 39, 3) := by decide +kernel
theorem dX8_size_43 : decode cX8_size 43 = .ok (.iload 4, 2) := by decide +kernel
theorem dX8_size_45 : decode cX8_size 45 = .ok (.iaload, 1) := by decide +kernel
theorem dX8_size_46 : decode cX8_size 46 = .ok (.imul, 1) := by decide +kernel
theorem dX8_size_47 : decode cX8_size 47 = .ok (.istore_n 2, 1) := by decide +kernel
theorem dX8_size_48 : decode cX8_size 48 = .ok (.iload_n 3, 1) := by decide +kernel
theorem dX8_size_49 : decode cX8_size 49 = .ok (.aload_n 0, 1) := by decide +kernel
theorem dX8_size_50 : decode cX8_size 50 = .ok (.getfield 42, 3) := by decide +kernel
theorem dX8_size_53 : decode cX8_size 53 = .ok (.iload 4, 2) := by decide +kernel
theorem dX8_size_55 : decode cX8_size 55 = .ok (.iaload, 1) := by decide +kernel
theorem dX8_size_56 : decode cX8_size 56 = .ok (.imul, 1) := by decide +kernel
theorem dX8_size_57 : decode cX8_size 57 = .ok (.istore_n 3, 1) := by decide +kernel
theorem dX8_size_58 : decode cX8_size 58 = .ok (.aload_n 0, 1) := by decide +kernel
theorem dX8_size_59 : decode cX8_size 59 = .ok (.getfield 26, 3) := by decide +kernel
theorem dX8_size_62 : decode cX8_size 62 = .ok (.iload 4, 2) := by decide +kernel
theorem dX8_size_64 : decode cX8_size 64 = .ok (.iaload, 1) := by decide +kernel
theorem dX8_size_65 : decode cX8_size 65 = .ok (.istore 4, 2) := by decide +kernel
theorem dX8_size_67 : decode cX8_size 67 = .ok (.goto (-34), 3) := by decide +kernel
theorem dX8_size_70 : decode cX8_size 70 = .ok (.iload_n 2, 1) := by decide +kernel
theorem dX8_size_71 : decode cX8_size 71 = .ok (.i2d, 1) := by decide +kernel
theorem dX8_size_72 : decode cX8_size 72 = .ok (.iload_n 3, 1) := by decide +kernel
theorem dX8_size_73 : decode cX8_size 73 = .ok (.i2d, 1) := by decide +kernel
theorem dX8_size_74 : decode cX8_size 74 = .ok (.ddiv, 1) := by decide +kernel
theorem dX8_size_75 : decode cX8_size 75 = .ok (.dreturn, 1) := by decide +kernel
theorem dX8_strength_0 : decode cX8_strength 0 = .ok (.aload_n 0, 1) := by decide +kernel
theorem dX8_strength_1 : decode cX8_strength 1 = .ok (.iconst 0, 1) := by decide +kernel
theorem dX8_strength_2 : decode cX8_strength 2 = .ok (.putfield 81, 3) := by decide +kernel
theorem dX8_strength_5 : decode cX8_strength 5 = .ok (.aload_n 0, 1) := by decide +kernel
theorem dX8_strength_6 : decode cX8_strength 6 = .ok (.iload_n 1, 1) := by decide +kernel
theorem dX8_strength_7 : decode cX8_strength 7 = .ok (.invokevirtual 88, 3) := by decide +kernel
theorem dX8_strength_10 : decode cX8_strength 10 = .ok (.ifCond .eq 11, 3) := by decide +kernel
theorem dX8_strength_13 : decode cX8_strength 13 = .ok (.aload_n 0, 1) := by decide +kernel
theorem dX8_strength_14 : decode cX8_strength 14 = .ok (.iload_n 1, 1) := by decide +kernel
theorem dX8_strength_15 : decode cX8_strength 15 = .ok (.invokevirtual 213, 3) := by decide +kernel
theorem dX8_strength_18 : decode cX8_strength 18 = .ok (.goto 8, 3) := by decide +kernel
theorem dX8_strength_21 : decode cX8_strength 21 = .ok (.aload_n 0, 1) := by decide +kernel
theorem dX8_strength_22 : decode cX8_strength 22 = .ok (.iconst 1, 1) := by decide +kernel
theorem dX8_strength_23 : decode cX8_strength 23 = .ok (.invokevirtual 92, 3) := by decide +kernel
theorem dX8_strength_26 : decode cX8_strength 26 = .ok (.ireturn, 1) := by decide +kernel
theorem dX8_through_0 : decode cX8_through 0 = .ok (.aload_n 0, 1) := by decide +kernel
theorem dX8_through_1 : decode cX8_through 1 = .ok (.iconst 0, 1) := by decide +kernel
theorem dX8_through_2 : decode cX8_through 2 = .ok (.putfield 81, 3) := by decide +kernel
theorem dX8_through_5 : decode cX8_through 5 = .ok (.iload_n 1, 1) := by decide +kernel
theorem dX8_through_6 : decode cX8_through 6 = .ok (.iload_n 2, 1) := by decide +kernel
theorem dX8_through_7 : decode cX8_through 7 = .ok (.iload_n 3, 1) := by decide +kernel
theorem dX8_through_8 : decode cX8_through 8 = .ok (.invokestatic 231, 3) := by decide +kernel
theorem dX8_through_11 : decode cX8_through 11 = .ok (.ifCond .ne 9, 3) := by decide +kernel
theorem dX8_through_14 : decode cX8_through 14 = .ok (.aload_n 0, 1) := by decide +kernel
theorem dX8_through_15 : decode cX8_through 15 = .ok (.iconst 1, 1) := by decide +kernel
theorem dX8_through_16 : decode cX8_through 16 = .ok (.invokevirtual 92, 3) := by decide +kernel
theorem dX8_through_19 : decode cX8_through 19 = .ok (.ireturn, 1) := by decide +kernel
theorem dX8_through_20 : decode cX8_through 20 = .ok (.sipush 10000, 3) := by decide +kernel
theorem dX8_through_23 : decode cX8_through 23 = .ok (.istore 4, 2) := by decide +kernel
theorem dX8_through_25 : decode cX8_through 25 = .ok (.aload_n 0, 1) := by decide +kernel
theorem dX8_through_26 : decode cX8_through 26 = .ok (.invokevirtual 223, 3) := by decide +kernel
theorem dX8_through_29 : decode cX8_through 29 = .ok (.astore 5, 2) := by decide +kernel
theorem dX8_through_31 : decode cX8_through 31 = .ok (.aload 5, 2) := by decide +kernel
theorem dX8_through_33 : decode cX8_through 33 = .ok (.arraylength, 1) := by decide +kernel
theorem dX8_through_34 : decode cX8_through 34 = .ok (.iconst 1, 1) := by decide +kernel
theorem dX8_through_35 : decode cX8_through 35 = .ok (.isub, 1) := by decide +kernel
theorem dX8_through_36 : decode cX8_through 36 = .ok (.istore 6, 2) := by decide +kernel
theorem dX8_through_38 : decode cX8_through 38 = .ok (.iload 6, 2) := by decide +kernel
theorem dX8_through_40 : decode cX8_through 40 = .ok (.ifCond .lt 44, 3) := by decide +kernel
theorem dX8_through_43 : decode cX8_through 43 = .ok (.aload_n 0, 1) := by decide +kernel
theorem dX8_through_44 : decode cX8_through 44 = .ok (.aload 5, 2) := by decide +kernel
theorem dX8_through_46 : decode cX8_through 46 = .ok (.iload 6, 2) := by decide +kernel
theorem dX8_through_48 : decode cX8_through 48 = .ok (.iaload, 1) := by decide +kernel
theorem dX8_through_49 : decode cX8_through 49 = .ok (.iload_n 1, 1) := by decide +kernel
theorem dX8_through_50 : decode cX8_through 50 = .ok (.iload_n 2, 1) := by decide +kernel
theorem dX8_through_51 : decode cX8_through 51 = .ok (.iload_n 3, 1) := by decide +kernel
theorem dX8_through_52 : decode cX8_through 52 = .ok (.invokevirtual 234, 3) := by decide +kernel
theorem dX8_through_55 : decode cX8_through 55 = .ok (.ifCond .eq 23, 3) := by decide +kernel
theorem dX8_through_58 : decode cX8_through 58 = .ok (.iload 4, 2) := by decide +kernel
theorem dX8_through_60 : decode cX8_through 60 = .ok (.bipush 100, 2) := by decide +kernel
theorem dX8_through_62 : decode cX8_through 62 = .ok (.aload_n 0, 1) := by decide +kernel
theorem dX8_through_63 : decode cX8_through 63 = .ok (.aload 5, 2) := by decide +kernel
theorem dX8_through_65 : decode cX8_through 65 = .ok (.iload 6, 2) := by decide +kernel
theorem dX8_through_67 : decode cX8_through 67 = .ok (.iaload, 1) := by decide +kernel
theorem dX8_through_68 : decode cX8_through 68 = .ok (.invokevirtual 213, 3) := by decide +kernel
theorem dX8_through_71 : decode cX8_through 71 = .ok (.isub, 1) := by decide +kernel
theorem dX8_through_72 : decode cX8_through 72 = .ok (.imul, 1) := by decide +kernel
theorem dX8_through_73 : decode cX8_through 73 = .ok (.bipush 100, 2) := by decide +kernel
theorem dX8_through_75 : decode cX8_through 75 = .ok (.idiv, 1) := by decide +kernel
theorem dX8_through_76 : decode cX8_through 76 = .ok (.istore 4, 2) := by decide +kernel
theorem dX8_through_78 : decode cX8_through 78 = .ok (.iinc 6 (-1), 3) := by decide +kernel
theorem dX8_through_81 : decode cX8_through 81 = .ok (.goto (-43), 3) := by decide +kernel
theorem dX8_through_84 : decode cX8_through 84 = .ok (.iload 4, 2) := by decide +kernel
theorem dX8_through_86 : decode cX8_through 86 = .ok (.ireturn, 1) := by decide +kernel
theorem dX8_thrown_0 : decode cX8_thrown 0 = .ok (.aload_n 0, 1) := by decide +kernel
theorem dX8_thrown_1 : decode cX8_thrown 1 = .ok (.getfield 81, 3) := by decide +kernel
theorem dX8_thrown_4 : decode cX8_thrown 4 = .ok (.ireturn, 1) := by decide +kernel
theorem dX8_toWhole_0 : decode cX8_toWhole 0 = .ok (.aload_n 0, 1) := by decide +kernel
theorem dX8_toWhole_1 : decode cX8_toWhole 1 = .ok (.aload_n 0, 1) := by decide +kernel
theorem dX8_toWhole_2 : decode cX8_toWhole 2 = .ok (.aload_n 0, 1) := by decide +kernel
theorem dX8_toWhole_3 : decode cX8_toWhole 3 = .ok (.iload_n 1, 1) := by decide +kernel
theorem dX8_toWhole_4 : decode cX8_toWhole 4 = .ok (.invokevirtual 88, 3) := by decide +kernel
theorem dX8_toWhole_7 : decode cX8_toWhole 7 = .ok (.iload_n 2, 1) := by decide +kernel
theorem dX8_toWhole_8 : decode cX8_toWhole 8 = .ok (.iload_n 3, 1) := by decide +kernel
theorem dX8_toWhole_9 : decode cX8_toWhole 9 = .ok (.iload 4, 2) := by decide +kernel
theorem dX8_toWhole_11 : decode cX8_toWhole 11 = .ok (.invokevirtual 195, 3) := by decide +kernel
theorem dX8_toWhole_14 : decode cX8_toWhole 14 = .ok (.putfield 81, 3) := by decide +kernel
theorem dX8_toWhole_17 : decode cX8_toWhole 17 = .ok (.aload_n 0, 1) := by decide +kernel
theorem dX8_toWhole_18 : decode cX8_toWhole 18 = .ok (.getfield 81, 3) := by decide +kernel
theorem dX8_toWhole_21 : decode cX8_toWhole 21 = .ok (.ifCond .ne 15, 3) := by decide +kernel
theorem dX8_toWhole_24 : decode cX8_toWhole 24 = .ok (.aload_n 0, 1) := by decide +kernel
theorem dX8_toWhole_25 : decode cX8_toWhole 25 = .ok (.iload_n 1, 1) := by decide +kernel
theorem dX8_toWhole_26 : decode cX8_toWhole 26 = .ok (.iload_n 2, 1) := by decide +kernel
theorem dX8_toWhole_27 : decode cX8_toWhole 27 = .ok (.iload_n 3, 1) := by decide +kernel
theorem dX8_toWhole_28 : decode cX8_toWhole 28 = .ok (.iload 4, 2) := by decide +kernel
theorem dX8_toWhole_30 : decode cX8_toWhole 30 = .ok (.invokevirtual 199, 3) := by decide +kernel
theorem dX8_toWhole_33 : decode cX8_toWhole 33 = .ok (.goto 4, 3) := by decide +kernel
theorem dX8_toWhole_36 : decode cX8_toWhole 36 = .ok (.iconst 0, 1) := by decide +kernel
theorem dX8_toWhole_37 : decode cX8_toWhole 37 = .ok (.ireturn, 1) := by decide +kernel
theorem dX8_track_0 : decode cX8_track 0 = .ok (.aload_n 0, 1) := by decide +kernel
theorem dX8_track_1 : decode cX8_track 1 = .ok (.iconst 0, 1) := by decide +kernel
theorem dX8_track_2 : decode cX8_track 2 = .ok (.putfield 81, 3) := by decide +kernel
theorem dX8_track_5 : decode cX8_track 5 = .ok (.aload_n 0, 1) := by decide +kernel
theorem dX8_track_6 : decode cX8_track 6 = .ok (.iload_n 1, 1) := by decide +kernel
theorem dX8_track_7 : decode cX8_track 7 = .ok (.invokevirtual 88, 3) := by decide +kernel
theorem dX8_track_10 : decode cX8_track 10 = .ok (.ifCond .ne 9, 3) := by decide +kernel
theorem dX8_track_13 : decode cX8_track 13 = .ok (.aload_n 0, 1) := by decide +kernel
theorem dX8_track_14 : decode cX8_track 14 = .ok (.iconst 1, 1) := by decide +kernel
theorem dX8_track_15 : decode cX8_track 15 = .ok (.invokevirtual 92, 3) := by decide +kernel
theorem dX8_track_18 : decode cX8_track 18 = .ok (.ireturn, 1) := by decide +kernel
theorem dX8_track_19 : decode cX8_track 19 = .ok (.iload_n 2, 1) := by decide +kernel
theorem dX8_track_20 : decode cX8_track 20 = .ok (.iconst 0, 1) := by decide +kernel
theorem dX8_track_21 : decode cX8_track 21 = .ok (.iconst 3, 1) := by decide +kernel
theorem dX8_track_22 : decode cX8_track 22 = .ok (.invokestatic 84, 3) := by decide +kernel
theorem dX8_track_25 : decode cX8_track 25 = .ok (.ifCond .eq 22, 3) := by decide +kernel
theorem dX8_track_28 : decode cX8_track 28 = .ok (.iload_n 3, 1) := by decide +kernel
theorem dX8_track_29 : decode cX8_track 29 = .ok (.iconst 0, 1) := by decide +kernel
theorem dX8_track_30 : decode cX8_track 30 = .ok (.iconst 2, 1) := by decide +kernel
theorem dX8_track_31 : decode cX8_track 31 = .ok (.invokestatic 84, 3) := by decide +kernel
theorem dX8_track_34 : decode cX8_track 34 = .ok (.ifCond .eq 13, 3) := by decide +kernel
theorem dX8_track_37 : decode cX8_track 37 = .ok (.iload 4, 2) := by decide +kernel
theorem dX8_track_39 : decode cX8_track 39 = .ok (.iconst 0, 1) := by decide +kernel
theorem dX8_track_40 : decode cX8_track 40 = .ok (.iconst 2, 1) := by decide +kernel
theorem dX8_track_41 : decode cX8_track 41 = .ok (.invokestatic 84, 3) := by decide +kernel
theorem dX8_track_44 : decode cX8_track 44 = .ok (.ifCond .ne 9, 3) := by decide +kernel
theorem dX8_track_47 : decode cX8_track 47 = .ok (.aload_n 0, 1) := by decide +kernel
theorem dX8_track_48 : decode cX8_track 48 = .ok (.iconst 2, 1) := by decide +kernel
theorem dX8_track_49 : decode cX8_track 49 = .ok (.invokevirtual 92, 3) := by decide +kernel
theorem dX8_track_52 : decode cX8_track 52 = .ok (.ireturn, 1) := by decide +kernel
theorem dX8_track_53 : decode cX8_track 53 = .ok (.iload_n 1, 1) := by decide +kernel
theorem dX8_track_54 : decode cX8_track 54 = .ok (.ifCond .eq 22, 3) := by decide +kernel
theorem dX8_track_57 : decode cX8_track 57 = .ok (.aload_n 0, 1) := by decide +kernel
theorem dX8_track_58 : decode cX8_track 58 = .ok (.getfield 103, 3) := by decide +kernel
theorem dX8_track_61 : decode cX8_track 61 = .ok (.bipush 12, 2) := by decide +kernel
theorem dX8_track_63 : decode cX8_track 63 = .ok (.if_icmp .eq 13, 3) := by decide +kernel
theorem dX8_track_66 : decode cX8_track 66 = .ok (.aload_n 0, 1) := by decide +kernel
theorem dX8_track_67 : decode cX8_track 67 = .ok (.iload_n 1, 1) := by decide +kernel
theorem dX8_track_68 : decode cX8_track 68 = .ok (.iload_n 2, 1) := by decide +kernel
theorem dX8_track_69 : decode cX8_track 69 = .ok (.invokevirtual 135, 3) := by decide +kernel
theorem dX8_track_72 : decode cX8_track 72 = .ok (.iconst (-1), 1) := by decide +kernel
theorem dX8_track_73 : decode cX8_track 73 = .ok (.if_icmp .eq 9, 3) := by decide +kernel
theorem dX8_track_76 : decode cX8_track 76 = .ok (.aload_n 0, 1) := by decide +kernel
theorem dX8_track_77 : decode cX8_track 77 = .ok (.iconst 3, 1) := by decide +kernel
theorem dX8_track_78 : decode cX8_track 78 = .ok (.invokevirtual 92, 3) := by decide +kernel
theorem dX8_track_81 : decode cX8_track 81 = .ok (.ireturn, 1) := by decide +kernel
theorem dX8_track_82 : decode cX8_track 82 = .ok (.aload_n 0, 1) := by decide +kernel
theorem dX8_track_83 : decode cX8_track 83 = .ok (.getfield 60, 3) := by decide +kernel
theorem dX8_track_86 : decode cX8_track 86 = .ok (.aload_n 0, 1) := by decide +kernel
theorem dX8_track_87 : decode cX8_track 87 = .ok (.getfield 103, 3) := by decide +kernel
theorem dX8_track_90 : decode cX8_track 90 = .ok (.iload_n 1, 1) := by decide +kernel
theorem dX8_track_91 : decode cX8_track 91 = .ok (.iastore, 1) := by decide +kernel
theorem dX8_track_92 : decode cX8_track 92 = .ok (.aload_n 0, 1) := by decide +kernel
theorem dX8_track_93 : decode cX8_track 93 = .ok (.getfield 63, 3) := by decide +kernel
theorem dX8_track_96 : decode cX8_track 96 = .ok (.aload_n 0, 1) := by decide +kernel
theorem dX8_track_97 : decode cX8_track 97 = .ok (.getfield 103, 3) := by decide +kernel
theorem dX8_track_100 : decode cX8_track 100 = .ok (.iload_n 2, 1) := by decide +kernel
theorem dX8_track_101 : decode cX8_track 101 = .ok (.iastore, 1) := by decide +kernel
theorem dX8_track_102 : decode cX8_track 102 = .ok (.aload_n 0, 1) := by decide +kernel
theorem dX8_track_103 : decode cX8_track 103 = .ok (.getfield 66, 3) := by decide +kernel
theorem dX8_track_106 : decode cX8_track 106 = .ok (.aload_n 0, 1) := by decide +kernel
theorem dX8_track_107 : decode cX8_track 107 = .ok (.getfield 103, 3) := by decide +kernel
theorem dX8_track_110 : decode cX8_track 110 = .ok (.iload_n 3, 1) := by decide +kernel
theorem dX8_track_111 : decode cX8_track 111 = .ok (.iastore, 1) := by decide +kernel
theorem dX8_track_112 : decode cX8_track 112 = .ok (.aload_n 0, 1) := by decide +kernel
theorem dX8_track_113 : decode cX8_track 113 = .ok (.getfield 69, 3) := by decide +kernel
theorem dX8_track_116 : decode cX8_track 116 = .ok (.aload_n 0, 1) := by decide +kernel
theorem dX8_track_117 : decode cX8_track 117 = .ok (.getfield 103, 3) := by decide +kernel
theorem dX8_track_120 : decode cX8_track 120 = .ok (.iload 4, 2) := by decide +kernel
theorem dX8_track_122 : decode cX8_track 122 = .ok (.iastore, 1) := by decide +kernel
theorem dX8_track_123 : decode cX8_track 123 = .ok (.aload_n 0, 1) := by decide +kernel
theorem dX8_track_124 : decode cX8_track 124 = .ok (.dup, 1) := by decide +kernel
theorem dX8_track_125 : decode cX8_track 125 = .ok (.getfield 103, 3) := by decide +kernel
theorem dX8_track_128 : decode cX8_track 128 = .ok (.dup_x1, 1) := by decide +kernel
theorem dX8_track_129 : decode cX8_track 129 = .ok (.iconst 1, 1) := by decide +kernel
theorem dX8_track_130 : decode cX8_track 130 = .ok (.iadd, 1) := by decide +kernel
theorem dX8_track_131 : decode cX8_track 131 = .ok (.putfield 103, 3) := by decide +kernel
theorem dX8_track_134 : decode cX8_track 134 = .ok (.ireturn, 1) := by decide +kernel
theorem dX8_tracks_0 : decode cX8_tracks 0 = .ok (.aload_n 0, 1) := by decide +kernel
theorem dX8_tracks_1 : decode cX8_tracks 1 = .ok (.aload_n 0, 1) := by decide +kernel
theorem dX8_tracks_2 : decode cX8_tracks 2 = .ok (.getfield 103, 3) := by decide +kernel
theorem dX8_tracks_5 : decode cX8_tracks 5 = .ok (.invokevirtual 128, 3) := by decide +kernel
theorem dX8_tracks_8 : decode cX8_tracks 8 = .ok (.ireturn, 1) := by decide +kernel
theorem dX8_turn_0 : decode cX8_turn 0 = .ok (.aload_n 0, 1) := by decide +kernel
theorem dX8_turn_1 : decode cX8_turn 1 = .ok (.aload_n 0, 1) := by decide +kernel
theorem dX8_turn_2 : decode cX8_turn 2 = .ok (.iload_n 1, 1) := by decide +kernel
theorem dX8_turn_3 : decode cX8_turn 3 = .ok (.iload_n 2, 1) := by decide +kernel
theorem dX8_turn_4 : decode cX8_turn 4 = .ok (.iconst 0, 1) := by decide +kernel
theorem dX8_turn_5 : decode cX8_turn 5 = .ok (.iconst 3, 1) := by decide +kernel
theorem dX8_turn_6 : decode cX8_turn 6 = .ok (.invokestatic 84, 3) := by decide +kernel
theorem dX8_turn_9 : decode cX8_turn 9 = .ok (.invokevirtual 115, 3) := by decide +kernel
theorem dX8_turn_12 : decode cX8_turn 12 = .ok (.putfield 81, 3) := by decide +kernel
theorem dX8_turn_15 : decode cX8_turn 15 = .ok (.aload_n 0, 1) := by decide +kernel
theorem dX8_turn_16 : decode cX8_turn 16 = .ok (.getfield 81, 3) := by decide +kernel
theorem dX8_turn_19 : decode cX8_turn 19 = .ok (.ifCond .eq 5, 3) := by decide +kernel
theorem dX8_turn_22 : decode cX8_turn 22 = .ok (.iconst 0, 1) := by decide +kernel
theorem dX8_turn_23 : decode cX8_turn 23 = .ok (.ireturn, 1) := by decide +kernel
theorem dX8_turn_24 : decode cX8_turn 24 = .ok (.aload_n 0, 1) := by decide +kernel
theorem dX8_turn_25 : decode cX8_turn 25 = .ok (.getfield 51, 3) := by decide +kernel
theorem dX8_turn_28 : decode cX8_turn 28 = .ok (.iload_n 1, 1) := by decide +kernel
theorem dX8_turn_29 : decode cX8_turn 29 = .ok (.iconst 4, 1) := by decide +kernel
theorem dX8_turn_30 : decode cX8_turn 30 = .ok (.imul, 1) := by decide +kernel
theorem dX8_turn_31 : decode cX8_turn 31 = .ok (.iconst 2, 1) := by decide +kernel
theorem dX8_turn_32 : decode cX8_turn 32 = .ok (.iadd, 1) := by decide +kernel
theorem dX8_turn_33 : decode cX8_turn 33 = .ok (.iaload, 1) := by decide +kernel
theorem dX8_turn_34 : decode cX8_turn 34 = .ok (.istore 4, 2) := by decide +kernel
theorem dX8_turn_36 : decode cX8_turn 36 = .ok (.aload_n 0, 1) := by decide +kernel
theorem dX8_turn_37 : decode cX8_turn 37 = .ok (.getfield 51, 3) := by decide +kernel
theorem dX8_turn_40 : decode cX8_turn 40 = .ok (.iload_n 1, 1) := by decide +kernel
theorem dX8_turn_41 : decode cX8_turn 41 = .ok (.iconst 4, 1) := by decide +kernel
theorem dX8_turn_42 : decode cX8_turn 42 = .ok (.imul, 1) := by decide +kernel
theorem dX8_turn_43 : decode cX8_turn 43 = .ok (.iconst 2, 1) := by decide +kernel
theorem dX8_turn_44 : decode cX8_turn 44 = .ok (.iadd, 1) := by decide +kernel
theorem dX8_turn_45 : decode cX8_turn 45 = .ok (.iload_n 2, 1) := by decide +kernel
theorem dX8_turn_46 : decode cX8_turn 46 = .ok (.iastore, 1) := by decide +kernel
theorem dX8_turn_47 : decode cX8_turn 47 = .ok (.aload_n 0, 1) := by decide +kernel
theorem dX8_turn_48 : decode cX8_turn 48 = .ok (.getfield 17, 3) := by decide +kernel
theorem dX8_turn_51 : decode cX8_turn 51 = .ok (.iload_n 1, 1) := by decide +kernel
theorem dX8_turn_52 : decode cX8_turn 52 = .ok (.iload_n 3, 1) := by decide +kernel
theorem dX8_turn_53 : decode cX8_turn 53 = .ok (.bastore, 1) := by decide +kernel
theorem dX8_turn_54 : decode cX8_turn 54 = .ok (.iload 4, 2) := by decide +kernel
theorem dX8_turn_56 : decode cX8_turn 56 = .ok (.ireturn, 1) := by decide +kernel
theorem dX8_isNot_0 : decode cX8_isNot 0 = .ok (.aload_n 0, 1) := by decide +kernel
theorem dX8_isNot_1 : decode cX8_isNot 1 = .ok (.iload_n 1, 1) := by decide +kernel
theorem dX8_isNot_2 : decode cX8_isNot 2 = .ok (.putfield 81, 3) := by decide +kernel
theorem dX8_isNot_5 : decode cX8_isNot 5 = .ok (.iconst 0, 1) := by decide +kernel
theorem dX8_isNot_6 : decode cX8_isNot 6 = .ok (.ireturn, 1) := by decide +kernel
theorem dX8_uncut_0 : decode cX8_uncut 0 = .ok (.aload_n 0, 1) := by decide +kernel
theorem dX8_uncut_1 : decode cX8_uncut 1 = .ok (.iconst 0, 1) := by decide +kernel
theorem dX8_uncut_2 : decode cX8_uncut 2 = .ok (.putfield 81, 3) := by decide +kernel
theorem dX8_uncut_5 : decode cX8_uncut 5 = .ok (.aload_n 0, 1) := by decide +kernel
theorem dX8_uncut_6 : decode cX8_uncut 6 = .ok (.iload_n 1, 1) := by decide +kernel
theorem dX8_uncut_7 : decode cX8_uncut 7 = .ok (.invokevirtual 88, 3) := by decide +kernel
theorem dX8_uncut_10 : decode cX8_uncut 10 = .ok (.ifCond .ne 9, 3) := by decide +kernel
theorem dX8_uncut_13 : decode cX8_uncut 13 = .ok (.aload_n 0, 1) := by decide +kernel
theorem dX8_uncut_14 : decode cX8_uncut 14 = .ok (.iconst 1, 1) := by decide +kernel
theorem dX8_uncut_15 : decode cX8_uncut 15 = .ok (.invokevirtual 125, 3) := by decide +kernel
theorem dX8_uncut_18 : decode cX8_uncut 18 = .ok (.ireturn, 1) := by decide +kernel
theorem dX8_uncut_19 : decode cX8_uncut 19 = .ok (.aload_n 0, 1) := by decide +kernel
theorem dX8_uncut_20 : decode cX8_uncut 20 = .ok (.getfield 23, 3) := by decide +kernel
theorem dX8_uncut_23 : decode cX8_uncut 23 = .ok (.iload_n 1, 1) := by decide +kernel
theorem dX8_uncut_24 : decode cX8_uncut 24 = .ok (.baload, 1) := by decide +kernel
theorem dX8_uncut_25 : decode cX8_uncut 25 = .ok (.istore_n 2, 1) := by decide +kernel
theorem dX8_uncut_26 : decode cX8_uncut 26 = .ok (.aload_n 0, 1) := by decide +kernel
theorem dX8_uncut_27 : decode cX8_uncut 27 = .ok (.getfield 23, 3) := by decide +kernel
theorem dX8_uncut_30 : decode cX8_uncut 30 = .ok (.iload_n 1, 1) := by decide +kernel
theorem dX8_uncut_31 : decode cX8_uncut 31 = .ok (.iconst 0, 1) := by decide +kernel
theorem dX8_uncut_32 : decode cX8_uncut 32 = .ok (.bastore, 1) := by decide +kernel
theorem dX8_uncut_33 : decode cX8_uncut 33 = .ok (.iload_n 2, 1) := by decide +kernel
theorem dX8_uncut_34 : decode cX8_uncut 34 = .ok (.ireturn, 1) := by decide +kernel
theorem dX8_unkey_0 : decode cX8_unkey 0 = .ok (.aload_n 0, 1) := by decide +kernel
theorem dX8_unkey_1 : decode cX8_unkey 1 = .ok (.iconst 0, 1) := by decide +kernel
theorem dX8_unkey_2 : decode cX8_unkey 2 = .ok (.putfield 81, 3) := by decide +kernel
theorem dX8_unkey_5 : decode cX8_unkey 5 = .ok (.aload_n 0, 1) := by decide +kernel
theorem dX8_unkey_6 : decode cX8_unkey 6 = .ok (.iload_n 1, 1) := by decide +kernel
theorem dX8_unkey_7 : decode cX8_unkey 7 = .ok (.invokevirtual 141, 3) := by decide +kernel
theorem dX8_unkey_10 : decode cX8_unkey 10 = .ok (.ifCond .ne 9, 3) := by decide +kernel
theorem dX8_unkey_13 : decode cX8_unkey 13 = .ok (.aload_n 0, 1) := by decide +kernel
theorem dX8_unkey_14 : decode cX8_unkey 14 = .ok (.iconst 1, 1) := by decide +kernel
theorem dX8_unkey_15 : decode cX8_unkey 15 = .ok (.invokevirtual 92, 3) := by decide +kernel
theorem dX8_unkey_18 : decode cX8_unkey 18 = .ok (.ireturn, 1) := by decide +kernel
theorem dX8_unkey_19 : decode cX8_unkey 19 = .ok (.aload_n 0, 1) := by decide +kernel
theorem dX8_unkey_20 : decode cX8_unkey 20 = .ok (.iload_n 1, 1) := by decide +kernel
theorem dX8_unkey_21 : decode cX8_unkey 21 = .ok (.iload_n 2, 1) := by decide +kernel
theorem dX8_unkey_22 : decode cX8_unkey 22 = .ok (.invokevirtual 147, 3) := by decide +kernel
theorem dX8_unkey_25 : decode cX8_unkey 25 = .ok (.ifCond .ne 9, 3) := by decide +kernel
theorem dX8_unkey_28 : decode cX8_unkey 28 = .ok (.aload_n 0, 1) := by decide +kernel
theorem dX8_unkey_29 : decode cX8_unkey 29 = .ok (.iconst 2, 1) := by decide +kernel
theorem dX8_unkey_30 : decode cX8_unkey 30 = .ok (.invokevirtual 92, 3) := by decide +kernel
theorem dX8_unkey_33 : decode cX8_unkey 33 = .ok (.ireturn, 1) := by decide +kernel
theorem dX8_unkey_34 : decode cX8_unkey 34 = .ok (.aload_n 0, 1) := by decide +kernel
theorem dX8_unkey_35 : decode cX8_unkey 35 = .ok (.iload_n 1, 1) := by decide +kernel
theorem dX8_unkey_36 : decode cX8_unkey 36 = .ok (.iload_n 2, 1) := by decide +kernel
theorem dX8_unkey_37 : decode cX8_unkey 37 = .ok (.invokevirtual 138, 3) := by decide +kernel
theorem dX8_unkey_40 : decode cX8_unkey 40 = .ok (.istore_n 3, 1) := by decide +kernel
theorem dX8_unkey_41 : decode cX8_unkey 41 = .ok (.iload_n 1, 1) := by decide +kernel
theorem dX8_unkey_42 : decode cX8_unkey 42 = .ok (.bipush 8, 2) := by decide +kernel
theorem dX8_unkey_44 : decode cX8_unkey 44 = .ok (.imul, 1) := by decide +kernel
theorem dX8_unkey_45 : decode cX8_unkey 45 = .ok (.iload_n 3, 1) := by decide +kernel
theorem dX8_unkey_46 : decode cX8_unkey 46 = .ok (.iadd, 1) := by decide +kernel
theorem dX8_unkey_47 : decode cX8_unkey 47 = .ok (.istore 4, 2) := by decide +kernel
theorem dX8_unkey_49 : decode cX8_unkey 49 = .ok (.aload_n 0, 1) := by decide +kernel
theorem dX8_unkey_50 : decode cX8_unkey 50 = .ok (.getfield 78, 3) := by decide +kernel
theorem dX8_unkey_53 : decode cX8_unkey 53 = .ok (.iload 4, 2) := by decide +kernel
theorem dX8_unkey_55 : decode cX8_unkey 55 = .ok (.iaload, 1) := by decide +kernel
theorem dX8_unkey_56 : decode cX8_unkey 56 = .ok (.istore 5, 2) := by decide +kernel
theorem dX8_unkey_58 : decode cX8_unkey 58 = .ok (.aload_n 0, 1) := by decide +kernel
theorem dX8_unkey_59 : decode cX8_unkey 59 = .ok (.getfield 72, 3) := by decide +kernel
theorem dX8_unkey_62 : decode cX8_unkey 62 = .ok (.iload_n 1, 1) := by decide +kernel
theorem dX8_unkey_63 : decode cX8_unkey 63 = .ok (.dup2, 1) := by decide +kernel
theorem dX8_unkey_64 : decode cX8_unkey 64 = .ok (.iaload, 1) := by decide +kernel
theorem dX8_unkey_65 : decode cX8_unkey 65 = .ok (.iconst 1, 1) := by decide +kernel
theorem dX8_unkey_66 : decode cX8_unkey 66 = .ok (.isub, 1) := by decide +kernel
theorem dX8_unkey_67 : decode cX8_unkey 67 = .ok (.iastore, 1) := by decide +kernel
theorem dX8_unkey_68 : decode cX8_unkey 68 = .ok (.aload_n 0, 1) := by decide +kernel
theorem dX8_unkey_69 : decode cX8_unkey 69 = .ok (.getfield 75, 3) := by decide +kernel
theorem dX8_unkey_72 : decode cX8_unkey 72 = .ok (.iload 4, 2) := by decide +kernel
theorem dX8_unkey_74 : decode cX8_unkey 74 = .ok (.iconst 1, 1) := by decide +kernel
theorem dX8_unkey_75 : decode cX8_unkey 75 = .ok (.iadd, 1) := by decide +kernel
theorem dX8_unkey_76 : decode cX8_unkey 76 = .ok (.aload_n 0, 1) := by decide +kernel
theorem dX8_unkey_77 : decode cX8_unkey 77 = .ok (.getfield 75, 3) := by decide +kernel
theorem dX8_unkey_80 : decode cX8_unkey 80 = .ok (.iload 4, 2) := by decide +kernel
theorem dX8_unkey_82 : decode cX8_unkey 82 = .ok (.aload_n 0, 1) := by decide +kernel
theorem dX8_unkey_83 : decode cX8_unkey 83 = .ok (.getfield 72, 3) := by decide +kernel
theorem dX8_unkey_86 : decode cX8_unkey 86 = .ok (.iload_n 1, 1) := by decide +kernel
theorem dX8_unkey_87 : decode cX8_unkey 87 = .ok (.iaload, 1) := by decide +kernel
theorem dX8_unkey_88 : decode cX8_unkey 88 = .ok (.iload_n 3, 1) := by decide +kernel
theorem dX8_unkey_89 : decode cX8_unkey 89 = .ok (.isub, 1) := by decide +kernel
theorem dX8_unkey_90 : decode cX8_unkey 90 = .ok (.invokestatic 119, 3) := by decide +kernel
theorem dX8_unkey_93 : decode cX8_unkey 93 = .ok (.aload_n 0, 1) := by decide +kernel
theorem dX8_unkey_94 : decode cX8_unkey 94 = .ok (.getfield 78, 3) := by decide +kernel
theorem dX8_unkey_97 : decode cX8_unkey 97 = .ok (.iload 4, 2) := by decide +kernel
theorem dX8_unkey_99 : decode cX8_unkey 99 = .ok (.iconst 1, 1) := by decide +kernel
theorem dX8_unkey_100 : decode cX8_unkey 100 = .ok (.iadd, 1) := by decide +kernel
theorem dX8_unkey_101 : decode cX8_unkey 101 = .ok (.aload_n 0, 1) := by decide +kernel
theorem dX8_unkey_102 : decode cX8_unkey 102 = .ok (.getfield 78, 3) := by decide +kernel
theorem dX8_unkey_105 : decode cX8_unkey 105 = .ok (.iload 4, 2) := by decide +kernel
theorem dX8_unkey_107 : decode cX8_unkey 107 = .ok (.aload_n 0, 1) := by decide +kernel
theorem dX8_unkey_108 : decode cX8_unkey 108 = .ok (.getfield 72, 3) := by decide +kernel
theorem dX8_unkey_111 : decode cX8_unkey 111 = .ok (.iload_n 1, 1) := by decide +kernel
theorem dX8_unkey_112 : decode cX8_unkey 112 = .ok (.iaload, 1) := by decide +kernel
theorem dX8_unkey_113 : decode cX8_unkey 113 = .ok (.iload_n 3, 1) := by decide +kernel
theorem dX8_unkey_114 : decode cX8_unkey 114 = .ok (.isub, 1) := by decide +kernel
theorem dX8_unkey_115 : decode cX8_unkey 115 = .ok (.invokestatic 119, 3) := by decide +kernel
theorem dX8_unkey_118 : decode cX8_unkey 118 = .ok (.iload 5, 2) := by decide +kernel
theorem dX8_unkey_120 : decode cX8_unkey 120 = .ok (.ireturn, 1) := by decide +kernel
noncomputable def f_X8_now_L42 (s0 : Int32) (h : fSt) : Option (Int32 × fSt) := some (s0, h)
noncomputable def f_X8_now_L0 (a0 : Option Nat) (a1 : Int32) (a2 : Int32) (h : fSt) : Option (Int32 × fSt) := (fput h a0 8 0 (.int (0 : Int32))).bind fun h1 => (fobj h1 a0 8).bind fun b5 => (f_X8_isNode b5 a1 h1).bind fun r3 => (if r3.1 = 0 then (fobj r3.2 a0 8).bind fun b21 => (f_X8_no b21 (1 : Int32) r3.2).bind fun r19 => some (r19.1, r19.2) else (f_X8_isIn a2 (0 : Int32) (3 : Int32) r3.2).bind fun r8 => (if r8.1 = 0 then (fobj r8.2 a0 8).bind fun b13 => (f_X8_no b13 (2 : Int32) r8.2).bind fun r11 => f_X8_now_L42 r11.1 r11.2 else (fobj r8.2 a0 8).bind fun b17 => (f_X8_has b17 a1 a2 r8.2).bind fun r15 => f_X8_now_L42 r15.1 r15.2))
noncomputable def f_X8_now (o : Nat) (p0 : Int32) (p1 : Int32) (h : fSt) : Option (Int32 × fSt) := f_X8_now_L0 (some o) p0 p1 h
noncomputable def f_X8_orderAt_L33 (s0 : Int32) (h : fSt) : Option (Int32 × fSt) := some (s0, h)
noncomputable def f_X8_orderAt_L0 (a0 : Option Nat) (a1 : Int32) (h : fSt) : Option (Int32 × fSt) := (fput h a0 8 0 (.int (0 : Int32))).bind fun h1 => (fobj h1 a0 8).bind fun b5 => (f_X8_nodesNow b5 h1).bind fun r3 => (f_X8_isIn a1 (0 : Int32) (r3.1 - (1 : Int32)) r3.2).bind fun r7 => (if r7.1 = 0 then (fobj r7.2 a0 8).bind fun b12 => (f_X8_no b12 (1 : Int32) r7.2).bind fun r10 => f_X8_orderAt_L33 r10.1 r10.2 else (fobj r7.2 a0 8).bind fun b16 => (f_X8_ordered b16 r7.2).bind fun r14 => (faI r14.2 r14.1 0 a1).bind fun x18 => f_X8_orderAt_L33 x18 r14.2)
noncomputable def f_X8_orderAt (o : Nat) (p0 : Int32) (h : fSt) : Option (Int32 × fSt) := f_X8_orderAt_L0 (some o) p0 h
noncomputable def f_X8_parent_L27 (s0 : Int32) (h : fSt) : Option (Int32 × fSt) := some (s0, h)
noncomputable def f_X8_parent_L0 (a0 : Option Nat) (a1 : Int32) (h : fSt) : Option (Int32 × fSt) := (fput h a0 8 0 (.int (0 : Int32))).bind fun h1 => (fobj h1 a0 8).bind fun b5 => (f_X8_isNode b5 a1 h1).bind fun r3 => (if r3.1 = 0 then (fobj r3.2 a0 8).bind fun b10 => (f_X8_no b10 (1 : Int32) r3.2).bind fun r8 => f_X8_parent_L27 r8.1 r8.2 else (fgR r3.2 a0 8 6).bind fun x12 => (faI r3.2 x12 0 a1).bind fun x14 => f_X8_parent_L27 x14 r3.2)
noncomputable def f_X8_parent (o : Nat) (p0 : Int32) (h : fSt) : Option (Int32 × fSt) := f_X8_parent_L0 (some o) p0 h
noncomputable def f_X8_pick_L29 (s0 : Int32) (h : fSt) : Option (Int32 × fSt) := some (s0, h)
noncomputable def f_X8_pick_L0 (a0 : Option Nat) (a1 : Int32) (a2 : Int32) (a3 : Int32) (h : fSt) : Option (Int32 × fSt) := (fput h a0 8 0 (.int (0 : Int32))).bind fun h1 => (f_X8_isPoint a1 a2 a3 h1).bind fun r3 => (if r3.1 = 0 then (fobj r3.2 a0 8).bind fun b8 => (f_X8_no b8 (1 : Int32) r3.2).bind fun r6 => f_X8_pick_L29 r6.1 r6.2 else (fobj r3.2 a0 8).bind fun b12 => (f_X8_pickNow b12 a1 a2 a3 r3.2).bind fun r10 => f_X8_pick_L29 r10.1 r10.2)
noncomputable def f_X8_pick (o : Nat) (p0 : Int32) (p1 : Int32) (p2 : Int32) (h : fSt) : Option (Int32 × fSt) := f_X8_pick_L0 (some o) p0 p1 p2 h
noncomputable def f_X8_pickWithout_L0 (a0 : Option Nat) (a1 : Int32) (a2 : Int32) (a3 : Int32) (a4 : Int32) (h : fSt) : Option (Int32 × fSt) := (fput h a0 8 0 (.int (0 : Int32))).bind fun h1 => (fobj h1 a0 8).bind fun b5 => (f_X8_isNode b5 a1 h1).bind fun r3 => (if r3.1 = 0 then (fobj r3.2 a0 8).bind fun b33 => (f_X8_no b33 (1 : Int32) r3.2).bind fun r31 => some (r31.1, r31.2) else (f_X8_isPoint a2 a3 a4 r3.2).bind fun r8 => (if r8.1 = 0 then (fobj r8.2 a0 8).bind fun b29 => (f_X8_no b29 (2 : Int32) r8.2).bind fun r27 => some (r27.1, r27.2) else (fgR r8.2 a0 8 4).bind fun x11 => (faI r8.2 x11 2 a1).bind fun x13 => (fgR r8.2 a0 8 4).bind fun x15 => (fsI r8.2 x15 2 a1 (vp_nar .boolean (1 : Int32))).bind fun h17 => (fobj h17 a0 8).bind fun b21 => (f_X8_pickNow b21 a2 a3 a4 h17).bind fun r19 => (fgR r19.2 a0 8 4).bind fun x23 => (fsI r19.2 x23 2 a1 (vp_nar .boolean x13)).bind fun h25 => some (r19.1, h25)))
noncomputable def f_X8_pickWithout (o : Nat) (p0 : Int32) (p1 : Int32) (p2 : Int32) (p3 : Int32) (h : fSt) : Option (Int32 × fSt) := f_X8_pickWithout_L0 (some o) p0 p1 p2 p3 h
noncomputable def f_X8_placeOf_L29 (s0 : Int32) (h : fSt) : Option (Int32 × fSt) := some (s0, h)
noncomputable def f_X8_placeOf_L0 (a0 : Option Nat) (a1 : Int32) (h : fSt) : Option (Int32 × fSt) := (fput h a0 8 0 (.int (0 : Int32))).bind fun h1 => (fobj h1 a0 8).bind fun b5 => (f_X8_isNode b5 a1 h1).bind fun r3 => (if r3.1 = 0 then (fobj r3.2 a0 8).bind fun b10 => (f_X8_no b10 (1 : Int32) r3.2).bind fun r8 => f_X8_placeOf_L29 r8.1 r8.2 else (fobj r3.2 a0 8).bind fun b14 => (f_X8_ordered b14 r3.2).bind fun r12 => (f_X8_placeIn r12.1 a1 r12.2).bind fun r16 => f_X8_placeOf_L29 r16.1 r16.2)
noncomputable def f_X8_placeOf (o : Nat) (p0 : Int32) (h : fSt) : Option (Int32 × fSt) := f_X8_placeOf_L0 (some o) p0 h
noncomputable def f_X8_remove_L109 (k33 : Option Nat → Int32 → Int32 → Int32 → fSt → Option (Int32 × fSt)) (a0 : Option Nat) (a1 : Int32) (a2 : Int32) (a3 : Int32) (h : fSt) : Option (Int32 × fSt) := k33 a0 a1 a2 (a3 + (1 : Int32)) h
noncomputable def f_X8_remove_L103 (k33 : Option Nat → Int32 → Int32 → Int32 → fSt → Option (Int32 × fSt)) (k75 : Option Nat → Int32 → Int32 → Int32 → Int32 → fSt → Option (Int32 × fSt)) (a0 : Option Nat) (a1 : Int32) (a2 : Int32) (a3 : Int32) (a4 : Int32) (h : fSt) : Option (Int32 × fSt) := k75 a0 a1 a2 a3 (a4 + (1 : Int32)) h
noncomputable def f_X8_remove_L75 (k33 : Option Nat → Int32 → Int32 → Int32 → fSt → Option (Int32 × fSt)) (n : Nat) : Option Nat → Int32 → Int32 → Int32 → Int32 → fSt → Option (Int32 × fSt) := Nat.rec (motive := fun _ => Option Nat → Int32 → Int32 → Int32 → Int32 → fSt → Option (Int32 × fSt)) (fun _ _ _ _ _ _ => none) (fun _ k75 (a0 : Option Nat) (a1 : Int32) (a2 : Int32) (a3 : Int32) (a4 : Int32) (h : fSt) => (fgI h a0 8 17).bind fun x1 => (if x1 ≤ a4 then f_X8_remove_L109 k33 a0 a1 a2 a3 h else (fgR h a0 8 18).bind fun x4 => (faI h x4 0 a4).bind fun x6 => (if x6 = a3 then (fgR h a0 8 22).bind fun x9 => (fsI h x9 0 a4 (0 : Int32)).bind fun h11 => f_X8_remove_L103 k33 k75 a0 a1 a2 a3 a4 h11 else f_X8_remove_L103 k33 k75 a0 a1 a2 a3 a4 h))) n
noncomputable def f_X8_remove_L33 (n : Nat) : Option Nat → Int32 → Int32 → Int32 → fSt → Option (Int32 × fSt) := Nat.rec (motive := fun _ => Option Nat → Int32 → Int32 → Int32 → fSt → Option (Int32 × fSt)) (fun _ _ _ _ _ => none) (fun _ k33 (a0 : Option Nat) (a1 : Int32) (a2 : Int32) (a3 : Int32) (h : fSt) => (fgI h a0 8 1).bind fun x13 => (if x13 ≤ a3 then some (a2, h) else (fgR h a0 8 2).bind fun x16 => (faI h x16 2 a3).bind fun x18 => (if x18 = 0 then (fobj h a0 8).bind fun b23 => (f_X8_isWithin b23 a3 a1 h).bind fun r21 => (if r21.1 = 0 then f_X8_remove_L109 k33 a0 a1 a2 a3 r21.2 else (fgR r21.2 a0 8 2).bind fun x26 => (fsI r21.2 x26 2 a3 (vp_nar .boolean (1 : Int32))).bind fun h28 => f_X8_remove_L75 k33 4096 a0 a1 (a2 + (1 : Int32)) a3 (0 : Int32) h28) else f_X8_remove_L109 k33 a0 a1 a2 a3 h))) n
noncomputable def f_X8_remove_L0 (a0 : Option Nat) (a1 : Int32) (h : fSt) : Option (Int32 × fSt) := (fput h a0 8 0 (.int (0 : Int32))).bind fun h30 => (fobj h30 a0 8).bind fun b34 => (f_X8_isNode b34 a1 h30).bind fun r32 => (if r32.1 = 0 then (fobj r32.2 a0 8).bind fun b44 => (f_X8_no b44 (1 : Int32) r32.2).bind fun r42 => some (r42.1, r42.2) else (if a1 = 0 then (fobj r32.2 a0 8).bind fun b40 => (f_X8_no b40 (2 : Int32) r32.2).bind fun r38 => some (r38.1, r38.2) else f_X8_remove_L33 4096 a0 a1 (0 : Int32) (1 : Int32) r32.2))
noncomputable def f_X8_remove (o : Nat) (p0 : Int32) (h : fSt) : Option (Int32 × fSt) := f_X8_remove_L0 (some o) p0 h
noncomputable def f_X8_scale_L26 (a0 : Option Nat) (a1 : Int32) (a2 : Int32) (a3 : Int32) (s3 : Int32) (s2 : Int32) (s1 : Option Nat) (s0 : Option Nat) (h : fSt) : Option (Int32 × fSt) := (fobj h s1 8).bind fun b3 => (f_X8_refusal b3 s2 s3 h).bind fun r1 => (fput r1.2 s0 8 0 (.int r1.1)).bind fun h5 => (fgI h5 a0 8 0).bind fun x7 => (if x7 = 0 then (fgR h5 a0 8 10).bind fun x10 => (faI h5 x10 0 a1).bind fun x12 => (fgR h5 a0 8 11).bind fun x14 => (faI h5 x14 0 a1).bind fun x16 => (fgR h5 a0 8 10).bind fun x18 => (fsI h5 x18 0 a1 a2).bind fun h20 => (fgR h20 a0 8 11).bind fun x22 => (fsI h20 x22 0 a1 a3).bind fun h24 => some (((x12 * (10 : Int32)) + x16), h24) else some ((0 : Int32), h5))
noncomputable def f_X8_scale_L25 (a0 : Option Nat) (a1 : Int32) (a2 : Int32) (a3 : Int32) (s2 : Int32) (s1 : Option Nat) (s0 : Option Nat) (h : fSt) : Option (Int32 × fSt) := f_X8_scale_L26 a0 a1 a2 a3 (0 : Int32) s2 s1 s0 h
noncomputable def f_X8_scale_L0 (a0 : Option Nat) (a1 : Int32) (a2 : Int32) (a3 : Int32) (h : fSt) : Option (Int32 × fSt) := (f_X8_isIn a2 (1 : Int32) (4 : Int32) h).bind fun r26 => (if r26.1 = 0 then f_X8_scale_L25 a0 a1 a2 a3 a1 a0 a0 r26.2 else (f_X8_isIn a3 (1 : Int32) (4 : Int32) r26.2).bind fun r29 => (if r29.1 = 0 then f_X8_scale_L25 a0 a1 a2 a3 a1 a0 a0 r29.2 else f_X8_scale_L26 a0 a1 a2 a3 (1 : Int32) a1 a0 a0 r29.2))
noncomputable def f_X8_scale (o : Nat) (p0 : Int32) (p1 : Int32) (p2 : Int32) (h : fSt) : Option (Int32 × fSt) := f_X8_scale_L0 (some o) p0 p1 p2 h
noncomputable def f_X8_setTime_L0 (a0 : Option Nat) (a1 : Int32) (h : fSt) : Option (Int32 × fSt) := (fput h a0 8 0 (.int (0 : Int32))).bind fun h1 => (f_X8_isIn a1 (0 : Int32) (9999 : Int32) h1).bind fun r3 => (if r3.1 = 0 then (fobj r3.2 a0 8).bind fun b12 => (f_X8_no b12 (1 : Int32) r3.2).bind fun r10 => some (r10.1, r10.2) else (fgI r3.2 a0 8 25).bind fun x6 => (fput r3.2 a0 8 25 (.int a1)).bind fun h8 => some (x6, h8))
noncomputable def f_X8_setTime (o : Nat) (p0 : Int32) (h : fSt) : Option (Int32 × fSt) := f_X8_setTime_L0 (some o) p0 h
noncomputable def f_X8_size_L33 (n : Nat) : Option Nat → Int32 → Int32 → Int32 → fSt → Option (UInt64 × fSt) := Nat.rec (motive := fun _ => Option Nat → Int32 → Int32 → Int32 → fSt → Option (UInt64 × fSt)) (fun _ _ _ _ _ => none) (fun _ k33 (a0 : Option Nat) (a2 : Int32) (a3 : Int32) (a4 : Int32) (h : fSt) => (if a4 = 0 then (if (FP.ddiv (FP.i2d a2) (FP.i2d a3)) &&& 0x7fffffffffffffff ≤ 0x7ff0000000000000 then some ((FP.ddiv (FP.i2d a2) (FP.i2d a3)), h) else none) else (fgR h a0 8 10).bind fun x3 => (faI h x3 0 a4).bind fun x5 => (fgR h a0 8 11).bind fun x7 => (faI h x7 0 a4).bind fun x9 => (fgR h a0 8 6).bind fun x11 => (faI h x11 0 a4).bind fun x13 => k33 a0 (a2 * x5) (a3 * x9) x13 h)) n
noncomputable def f_X8_size_L14 (a0 : Option Nat) (a1 : Int32) (s1 : Int32) (s0 : Option Nat) (h : fSt) : Option (UInt64 × fSt) := (fput h s0 8 0 (.int s1)).bind fun h15 => (fgI h15 a0 8 0).bind fun x17 => (if x17 = 0 then f_X8_size_L33 4096 a0 (1 : Int32) (1 : Int32) a1 h15 else some (FP.dconst0, h15))
noncomputable def f_X8_size_L0 (a0 : Option Nat) (a1 : Int32) (h : fSt) : Option (UInt64 × fSt) := (fobj h a0 8).bind fun b22 => (f_X8_isNode b22 a1 h).bind fun r20 => (if r20.1 = 0 then f_X8_size_L14 a0 a1 (1 : Int32) a0 r20.2 else f_X8_size_L14 a0 a1 (0 : Int32) a0 r20.2)
noncomputable def f_X8_size (o : Nat) (p0 : Int32) (h : fSt) : Option (UInt64 × fSt) := f_X8_size_L0 (some o) p0 h
noncomputable def f_X8_strength_L26 (s0 : Int32) (h : fSt) : Option (Int32 × fSt) := some (s0, h)
noncomputable def f_X8_strength_L0 (a0 : Option Nat) (a1 : Int32) (h : fSt) : Option (Int32 × fSt) := (fput h a0 8 0 (.int (0 : Int32))).bind fun h1 => (fobj h1 a0 8).bind fun b5 => (f_X8_isNode b5 a1 h1).bind fun r3 => (if r3.1 = 0 then (fobj r3.2 a0 8).bind fun b10 => (f_X8_no b10 (1 : Int32) r3.2).bind fun r8 => f_X8_strength_L26 r8.1 r8.2 else (fobj r3.2 a0 8).bind fun b14 => (f_X8_strengthNow 8 b14 a1 r3.2).bind fun r12 => f_X8_strength_L26 r12.1 r12.2)
noncomputable def f_X8_strength (o : Nat) (p0 : Int32) (h : fSt) : Option (Int32 × fSt) := f_X8_strength_L0 (some o) p0 h
noncomputable def f_X8_through_L78 (k38 : Option Nat → Int32 → Int32 → Int32 → Int32 → Option Nat → Int32 → fSt → Option (Int32 × fSt)) (a0 : Option Nat) (a1 : Int32) (a2 : Int32) (a3 : Int32) (a4 : Int32) (a5 : Option Nat) (a6 : Int32) (h : fSt) : Option (Int32 × fSt) := k38 a0 a1 a2 a3 a4 a5 (a6 + (-1 : Int32)) h
noncomputable def f_X8_through_L38 (n : Nat) : Option Nat → Int32 → Int32 → Int32 → Int32 → Option Nat → Int32 → fSt → Option (Int32 × fSt) := Nat.rec (motive := fun _ => Option Nat → Int32 → Int32 → Int32 → Int32 → Option Nat → Int32 → fSt → Option (Int32 × fSt)) (fun _ _ _ _ _ _ _ _ => none) (fun _ k38 (a0 : Option Nat) (a1 : Int32) (a2 : Int32) (a3 : Int32) (a4 : Int32) (a5 : Option Nat) (a6 : Int32) (h : fSt) => (if a6 < 0 then some (a4, h) else (faI h a5 0 a6).bind fun x2 => (fobj h a0 8).bind fun b6 => (f_X8_coversNow b6 x2 a1 a2 a3 h).bind fun r4 => (if r4.1 = 0 then f_X8_through_L78 k38 a0 a1 a2 a3 a4 a5 a6 r4.2 else (faI r4.2 a5 0 a6).bind fun x9 => (fobj r4.2 a0 8).bind fun b13 => (f_X8_strengthNow 8 b13 x9 r4.2).bind fun r11 => f_X8_through_L78 k38 a0 a1 a2 a3 ((a4 * ((100 : Int32) - r11.1)) / (100 : Int32)) a5 a6 r11.2))) n
noncomputable def f_X8_through_L0 (a0 : Option Nat) (a1 : Int32) (a2 : Int32) (a3 : Int32) (h : fSt) : Option (Int32 × fSt) := (fput h a0 8 0 (.int (0 : Int32))).bind fun h15 => (f_X8_isPoint a1 a2 a3 h15).bind fun r17 => (if r17.1 = 0 then (fobj r17.2 a0 8).bind fun b28 => (f_X8_no b28 (1 : Int32) r17.2).bind fun r26 => some (r26.1, r26.2) else (fobj r17.2 a0 8).bind fun b22 => (f_X8_ordered b22 r17.2).bind fun r20 => (flen r20.2 r20.1 0).bind fun x24 => f_X8_through_L38 4096 a0 a1 a2 a3 (10000 : Int32) r20.1 (x24 - (1 : Int32)) r20.2)
noncomputable def f_X8_through (o : Nat) (p0 : Int32) (p1 : Int32) (p2 : Int32) (h : fSt) : Option (Int32 × fSt) := f_X8_through_L0 (some o) p0 p1 p2 h
noncomputable def f_X8_thrown_L0 (a0 : Option Nat) (h : fSt) : Option (Int32 × fSt) := (fgI h a0 8 0).bind fun x1 => some (x1, h)
noncomputable def f_X8_thrown (o : Nat) (h : fSt) : Option (Int32 × fSt) := f_X8_thrown_L0 (some o) h
noncomputable def f_X8_toWhole_L37 (s0 : Int32) (h : fSt) : Option (Int32 × fSt) := some (s0, h)
noncomputable def f_X8_toWhole_L0 (a0 : Option Nat) (a1 : Int32) (a2 : Int32) (a3 : Int32) (a4 : Int32) (h : fSt) : Option (Int32 × fSt) := (fobj h a0 8).bind fun b3 => (f_X8_isNode b3 a1 h).bind fun r1 => (fobj r1.2 a0 8).bind fun b7 => (f_X8_asked b7 r1.1 a2 a3 a4 r1.2).bind fun r5 => (fput r5.2 a0 8 0 (.int r5.1)).bind fun h9 => (fgI h9 a0 8 0).bind fun x11 => (if x11 = 0 then (fobj h9 a0 8).bind fun b16 => (f_X8_toWholeNow b16 a1 a2 a3 a4 h9).bind fun r14 => f_X8_toWhole_L37 r14.1 r14.2 else f_X8_toWhole_L37 (0 : Int32) h9)
noncomputable def f_X8_toWhole (o : Nat) (p0 : Int32) (p1 : Int32) (p2 : Int32) (p3 : Int32) (h : fSt) : Option (Int32 × fSt) := f_X8_toWhole_L0 (some o) p0 p1 p2 p3 h
noncomputable def f_X8_track_L47 (a0 : Option Nat) (h : fSt) : Option (Int32 × fSt) := (fobj h a0 8).bind fun b3 => (f_X8_no b3 (2 : Int32) h).bind fun r1 => some (r1.1, r1.2)
noncomputable def f_X8_track_L76 (a0 : Option Nat) (h : fSt) : Option (Int32 × fSt) := (fobj h a0 8).bind fun b7 => (f_X8_no b7 (3 : Int32) h).bind fun r5 => some (r5.1, r5.2)
noncomputable def f_X8_track_L0 (a0 : Option Nat) (a1 : Int32) (a2 : Int32) (a3 : Int32) (a4 : Int32) (h : fSt) : Option (Int32 × fSt) := (fput h a0 8 0 (.int (0 : Int32))).bind fun h9 => (fobj h9 a0 8).bind fun b13 => (f_X8_isNode b13 a1 h9).bind fun r11 => (if r11.1 = 0 then (fobj r11.2 a0 8).bind fun b64 => (f_X8_no b64 (1 : Int32) r11.2).bind fun r62 => some (r62.1, r62.2) else (f_X8_isIn a2 (0 : Int32) (3 : Int32) r11.2).bind fun r16 => (if r16.1 = 0 then f_X8_track_L47 a0 r16.2 else (f_X8_isIn a3 (0 : Int32) (2 : Int32) r16.2).bind fun r19 => (if r19.1 = 0 then f_X8_track_L47 a0 r19.2 else (f_X8_isIn a4 (0 : Int32) (2 : Int32) r19.2).bind fun r22 => (if r22.1 = 0 then f_X8_track_L47 a0 r22.2 else (if a1 = 0 then f_X8_track_L76 a0 r22.2 else (fgI r22.2 a0 8 17).bind fun x26 => (if x26 = (12 : Int32) then f_X8_track_L76 a0 r22.2 else (fobj r22.2 a0 8).bind fun b31 => (f_X8_trackOf b31 a1 a2 r22.2).bind fun r29 => (if r29.1 = (-1 : Int32) then (fgR r29.2 a0 8 18).bind fun x34 => (fgI r29.2 a0 8 17).bind fun x36 => (fsI r29.2 x34 0 x36 a1).bind fun h38 => (fgR h38 a0 8 19).bind fun x40 => (fgI h38 a0 8 17).bind fun x42 => (fsI h38 x40 0 x42 a2).bind fun h44 => (fgR h44 a0 8 20).bind fun x46 => (fgI h44 a0 8 17).bind fun x48 => (fsI h44 x46 0 x48 a3).bind fun h50 => (fgR h50 a0 8 21).bind fun x52 => (fgI h50 a0 8 17).bind fun x54 => (fsI h50 x52 0 x54 a4).bind fun h56 => (fgI h56 a0 8 17).bind fun x58 => (fput h56 a0 8 17 (.int (x58 + (1 : Int32)))).bind fun h60 => some (x58, h60) else f_X8_track_L76 a0 r29.2)))))))
noncomputable def f_X8_track (o : Nat) (p0 : Int32) (p1 : Int32) (p2 : Int32) (p3 : Int32) (h : fSt) : Option (Int32 × fSt) := f_X8_track_L0 (some o) p0 p1 p2 p3 h
noncomputable def f_X8_tracks_L0 (a0 : Option Nat) (h : fSt) : Option (Int32 × fSt) := (fgI h a0 8 17).bind fun x1 => (fobj h a0 8).bind fun b5 => (f_X8_ok b5 x1 h).bind fun r3 => some (r3.1, r3.2)
noncomputable def f_X8_tracks (o : Nat) (h : fSt) : Option (Int32 × fSt) := f_X8_tracks_L0 (some o) h
noncomputable def f_X8_turn_L0 (a0 : Option Nat) (a1 : Int32) (a2 : Int32) (a3 : Int32) (h : fSt) : Option (Int32 × fSt) := (f_X8_isIn a2 (0 : Int32) (3 : Int32) h).bind fun r1 => (fobj r1.2 a0 8).bind fun b5 => (f_X8_refusal b5 a1 r1.1 r1.2).bind fun r3 => (fput r3.2 a0 8 0 (.int r3.1)).bind fun h7 => (fgI h7 a0 8 0).bind fun x9 => (if x9 = 0 then (fgR h7 a0 8 14).bind fun x12 => (faI h7 x12 0 ((a1 * (4 : Int32)) + (2 : Int32))).bind fun x14 => (fgR h7 a0 8 14).bind fun x16 => (fsI h7 x16 0 ((a1 * (4 : Int32)) + (2 : Int32)) a2).bind fun h18 => (fgR h18 a0 8 3).bind fun x20 => (fsI h18 x20 2 a1 (vp_nar .boolean a3)).bind fun h22 => some (x14, h22) else some ((0 : Int32), h7))
noncomputable def f_X8_turn (o : Nat) (p0 : Int32) (p1 : Int32) (p2 : Int32) (h : fSt) : Option (Int32 × fSt) := f_X8_turn_L0 (some o) p0 p1 p2 h
noncomputable def f_X8_isNot_L0 (a0 : Option Nat) (a1 : Int32) (h : fSt) : Option (Int32 × fSt) := (fput h a0 8 0 (.int a1)).bind fun h1 => some ((0 : Int32), h1)
noncomputable def f_X8_isNot (o : Nat) (p0 : Int32) (h : fSt) : Option (Int32 × fSt) := f_X8_isNot_L0 (some o) p0 h
noncomputable def f_X8_uncut_L0 (a0 : Option Nat) (a1 : Int32) (h : fSt) : Option (Int32 × fSt) := (fput h a0 8 0 (.int (0 : Int32))).bind fun h1 => (fobj h1 a0 8).bind fun b5 => (f_X8_isNode b5 a1 h1).bind fun r3 => (if r3.1 = 0 then (fobj r3.2 a0 8).bind fun b19 => (f_X8_isNot b19 (1 : Int32) r3.2).bind fun r17 => if r17.1 = 0 ∨ r17.1 = 1 then some (r17.1, r17.2) else none else (fgR r3.2 a0 8 5).bind fun x8 => (faI r3.2 x8 2 a1).bind fun x10 => (fgR r3.2 a0 8 5).bind fun x12 => (fsI r3.2 x12 2 a1 (vp_nar .boolean (0 : Int32))).bind fun h14 => if x10 = 0 ∨ x10 = 1 then some (x10, h14) else none)
noncomputable def f_X8_uncut (o : Nat) (p0 : Int32) (h : fSt) : Option (Int32 × fSt) := f_X8_uncut_L0 (some o) p0 h
noncomputable def f_X8_unkey_L0 (a0 : Option Nat) (a1 : Int32) (a2 : Int32) (h : fSt) : Option (Int32 × fSt) := (fput h a0 8 0 (.int (0 : Int32))).bind fun h1 => (fobj h1 a0 8).bind fun b5 => (f_X8_isTrack b5 a1 h1).bind fun r3 => (if r3.1 = 0 then (fobj r3.2 a0 8).bind fun b53 => (f_X8_no b53 (1 : Int32) r3.2).bind fun r51 => some (r51.1, r51.2) else (fobj r3.2 a0 8).bind fun b10 => (f_X8_hasKey b10 a1 a2 r3.2).bind fun r8 => (if r8.1 = 0 then (fobj r8.2 a0 8).bind fun b49 => (f_X8_no b49 (2 : Int32) r8.2).bind fun r47 => some (r47.1, r47.2) else (fobj r8.2 a0 8).bind fun b15 => (f_X8_keyPlace b15 a1 a2 r8.2).bind fun r13 => (fgR r13.2 a0 8 24).bind fun x17 => (faI r13.2 x17 0 ((a1 * (8 : Int32)) + r13.1)).bind fun x19 => (fgR r13.2 a0 8 22).bind fun x21 => (faI r13.2 x21 0 a1).bind fun x23 => (fsI r13.2 x21 0 a1 (x23 - (1 : Int32))).bind fun h25 => (fgR h25 a0 8 23).bind fun x27 => (fgR h25 a0 8 23).bind fun x29 => (fgR h25 a0 8 22).bind fun x31 => (faI h25 x31 0 a1).bind fun x33 => (fcpy h25 x27 (((a1 * (8 : Int32)) + r13.1) + (1 : Int32)) x29 ((a1 * (8 : Int32)) + r13.1) (x33 - r13.1) 0).bind fun h35 => (fgR h35 a0 8 24).bind fun x37 => (fgR h35 a0 8 24).bind fun x39 => (fgR h35 a0 8 22).bind fun x41 => (faI h35 x41 0 a1).bind fun x43 => (fcpy h35 x37 (((a1 * (8 : Int32)) + r13.1) + (1 : Int32)) x39 ((a1 * (8 : Int32)) + r13.1) (x43 - r13.1) 0).bind fun h45 => some (x19, h45)))
noncomputable def f_X8_unkey (o : Nat) (p0 : Int32) (p1 : Int32) (h : fSt) : Option (Int32 × fSt) := f_X8_unkey_L0 (some o) p0 p1 h
set_option maxHeartbeats 4000000 in
set_option maxRecDepth 100000 in
theorem w_X8_now_L42 {p : Program} {l : Launch} {e : Env} {s : State} {m : MethodId} {args : Array Value} {below : List Frame} {meth : Method} {c : Code} {D : va_G} {cA : Nat → ClassId} {h0 : fSt} {r : (Int32 × fSt)} (M : fM p s m args meth c D cA h0 { frames := 3, cells := fCB h0 - fZ h0, slots := fLB h0 - fL h0, locals := 80 } cX8_now 3 (some (.int)) RX8) (hfl : l.stackTraces = false) (s0 : Int32) (h : fSt) (hf : f_X8_now_L42 s0 h = some r) : ∀ (H : Heap) (locs : List Loc) (cells slots : Nat) (ls : Array Slot), fCur D cA s h0 h H locs → lv_has ls 3 [] → W p l e { frames := 3, cells := fCB h0 - fZ h0, slots := fLB h0 - fL h0, locals := 80 } s m args below meth c H locs cells slots (MQ below (fQ D cA h0 r.2 (some (.int r.1))) args s (fCB h0 - fZ h0) (fLB h0 - fL h0) (fA h0)) (F0 m 42 ls [.int s0]) := by
  obtain ⟨hx, hb, hml, hr, hlocks, hts, hown, K, hR⟩ := id M
  intro H locs cells slots ls hC hl
  obtain rfl := Option.some.inj hf
  exact fr_iret hx hb hr hlocks hC dX8_now_42
set_option maxHeartbeats 4000000 in
set_option maxRecDepth 100000 in
theorem w_X8_now_L0 {p : Program} {l : Launch} {e : Env} {s : State} {m : MethodId} {args : Array Value} {below : List Frame} {meth : Method} {c : Code} {D : va_G} {cA : Nat → ClassId} {h0 : fSt} {r : (Int32 × fSt)} (M : fM p s m args meth c D cA h0 { frames := 3, cells := fCB h0 - fZ h0, slots := fLB h0 - fL h0, locals := 80 } cX8_now 3 (some (.int)) RX8) (hfl : l.stackTraces = false) (a0 : Option Nat) (a1 : Int32) (a2 : Int32) (h : fSt) (hf : f_X8_now_L0 a0 a1 a2 h = some r) : ∀ (H : Heap) (locs : List Loc) (cells slots : Nat) (ls : Array Slot), fCur D cA s h0 h H locs → lv_has ls 3 [(0, va_rf a0), (1, .int a1), (2, .int a2)] → W p l e { frames := 3, cells := fCB h0 - fZ h0, slots := fLB h0 - fL h0, locals := 80 } s m args below meth c H locs cells slots (MQ below (fQ D cA h0 r.2 (some (.int r.1))) args s (fCB h0 - fZ h0) (fLB h0 - fL h0) (fA h0)) (F0 m 0 ls []) := by
  obtain ⟨hx, hb, hml, hr, hlocks, hts, hown, K, hR⟩ := id M
  intro H locs cells slots ls hC hl
  refine fr_aload_n hx hb dX8_now_0 rfl (lv_at hl 0 rfl) ?_
  refine lv_iconst (v := (0 : Int32)) hx hb dX8_now_1 (by decide) ?_
  obtain ⟨h1, g2, hf⟩ := obind hf
  refine fr_put hx hb hts hown K hC ct_8 g2 (by decide) kw971 rfl rfl rfl rfl dX8_now_2 (fun H locs hC => ?_)
  refine fr_aload_n hx hb dX8_now_5 rfl (lv_at hl 0 rfl) ?_
  refine lv_iload_n hx hb dX8_now_6 rfl (lv_at hl 1 rfl) ?_
  obtain ⟨b5, q6, hf⟩ := obind hf
  obtain ⟨r3, g4, hf⟩ := obind hf
  refine fr_callV hx hb hml hts hown K hC hR ct_8 (c_X8_isNode hfl D cA g4) 1 q6 kw1063 kw1060 kw1062 kw20 kw62 (by decide +kernel) ⟨by exact Nat.le_of_ble_eq_true rfl, by exact Nat.le_of_ble_eq_true rfl⟩ rfl hl.1 (cat8 _ (by exact Nat.le_of_ble_eq_true rfl)) dX8_now_7 rfl (fun H locs _ _ hC => ?_)
  refine lv_if_ne (tgt := 19) hx hb dX8_now_10 (by decide) (fun c7 => ?_) (fun c7 => ?_)
  · replace hf := oneg c7 hf
    refine lv_iload_n hx hb dX8_now_19 rfl (lv_at hl 2 rfl) ?_
    refine lv_iconst (v := (0 : Int32)) hx hb dX8_now_20 (by decide) ?_
    refine lv_iconst (v := (3 : Int32)) hx hb dX8_now_21 (by decide) ?_
    obtain ⟨r8, g9, hf⟩ := obind hf
    refine fr_callS hx hb hml hts hown K hC hR (c_X8_isIn hfl D cA g9) 3 kw1066 kw1064 kw1065 kw62 (by decide +kernel) ⟨by exact Nat.le_of_ble_eq_true rfl, by exact Nat.le_of_ble_eq_true rfl⟩ rfl hl.1 (cat8 _ (by exact Nat.le_of_ble_eq_true rfl)) dX8_now_22 rfl (fun H locs _ _ hC => ?_)
    refine lv_if_eq (tgt := 37) hx hb dX8_now_25 (by decide) (fun c10 => ?_) (fun c10 => ?_)
    · replace hf := opos c10 hf
      refine fr_aload_n hx hb dX8_now_37 rfl (lv_at hl 0 rfl) ?_
      refine lv_iconst (v := (2 : Int32)) hx hb dX8_now_38 (by decide) ?_
      obtain ⟨b13, q14, hf⟩ := obind hf
      obtain ⟨r11, g12, hf⟩ := obind hf
      refine fr_callV hx hb hml hts hown K hC hR ct_8 (c_X8_no hfl D cA g12) 1 q14 kw1070 kw1067 kw1069 kw21 kw62 (by decide +kernel) ⟨by exact Nat.le_of_ble_eq_true rfl, by exact Nat.le_of_ble_eq_true rfl⟩ rfl hl.1 (cat8 _ (by exact Nat.le_of_ble_eq_true rfl)) dX8_now_39 rfl (fun H locs _ _ hC => ?_)
      exact w_X8_now_L42 M hfl _ _ hf _ _ _ _ _ hC (lv_sub hl [] rfl)
    · replace hf := oneg c10 hf
      refine fr_aload_n hx hb dX8_now_28 rfl (lv_at hl 0 rfl) ?_
      refine lv_iload_n hx hb dX8_now_29 rfl (lv_at hl 1 rfl) ?_
      refine lv_iload_n hx hb dX8_now_30 rfl (lv_at hl 2 rfl) ?_
      obtain ⟨b17, q18, hf⟩ := obind hf
      obtain ⟨r15, g16, hf⟩ := obind hf
      refine fr_callV hx hb hml hts hown K hC hR ct_8 (c_X8_has hfl D cA g16) 2 q18 kw1201 kw1198 kw1200 kw33 kw62 (by decide +kernel) ⟨by exact Nat.le_of_ble_eq_true rfl, by exact Nat.le_of_ble_eq_true rfl⟩ rfl hl.1 (cat8 _ (by exact Nat.le_of_ble_eq_true rfl)) dX8_now_31 rfl (fun H locs _ _ hC => ?_)
      refine lv_goto (tgt := 42) hx hb dX8_now_34 (by decide) ?_
      exact w_X8_now_L42 M hfl _ _ hf _ _ _ _ _ hC (lv_sub hl [] rfl)
  · replace hf := opos c7 hf
    refine fr_aload_n hx hb dX8_now_13 rfl (lv_at hl 0 rfl) ?_
    refine lv_iconst (v := (1 : Int32)) hx hb dX8_now_14 (by decide) ?_
    obtain ⟨b21, q22, hf⟩ := obind hf
    obtain ⟨r19, g20, hf⟩ := obind hf
    refine fr_callV hx hb hml hts hown K hC hR ct_8 (c_X8_no hfl D cA g20) 1 q22 kw1070 kw1067 kw1069 kw21 kw62 (by decide +kernel) ⟨by exact Nat.le_of_ble_eq_true rfl, by exact Nat.le_of_ble_eq_true rfl⟩ rfl hl.1 (cat8 _ (by exact Nat.le_of_ble_eq_true rfl)) dX8_now_15 rfl (fun H locs _ _ hC => ?_)
    obtain rfl := Option.some.inj hf
    exact fr_iret hx hb hr hlocks hC dX8_now_18
set_option maxRecDepth 100000 in
theorem c_X8_now {l : Launch} (hfl : l.stackTraces = false) (D : va_G) (cA : Nat → ClassId) {o : Nat} {p0 : Int32} {p1 : Int32} {h : fSt} {r : (Int32 × fSt)} (hf : f_X8_now o p0 p1 h = some r) : fMet l yX8_now (wsC yX8_now cX8_now 3 (some (.int))) (3) (80) D cA [.ref o, .int p0, .int p1] h r.2 (some (.int r.1)) := by
  exact fMet.of (own := RX8) (by decide +kernel) rfl (lva1 rfl (lva1 rfl (lva1 rfl lva0))) (lgl1 rfl (lgl1 rfl (lgl1 rfl lgl0))) (Nat.le_of_ble_eq_true rfl) (fun p e s m args below meth c ls hnm _ M hC hl => by
    have hl : lv_has ls 3 [(0, va_rf (some o)), (1, .int p0), (2, .int p1)] := hl
    exact w_X8_now_L0 M hfl _ _ _ _ hf _ _ _ _ _ hC (lv_sub hl [0, 1, 2] rfl))
set_option maxHeartbeats 4000000 in
set_option maxRecDepth 100000 in
theorem w_X8_orderAt_L33 {p : Program} {l : Launch} {e : Env} {s : State} {m : MethodId} {args : Array Value} {below : List Frame} {meth : Method} {c : Code} {D : va_G} {cA : Nat → ClassId} {h0 : fSt} {r : (Int32 × fSt)} (M : fM p s m args meth c D cA h0 { frames := 10, cells := fCB h0 - fZ h0, slots := fLB h0 - fL h0, locals := 273 } cX8_orderAt 2 (some (.int)) RX8) (hfl : l.stackTraces = false) (s0 : Int32) (h : fSt) (hf : f_X8_orderAt_L33 s0 h = some r) : ∀ (H : Heap) (locs : List Loc) (cells slots : Nat) (ls : Array Slot), fCur D cA s h0 h H locs → lv_has ls 2 [] → W p l e { frames := 10, cells := fCB h0 - fZ h0, slots := fLB h0 - fL h0, locals := 273 } s m args below meth c H locs cells slots (MQ below (fQ D cA h0 r.2 (some (.int r.1))) args s (fCB h0 - fZ h0) (fLB h0 - fL h0) (fA h0)) (F0 m 33 ls [.int s0]) := by
  obtain ⟨hx, hb, hml, hr, hlocks, hts, hown, K, hR⟩ := id M
  intro H locs cells slots ls hC hl
  obtain rfl := Option.some.inj hf
  exact fr_iret hx hb hr hlocks hC dX8_orderAt_33
set_option maxHeartbeats 4000000 in
set_option maxRecDepth 100000 in
theorem w_X8_orderAt_L0 {p : Program} {l : Launch} {e : Env} {s : State} {m : MethodId} {args : Array Value} {below : List Frame} {meth : Method} {c : Code} {D : va_G} {cA : Nat → ClassId} {h0 : fSt} {r : (Int32 × fSt)} (M : fM p s m args meth c D cA h0 { frames := 10, cells := fCB h0 - fZ h0, slots := fLB h0 - fL h0, locals := 273 } cX8_orderAt 2 (some (.int)) RX8) (hfl : l.stackTraces = false) (a0 : Option Nat) (a1 : Int32) (h : fSt) (hf : f_X8_orderAt_L0 a0 a1 h = some r) : ∀ (H : Heap) (locs : List Loc) (cells slots : Nat) (ls : Array Slot), fCur D cA s h0 h H locs → lv_has ls 2 [(0, va_rf a0), (1, .int a1)] → W p l e { frames := 10, cells := fCB h0 - fZ h0, slots := fLB h0 - fL h0, locals := 273 } s m args below meth c H locs cells slots (MQ below (fQ D cA h0 r.2 (some (.int r.1))) args s (fCB h0 - fZ h0) (fLB h0 - fL h0) (fA h0)) (F0 m 0 ls []) := by
  obtain ⟨hx, hb, hml, hr, hlocks, hts, hown, K, hR⟩ := id M
  intro H locs cells slots ls hC hl
  refine fr_aload_n hx hb dX8_orderAt_0 rfl (lv_at hl 0 rfl) ?_
  refine lv_iconst (v := (0 : Int32)) hx hb dX8_orderAt_1 (by decide) ?_
  obtain ⟨h1, g2, hf⟩ := obind hf
  refine fr_put hx hb hts hown K hC ct_8 g2 (by decide) kw971 rfl rfl rfl rfl dX8_orderAt_2 (fun H locs hC => ?_)
  refine lv_iload_n hx hb dX8_orderAt_5 rfl (lv_at hl 1 rfl) ?_
  refine lv_iconst (v := (0 : Int32)) hx hb dX8_orderAt_6 (by decide) ?_
  refine fr_aload_n hx hb dX8_orderAt_7 rfl (lv_at hl 0 rfl) ?_
  obtain ⟨b5, q6, hf⟩ := obind hf
  obtain ⟨r3, g4, hf⟩ := obind hf
  refine fr_callV hx hb hml hts hown K hC hR ct_8 (c_X8_nodesNow hfl D cA g4) 0 q6 kw1142 kw1139 kw1141 kw28 kw62 (by decide +kernel) ⟨by exact Nat.le_of_ble_eq_true rfl, by exact Nat.le_of_ble_eq_true rfl⟩ rfl hl.1 (cat8 _ (by exact Nat.le_of_ble_eq_true rfl)) dX8_orderAt_8 rfl (fun H locs _ _ hC => ?_)
  refine lv_iconst (v := (1 : Int32)) hx hb dX8_orderAt_11 (by decide) ?_
  refine lv_isub hx hb dX8_orderAt_12 ?_
  obtain ⟨r7, g8, hf⟩ := obind hf
  refine fr_callS hx hb hml hts hown K hC hR (c_X8_isIn hfl D cA g8) 3 kw1066 kw1064 kw1065 kw62 (by decide +kernel) ⟨by exact Nat.le_of_ble_eq_true rfl, by exact Nat.le_of_ble_eq_true rfl⟩ rfl hl.1 (cat8 _ (by exact Nat.le_of_ble_eq_true rfl)) dX8_orderAt_13 rfl (fun H locs _ _ hC => ?_)
  refine lv_if_eq (tgt := 28) hx hb dX8_orderAt_16 (by decide) (fun c9 => ?_) (fun c9 => ?_)
  · replace hf := opos c9 hf
    refine fr_aload_n hx hb dX8_orderAt_28 rfl (lv_at hl 0 rfl) ?_
    refine lv_iconst (v := (1 : Int32)) hx hb dX8_orderAt_29 (by decide) ?_
    obtain ⟨b12, q13, hf⟩ := obind hf
    obtain ⟨r10, g11, hf⟩ := obind hf
    refine fr_callV hx hb hml hts hown K hC hR ct_8 (c_X8_no hfl D cA g11) 1 q13 kw1070 kw1067 kw1069 kw21 kw62 (by decide +kernel) ⟨by exact Nat.le_of_ble_eq_true rfl, by exact Nat.le_of_ble_eq_true rfl⟩ rfl hl.1 (cat8 _ (by exact Nat.le_of_ble_eq_true rfl)) dX8_orderAt_30 rfl (fun H locs _ _ hC => ?_)
    exact w_X8_orderAt_L33 M hfl _ _ hf _ _ _ _ _ hC (lv_sub hl [] rfl)
  · replace hf := oneg c9 hf
    refine fr_aload_n hx hb dX8_orderAt_19 rfl (lv_at hl 0 rfl) ?_
    obtain ⟨b16, q17, hf⟩ := obind hf
    obtain ⟨r14, g15, hf⟩ := obind hf
    refine fr_callV hx hb hml hts hown K hC hR ct_8 (c_X8_ordered hfl D cA g15) 0 q17 kw1301 kw1298 kw1300 kw47 kw62 (by decide +kernel) ⟨by exact Nat.le_of_ble_eq_true rfl, by exact Nat.le_of_ble_eq_true rfl⟩ rfl hl.1 (cat8 _ (by exact Nat.le_of_ble_eq_true rfl)) dX8_orderAt_20 rfl (fun H locs _ _ hC => ?_)
    refine lv_iload_n hx hb dX8_orderAt_23 rfl (lv_at hl 1 rfl) ?_
    obtain ⟨x18, g19, hf⟩ := obind hf
    refine fr_iald hx hb K hC (t := 0) rfl g19 dX8_orderAt_24 ?_
    refine lv_goto (tgt := 33) hx hb dX8_orderAt_25 (by decide) ?_
    exact w_X8_orderAt_L33 M hfl _ _ hf _ _ _ _ _ hC (lv_sub hl [] rfl)
set_option maxRecDepth 100000 in
theorem c_X8_orderAt {l : Launch} (hfl : l.stackTraces = false) (D : va_G) (cA : Nat → ClassId) {o : Nat} {p0 : Int32} {h : fSt} {r : (Int32 × fSt)} (hf : f_X8_orderAt o p0 h = some r) : fMet l yX8_orderAt (wsC yX8_orderAt cX8_orderAt 2 (some (.int))) (10) (273) D cA [.ref o, .int p0] h r.2 (some (.int r.1)) := by
  exact fMet.of (own := RX8) (by decide +kernel) rfl (lva1 rfl (lva1 rfl lva0)) (lgl1 rfl (lgl1 rfl lgl0)) (Nat.le_of_ble_eq_true rfl) (fun p e s m args below meth c ls hnm _ M hC hl => by
    have hl : lv_has ls 2 [(0, va_rf (some o)), (1, .int p0)] := hl
    exact w_X8_orderAt_L0 M hfl _ _ _ hf _ _ _ _ _ hC (lv_sub hl [0, 1] rfl))
set_option maxHeartbeats 4000000 in
set_option maxRecDepth 100000 in
theorem w_X8_parent_L27 {p : Program} {l : Launch} {e : Env} {s : State} {m : MethodId} {args : Array Value} {below : List Frame} {meth : Method} {c : Code} {D : va_G} {cA : Nat → ClassId} {h0 : fSt} {r : (Int32 × fSt)} (M : fM p s m args meth c D cA h0 { frames := 2, cells := fCB h0 - fZ h0, slots := fLB h0 - fL h0, locals := 43 } cX8_parent 2 (some (.int)) RX8) (hfl : l.stackTraces = false) (s0 : Int32) (h : fSt) (hf : f_X8_parent_L27 s0 h = some r) : ∀ (H : Heap) (locs : List Loc) (cells slots : Nat) (ls : Array Slot), fCur D cA s h0 h H locs → lv_has ls 2 [] → W p l e { frames := 2, cells := fCB h0 - fZ h0, slots := fLB h0 - fL h0, locals := 43 } s m args below meth c H locs cells slots (MQ below (fQ D cA h0 r.2 (some (.int r.1))) args s (fCB h0 - fZ h0) (fLB h0 - fL h0) (fA h0)) (F0 m 27 ls [.int s0]) := by
  obtain ⟨hx, hb, hml, hr, hlocks, hts, hown, K, hR⟩ := id M
  intro H locs cells slots ls hC hl
  obtain rfl := Option.some.inj hf
  exact fr_iret hx hb hr hlocks hC dX8_parent_27
set_option maxHeartbeats 4000000 in
set_option maxRecDepth 100000 in
theorem w_X8_parent_L0 {p : Program} {l : Launch} {e : Env} {s : State} {m : MethodId} {args : Array Value} {below : List Frame} {meth : Method} {c : Code} {D : va_G} {cA : Nat → ClassId} {h0 : fSt} {r : (Int32 × fSt)} (M : fM p s m args meth c D cA h0 { frames := 2, cells := fCB h0 - fZ h0, slots := fLB h0 - fL h0, locals := 43 } cX8_parent 2 (some (.int)) RX8) (hfl : l.stackTraces = false) (a0 : Option Nat) (a1 : Int32) (h : fSt) (hf : f_X8_parent_L0 a0 a1 h = some r) : ∀ (H : Heap) (locs : List Loc) (cells slots : Nat) (ls : Array Slot), fCur D cA s h0 h H locs → lv_has ls 2 [(0, va_rf a0), (1, .int a1)] → W p l e { frames := 2, cells := fCB h0 - fZ h0, slots := fLB h0 - fL h0, locals := 43 } s m args below meth c H locs cells slots (MQ below (fQ D cA h0 r.2 (some (.int r.1))) args s (fCB h0 - fZ h0) (fLB h0 - fL h0) (fA h0)) (F0 m 0 ls []) := by
  obtain ⟨hx, hb, hml, hr, hlocks, hts, hown, K, hR⟩ := id M
  intro H locs cells slots ls hC hl
  refine fr_aload_n hx hb dX8_parent_0 rfl (lv_at hl 0 rfl) ?_
  refine lv_iconst (v := (0 : Int32)) hx hb dX8_parent_1 (by decide) ?_
  obtain ⟨h1, g2, hf⟩ := obind hf
  refine fr_put hx hb hts hown K hC ct_8 g2 (by decide) kw971 rfl rfl rfl rfl dX8_parent_2 (fun H locs hC => ?_)
  refine fr_aload_n hx hb dX8_parent_5 rfl (lv_at hl 0 rfl) ?_
  refine lv_iload_n hx hb dX8_parent_6 rfl (lv_at hl 1 rfl) ?_
  obtain ⟨b5, q6, hf⟩ := obind hf
  obtain ⟨r3, g4, hf⟩ := obind hf
  refine fr_callV hx hb hml hts hown K hC hR ct_8 (c_X8_isNode hfl D cA g4) 1 q6 kw1063 kw1060 kw1062 kw20 kw62 (by decide +kernel) ⟨by exact Nat.le_of_ble_eq_true rfl, by exact Nat.le_of_ble_eq_true rfl⟩ rfl hl.1 (cat8 _ (by exact Nat.le_of_ble_eq_true rfl)) dX8_parent_7 rfl (fun H locs _ _ hC => ?_)
  refine lv_if_eq (tgt := 22) hx hb dX8_parent_10 (by decide) (fun c7 => ?_) (fun c7 => ?_)
  · replace hf := opos c7 hf
    refine fr_aload_n hx hb dX8_parent_22 rfl (lv_at hl 0 rfl) ?_
    refine lv_iconst (v := (1 : Int32)) hx hb dX8_parent_23 (by decide) ?_
    obtain ⟨b10, q11, hf⟩ := obind hf
    obtain ⟨r8, g9, hf⟩ := obind hf
    refine fr_callV hx hb hml hts hown K hC hR ct_8 (c_X8_no hfl D cA g9) 1 q11 kw1070 kw1067 kw1069 kw21 kw62 (by decide +kernel) ⟨by exact Nat.le_of_ble_eq_true rfl, by exact Nat.le_of_ble_eq_true rfl⟩ rfl hl.1 (cat8 _ (by exact Nat.le_of_ble_eq_true rfl)) dX8_parent_24 rfl (fun H locs _ _ hC => ?_)
    exact w_X8_parent_L27 M hfl _ _ hf _ _ _ _ _ hC (lv_sub hl [] rfl)
  · replace hf := oneg c7 hf
    refine fr_aload_n hx hb dX8_parent_13 rfl (lv_at hl 0 rfl) ?_
    obtain ⟨x12, g13, hf⟩ := obind hf
    refine fr_get hx hb hts hown K hC ct_8 (fgR_get g13) (by decide) kw977 rfl dX8_parent_14 ?_
    refine lv_iload_n hx hb dX8_parent_17 rfl (lv_at hl 1 rfl) ?_
    obtain ⟨x14, g15, hf⟩ := obind hf
    refine fr_iald hx hb K hC (t := 0) rfl g15 dX8_parent_18 ?_
    refine lv_goto (tgt := 27) hx hb dX8_parent_19 (by decide) ?_
    exact w_X8_parent_L27 M hfl _ _ hf _ _ _ _ _ hC (lv_sub hl [] rfl)
set_option maxRecDepth 100000 in
theorem c_X8_parent {l : Launch} (hfl : l.stackTraces = false) (D : va_G) (cA : Nat → ClassId) {o : Nat} {p0 : Int32} {h : fSt} {r : (Int32 × fSt)} (hf : f_X8_parent o p0 h = some r) : fMet l yX8_parent (wsC yX8_parent cX8_parent 2 (some (.int))) (2) (43) D cA [.ref o, .int p0] h r.2 (some (.int r.1)) := by
  exact fMet.of (own := RX8) (by decide +kernel) rfl (lva1 rfl (lva1 rfl lva0)) (lgl1 rfl (lgl1 rfl lgl0)) (Nat.le_of_ble_eq_true rfl) (fun p e s m args below meth c ls hnm _ M hC hl => by
    have hl : lv_has ls 2 [(0, va_rf (some o)), (1, .int p0)] := hl
    exact w_X8_parent_L0 M hfl _ _ _ hf _ _ _ _ _ hC (lv_sub hl [0, 1] rfl))
set_option maxHeartbeats 4000000 in
set_option maxRecDepth 100000 in
theorem w_X8_pick_L29 {p : Program} {l : Launch} {e : Env} {s : State} {m : MethodId} {args : Array Value} {below : List Frame} {meth : Method} {c : Code} {D : va_G} {cA : Nat → ClassId} {h0 : fSt} {r : (Int32 × fSt)} (M : fM p s m args meth c D cA h0 { frames := 11, cells := fCB h0 - fZ h0, slots := fLB h0 - fL h0, locals := 298 } cX8_pick 4 (some (.int)) RX8) (hfl : l.stackTraces = false) (s0 : Int32) (h : fSt) (hf : f_X8_pick_L29 s0 h = some r) : ∀ (H : Heap) (locs : List Loc) (cells slots : Nat) (ls : Array Slot), fCur D cA s h0 h H locs → lv_has ls 4 [] → W p l e { frames := 11, cells := fCB h0 - fZ h0, slots := fLB h0 - fL h0, locals := 298 } s m args below meth c H locs cells slots (MQ below (fQ D cA h0 r.2 (some (.int r.1))) args s (fCB h0 - fZ h0) (fLB h0 - fL h0) (fA h0)) (F0 m 29 ls [.int s0]) := by
  obtain ⟨hx, hb, hml, hr, hlocks, hts, hown, K, hR⟩ := id M
  intro H locs cells slots ls hC hl
  obtain rfl := Option.some.inj hf
  exact fr_iret hx hb hr hlocks hC dX8_pick_29
set_option maxHeartbeats 4000000 in
set_option maxRecDepth 100000 in
theorem w_X8_pick_L0 {p : Program} {l : Launch} {e : Env} {s : State} {m : MethodId} {args : Array Value} {below : List Frame} {meth : Method} {c : Code} {D : va_G} {cA : Nat → ClassId} {h0 : fSt} {r : (Int32 × fSt)} (M : fM p s m args meth c D cA h0 { frames := 11, cells := fCB h0 - fZ h0, slots := fLB h0 - fL h0, locals := 298 } cX8_pick 4 (some (.int)) RX8) (hfl : l.stackTraces = false) (a0 : Option Nat) (a1 : Int32) (a2 : Int32) (a3 : Int32) (h : fSt) (hf : f_X8_pick_L0 a0 a1 a2 a3 h = some r) : ∀ (H : Heap) (locs : List Loc) (cells slots : Nat) (ls : Array Slot), fCur D cA s h0 h H locs → lv_has ls 4 [(0, va_rf a0), (1, .int a1), (2, .int a2), (3, .int a3)] → W p l e { frames := 11, cells := fCB h0 - fZ h0, slots := fLB h0 - fL h0, locals := 298 } s m args below meth c H locs cells slots (MQ below (fQ D cA h0 r.2 (some (.int r.1))) args s (fCB h0 - fZ h0) (fLB h0 - fL h0) (fA h0)) (F0 m 0 ls []) := by
  obtain ⟨hx, hb, hml, hr, hlocks, hts, hown, K, hR⟩ := id M
  intro H locs cells slots ls hC hl
  refine fr_aload_n hx hb dX8_pick_0 rfl (lv_at hl 0 rfl) ?_
  refine lv_iconst (v := (0 : Int32)) hx hb dX8_pick_1 (by decide) ?_
  obtain ⟨h1, g2, hf⟩ := obind hf
  refine fr_put hx hb hts hown K hC ct_8 g2 (by decide) kw971 rfl rfl rfl rfl dX8_pick_2 (fun H locs hC => ?_)
  refine lv_iload_n hx hb dX8_pick_5 rfl (lv_at hl 1 rfl) ?_
  refine lv_iload_n hx hb dX8_pick_6 rfl (lv_at hl 2 rfl) ?_
  refine lv_iload_n hx hb dX8_pick_7 rfl (lv_at hl 3 rfl) ?_
  obtain ⟨r3, g4, hf⟩ := obind hf
  refine fr_callS hx hb hml hts hown K hC hR (c_X8_isPoint hfl D cA g4) 3 kw1323 kw1321 kw1322 kw62 (by decide +kernel) ⟨by exact Nat.le_of_ble_eq_true rfl, by exact Nat.le_of_ble_eq_true rfl⟩ rfl hl.1 (cat8 _ (by exact Nat.le_of_ble_eq_true rfl)) dX8_pick_8 rfl (fun H locs _ _ hC => ?_)
  refine lv_if_eq (tgt := 24) hx hb dX8_pick_11 (by decide) (fun c5 => ?_) (fun c5 => ?_)
  · replace hf := opos c5 hf
    refine fr_aload_n hx hb dX8_pick_24 rfl (lv_at hl 0 rfl) ?_
    refine lv_iconst (v := (1 : Int32)) hx hb dX8_pick_25 (by decide) ?_
    obtain ⟨b8, q9, hf⟩ := obind hf
    obtain ⟨r6, g7, hf⟩ := obind hf
    refine fr_callV hx hb hml hts hown K hC hR ct_8 (c_X8_no hfl D cA g7) 1 q9 kw1070 kw1067 kw1069 kw21 kw62 (by decide +kernel) ⟨by exact Nat.le_of_ble_eq_true rfl, by exact Nat.le_of_ble_eq_true rfl⟩ rfl hl.1 (cat8 _ (by exact Nat.le_of_ble_eq_true rfl)) dX8_pick_26 rfl (fun H locs _ _ hC => ?_)
    exact w_X8_pick_L29 M hfl _ _ hf _ _ _ _ _ hC (lv_sub hl [] rfl)
  · replace hf := oneg c5 hf
    refine fr_aload_n hx hb dX8_pick_14 rfl (lv_at hl 0 rfl) ?_
    refine lv_iload_n hx hb dX8_pick_15 rfl (lv_at hl 1 rfl) ?_
    refine lv_iload_n hx hb dX8_pick_16 rfl (lv_at hl 2 rfl) ?_
    refine lv_iload_n hx hb dX8_pick_17 rfl (lv_at hl 3 rfl) ?_
    obtain ⟨b12, q13, hf⟩ := obind hf
    obtain ⟨r10, g11, hf⟩ := obind hf
    refine fr_callV hx hb hml hts hown K hC hR ct_8 (c_X8_pickNow hfl D cA g11) 3 q13 kw1335 kw1332 kw1334 kw51 kw62 (by decide +kernel) ⟨by exact Nat.le_of_ble_eq_true rfl, by exact Nat.le_of_ble_eq_true rfl⟩ rfl hl.1 (cat8 _ (by exact Nat.le_of_ble_eq_true rfl)) dX8_pick_18 rfl (fun H locs _ _ hC => ?_)
    refine lv_goto (tgt := 29) hx hb dX8_pick_21 (by decide) ?_
    exact w_X8_pick_L29 M hfl _ _ hf _ _ _ _ _ hC (lv_sub hl [] rfl)
set_option maxRecDepth 100000 in
theorem c_X8_pick {l : Launch} (hfl : l.stackTraces = false) (D : va_G) (cA : Nat → ClassId) {o : Nat} {p0 : Int32} {p1 : Int32} {p2 : Int32} {h : fSt} {r : (Int32 × fSt)} (hf : f_X8_pick o p0 p1 p2 h = some r) : fMet l yX8_pick (wsC yX8_pick cX8_pick 4 (some (.int))) (11) (298) D cA [.ref o, .int p0, .int p1, .int p2] h r.2 (some (.int r.1)) := by
  exact fMet.of (own := RX8) (by decide +kernel) rfl (lva1 rfl (lva1 rfl (lva1 rfl (lva1 rfl lva0)))) (lgl1 rfl (lgl1 rfl (lgl1 rfl (lgl1 rfl lgl0)))) (Nat.le_of_ble_eq_true rfl) (fun p e s m args below meth c ls hnm _ M hC hl => by
    have hl : lv_has ls 4 [(0, va_rf (some o)), (1, .int p0), (2, .int p1), (3, .int p2)] := hl
    exact w_X8_pick_L0 M hfl _ _ _ _ _ hf _ _ _ _ _ hC (lv_sub hl [0, 1, 2, 3] rfl))
set_option maxHeartbeats 4000000 in
set_option maxRecDepth 100000 in
theorem w_X8_pickWithout_L0 {p : Program} {l : Launch} {e : Env} {s : State} {m : MethodId} {args : Array Value} {below : List Frame} {meth : Method} {c : Code} {D : va_G} {cA : Nat → ClassId} {h0 : fSt} {r : (Int32 × fSt)} (M : fM p s m args meth c D cA h0 { frames := 11, cells := fCB h0 - fZ h0, slots := fLB h0 - fL h0, locals := 298 } cX8_pickWithout 7 (some (.int)) RX8) (hfl : l.stackTraces = false) (a0 : Option Nat) (a1 : Int32) (a2 : Int32) (a3 : Int32) (a4 : Int32) (h : fSt) (hf : f_X8_pickWithout_L0 a0 a1 a2 a3 a4 h = some r) : ∀ (H : Heap) (locs : List Loc) (cells slots : Nat) (ls : Array Slot), fCur D cA s h0 h H locs → lv_has ls 7 [(0, va_rf a0), (1, .int a1), (2, .int a2), (3, .int a3), (4, .int a4)] → W p l e { frames := 11, cells := fCB h0 - fZ h0, slots := fLB h0 - fL h0, locals := 298 } s m args below meth c H locs cells slots (MQ below (fQ D cA h0 r.2 (some (.int r.1))) args s (fCB h0 - fZ h0) (fLB h0 - fL h0) (fA h0)) (F0 m 0 ls []) := by
  obtain ⟨hx, hb, hml, hr, hlocks, hts, hown, K, hR⟩ := id M
  intro H locs cells slots ls hC hl
  refine fr_aload_n hx hb dX8_pickWithout_0 rfl (lv_at hl 0 rfl) ?_
  refine lv_iconst (v := (0 : Int32)) hx hb dX8_pickWithout_1 (by decide) ?_
  obtain ⟨h1, g2, hf⟩ := obind hf
  refine fr_put hx hb hts hown K hC ct_8 g2 (by decide) kw971 rfl rfl rfl rfl dX8_pickWithout_2 (fun H locs hC => ?_)
  refine fr_aload_n hx hb dX8_pickWithout_5 rfl (lv_at hl 0 rfl) ?_
  refine lv_iload_n hx hb dX8_pickWithout_6 rfl (lv_at hl 1 rfl) ?_
  obtain ⟨b5, q6, hf⟩ := obind hf
  obtain ⟨r3, g4, hf⟩ := obind hf
  refine fr_callV hx hb hml hts hown K hC hR ct_8 (c_X8_isNode hfl D cA g4) 1 q6 kw1063 kw1060 kw1062 kw20 kw62 (by decide +kernel) ⟨by exact Nat.le_of_ble_eq_true rfl, by exact Nat.le_of_ble_eq_true rfl⟩ rfl hl.1 (cat8 _ (by exact Nat.le_of_ble_eq_true rfl)) dX8_pickWithout_7 rfl (fun H locs _ _ hC => ?_)
  refine lv_if_ne (tgt := 19) hx hb dX8_pickWithout_10 (by decide) (fun c7 => ?_) (fun c7 => ?_)
  · replace hf := oneg c7 hf
    refine lv_iload_n hx hb dX8_pickWithout_19 rfl (lv_at hl 2 rfl) ?_
    refine lv_iload_n hx hb dX8_pickWithout_20 rfl (lv_at hl 3 rfl) ?_
    refine lv_iload hx hb dX8_pickWithout_21 (lv_at hl 4 rfl) ?_
    obtain ⟨r8, g9, hf⟩ := obind hf
    refine fr_callS hx hb hml hts hown K hC hR (c_X8_isPoint hfl D cA g9) 3 kw1323 kw1321 kw1322 kw62 (by decide +kernel) ⟨by exact Nat.le_of_ble_eq_true rfl, by exact Nat.le_of_ble_eq_true rfl⟩ rfl hl.1 (cat8 _ (by exact Nat.le_of_ble_eq_true rfl)) dX8_pickWithout_23 rfl (fun H locs _ _ hC => ?_)
    refine lv_if_ne (tgt := 35) hx hb dX8_pickWithout_26 (by decide) (fun c10 => ?_) (fun c10 => ?_)
    · replace hf := oneg c10 hf
      refine fr_aload_n hx hb dX8_pickWithout_35 rfl (lv_at hl 0 rfl) ?_
      obtain ⟨x11, g12, hf⟩ := obind hf
      refine fr_get hx hb hts hown K hC ct_8 (fgR_get g12) (by decide) kw975 rfl dX8_pickWithout_36 ?_
      refine lv_iload_n hx hb dX8_pickWithout_39 rfl (lv_at hl 1 rfl) ?_
      obtain ⟨x13, g14, hf⟩ := obind hf
      refine fr_zald hx hb K hC (t := 2) rfl g14 dX8_pickWithout_40 ?_
      refine lv_istore (lv' := [(5, .int x13), (0, va_rf a0), (1, .int a1), (2, .int a2), (3, .int a3), (4, .int a4)]) hx hb dX8_pickWithout_41 hl (by decide) (congrArg (List.cons _) (flk rfl (flk rfl (flk rfl (flk rfl (flk rfl fln)))))) (fun ls hl => ?_)
      refine fr_aload_n hx hb dX8_pickWithout_43 rfl (lv_at hl 1 rfl) ?_
      obtain ⟨x15, g16, hf⟩ := obind hf
      refine fr_get hx hb hts hown K hC ct_8 (fgR_get g16) (by decide) kw975 rfl dX8_pickWithout_44 ?_
      refine lv_iload_n hx hb dX8_pickWithout_47 rfl (lv_at hl 2 rfl) ?_
      refine lv_iconst (v := (1 : Int32)) hx hb dX8_pickWithout_48 (by decide) ?_
      obtain ⟨h17, g18, hf⟩ := obind hf
      refine fr_zast hx hb K hC (t := 2) rfl g18 dX8_pickWithout_49 (fun H locs hC => ?_)
      refine fr_aload_n hx hb dX8_pickWithout_50 rfl (lv_at hl 1 rfl) ?_
      refine lv_iload_n hx hb dX8_pickWithout_51 rfl (lv_at hl 3 rfl) ?_
      refine lv_iload_n hx hb dX8_pickWithout_52 rfl (lv_at hl 4 rfl) ?_
      refine lv_iload hx hb dX8_pickWithout_53 (lv_at hl 5 rfl) ?_
      obtain ⟨b21, q22, hf⟩ := obind hf
      obtain ⟨r19, g20, hf⟩ := obind hf
      refine fr_callV hx hb hml hts hown K hC hR ct_8 (c_X8_pickNow hfl D cA g20) 3 q22 kw1335 kw1332 kw1334 kw51 kw62 (by decide +kernel) ⟨by exact Nat.le_of_ble_eq_true rfl, by exact Nat.le_of_ble_eq_true rfl⟩ rfl hl.1 (cat8 _ (by exact Nat.le_of_ble_eq_true rfl)) dX8_pickWithout_55 rfl (fun H locs _ _ hC => ?_)
      refine lv_istore (lv' := [(6, .int r19.1), (5, .int x13), (0, va_rf a0), (1, .int a1), (2, .int a2), (3, .int a3), (4, .int a4)]) hx hb dX8_pickWithout_58 hl (by decide) (congrArg (List.cons _) (flk rfl (flk rfl (flk rfl (flk rfl (flk rfl (flk rfl fln))))))) (fun ls hl => ?_)
      refine fr_aload_n hx hb dX8_pickWithout_60 rfl (lv_at hl 2 rfl) ?_
      obtain ⟨x23, g24, hf⟩ := obind hf
      refine fr_get hx hb hts hown K hC ct_8 (fgR_get g24) (by decide) kw975 rfl dX8_pickWithout_61 ?_
      refine lv_iload_n hx hb dX8_pickWithout_64 rfl (lv_at hl 3 rfl) ?_
      refine lv_iload hx hb dX8_pickWithout_65 (lv_at hl 1 rfl) ?_
      obtain ⟨h25, g26, hf⟩ := obind hf
      refine fr_zast hx hb K hC (t := 2) rfl g26 dX8_pickWithout_67 (fun H locs hC => ?_)
      refine lv_iload hx hb dX8_pickWithout_68 (lv_at hl 0 rfl) ?_
      obtain rfl := Option.some.inj hf
      exact fr_iret hx hb hr hlocks hC dX8_pickWithout_70
    · replace hf := opos c10 hf
      refine fr_aload_n hx hb dX8_pickWithout_29 rfl (lv_at hl 0 rfl) ?_
      refine lv_iconst (v := (2 : Int32)) hx hb dX8_pickWithout_30 (by decide) ?_
      obtain ⟨b29, q30, hf⟩ := obind hf
      obtain ⟨r27, g28, hf⟩ := obind hf
      refine fr_callV hx hb hml hts hown K hC hR ct_8 (c_X8_no hfl D cA g28) 1 q30 kw1070 kw1067 kw1069 kw21 kw62 (by decide +kernel) ⟨by exact Nat.le_of_ble_eq_true rfl, by exact Nat.le_of_ble_eq_true rfl⟩ rfl hl.1 (cat8 _ (by exact Nat.le_of_ble_eq_true rfl)) dX8_pickWithout_31 rfl (fun H locs _ _ hC => ?_)
      obtain rfl := Option.some.inj hf
      exact fr_iret hx hb hr hlocks hC dX8_pickWithout_34
  · replace hf := opos c7 hf
    refine fr_aload_n hx hb dX8_pickWithout_13 rfl (lv_at hl 0 rfl) ?_
    refine lv_iconst (v := (1 : Int32)) hx hb dX8_pickWithout_14 (by decide) ?_
    obtain ⟨b33, q34, hf⟩ := obind hf
    obtain ⟨r31, g32, hf⟩ := obind hf
    refine fr_callV hx hb hml hts hown K hC hR ct_8 (c_X8_no hfl D cA g32) 1 q34 kw1070 kw1067 kw1069 kw21 kw62 (by decide +kernel) ⟨by exact Nat.le_of_ble_eq_true rfl, by exact Nat.le_of_ble_eq_true rfl⟩ rfl hl.1 (cat8 _ (by exact Nat.le_of_ble_eq_true rfl)) dX8_pickWithout_15 rfl (fun H locs _ _ hC => ?_)
    obtain rfl := Option.some.inj hf
    exact fr_iret hx hb hr hlocks hC dX8_pickWithout_18
set_option maxRecDepth 100000 in
theorem c_X8_pickWithout {l : Launch} (hfl : l.stackTraces = false) (D : va_G) (cA : Nat → ClassId) {o : Nat} {p0 : Int32} {p1 : Int32} {p2 : Int32} {p3 : Int32} {h : fSt} {r : (Int32 × fSt)} (hf : f_X8_pickWithout o p0 p1 p2 p3 h = some r) : fMet l yX8_pickWithout (wsC yX8_pickWithout cX8_pickWithout 7 (some (.int))) (11) (298) D cA [.ref o, .int p0, .int p1, .int p2, .int p3] h r.2 (some (.int r.1)) := by
  exact fMet.of (own := RX8) (by decide +kernel) rfl (lva1 rfl (lva1 rfl (lva1 rfl (lva1 rfl (lva1 rfl lva0))))) (lgl1 rfl (lgl1 rfl (lgl1 rfl (lgl1 rfl (lgl1 rfl lgl0))))) (Nat.le_of_ble_eq_true rfl) (fun p e s m args below meth c ls hnm _ M hC hl => by
    have hl : lv_has ls 7 [(0, va_rf (some o)), (1, .int p0), (2, .int p1), (3, .int p2), (4, .int p3)] := hl
    exact w_X8_pickWithout_L0 M hfl _ _ _ _ _ _ hf _ _ _ _ _ hC (lv_sub hl [0, 1, 2, 3, 4] rfl))
set_option maxHeartbeats 4000000 in
set_option maxRecDepth 100000 in
theorem w_X8_placeOf_L29 {p : Program} {l : Launch} {e : Env} {s : State} {m : MethodId} {args : Array Value} {below : List Frame} {meth : Method} {c : Code} {D : va_G} {cA : Nat → ClassId} {h0 : fSt} {r : (Int32 × fSt)} (M : fM p s m args meth c D cA h0 { frames := 10, cells := fCB h0 - fZ h0, slots := fLB h0 - fL h0, locals := 273 } cX8_placeOf 2 (some (.int)) RX8) (hfl : l.stackTraces = false) (s0 : Int32) (h : fSt) (hf : f_X8_placeOf_L29 s0 h = some r) : ∀ (H : Heap) (locs : List Loc) (cells slots : Nat) (ls : Array Slot), fCur D cA s h0 h H locs → lv_has ls 2 [] → W p l e { frames := 10, cells := fCB h0 - fZ h0, slots := fLB h0 - fL h0, locals := 273 } s m args below meth c H locs cells slots (MQ below (fQ D cA h0 r.2 (some (.int r.1))) args s (fCB h0 - fZ h0) (fLB h0 - fL h0) (fA h0)) (F0 m 29 ls [.int s0]) := by
  obtain ⟨hx, hb, hml, hr, hlocks, hts, hown, K, hR⟩ := id M
  intro H locs cells slots ls hC hl
  obtain rfl := Option.some.inj hf
  exact fr_iret hx hb hr hlocks hC dX8_placeOf_29
set_option maxHeartbeats 4000000 in
set_option maxRecDepth 100000 in
theorem w_X8_placeOf_L0 {p : Program} {l : Launch} {e : Env} {s : State} {m : MethodId} {args : Array Value} {below : List Frame} {meth : Method} {c : Code} {D : va_G} {cA : Nat → ClassId} {h0 : fSt} {r : (Int32 × fSt)} (M : fM p s m args meth c D cA h0 { frames := 10, cells := fCB h0 - fZ h0, slots := fLB h0 - fL h0, locals := 273 } cX8_placeOf 2 (some (.int)) RX8) (hfl : l.stackTraces = false) (a0 : Option Nat) (a1 : Int32) (h : fSt) (hf : f_X8_placeOf_L0 a0 a1 h = some r) : ∀ (H : Heap) (locs : List Loc) (cells slots : Nat) (ls : Array Slot), fCur D cA s h0 h H locs → lv_has ls 2 [(0, va_rf a0), (1, .int a1)] → W p l e { frames := 10, cells := fCB h0 - fZ h0, slots := fLB h0 - fL h0, locals := 273 } s m args below meth c H locs cells slots (MQ below (fQ D cA h0 r.2 (some (.int r.1))) args s (fCB h0 - fZ h0) (fLB h0 - fL h0) (fA h0)) (F0 m 0 ls []) := by
  obtain ⟨hx, hb, hml, hr, hlocks, hts, hown, K, hR⟩ := id M
  intro H locs cells slots ls hC hl
  refine fr_aload_n hx hb dX8_placeOf_0 rfl (lv_at hl 0 rfl) ?_
  refine lv_iconst (v := (0 : Int32)) hx hb dX8_placeOf_1 (by decide) ?_
  obtain ⟨h1, g2, hf⟩ := obind hf
  refine fr_put hx hb hts hown K hC ct_8 g2 (by decide) kw971 rfl rfl rfl rfl dX8_placeOf_2 (fun H locs hC => ?_)
  refine fr_aload_n hx hb dX8_placeOf_5 rfl (lv_at hl 0 rfl) ?_
  refine lv_iload_n hx hb dX8_placeOf_6 rfl (lv_at hl 1 rfl) ?_
  obtain ⟨b5, q6, hf⟩ := obind hf
  obtain ⟨r3, g4, hf⟩ := obind hf
  refine fr_callV hx hb hml hts hown K hC hR ct_8 (c_X8_isNode hfl D cA g4) 1 q6 kw1063 kw1060 kw1062 kw20 kw62 (by decide +kernel) ⟨by exact Nat.le_of_ble_eq_true rfl, by exact Nat.le_of_ble_eq_true rfl⟩ rfl hl.1 (cat8 _ (by exact Nat.le_of_ble_eq_true rfl)) dX8_placeOf_7 rfl (fun H locs _ _ hC => ?_)
  refine lv_if_eq (tgt := 24) hx hb dX8_placeOf_10 (by decide) (fun c7 => ?_) (fun c7 => ?_)
  · replace hf := opos c7 hf
    refine fr_aload_n hx hb dX8_placeOf_24 rfl (lv_at hl 0 rfl) ?_
    refine lv_iconst (v := (1 : Int32)) hx hb dX8_placeOf_25 (by decide) ?_
    obtain ⟨b10, q11, hf⟩ := obind hf
    obtain ⟨r8, g9, hf⟩ := obind hf
    refine fr_callV hx hb hml hts hown K hC hR ct_8 (c_X8_no hfl D cA g9) 1 q11 kw1070 kw1067 kw1069 kw21 kw62 (by decide +kernel) ⟨by exact Nat.le_of_ble_eq_true rfl, by exact Nat.le_of_ble_eq_true rfl⟩ rfl hl.1 (cat8 _ (by exact Nat.le_of_ble_eq_true rfl)) dX8_placeOf_26 rfl (fun H locs _ _ hC => ?_)
    exact w_X8_placeOf_L29 M hfl _ _ hf _ _ _ _ _ hC (lv_sub hl [] rfl)
  · replace hf := oneg c7 hf
    refine fr_aload_n hx hb dX8_placeOf_13 rfl (lv_at hl 0 rfl) ?_
    obtain ⟨b14, q15, hf⟩ := obind hf
    obtain ⟨r12, g13, hf⟩ := obind hf
    refine fr_callV hx hb hml hts hown K hC hR ct_8 (c_X8_ordered hfl D cA g13) 0 q15 kw1301 kw1298 kw1300 kw47 kw62 (by decide +kernel) ⟨by exact Nat.le_of_ble_eq_true rfl, by exact Nat.le_of_ble_eq_true rfl⟩ rfl hl.1 (cat8 _ (by exact Nat.le_of_ble_eq_true rfl)) dX8_placeOf_14 rfl (fun H locs _ _ hC => ?_)
    refine lv_iload_n hx hb dX8_placeOf_17 rfl (lv_at hl 1 rfl) ?_
    obtain ⟨r16, g17, hf⟩ := obind hf
    refine fr_callS hx hb hml hts hown K hC hR (c_X8_placeIn hfl D cA g17) 2 kw1316 kw1314 kw1315 kw62 (by decide +kernel) ⟨by exact Nat.le_of_ble_eq_true rfl, by exact Nat.le_of_ble_eq_true rfl⟩ rfl hl.1 (cat8 _ (by exact Nat.le_of_ble_eq_true rfl)) dX8_placeOf_18 rfl (fun H locs _ _ hC => ?_)
    refine lv_goto (tgt := 29) hx hb dX8_placeOf_21 (by decide) ?_
    exact w_X8_placeOf_L29 M hfl _ _ hf _ _ _ _ _ hC (lv_sub hl [] rfl)
set_option maxRecDepth 100000 in
theorem c_X8_placeOf {l : Launch} (hfl : l.stackTraces = false) (D : va_G) (cA : Nat → ClassId) {o : Nat} {p0 : Int32} {h : fSt} {r : (Int32 × fSt)} (hf : f_X8_placeOf o p0 h = some r) : fMet l yX8_placeOf (wsC yX8_placeOf cX8_placeOf 2 (some (.int))) (10) (273) D cA [.ref o, .int p0] h r.2 (some (.int r.1)) := by
  exact fMet.of (own := RX8) (by decide +kernel) rfl (lva1 rfl (lva1 rfl lva0)) (lgl1 rfl (lgl1 rfl lgl0)) (Nat.le_of_ble_eq_true rfl) (fun p e s m args below meth c ls hnm _ M hC hl => by
    have hl : lv_has ls 2 [(0, va_rf (some o)), (1, .int p0)] := hl
    exact w_X8_placeOf_L0 M hfl _ _ _ hf _ _ _ _ _ hC (lv_sub hl [0, 1] rfl))
set_option maxHeartbeats 4000000 in
set_option maxRecDepth 100000 in
theorem w_X8_remove_L109 {p : Program} {l : Launch} {e : Env} {s : State} {m : MethodId} {args : Array Value} {below : List Frame} {meth : Method} {c : Code} {D : va_G} {cA : Nat → ClassId} {h0 : fSt} {r : (Int32 × fSt)} (M : fM p s m args meth c D cA h0 { frames := 2, cells := fCB h0 - fZ h0, slots := fLB h0 - fL h0, locals := 43 } cX8_remove 5 (some (.int)) RX8) (hfl : l.stackTraces = false) {k33 : Option Nat → Int32 → Int32 → Int32 → fSt → Option (Int32 × fSt)} (hk33 : ∀ (a0 : Option Nat) (a1 : Int32) (a2 : Int32) (a3 : Int32) (h : fSt), k33 a0 a1 a2 a3 h = some r → ∀ (H : Heap) (locs : List Loc) (cells slots : Nat) (ls : Array Slot), fCur D cA s h0 h H locs → lv_has ls 5 [(0, va_rf a0), (1, .int a1), (2, .int a2), (3, .int a3)] → W p l e { frames := 2, cells := fCB h0 - fZ h0, slots := fLB h0 - fL h0, locals := 43 } s m args below meth c H locs cells slots (MQ below (fQ D cA h0 r.2 (some (.int r.1))) args s (fCB h0 - fZ h0) (fLB h0 - fL h0) (fA h0)) (F0 m 33 ls [])) (a0 : Option Nat) (a1 : Int32) (a2 : Int32) (a3 : Int32) (h : fSt) (hf : f_X8_remove_L109 k33 a0 a1 a2 a3 h = some r) : ∀ (H : Heap) (locs : List Loc) (cells slots : Nat) (ls : Array Slot), fCur D cA s h0 h H locs → lv_has ls 5 [(0, va_rf a0), (1, .int a1), (2, .int a2), (3, .int a3)] → W p l e { frames := 2, cells := fCB h0 - fZ h0, slots := fLB h0 - fL h0, locals := 43 } s m args below meth c H locs cells slots (MQ below (fQ D cA h0 r.2 (some (.int r.1))) args s (fCB h0 - fZ h0) (fLB h0 - fL h0) (fA h0)) (F0 m 109 ls []) := by
  obtain ⟨hx, hb, hml, hr, hlocks, hts, hown, K, hR⟩ := id M
  intro H locs cells slots ls hC hl
  refine lv_iinc (v := (a3 + (1 : Int32))) (lv' := [(3, .int (a3 + (1 : Int32))), (0, va_rf a0), (1, .int a1), (2, .int a2)]) hx hb dX8_remove_109 hl (k := 3) rfl rfl (by decide) (congrArg (List.cons _) (flk rfl (flk rfl (flk rfl (fld rfl fln))))) (fun ls hl => ?_)
  refine lv_goto (tgt := 33) hx hb dX8_remove_112 (by decide) ?_
  exact hk33 _ _ _ _ _ hf _ _ _ _ _ hC (lv_sub hl [1, 2, 3, 0] rfl)
set_option maxHeartbeats 4000000 in
set_option maxRecDepth 100000 in
theorem w_X8_remove_L103 {p : Program} {l : Launch} {e : Env} {s : State} {m : MethodId} {args : Array Value} {below : List Frame} {meth : Method} {c : Code} {D : va_G} {cA : Nat → ClassId} {h0 : fSt} {r : (Int32 × fSt)} (M : fM p s m args meth c D cA h0 { frames := 2, cells := fCB h0 - fZ h0, slots := fLB h0 - fL h0, locals := 43 } cX8_remove 5 (some (.int)) RX8) (hfl : l.stackTraces = false) {k33 : Option Nat → Int32 → Int32 → Int32 → fSt → Option (Int32 × fSt)} (hk33 : ∀ (a0 : Option Nat) (a1 : Int32) (a2 : Int32) (a3 : Int32) (h : fSt), k33 a0 a1 a2 a3 h = some r → ∀ (H : Heap) (locs : List Loc) (cells slots : Nat) (ls : Array Slot), fCur D cA s h0 h H locs → lv_has ls 5 [(0, va_rf a0), (1, .int a1), (2, .int a2), (3, .int a3)] → W p l e { frames := 2, cells := fCB h0 - fZ h0, slots := fLB h0 - fL h0, locals := 43 } s m args below meth c H locs cells slots (MQ below (fQ D cA h0 r.2 (some (.int r.1))) args s (fCB h0 - fZ h0) (fLB h0 - fL h0) (fA h0)) (F0 m 33 ls [])) {k75 : Option Nat → Int32 → Int32 → Int32 → Int32 → fSt → Option (Int32 × fSt)} (hk75 : ∀ (a0 : Option Nat) (a1 : Int32) (a2 : Int32) (a3 : Int32) (a4 : Int32) (h : fSt), k75 a0 a1 a2 a3 a4 h = some r → ∀ (H : Heap) (locs : List Loc) (cells slots : Nat) (ls : Array Slot), fCur D cA s h0 h H locs → lv_has ls 5 [(0, va_rf a0), (1, .int a1), (2, .int a2), (3, .int a3), (4, .int a4)] → W p l e { frames := 2, cells := fCB h0 - fZ h0, slots := fLB h0 - fL h0, locals := 43 } s m args below meth c H locs cells slots (MQ below (fQ D cA h0 r.2 (some (.int r.1))) args s (fCB h0 - fZ h0) (fLB h0 - fL h0) (fA h0)) (F0 m 75 ls [])) (a0 : Option Nat) (a1 : Int32) (a2 : Int32) (a3 : Int32) (a4 : Int32) (h : fSt) (hf : f_X8_remove_L103 k33 k75 a0 a1 a2 a3 a4 h = some r) : ∀ (H : Heap) (locs : List Loc) (cells slots : Nat) (ls : Array Slot), fCur D cA s h0 h H locs → lv_has ls 5 [(0, va_rf a0), (1, .int a1), (2, .int a2), (3, .int a3), (4, .int a4)] → W p l e { frames := 2, cells := fCB h0 - fZ h0, slots := fLB h0 - fL h0, locals := 43 } s m args below meth c H locs cells slots (MQ below (fQ D cA h0 r.2 (some (.int r.1))) args s (fCB h0 - fZ h0) (fLB h0 - fL h0) (fA h0)) (F0 m 103 ls []) := by
  obtain ⟨hx, hb, hml, hr, hlocks, hts, hown, K, hR⟩ := id M
  intro H locs cells slots ls hC hl
  refine lv_iinc (v := (a4 + (1 : Int32))) (lv' := [(4, .int (a4 + (1 : Int32))), (0, va_rf a0), (1, .int a1), (2, .int a2), (3, .int a3)]) hx hb dX8_remove_103 hl (k := 4) rfl rfl (by decide) (congrArg (List.cons _) (flk rfl (flk rfl (flk rfl (flk rfl (fld rfl fln)))))) (fun ls hl => ?_)
  refine lv_goto (tgt := 75) hx hb dX8_remove_106 (by decide) ?_
  exact hk75 _ _ _ _ _ _ hf _ _ _ _ _ hC (lv_sub hl [1, 2, 3, 4, 0] rfl)
set_option maxHeartbeats 4000000 in
set_option maxRecDepth 100000 in
theorem w_X8_remove_L75 {p : Program} {l : Launch} {e : Env} {s : State} {m : MethodId} {args : Array Value} {below : List Frame} {meth : Method} {c : Code} {D : va_G} {cA : Nat → ClassId} {h0 : fSt} {r : (Int32 × fSt)} (M : fM p s m args meth c D cA h0 { frames := 2, cells := fCB h0 - fZ h0, slots := fLB h0 - fL h0, locals := 43 } cX8_remove 5 (some (.int)) RX8) (hfl : l.stackTraces = false) {k33 : Option Nat → Int32 → Int32 → Int32 → fSt → Option (Int32 × fSt)} (hk33 : ∀ (a0 : Option Nat) (a1 : Int32) (a2 : Int32) (a3 : Int32) (h : fSt), k33 a0 a1 a2 a3 h = some r → ∀ (H : Heap) (locs : List Loc) (cells slots : Nat) (ls : Array Slot), fCur D cA s h0 h H locs → lv_has ls 5 [(0, va_rf a0), (1, .int a1), (2, .int a2), (3, .int a3)] → W p l e { frames := 2, cells := fCB h0 - fZ h0, slots := fLB h0 - fL h0, locals := 43 } s m args below meth c H locs cells slots (MQ below (fQ D cA h0 r.2 (some (.int r.1))) args s (fCB h0 - fZ h0) (fLB h0 - fL h0) (fA h0)) (F0 m 33 ls [])) : ∀ (n : Nat) (a0 : Option Nat) (a1 : Int32) (a2 : Int32) (a3 : Int32) (a4 : Int32) (h : fSt), f_X8_remove_L75 k33 n a0 a1 a2 a3 a4 h = some r → ∀ (H : Heap) (locs : List Loc) (cells slots : Nat) (ls : Array Slot), fCur D cA s h0 h H locs → lv_has ls 5 [(0, va_rf a0), (1, .int a1), (2, .int a2), (3, .int a3), (4, .int a4)] → W p l e { frames := 2, cells := fCB h0 - fZ h0, slots := fLB h0 - fL h0, locals := 43 } s m args below meth c H locs cells slots (MQ below (fQ D cA h0 r.2 (some (.int r.1))) args s (fCB h0 - fZ h0) (fLB h0 - fL h0) (fA h0)) (F0 m 75 ls []) := by
  obtain ⟨hx, hb, hml, hr, hlocks, hts, hown, K, hR⟩ := id M
  intro n
  induction n with
  | zero =>
    intro a0 a1 a2 a3 a4 h hf
    exact nomatch (show (none : Option (Int32 × fSt)) = some r from hf)
  | succ n hk75 =>
    intro a0 a1 a2 a3 a4 h hf H locs cells slots ls hC hl
    refine lv_iload hx hb dX8_remove_75 (lv_at hl 4 rfl) ?_
    refine fr_aload_n hx hb dX8_remove_77 rfl (lv_at hl 0 rfl) ?_
    obtain ⟨x1, g2, hf⟩ := obind hf
    refine fr_get hx hb hts hown K hC ct_8 (fgI_get g2) (by decide) kw988 rfl dX8_remove_78 ?_
    refine lv_icmp_ge (tgt := 109) hx hb dX8_remove_81 (by decide) (fun c3 => ?_) (fun c3 => ?_)
    · replace hf := opos c3 hf
      exact w_X8_remove_L109 M hfl hk33 _ _ _ _ _ hf _ _ _ _ _ hC (lv_sub hl [0, 1, 2, 3] rfl)
    · replace hf := oneg c3 hf
      refine fr_aload_n hx hb dX8_remove_84 rfl (lv_at hl 0 rfl) ?_
      obtain ⟨x4, g5, hf⟩ := obind hf
      refine fr_get hx hb hts hown K hC ct_8 (fgR_get g5) (by decide) kw989 rfl dX8_remove_85 ?_
      refine lv_iload hx hb dX8_remove_88 (lv_at hl 4 rfl) ?_
      obtain ⟨x6, g7, hf⟩ := obind hf
      refine fr_iald hx hb K hC (t := 0) rfl g7 dX8_remove_90 ?_
      refine lv_iload_n hx hb dX8_remove_91 rfl (lv_at hl 3 rfl) ?_
      refine lv_icmp_ne (tgt := 103) hx hb dX8_remove_92 (by decide) (fun c8 => ?_) (fun c8 => ?_)
      · replace hf := oneg c8 hf
        exact w_X8_remove_L103 M hfl hk33 hk75 _ _ _ _ _ _ hf _ _ _ _ _ hC (lv_sub hl [0, 1, 2, 3, 4] rfl)
      · replace hf := opos c8 hf
        refine fr_aload_n hx hb dX8_remove_95 rfl (lv_at hl 0 rfl) ?_
        obtain ⟨x9, g10, hf⟩ := obind hf
        refine fr_get hx hb hts hown K hC ct_8 (fgR_get g10) (by decide) kw993 rfl dX8_remove_96 ?_
        refine lv_iload hx hb dX8_remove_99 (lv_at hl 4 rfl) ?_
        refine lv_iconst (v := (0 : Int32)) hx hb dX8_remove_101 (by decide) ?_
        obtain ⟨h11, g12, hf⟩ := obind hf
        refine fr_iast hx hb K hC (t := 0) rfl g12 dX8_remove_102 (fun H locs hC => ?_)
        exact w_X8_remove_L103 M hfl hk33 hk75 _ _ _ _ _ _ hf _ _ _ _ _ hC (lv_sub hl [0, 1, 2, 3, 4] rfl)
set_option maxHeartbeats 4000000 in
set_option maxRecDepth 100000 in
theorem w_X8_remove_L33 {p : Program} {l : Launch} {e : Env} {s : State} {m : MethodId} {args : Array Value} {below : List Frame} {meth : Method} {c : Code} {D : va_G} {cA : Nat → ClassId} {h0 : fSt} {r : (Int32 × fSt)} (M : fM p s m args meth c D cA h0 { frames := 2, cells := fCB h0 - fZ h0, slots := fLB h0 - fL h0, locals := 43 } cX8_remove 5 (some (.int)) RX8) (hfl : l.stackTraces = false) : ∀ (n : Nat) (a0 : Option Nat) (a1 : Int32) (a2 : Int32) (a3 : Int32) (h : fSt), f_X8_remove_L33 n a0 a1 a2 a3 h = some r → ∀ (H : Heap) (locs : List Loc) (cells slots : Nat) (ls : Array Slot), fCur D cA s h0 h H locs → lv_has ls 5 [(0, va_rf a0), (1, .int a1), (2, .int a2), (3, .int a3)] → W p l e { frames := 2, cells := fCB h0 - fZ h0, slots := fLB h0 - fL h0, locals := 43 } s m args below meth c H locs cells slots (MQ below (fQ D cA h0 r.2 (some (.int r.1))) args s (fCB h0 - fZ h0) (fLB h0 - fL h0) (fA h0)) (F0 m 33 ls []) := by
  obtain ⟨hx, hb, hml, hr, hlocks, hts, hown, K, hR⟩ := id M
  intro n
  induction n with
  | zero =>
    intro a0 a1 a2 a3 h hf
    exact nomatch (show (none : Option (Int32 × fSt)) = some r from hf)
  | succ n hk33 =>
    intro a0 a1 a2 a3 h hf H locs cells slots ls hC hl
    refine lv_iload_n hx hb dX8_remove_33 rfl (lv_at hl 3 rfl) ?_
    refine fr_aload_n hx hb dX8_remove_34 rfl (lv_at hl 0 rfl) ?_
    obtain ⟨x13, g14, hf⟩ := obind hf
    refine fr_get hx hb hts hown K hC ct_8 (fgI_get g14) (by decide) kw972 rfl dX8_remove_35 ?_
    refine lv_icmp_ge (tgt := 115) hx hb dX8_remove_38 (by decide) (fun c15 => ?_) (fun c15 => ?_)
    · replace hf := opos c15 hf
      refine lv_iload_n hx hb dX8_remove_115 rfl (lv_at hl 2 rfl) ?_
      obtain rfl := Option.some.inj hf
      exact fr_iret hx hb hr hlocks hC dX8_remove_116
    · replace hf := oneg c15 hf
      refine fr_aload_n hx hb dX8_remove_41 rfl (lv_at hl 0 rfl) ?_
      obtain ⟨x16, g17, hf⟩ := obind hf
      refine fr_get hx hb hts hown K hC ct_8 (fgR_get g17) (by decide) kw973 rfl dX8_remove_42 ?_
      refine lv_iload_n hx hb dX8_remove_45 rfl (lv_at hl 3 rfl) ?_
      obtain ⟨x18, g19, hf⟩ := obind hf
      refine fr_zald hx hb K hC (t := 2) rfl g19 dX8_remove_46 ?_
      refine lv_if_ne (tgt := 109) hx hb dX8_remove_47 (by decide) (fun c20 => ?_) (fun c20 => ?_)
      · replace hf := oneg c20 hf
        exact w_X8_remove_L109 M hfl hk33 _ _ _ _ _ hf _ _ _ _ _ hC (lv_sub hl [0, 1, 2, 3] rfl)
      · replace hf := opos c20 hf
        refine fr_aload_n hx hb dX8_remove_50 rfl (lv_at hl 0 rfl) ?_
        refine lv_iload_n hx hb dX8_remove_51 rfl (lv_at hl 3 rfl) ?_
        refine lv_iload_n hx hb dX8_remove_52 rfl (lv_at hl 1 rfl) ?_
        obtain ⟨b23, q24, hf⟩ := obind hf
        obtain ⟨r21, g22, hf⟩ := obind hf
        refine fr_callV hx hb hml hts hown K hC hR ct_8 (c_X8_isWithin hfl D cA g22) 2 q24 kw1082 kw1079 kw1081 kw23 kw62 (by decide +kernel) ⟨by exact Nat.le_of_ble_eq_true rfl, by exact Nat.le_of_ble_eq_true rfl⟩ rfl hl.1 (cat8 _ (by exact Nat.le_of_ble_eq_true rfl)) dX8_remove_53 rfl (fun H locs _ _ hC => ?_)
        refine lv_if_ne (tgt := 62) hx hb dX8_remove_56 (by decide) (fun c25 => ?_) (fun c25 => ?_)
        · replace hf := oneg c25 hf
          refine lv_iinc (v := (a2 + (1 : Int32))) (lv' := [(2, .int (a2 + (1 : Int32))), (0, va_rf a0), (1, .int a1), (3, .int a3)]) hx hb dX8_remove_62 hl (k := 2) rfl rfl (by decide) (congrArg (List.cons _) (flk rfl (flk rfl (fld rfl (flk rfl fln))))) (fun ls hl => ?_)
          refine fr_aload_n hx hb dX8_remove_65 rfl (lv_at hl 1 rfl) ?_
          obtain ⟨x26, g27, hf⟩ := obind hf
          refine fr_get hx hb hts hown K hC ct_8 (fgR_get g27) (by decide) kw973 rfl dX8_remove_66 ?_
          refine lv_iload_n hx hb dX8_remove_69 rfl (lv_at hl 3 rfl) ?_
          refine lv_iconst (v := (1 : Int32)) hx hb dX8_remove_70 (by decide) ?_
          obtain ⟨h28, g29, hf⟩ := obind hf
          refine fr_zast hx hb K hC (t := 2) rfl g29 dX8_remove_71 (fun H locs hC => ?_)
          refine lv_iconst (v := (0 : Int32)) hx hb dX8_remove_72 (by decide) ?_
          refine lv_istore (lv' := [(4, .int (0 : Int32)), (2, .int (a2 + (1 : Int32))), (0, va_rf a0), (1, .int a1), (3, .int a3)]) hx hb dX8_remove_73 hl (by decide) (congrArg (List.cons _) (flk rfl (flk rfl (flk rfl (flk rfl fln))))) (fun ls hl => ?_)
          exact w_X8_remove_L75 M hfl hk33 4096 _ _ _ _ _ _ hf _ _ _ _ _ hC (lv_sub hl [2, 3, 1, 4, 0] rfl)
        · replace hf := opos c25 hf
          refine lv_goto (tgt := 109) hx hb dX8_remove_59 (by decide) ?_
          exact w_X8_remove_L109 M hfl hk33 _ _ _ _ _ hf _ _ _ _ _ hC (lv_sub hl [0, 1, 2, 3] rfl)
set_option maxHeartbeats 4000000 in
set_option maxRecDepth 100000 in
theorem w_X8_remove_L0 {p : Program} {l : Launch} {e : Env} {s : State} {m : MethodId} {args : Array Value} {below : List Frame} {meth : Method} {c : Code} {D : va_G} {cA : Nat → ClassId} {h0 : fSt} {r : (Int32 × fSt)} (M : fM p s m args meth c D cA h0 { frames := 2, cells := fCB h0 - fZ h0, slots := fLB h0 - fL h0, locals := 43 } cX8_remove 5 (some (.int)) RX8) (hfl : l.stackTraces = false) (a0 : Option Nat) (a1 : Int32) (h : fSt) (hf : f_X8_remove_L0 a0 a1 h = some r) : ∀ (H : Heap) (locs : List Loc) (cells slots : Nat) (ls : Array Slot), fCur D cA s h0 h H locs → lv_has ls 5 [(0, va_rf a0), (1, .int a1)] → W p l e { frames := 2, cells := fCB h0 - fZ h0, slots := fLB h0 - fL h0, locals := 43 } s m args below meth c H locs cells slots (MQ below (fQ D cA h0 r.2 (some (.int r.1))) args s (fCB h0 - fZ h0) (fLB h0 - fL h0) (fA h0)) (F0 m 0 ls []) := by
  obtain ⟨hx, hb, hml, hr, hlocks, hts, hown, K, hR⟩ := id M
  intro H locs cells slots ls hC hl
  refine fr_aload_n hx hb dX8_remove_0 rfl (lv_at hl 0 rfl) ?_
  refine lv_iconst (v := (0 : Int32)) hx hb dX8_remove_1 (by decide) ?_
  obtain ⟨h30, g31, hf⟩ := obind hf
  refine fr_put hx hb hts hown K hC ct_8 g31 (by decide) kw971 rfl rfl rfl rfl dX8_remove_2 (fun H locs hC => ?_)
  refine fr_aload_n hx hb dX8_remove_5 rfl (lv_at hl 0 rfl) ?_
  refine lv_iload_n hx hb dX8_remove_6 rfl (lv_at hl 1 rfl) ?_
  obtain ⟨b34, q35, hf⟩ := obind hf
  obtain ⟨r32, g33, hf⟩ := obind hf
  refine fr_callV hx hb hml hts hown K hC hR ct_8 (c_X8_isNode hfl D cA g33) 1 q35 kw1063 kw1060 kw1062 kw20 kw62 (by decide +kernel) ⟨by exact Nat.le_of_ble_eq_true rfl, by exact Nat.le_of_ble_eq_true rfl⟩ rfl hl.1 (cat8 _ (by exact Nat.le_of_ble_eq_true rfl)) dX8_remove_7 rfl (fun H locs _ _ hC => ?_)
  refine lv_if_ne (tgt := 19) hx hb dX8_remove_10 (by decide) (fun c36 => ?_) (fun c36 => ?_)
  · replace hf := oneg c36 hf
    refine lv_iload_n hx hb dX8_remove_19 rfl (lv_at hl 1 rfl) ?_
    refine lv_if_ne (tgt := 29) hx hb dX8_remove_20 (by decide) (fun c37 => ?_) (fun c37 => ?_)
    · replace hf := oneg c37 hf
      refine lv_iconst (v := (0 : Int32)) hx hb dX8_remove_29 (by decide) ?_
      refine lv_istore_n (lv' := [(2, .int (0 : Int32)), (0, va_rf a0), (1, .int a1)]) hx hb dX8_remove_30 rfl hl (by decide) (congrArg (List.cons _) (flk rfl (flk rfl fln))) (fun ls hl => ?_)
      refine lv_iconst (v := (1 : Int32)) hx hb dX8_remove_31 (by decide) ?_
      refine lv_istore_n (lv' := [(3, .int (1 : Int32)), (2, .int (0 : Int32)), (0, va_rf a0), (1, .int a1)]) hx hb dX8_remove_32 rfl hl (by decide) (congrArg (List.cons _) (flk rfl (flk rfl (flk rfl fln)))) (fun ls hl => ?_)
      exact w_X8_remove_L33 M hfl 4096 _ _ _ _ _ hf _ _ _ _ _ hC (lv_sub hl [2, 3, 1, 0] rfl)
    · replace hf := opos c37 hf
      refine fr_aload_n hx hb dX8_remove_23 rfl (lv_at hl 0 rfl) ?_
      refine lv_iconst (v := (2 : Int32)) hx hb dX8_remove_24 (by decide) ?_
      obtain ⟨b40, q41, hf⟩ := obind hf
      obtain ⟨r38, g39, hf⟩ := obind hf
      refine fr_callV hx hb hml hts hown K hC hR ct_8 (c_X8_no hfl D cA g39) 1 q41 kw1070 kw1067 kw1069 kw21 kw62 (by decide +kernel) ⟨by exact Nat.le_of_ble_eq_true rfl, by exact Nat.le_of_ble_eq_true rfl⟩ rfl hl.1 (cat8 _ (by exact Nat.le_of_ble_eq_true rfl)) dX8_remove_25 rfl (fun H locs _ _ hC => ?_)
      obtain rfl := Option.some.inj hf
      exact fr_iret hx hb hr hlocks hC dX8_remove_28
  · replace hf := opos c36 hf
    refine fr_aload_n hx hb dX8_remove_13 rfl (lv_at hl 0 rfl) ?_
    refine lv_iconst (v := (1 : Int32)) hx hb dX8_remove_14 (by decide) ?_
    obtain ⟨b44, q45, hf⟩ := obind hf
    obtain ⟨r42, g43, hf⟩ := obind hf
    refine fr_callV hx hb hml hts hown K hC hR ct_8 (c_X8_no hfl D cA g43) 1 q45 kw1070 kw1067 kw1069 kw21 kw62 (by decide +kernel) ⟨by exact Nat.le_of_ble_eq_true rfl, by exact Nat.le_of_ble_eq_true rfl⟩ rfl hl.1 (cat8 _ (by exact Nat.le_of_ble_eq_true rfl)) dX8_remove_15 rfl (fun H locs _ _ hC => ?_)
    obtain rfl := Option.some.inj hf
    exact fr_iret hx hb hr hlocks hC dX8_remove_18
set_option maxRecDepth 100000 in
theorem c_X8_remove {l : Launch} (hfl : l.stackTraces = false) (D : va_G) (cA : Nat → ClassId) {o : Nat} {p0 : Int32} {h : fSt} {r : (Int32 × fSt)} (hf : f_X8_remove o p0 h = some r) : fMet l yX8_remove (wsC yX8_remove cX8_remove 5 (some (.int))) (2) (43) D cA [.ref o, .int p0] h r.2 (some (.int r.1)) := by
  exact fMet.of (own := RX8) (by decide +kernel) rfl (lva1 rfl (lva1 rfl lva0)) (lgl1 rfl (lgl1 rfl lgl0)) (Nat.le_of_ble_eq_true rfl) (fun p e s m args below meth c ls hnm _ M hC hl => by
    have hl : lv_has ls 5 [(0, va_rf (some o)), (1, .int p0)] := hl
    exact w_X8_remove_L0 M hfl _ _ _ hf _ _ _ _ _ hC (lv_sub hl [0, 1] rfl))
set_option maxHeartbeats 4000000 in
set_option maxRecDepth 100000 in
theorem w_X8_scale_L26 {p : Program} {l : Launch} {e : Env} {s : State} {m : MethodId} {args : Array Value} {below : List Frame} {meth : Method} {c : Code} {D : va_G} {cA : Nat → ClassId} {h0 : fSt} {r : (Int32 × fSt)} (M : fM p s m args meth c D cA h0 { frames := 3, cells := fCB h0 - fZ h0, slots := fLB h0 - fL h0, locals := 65 } cX8_scale 5 (some (.int)) RX8) (hfl : l.stackTraces = false) (a0 : Option Nat) (a1 : Int32) (a2 : Int32) (a3 : Int32) (s3 : Int32) (s2 : Int32) (s1 : Option Nat) (s0 : Option Nat) (h : fSt) (hf : f_X8_scale_L26 a0 a1 a2 a3 s3 s2 s1 s0 h = some r) : ∀ (H : Heap) (locs : List Loc) (cells slots : Nat) (ls : Array Slot), fCur D cA s h0 h H locs → lv_has ls 5 [(0, va_rf a0), (1, .int a1), (2, .int a2), (3, .int a3)] → W p l e { frames := 3, cells := fCB h0 - fZ h0, slots := fLB h0 - fL h0, locals := 65 } s m args below meth c H locs cells slots (MQ below (fQ D cA h0 r.2 (some (.int r.1))) args s (fCB h0 - fZ h0) (fLB h0 - fL h0) (fA h0)) (F0 m 26 ls [.int s3, .int s2, va_rf s1, va_rf s0]) := by
  obtain ⟨hx, hb, hml, hr, hlocks, hts, hown, K, hR⟩ := id M
  intro H locs cells slots ls hC hl
  obtain ⟨b3, q4, hf⟩ := obind hf
  obtain ⟨r1, g2, hf⟩ := obind hf
  refine fr_callV hx hb hml hts hown K hC hR ct_8 (c_X8_refusal hfl D cA g2) 2 q4 kw1099 kw1096 kw1098 kw25 kw62 (by decide +kernel) ⟨by exact Nat.le_of_ble_eq_true rfl, by exact Nat.le_of_ble_eq_true rfl⟩ rfl hl.1 (cat8 _ (by exact Nat.le_of_ble_eq_true rfl)) dX8_scale_26 rfl (fun H locs _ _ hC => ?_)
  obtain ⟨h5, g6, hf⟩ := obind hf
  refine fr_put hx hb hts hown K hC ct_8 g6 (by decide) kw971 rfl rfl rfl rfl dX8_scale_29 (fun H locs hC => ?_)
  refine fr_aload_n hx hb dX8_scale_32 rfl (lv_at hl 0 rfl) ?_
  obtain ⟨x7, g8, hf⟩ := obind hf
  refine fr_get hx hb hts hown K hC ct_8 (fgI_get g8) (by decide) kw971 rfl dX8_scale_33 ?_
  refine lv_if_eq (tgt := 41) hx hb dX8_scale_36 (by decide) (fun c9 => ?_) (fun c9 => ?_)
  · replace hf := opos c9 hf
    refine fr_aload_n hx hb dX8_scale_41 rfl (lv_at hl 0 rfl) ?_
    obtain ⟨x10, g11, hf⟩ := obind hf
    refine fr_get hx hb hts hown K hC ct_8 (fgR_get g11) (by decide) kw981 rfl dX8_scale_42 ?_
    refine lv_iload_n hx hb dX8_scale_45 rfl (lv_at hl 1 rfl) ?_
    obtain ⟨x12, g13, hf⟩ := obind hf
    refine fr_iald hx hb K hC (t := 0) rfl g13 dX8_scale_46 ?_
    refine lv_bipush (v := (10 : Int32)) hx hb dX8_scale_47 (by decide) ?_
    refine lv_imul hx hb dX8_scale_49 ?_
    refine fr_aload_n hx hb dX8_scale_50 rfl (lv_at hl 0 rfl) ?_
    obtain ⟨x14, g15, hf⟩ := obind hf
    refine fr_get hx hb hts hown K hC ct_8 (fgR_get g15) (by decide) kw982 rfl dX8_scale_51 ?_
    refine lv_iload_n hx hb dX8_scale_54 rfl (lv_at hl 1 rfl) ?_
    obtain ⟨x16, g17, hf⟩ := obind hf
    refine fr_iald hx hb K hC (t := 0) rfl g17 dX8_scale_55 ?_
    refine lv_iadd hx hb dX8_scale_56 ?_
    refine lv_istore (lv' := [(4, .int ((x12 * (10 : Int32)) + x16)), (0, va_rf a0), (1, .int a1), (2, .int a2), (3, .int a3)]) hx hb dX8_scale_57 hl (by decide) (congrArg (List.cons _) (flk rfl (flk rfl (flk rfl (flk rfl fln))))) (fun ls hl => ?_)
    refine fr_aload_n hx hb dX8_scale_59 rfl (lv_at hl 1 rfl) ?_
    obtain ⟨x18, g19, hf⟩ := obind hf
    refine fr_get hx hb hts hown K hC ct_8 (fgR_get g19) (by decide) kw981 rfl dX8_scale_60 ?_
    refine lv_iload_n hx hb dX8_scale_63 rfl (lv_at hl 2 rfl) ?_
    refine lv_iload_n hx hb dX8_scale_64 rfl (lv_at hl 3 rfl) ?_
    obtain ⟨h20, g21, hf⟩ := obind hf
    refine fr_iast hx hb K hC (t := 0) rfl g21 dX8_scale_65 (fun H locs hC => ?_)
    refine fr_aload_n hx hb dX8_scale_66 rfl (lv_at hl 1 rfl) ?_
    obtain ⟨x22, g23, hf⟩ := obind hf
    refine fr_get hx hb hts hown K hC ct_8 (fgR_get g23) (by decide) kw982 rfl dX8_scale_67 ?_
    refine lv_iload_n hx hb dX8_scale_70 rfl (lv_at hl 2 rfl) ?_
    refine lv_iload_n hx hb dX8_scale_71 rfl (lv_at hl 4 rfl) ?_
    obtain ⟨h24, g25, hf⟩ := obind hf
    refine fr_iast hx hb K hC (t := 0) rfl g25 dX8_scale_72 (fun H locs hC => ?_)
    refine lv_iload hx hb dX8_scale_73 (lv_at hl 0 rfl) ?_
    obtain rfl := Option.some.inj hf
    exact fr_iret hx hb hr hlocks hC dX8_scale_75
  · replace hf := oneg c9 hf
    refine lv_iconst (v := (0 : Int32)) hx hb dX8_scale_39 (by decide) ?_
    obtain rfl := Option.some.inj hf
    exact fr_iret hx hb hr hlocks hC dX8_scale_40
set_option maxHeartbeats 4000000 in
set_option maxRecDepth 100000 in
theorem w_X8_scale_L25 {p : Program} {l : Launch} {e : Env} {s : State} {m : MethodId} {args : Array Value} {below : List Frame} {meth : Method} {c : Code} {D : va_G} {cA : Nat → ClassId} {h0 : fSt} {r : (Int32 × fSt)} (M : fM p s m args meth c D cA h0 { frames := 3, cells := fCB h0 - fZ h0, slots := fLB h0 - fL h0, locals := 65 } cX8_scale 5 (some (.int)) RX8) (hfl : l.stackTraces = false) (a0 : Option Nat) (a1 : Int32) (a2 : Int32) (a3 : Int32) (s2 : Int32) (s1 : Option Nat) (s0 : Option Nat) (h : fSt) (hf : f_X8_scale_L25 a0 a1 a2 a3 s2 s1 s0 h = some r) : ∀ (H : Heap) (locs : List Loc) (cells slots : Nat) (ls : Array Slot), fCur D cA s h0 h H locs → lv_has ls 5 [(0, va_rf a0), (1, .int a1), (2, .int a2), (3, .int a3)] → W p l e { frames := 3, cells := fCB h0 - fZ h0, slots := fLB h0 - fL h0, locals := 65 } s m args below meth c H locs cells slots (MQ below (fQ D cA h0 r.2 (some (.int r.1))) args s (fCB h0 - fZ h0) (fLB h0 - fL h0) (fA h0)) (F0 m 25 ls [.int s2, va_rf s1, va_rf s0]) := by
  obtain ⟨hx, hb, hml, hr, hlocks, hts, hown, K, hR⟩ := id M
  intro H locs cells slots ls hC hl
  refine lv_iconst (v := (0 : Int32)) hx hb dX8_scale_25 (by decide) ?_
  exact w_X8_scale_L26 M hfl _ _ _ _ _ _ _ _ _ hf _ _ _ _ _ hC (lv_sub hl [0, 1, 2, 3] rfl)
set_option maxHeartbeats 4000000 in
set_option maxRecDepth 100000 in
theorem w_X8_scale_L0 {p : Program} {l : Launch} {e : Env} {s : State} {m : MethodId} {args : Array Value} {below : List Frame} {meth : Method} {c : Code} {D : va_G} {cA : Nat → ClassId} {h0 : fSt} {r : (Int32 × fSt)} (M : fM p s m args meth c D cA h0 { frames := 3, cells := fCB h0 - fZ h0, slots := fLB h0 - fL h0, locals := 65 } cX8_scale 5 (some (.int)) RX8) (hfl : l.stackTraces = false) (a0 : Option Nat) (a1 : Int32) (a2 : Int32) (a3 : Int32) (h : fSt) (hf : f_X8_scale_L0 a0 a1 a2 a3 h = some r) : ∀ (H : Heap) (locs : List Loc) (cells slots : Nat) (ls : Array Slot), fCur D cA s h0 h H locs → lv_has ls 5 [(0, va_rf a0), (1, .int a1), (2, .int a2), (3, .int a3)] → W p l e { frames := 3, cells := fCB h0 - fZ h0, slots := fLB h0 - fL h0, locals := 65 } s m args below meth c H locs cells slots (MQ below (fQ D cA h0 r.2 (some (.int r.1))) args s (fCB h0 - fZ h0) (fLB h0 - fL h0) (fA h0)) (F0 m 0 ls []) := by
  obtain ⟨hx, hb, hml, hr, hlocks, hts, hown, K, hR⟩ := id M
  intro H locs cells slots ls hC hl
  refine fr_aload_n hx hb dX8_scale_0 rfl (lv_at hl 0 rfl) ?_
  refine fr_aload_n hx hb dX8_scale_1 rfl (lv_at hl 0 rfl) ?_
  refine lv_iload_n hx hb dX8_scale_2 rfl (lv_at hl 1 rfl) ?_
  refine lv_iload_n hx hb dX8_scale_3 rfl (lv_at hl 2 rfl) ?_
  refine lv_iconst (v := (1 : Int32)) hx hb dX8_scale_4 (by decide) ?_
  refine lv_iconst (v := (4 : Int32)) hx hb dX8_scale_5 (by decide) ?_
  obtain ⟨r26, g27, hf⟩ := obind hf
  refine fr_callS hx hb hml hts hown K hC hR (c_X8_isIn hfl D cA g27) 3 kw1066 kw1064 kw1065 kw62 (by decide +kernel) ⟨by exact Nat.le_of_ble_eq_true rfl, by exact Nat.le_of_ble_eq_true rfl⟩ rfl hl.1 (cat8 _ (by exact Nat.le_of_ble_eq_true rfl)) dX8_scale_6 rfl (fun H locs _ _ hC => ?_)
  refine lv_if_eq (tgt := 25) hx hb dX8_scale_9 (by decide) (fun c28 => ?_) (fun c28 => ?_)
  · replace hf := opos c28 hf
    exact w_X8_scale_L25 M hfl _ _ _ _ _ _ _ _ hf _ _ _ _ _ hC (lv_sub hl [0, 1, 2, 3] rfl)
  · replace hf := oneg c28 hf
    refine lv_iload_n hx hb dX8_scale_12 rfl (lv_at hl 3 rfl) ?_
    refine lv_iconst (v := (1 : Int32)) hx hb dX8_scale_13 (by decide) ?_
    refine lv_iconst (v := (4 : Int32)) hx hb dX8_scale_14 (by decide) ?_
    obtain ⟨r29, g30, hf⟩ := obind hf
    refine fr_callS hx hb hml hts hown K hC hR (c_X8_isIn hfl D cA g30) 3 kw1066 kw1064 kw1065 kw62 (by decide +kernel) ⟨by exact Nat.le_of_ble_eq_true rfl, by exact Nat.le_of_ble_eq_true rfl⟩ rfl hl.1 (cat8 _ (by exact Nat.le_of_ble_eq_true rfl)) dX8_scale_15 rfl (fun H locs _ _ hC => ?_)
    refine lv_if_eq (tgt := 25) hx hb dX8_scale_18 (by decide) (fun c31 => ?_) (fun c31 => ?_)
    · replace hf := opos c31 hf
      exact w_X8_scale_L25 M hfl _ _ _ _ _ _ _ _ hf _ _ _ _ _ hC (lv_sub hl [0, 1, 2, 3] rfl)
    · replace hf := oneg c31 hf
      refine lv_iconst (v := (1 : Int32)) hx hb dX8_scale_21 (by decide) ?_
      refine lv_goto (tgt := 26) hx hb dX8_scale_22 (by decide) ?_
      exact w_X8_scale_L26 M hfl _ _ _ _ _ _ _ _ _ hf _ _ _ _ _ hC (lv_sub hl [0, 1, 2, 3] rfl)
set_option maxRecDepth 100000 in
theorem c_X8_scale {l : Launch} (hfl : l.stackTraces = false) (D : va_G) (cA : Nat → ClassId) {o : Nat} {p0 : Int32} {p1 : Int32} {p2 : Int32} {h : fSt} {r : (Int32 × fSt)} (hf : f_X8_scale o p0 p1 p2 h = some r) : fMet l yX8_scale (wsC yX8_scale cX8_scale 5 (some (.int))) (3) (65) D cA [.ref o, .int p0, .int p1, .int p2] h r.2 (some (.int r.1)) := by
  exact fMet.of (own := RX8) (by decide +kernel) rfl (lva1 rfl (lva1 rfl (lva1 rfl (lva1 rfl lva0)))) (lgl1 rfl (lgl1 rfl (lgl1 rfl (lgl1 rfl lgl0)))) (Nat.le_of_ble_eq_true rfl) (fun p e s m args below meth c ls hnm _ M hC hl => by
    have hl : lv_has ls 5 [(0, va_rf (some o)), (1, .int p0), (2, .int p1), (3, .int p2)] := hl
    exact w_X8_scale_L0 M hfl _ _ _ _ _ hf _ _ _ _ _ hC (lv_sub hl [0, 1, 2, 3] rfl))
set_option maxHeartbeats 4000000 in
set_option maxRecDepth 100000 in
theorem w_X8_setTime_L0 {p : Program} {l : Launch} {e : Env} {s : State} {m : MethodId} {args : Array Value} {below : List Frame} {meth : Method} {c : Code} {D : va_G} {cA : Nat → ClassId} {h0 : fSt} {r : (Int32 × fSt)} (M : fM p s m args meth c D cA h0 { frames := 1, cells := fCB h0 - fZ h0, slots := fLB h0 - fL h0, locals := 22 } cX8_setTime 3 (some (.int)) RX8) (hfl : l.stackTraces = false) (a0 : Option Nat) (a1 : Int32) (h : fSt) (hf : f_X8_setTime_L0 a0 a1 h = some r) : ∀ (H : Heap) (locs : List Loc) (cells slots : Nat) (ls : Array Slot), fCur D cA s h0 h H locs → lv_has ls 3 [(0, va_rf a0), (1, .int a1)] → W p l e { frames := 1, cells := fCB h0 - fZ h0, slots := fLB h0 - fL h0, locals := 22 } s m args below meth c H locs cells slots (MQ below (fQ D cA h0 r.2 (some (.int r.1))) args s (fCB h0 - fZ h0) (fLB h0 - fL h0) (fA h0)) (F0 m 0 ls []) := by
  obtain ⟨hx, hb, hml, hr, hlocks, hts, hown, K, hR⟩ := id M
  intro H locs cells slots ls hC hl
  refine fr_aload_n hx hb dX8_setTime_0 rfl (lv_at hl 0 rfl) ?_
  refine lv_iconst (v := (0 : Int32)) hx hb dX8_setTime_1 (by decide) ?_
  obtain ⟨h1, g2, hf⟩ := obind hf
  refine fr_put hx hb hts hown K hC ct_8 g2 (by decide) kw971 rfl rfl rfl rfl dX8_setTime_2 (fun H locs hC => ?_)
  refine lv_iload_n hx hb dX8_setTime_5 rfl (lv_at hl 1 rfl) ?_
  refine lv_iconst (v := (0 : Int32)) hx hb dX8_setTime_6 (by decide) ?_
  refine lv_sipush (v := (9999 : Int32)) hx hb dX8_setTime_7 (by decide) ?_
  obtain ⟨r3, g4, hf⟩ := obind hf
  refine fr_callS hx hb hml hts hown K hC hR (c_X8_isIn hfl D cA g4) 3 kw1066 kw1064 kw1065 kw62 (by decide +kernel) ⟨by exact Nat.le_of_ble_eq_true rfl, by exact Nat.le_of_ble_eq_true rfl⟩ rfl hl.1 (cat8 _ (by exact Nat.le_of_ble_eq_true rfl)) dX8_setTime_10 rfl (fun H locs _ _ hC => ?_)
  refine lv_if_ne (tgt := 22) hx hb dX8_setTime_13 (by decide) (fun c5 => ?_) (fun c5 => ?_)
  · replace hf := oneg c5 hf
    refine fr_aload_n hx hb dX8_setTime_22 rfl (lv_at hl 0 rfl) ?_
    obtain ⟨x6, g7, hf⟩ := obind hf
    refine fr_get hx hb hts hown K hC ct_8 (fgI_get g7) (by decide) kw996 rfl dX8_setTime_23 ?_
    refine lv_istore_n (lv' := [(2, .int x6), (0, va_rf a0), (1, .int a1)]) hx hb dX8_setTime_26 rfl hl (by decide) (congrArg (List.cons _) (flk rfl (flk rfl fln))) (fun ls hl => ?_)
    refine fr_aload_n hx hb dX8_setTime_27 rfl (lv_at hl 1 rfl) ?_
    refine lv_iload_n hx hb dX8_setTime_28 rfl (lv_at hl 2 rfl) ?_
    obtain ⟨h8, g9, hf⟩ := obind hf
    refine fr_put hx hb hts hown K hC ct_8 g9 (by decide) kw996 rfl rfl rfl rfl dX8_setTime_29 (fun H locs hC => ?_)
    refine lv_iload_n hx hb dX8_setTime_32 rfl (lv_at hl 0 rfl) ?_
    obtain rfl := Option.some.inj hf
    exact fr_iret hx hb hr hlocks hC dX8_setTime_33
  · replace hf := opos c5 hf
    refine fr_aload_n hx hb dX8_setTime_16 rfl (lv_at hl 0 rfl) ?_
    refine lv_iconst (v := (1 : Int32)) hx hb dX8_setTime_17 (by decide) ?_
    obtain ⟨b12, q13, hf⟩ := obind hf
    obtain ⟨r10, g11, hf⟩ := obind hf
    refine fr_callV hx hb hml hts hown K hC hR ct_8 (c_X8_no hfl D cA g11) 1 q13 kw1070 kw1067 kw1069 kw21 kw62 (by decide +kernel) ⟨by exact Nat.le_of_ble_eq_true rfl, by exact Nat.le_of_ble_eq_true rfl⟩ rfl hl.1 (cat8 _ (by exact Nat.le_of_ble_eq_true rfl)) dX8_setTime_18 rfl (fun H locs _ _ hC => ?_)
    obtain rfl := Option.some.inj hf
    exact fr_iret hx hb hr hlocks hC dX8_setTime_21
set_option maxRecDepth 100000 in
theorem c_X8_setTime {l : Launch} (hfl : l.stackTraces = false) (D : va_G) (cA : Nat → ClassId) {o : Nat} {p0 : Int32} {h : fSt} {r : (Int32 × fSt)} (hf : f_X8_setTime o p0 h = some r) : fMet l yX8_setTime (wsC yX8_setTime cX8_setTime 3 (some (.int))) (1) (22) D cA [.ref o, .int p0] h r.2 (some (.int r.1)) := by
  exact fMet.of (own := RX8) (by decide +kernel) rfl (lva1 rfl (lva1 rfl lva0)) (lgl1 rfl (lgl1 rfl lgl0)) (Nat.le_of_ble_eq_true rfl) (fun p e s m args below meth c ls hnm _ M hC hl => by
    have hl : lv_has ls 3 [(0, va_rf (some o)), (1, .int p0)] := hl
    exact w_X8_setTime_L0 M hfl _ _ _ hf _ _ _ _ _ hC (lv_sub hl [0, 1] rfl))
set_option maxHeartbeats 4000000 in
set_option maxRecDepth 100000 in
theorem w_X8_size_L33 {p : Program} {l : Launch} {e : Env} {s : State} {m : MethodId} {args : Array Value} {below : List Frame} {meth : Method} {c : Code} {D : va_G} {cA : Nat → ClassId} {h0 : fSt} {r : (UInt64 × fSt)} (M : fM p s m args meth c D cA h0 { frames := 2, cells := fCB h0 - fZ h0, slots := fLB h0 - fL h0, locals := 43 } cX8_size 5 (some (.double)) RX8) (hfl : l.stackTraces = false) : ∀ (n : Nat) (a0 : Option Nat) (a2 : Int32) (a3 : Int32) (a4 : Int32) (h : fSt), f_X8_size_L33 n a0 a2 a3 a4 h = some r → ∀ (H : Heap) (locs : List Loc) (cells slots : Nat) (ls : Array Slot), fCur D cA s h0 h H locs → lv_has ls 5 [(0, va_rf a0), (2, .int a2), (3, .int a3), (4, .int a4)] → W p l e { frames := 2, cells := fCB h0 - fZ h0, slots := fLB h0 - fL h0, locals := 43 } s m args below meth c H locs cells slots (MQ below (fQ D cA h0 r.2 (some (.double r.1))) args s (fCB h0 - fZ h0) (fLB h0 - fL h0) (fA h0)) (F0 m 33 ls []) := by
  obtain ⟨hx, hb, hml, hr, hlocks, hts, hown, K, hR⟩ := id M
  intro n
  induction n with
  | zero =>
    intro a0 a2 a3 a4 h hf
    exact nomatch (show (none : Option (UInt64 × fSt)) = some r from hf)
  | succ n hk33 =>
    intro a0 a2 a3 a4 h hf H locs cells slots ls hC hl
    refine lv_iload hx hb dX8_size_33 (lv_at hl 3 rfl) ?_
    refine lv_if_eq (tgt := 70) hx hb dX8_size_35 (by decide) (fun c1 => ?_) (fun c1 => ?_)
    · replace hf := opos c1 hf
      refine lv_iload_n hx hb dX8_size_70 rfl (lv_at hl 1 rfl) ?_
      refine lv_i2d hx hb dX8_size_71 ?_
      refine lv_iload_n hx hb dX8_size_72 rfl (lv_at hl 2 rfl) ?_
      refine lv_i2d hx hb dX8_size_73 ?_
      by_cases c2 : (FP.ddiv (FP.i2d a2) (FP.i2d a3)) &&& 0x7fffffffffffffff ≤ 0x7ff0000000000000
      rotate_left
      · exact nomatch (oneg c2 hf)
      replace hf := opos c2 hf
      refine lv_ddiv hx hb dX8_size_74 c2 ?_
      obtain rfl := Option.some.inj hf
      exact fr_dret hx hb hr hlocks hC dX8_size_75
    · replace hf := oneg c1 hf
      refine lv_iload_n hx hb dX8_size_38 rfl (lv_at hl 1 rfl) ?_
      refine fr_aload_n hx hb dX8_size_39 rfl (lv_at hl 0 rfl) ?_
      obtain ⟨x3, g4, hf⟩ := obind hf
      refine fr_get hx hb hts hown K hC ct_8 (fgR_get g4) (by decide) kw981 rfl dX8_size_40 ?_
      refine lv_iload hx hb dX8_size_43 (lv_at hl 3 rfl) ?_
      obtain ⟨x5, g6, hf⟩ := obind hf
      refine fr_iald hx hb K hC (t := 0) rfl g6 dX8_size_45 ?_
      refine lv_imul hx hb dX8_size_46 ?_
      refine lv_istore_n (lv' := [(2, .int (a2 * x5)), (0, va_rf a0), (3, .int a3), (4, .int a4)]) hx hb dX8_size_47 rfl hl (by decide) (congrArg (List.cons _) (flk rfl (fld rfl (flk rfl (flk rfl fln))))) (fun ls hl => ?_)
      refine lv_iload_n hx hb dX8_size_48 rfl (lv_at hl 2 rfl) ?_
      refine fr_aload_n hx hb dX8_size_49 rfl (lv_at hl 1 rfl) ?_
      obtain ⟨x7, g8, hf⟩ := obind hf
      refine fr_get hx hb hts hown K hC ct_8 (fgR_get g8) (by decide) kw982 rfl dX8_size_50 ?_
      refine lv_iload hx hb dX8_size_53 (lv_at hl 3 rfl) ?_
      obtain ⟨x9, g10, hf⟩ := obind hf
      refine fr_iald hx hb K hC (t := 0) rfl g10 dX8_size_55 ?_
      refine lv_imul hx hb dX8_size_56 ?_
      refine lv_istore_n (lv' := [(3, .int (a3 * x9)), (2, .int (a2 * x5)), (0, va_rf a0), (4, .int a4)]) hx hb dX8_size_57 rfl hl (by decide) (congrArg (List.cons _) (flk rfl (flk rfl (fld rfl (flk rfl fln))))) (fun ls hl => ?_)
      refine fr_aload_n hx hb dX8_size_58 rfl (lv_at hl 2 rfl) ?_
      obtain ⟨x11, g12, hf⟩ := obind hf
      refine fr_get hx hb hts hown K hC ct_8 (fgR_get g12) (by decide) kw977 rfl dX8_size_59 ?_
      refine lv_iload hx hb dX8_size_62 (lv_at hl 3 rfl) ?_
      obtain ⟨x13, g14, hf⟩ := obind hf
      refine fr_iald hx hb K hC (t := 0) rfl g14 dX8_size_64 ?_
      refine lv_istore (lv' := [(4, .int x13), (3, .int (a3 * x9)), (2, .int (a2 * x5)), (0, va_rf a0)]) hx hb dX8_size_65 hl (by decide) (congrArg (List.cons _) (flk rfl (flk rfl (flk rfl (fld rfl fln))))) (fun ls hl => ?_)
      refine lv_goto (tgt := 33) hx hb dX8_size_67 (by decide) ?_
      exact hk33 _ _ _ _ _ hf _ _ _ _ _ hC (lv_sub hl [3, 2, 1, 0] rfl)
set_option maxHeartbeats 4000000 in
set_option maxRecDepth 100000 in
theorem w_X8_size_L14 {p : Program} {l : Launch} {e : Env} {s : State} {m : MethodId} {args : Array Value} {below : List Frame} {meth : Method} {c : Code} {D : va_G} {cA : Nat → ClassId} {h0 : fSt} {r : (UInt64 × fSt)} (M : fM p s m args meth c D cA h0 { frames := 2, cells := fCB h0 - fZ h0, slots := fLB h0 - fL h0, locals := 43 } cX8_size 5 (some (.double)) RX8) (hfl : l.stackTraces = false) (a0 : Option Nat) (a1 : Int32) (s1 : Int32) (s0 : Option Nat) (h : fSt) (hf : f_X8_size_L14 a0 a1 s1 s0 h = some r) : ∀ (H : Heap) (locs : List Loc) (cells slots : Nat) (ls : Array Slot), fCur D cA s h0 h H locs → lv_has ls 5 [(0, va_rf a0), (1, .int a1)] → W p l e { frames := 2, cells := fCB h0 - fZ h0, slots := fLB h0 - fL h0, locals := 43 } s m args below meth c H locs cells slots (MQ below (fQ D cA h0 r.2 (some (.double r.1))) args s (fCB h0 - fZ h0) (fLB h0 - fL h0) (fA h0)) (F0 m 14 ls [.int s1, va_rf s0]) := by
  obtain ⟨hx, hb, hml, hr, hlocks, hts, hown, K, hR⟩ := id M
  intro H locs cells slots ls hC hl
  obtain ⟨h15, g16, hf⟩ := obind hf
  refine fr_put hx hb hts hown K hC ct_8 g16 (by decide) kw971 rfl rfl rfl rfl dX8_size_14 (fun H locs hC => ?_)
  refine fr_aload_n hx hb dX8_size_17 rfl (lv_at hl 0 rfl) ?_
  obtain ⟨x17, g18, hf⟩ := obind hf
  refine fr_get hx hb hts hown K hC ct_8 (fgI_get g18) (by decide) kw971 rfl dX8_size_18 ?_
  refine lv_if_eq (tgt := 26) hx hb dX8_size_21 (by decide) (fun c19 => ?_) (fun c19 => ?_)
  · replace hf := opos c19 hf
    refine lv_iconst (v := (1 : Int32)) hx hb dX8_size_26 (by decide) ?_
    refine lv_istore_n (lv' := [(2, .int (1 : Int32)), (0, va_rf a0), (1, .int a1)]) hx hb dX8_size_27 rfl hl (by decide) (congrArg (List.cons _) (flk rfl (flk rfl fln))) (fun ls hl => ?_)
    refine lv_iconst (v := (1 : Int32)) hx hb dX8_size_28 (by decide) ?_
    refine lv_istore_n (lv' := [(3, .int (1 : Int32)), (2, .int (1 : Int32)), (0, va_rf a0), (1, .int a1)]) hx hb dX8_size_29 rfl hl (by decide) (congrArg (List.cons _) (flk rfl (flk rfl (flk rfl fln)))) (fun ls hl => ?_)
    refine lv_iload_n hx hb dX8_size_30 rfl (lv_at hl 3 rfl) ?_
    refine lv_istore (lv' := [(4, .int a1), (3, .int (1 : Int32)), (2, .int (1 : Int32)), (0, va_rf a0), (1, .int a1)]) hx hb dX8_size_31 hl (by decide) (congrArg (List.cons _) (flk rfl (flk rfl (flk rfl (flk rfl fln))))) (fun ls hl => ?_)
    exact w_X8_size_L33 M hfl 4096 _ _ _ _ _ hf _ _ _ _ _ hC (lv_sub hl [3, 2, 1, 0] rfl)
  · replace hf := oneg c19 hf
    refine lv_dconst0 hx hb dX8_size_24 ?_
    obtain rfl := Option.some.inj hf
    exact fr_dret hx hb hr hlocks hC dX8_size_25
set_option maxHeartbeats 4000000 in
set_option maxRecDepth 100000 in
theorem w_X8_size_L0 {p : Program} {l : Launch} {e : Env} {s : State} {m : MethodId} {args : Array Value} {below : List Frame} {meth : Method} {c : Code} {D : va_G} {cA : Nat → ClassId} {h0 : fSt} {r : (UInt64 × fSt)} (M : fM p s m args meth c D cA h0 { frames := 2, cells := fCB h0 - fZ h0, slots := fLB h0 - fL h0, locals := 43 } cX8_size 5 (some (.double)) RX8) (hfl : l.stackTraces = false) (a0 : Option Nat) (a1 : Int32) (h : fSt) (hf : f_X8_size_L0 a0 a1 h = some r) : ∀ (H : Heap) (locs : List Loc) (cells slots : Nat) (ls : Array Slot), fCur D cA s h0 h H locs → lv_has ls 5 [(0, va_rf a0), (1, .int a1)] → W p l e { frames := 2, cells := fCB h0 - fZ h0, slots := fLB h0 - fL h0, locals := 43 } s m args below meth c H locs cells slots (MQ below (fQ D cA h0 r.2 (some (.double r.1))) args s (fCB h0 - fZ h0) (fLB h0 - fL h0) (fA h0)) (F0 m 0 ls []) := by
  obtain ⟨hx, hb, hml, hr, hlocks, hts, hown, K, hR⟩ := id M
  intro H locs cells slots ls hC hl
  refine fr_aload_n hx hb dX8_size_0 rfl (lv_at hl 0 rfl) ?_
  refine fr_aload_n hx hb dX8_size_1 rfl (lv_at hl 0 rfl) ?_
  refine lv_iload_n hx hb dX8_size_2 rfl (lv_at hl 1 rfl) ?_
  obtain ⟨b22, q23, hf⟩ := obind hf
  obtain ⟨r20, g21, hf⟩ := obind hf
  refine fr_callV hx hb hml hts hown K hC hR ct_8 (c_X8_isNode hfl D cA g21) 1 q23 kw1063 kw1060 kw1062 kw20 kw62 (by decide +kernel) ⟨by exact Nat.le_of_ble_eq_true rfl, by exact Nat.le_of_ble_eq_true rfl⟩ rfl hl.1 (cat8 _ (by exact Nat.le_of_ble_eq_true rfl)) dX8_size_3 rfl (fun H locs _ _ hC => ?_)
  refine lv_if_eq (tgt := 13) hx hb dX8_size_6 (by decide) (fun c24 => ?_) (fun c24 => ?_)
  · replace hf := opos c24 hf
    refine lv_iconst (v := (1 : Int32)) hx hb dX8_size_13 (by decide) ?_
    exact w_X8_size_L14 M hfl _ _ _ _ _ hf _ _ _ _ _ hC (lv_sub hl [0, 1] rfl)
  · replace hf := oneg c24 hf
    refine lv_iconst (v := (0 : Int32)) hx hb dX8_size_9 (by decide) ?_
    refine lv_goto (tgt := 14) hx hb dX8_size_10 (by decide) ?_
    exact w_X8_size_L14 M hfl _ _ _ _ _ hf _ _ _ _ _ hC (lv_sub hl [0, 1] rfl)
set_option maxRecDepth 100000 in
theorem c_X8_size {l : Launch} (hfl : l.stackTraces = false) (D : va_G) (cA : Nat → ClassId) {o : Nat} {p0 : Int32} {h : fSt} {r : (UInt64 × fSt)} (hf : f_X8_size o p0 h = some r) : fMet l yX8_size (wsC yX8_size cX8_size 5 (some (.double))) (2) (43) D cA [.ref o, .int p0] h r.2 (some (.double r.1)) := by
  exact fMet.of (own := RX8) (by decide +kernel) rfl (lva1 rfl (lva1 rfl lva0)) (lgl1 rfl (lgl1 rfl lgl0)) (Nat.le_of_ble_eq_true rfl) (fun p e s m args below meth c ls hnm _ M hC hl => by
    have hl : lv_has ls 5 [(0, va_rf (some o)), (1, .int p0)] := hl
    exact w_X8_size_L0 M hfl _ _ _ hf _ _ _ _ _ hC (lv_sub hl [0, 1] rfl))
set_option maxHeartbeats 4000000 in
set_option maxRecDepth 100000 in
theorem w_X8_strength_L26 {p : Program} {l : Launch} {e : Env} {s : State} {m : MethodId} {args : Array Value} {below : List Frame} {meth : Method} {c : Code} {D : va_G} {cA : Nat → ClassId} {h0 : fSt} {r : (Int32 × fSt)} (M : fM p s m args meth c D cA h0 { frames := 25, cells := fCB h0 - fZ h0, slots := fLB h0 - fL h0, locals := 661 } cX8_strength 2 (some (.int)) RX8) (hfl : l.stackTraces = false) (s0 : Int32) (h : fSt) (hf : f_X8_strength_L26 s0 h = some r) : ∀ (H : Heap) (locs : List Loc) (cells slots : Nat) (ls : Array Slot), fCur D cA s h0 h H locs → lv_has ls 2 [] → W p l e { frames := 25, cells := fCB h0 - fZ h0, slots := fLB h0 - fL h0, locals := 661 } s m args below meth c H locs cells slots (MQ below (fQ D cA h0 r.2 (some (.int r.1))) args s (fCB h0 - fZ h0) (fLB h0 - fL h0) (fA h0)) (F0 m 26 ls [.int s0]) := by
  obtain ⟨hx, hb, hml, hr, hlocks, hts, hown, K, hR⟩ := id M
  intro H locs cells slots ls hC hl
  obtain rfl := Option.some.inj hf
  exact fr_iret hx hb hr hlocks hC dX8_strength_26
set_option maxHeartbeats 4000000 in
set_option maxRecDepth 100000 in
theorem w_X8_strength_L0 {p : Program} {l : Launch} {e : Env} {s : State} {m : MethodId} {args : Array Value} {below : List Frame} {meth : Method} {c : Code} {D : va_G} {cA : Nat → ClassId} {h0 : fSt} {r : (Int32 × fSt)} (M : fM p s m args meth c D cA h0 { frames := 25, cells := fCB h0 - fZ h0, slots := fLB h0 - fL h0, locals := 661 } cX8_strength 2 (some (.int)) RX8) (hfl : l.stackTraces = false) (a0 : Option Nat) (a1 : Int32) (h : fSt) (hf : f_X8_strength_L0 a0 a1 h = some r) : ∀ (H : Heap) (locs : List Loc) (cells slots : Nat) (ls : Array Slot), fCur D cA s h0 h H locs → lv_has ls 2 [(0, va_rf a0), (1, .int a1)] → W p l e { frames := 25, cells := fCB h0 - fZ h0, slots := fLB h0 - fL h0, locals := 661 } s m args below meth c H locs cells slots (MQ below (fQ D cA h0 r.2 (some (.int r.1))) args s (fCB h0 - fZ h0) (fLB h0 - fL h0) (fA h0)) (F0 m 0 ls []) := by
  obtain ⟨hx, hb, hml, hr, hlocks, hts, hown, K, hR⟩ := id M
  intro H locs cells slots ls hC hl
  refine fr_aload_n hx hb dX8_strength_0 rfl (lv_at hl 0 rfl) ?_
  refine lv_iconst (v := (0 : Int32)) hx hb dX8_strength_1 (by decide) ?_
  obtain ⟨h1, g2, hf⟩ := obind hf
  refine fr_put hx hb hts hown K hC ct_8 g2 (by decide) kw971 rfl rfl rfl rfl dX8_strength_2 (fun H locs hC => ?_)
  refine fr_aload_n hx hb dX8_strength_5 rfl (lv_at hl 0 rfl) ?_
  refine lv_iload_n hx hb dX8_strength_6 rfl (lv_at hl 1 rfl) ?_
  obtain ⟨b5, q6, hf⟩ := obind hf
  obtain ⟨r3, g4, hf⟩ := obind hf
  refine fr_callV hx hb hml hts hown K hC hR ct_8 (c_X8_isNode hfl D cA g4) 1 q6 kw1063 kw1060 kw1062 kw20 kw62 (by decide +kernel) ⟨by exact Nat.le_of_ble_eq_true rfl, by exact Nat.le_of_ble_eq_true rfl⟩ rfl hl.1 (cat8 _ (by exact Nat.le_of_ble_eq_true rfl)) dX8_strength_7 rfl (fun H locs _ _ hC => ?_)
  refine lv_if_eq (tgt := 21) hx hb dX8_strength_10 (by decide) (fun c7 => ?_) (fun c7 => ?_)
  · replace hf := opos c7 hf
    refine fr_aload_n hx hb dX8_strength_21 rfl (lv_at hl 0 rfl) ?_
    refine lv_iconst (v := (1 : Int32)) hx hb dX8_strength_22 (by decide) ?_
    obtain ⟨b10, q11, hf⟩ := obind hf
    obtain ⟨r8, g9, hf⟩ := obind hf
    refine fr_callV hx hb hml hts hown K hC hR ct_8 (c_X8_no hfl D cA g9) 1 q11 kw1070 kw1067 kw1069 kw21 kw62 (by decide +kernel) ⟨by exact Nat.le_of_ble_eq_true rfl, by exact Nat.le_of_ble_eq_true rfl⟩ rfl hl.1 (cat8 _ (by exact Nat.le_of_ble_eq_true rfl)) dX8_strength_23 rfl (fun H locs _ _ hC => ?_)
    exact w_X8_strength_L26 M hfl _ _ hf _ _ _ _ _ hC (lv_sub hl [] rfl)
  · replace hf := oneg c7 hf
    refine fr_aload_n hx hb dX8_strength_13 rfl (lv_at hl 0 rfl) ?_
    refine lv_iload_n hx hb dX8_strength_14 rfl (lv_at hl 1 rfl) ?_
    obtain ⟨b14, q15, hf⟩ := obind hf
    obtain ⟨r12, g13, hf⟩ := obind hf
    refine fr_callV hx hb hml hts hown K hC hR ct_8 (c_X8_strengthNow hfl D cA 8 g13) 1 q15 kw1293 kw1290 kw1292 kw46 kw62 (by decide +kernel) ⟨by exact Nat.le_of_ble_eq_true rfl, by exact Nat.le_of_ble_eq_true rfl⟩ rfl hl.1 (cat8 _ (by exact Nat.le_of_ble_eq_true rfl)) dX8_strength_15 rfl (fun H locs _ _ hC => ?_)
    refine lv_goto (tgt := 26) hx hb dX8_strength_18 (by decide) ?_
    exact w_X8_strength_L26 M hfl _ _ hf _ _ _ _ _ hC (lv_sub hl [] rfl)
set_option maxRecDepth 100000 in
theorem c_X8_strength {l : Launch} (hfl : l.stackTraces = false) (D : va_G) (cA : Nat → ClassId) {o : Nat} {p0 : Int32} {h : fSt} {r : (Int32 × fSt)} (hf : f_X8_strength o p0 h = some r) : fMet l yX8_strength (wsC yX8_strength cX8_strength 2 (some (.int))) (25) (661) D cA [.ref o, .int p0] h r.2 (some (.int r.1)) := by
  exact fMet.of (own := RX8) (by decide +kernel) rfl (lva1 rfl (lva1 rfl lva0)) (lgl1 rfl (lgl1 rfl lgl0)) (Nat.le_of_ble_eq_true rfl) (fun p e s m args below meth c ls hnm _ M hC hl => by
    have hl : lv_has ls 2 [(0, va_rf (some o)), (1, .int p0)] := hl
    exact w_X8_strength_L0 M hfl _ _ _ hf _ _ _ _ _ hC (lv_sub hl [0, 1] rfl))
set_option maxHeartbeats 4000000 in
set_option maxRecDepth 100000 in
theorem w_X8_through_L78 {p : Program} {l : Launch} {e : Env} {s : State} {m : MethodId} {args : Array Value} {below : List Frame} {meth : Method} {c : Code} {D : va_G} {cA : Nat → ClassId} {h0 : fSt} {r : (Int32 × fSt)} (M : fM p s m args meth c D cA h0 { frames := 25, cells := fCB h0 - fZ h0, slots := fLB h0 - fL h0, locals := 661 } cX8_through 7 (some (.int)) RX8) (hfl : l.stackTraces = false) {k38 : Option Nat → Int32 → Int32 → Int32 → Int32 → Option Nat → Int32 → fSt → Option (Int32 × fSt)} (hk38 : ∀ (a0 : Option Nat) (a1 : Int32) (a2 : Int32) (a3 : Int32) (a4 : Int32) (a5 : Option Nat) (a6 : Int32) (h : fSt), k38 a0 a1 a2 a3 a4 a5 a6 h = some r → ∀ (H : Heap) (locs : List Loc) (cells slots : Nat) (ls : Array Slot), fCur D cA s h0 h H locs → lv_has ls 7 [(0, va_rf a0), (1, .int a1), (2, .int a2), (3, .int a3), (4, .int a4), (5, va_rf a5), (6, .int a6)] → W p l e { frames := 25, cells := fCB h0 - fZ h0, slots := fLB h0 - fL h0, locals := 661 } s m args below meth c H locs cells slots (MQ below (fQ D cA h0 r.2 (some (.int r.1))) args s (fCB h0 - fZ h0) (fLB h0 - fL h0) (fA h0)) (F0 m 38 ls [])) (a0 : Option Nat) (a1 : Int32) (a2 : Int32) (a3 : Int32) (a4 : Int32) (a5 : Option Nat) (a6 : Int32) (h : fSt) (hf : f_X8_through_L78 k38 a0 a1 a2 a3 a4 a5 a6 h = some r) : ∀ (H : Heap) (locs : List Loc) (cells slots : Nat) (ls : Array Slot), fCur D cA s h0 h H locs → lv_has ls 7 [(0, va_rf a0), (1, .int a1), (2, .int a2), (3, .int a3), (4, .int a4), (5, va_rf a5), (6, .int a6)] → W p l e { frames := 25, cells := fCB h0 - fZ h0, slots := fLB h0 - fL h0, locals := 661 } s m args below meth c H locs cells slots (MQ below (fQ D cA h0 r.2 (some (.int r.1))) args s (fCB h0 - fZ h0) (fLB h0 - fL h0) (fA h0)) (F0 m 78 ls []) := by
  obtain ⟨hx, hb, hml, hr, hlocks, hts, hown, K, hR⟩ := id M
  intro H locs cells slots ls hC hl
  refine lv_iinc (v := (a6 + (-1 : Int32))) (lv' := [(6, .int (a6 + (-1 : Int32))), (0, va_rf a0), (1, .int a1), (2, .int a2), (3, .int a3), (4, .int a4), (5, va_rf a5)]) hx hb dX8_through_78 hl (k := 6) rfl rfl (by decide) (congrArg (List.cons _) (flk rfl (flk rfl (flk rfl (flk rfl (flk rfl (flk (adj1 _ _) (fld rfl fln)))))))) (fun ls hl => ?_)
  refine lv_goto (tgt := 38) hx hb dX8_through_81 (by decide) ?_
  exact hk38 _ _ _ _ _ _ _ _ hf _ _ _ _ _ hC (lv_sub hl [1, 2, 3, 4, 5, 6, 0] rfl)
set_option maxHeartbeats 4000000 in
set_option maxRecDepth 100000 in
theorem w_X8_through_L38 {p : Program} {l : Launch} {e : Env} {s : State} {m : MethodId} {args : Array Value} {below : List Frame} {meth : Method} {c : Code} {D : va_G} {cA : Nat → ClassId} {h0 : fSt} {r : (Int32 × fSt)} (M : fM p s m args meth c D cA h0 { frames := 25, cells := fCB h0 - fZ h0, slots := fLB h0 - fL h0, locals := 661 } cX8_through 7 (some (.int)) RX8) (hfl : l.stackTraces = false) : ∀ (n : Nat) (a0 : Option Nat) (a1 : Int32) (a2 : Int32) (a3 : Int32) (a4 : Int32) (a5 : Option Nat) (a6 : Int32) (h : fSt), f_X8_through_L38 n a0 a1 a2 a3 a4 a5 a6 h = some r → ∀ (H : Heap) (locs : List Loc) (cells slots : Nat) (ls : Array Slot), fCur D cA s h0 h H locs → lv_has ls 7 [(0, va_rf a0), (1, .int a1), (2, .int a2), (3, .int a3), (4, .int a4), (5, va_rf a5), (6, .int a6)] → W p l e { frames := 25, cells := fCB h0 - fZ h0, slots := fLB h0 - fL h0, locals := 661 } s m args below meth c H locs cells slots (MQ below (fQ D cA h0 r.2 (some (.int r.1))) args s (fCB h0 - fZ h0) (fLB h0 - fL h0) (fA h0)) (F0 m 38 ls []) := by
  obtain ⟨hx, hb, hml, hr, hlocks, hts, hown, K, hR⟩ := id M
  intro n
  induction n with
  | zero =>
    intro a0 a1 a2 a3 a4 a5 a6 h hf
    exact nomatch (show (none : Option (Int32 × fSt)) = some r from hf)
  | succ n hk38 =>
    intro a0 a1 a2 a3 a4 a5 a6 h hf H locs cells slots ls hC hl
    refine lv_iload hx hb dX8_through_38 (lv_at hl 6 rfl) ?_
    refine lv_if_lt (tgt := 84) hx hb dX8_through_40 (by decide) (fun c1 => ?_) (fun c1 => ?_)
    · replace hf := opos c1 hf
      refine lv_iload hx hb dX8_through_84 (lv_at hl 4 rfl) ?_
      obtain rfl := Option.some.inj hf
      exact fr_iret hx hb hr hlocks hC dX8_through_86
    · replace hf := oneg c1 hf
      refine fr_aload_n hx hb dX8_through_43 rfl (lv_at hl 0 rfl) ?_
      refine fr_aload hx hb dX8_through_44 (lv_at hl 5 rfl) ?_
      refine lv_iload hx hb dX8_through_46 (lv_at hl 6 rfl) ?_
      obtain ⟨x2, g3, hf⟩ := obind hf
      refine fr_iald hx hb K hC (t := 0) rfl g3 dX8_through_48 ?_
      refine lv_iload_n hx hb dX8_through_49 rfl (lv_at hl 1 rfl) ?_
      refine lv_iload_n hx hb dX8_through_50 rfl (lv_at hl 2 rfl) ?_
      refine lv_iload_n hx hb dX8_through_51 rfl (lv_at hl 3 rfl) ?_
      obtain ⟨b6, q7, hf⟩ := obind hf
      obtain ⟨r4, g5, hf⟩ := obind hf
      refine fr_callV hx hb hml hts hown K hC hR ct_8 (c_X8_coversNow hfl D cA g5) 4 q7 kw1327 kw1324 kw1326 kw50 kw62 (by decide +kernel) ⟨by exact Nat.le_of_ble_eq_true rfl, by exact Nat.le_of_ble_eq_true rfl⟩ rfl hl.1 (cat8 _ (by exact Nat.le_of_ble_eq_true rfl)) dX8_through_52 rfl (fun H locs _ _ hC => ?_)
      refine lv_if_eq (tgt := 78) hx hb dX8_through_55 (by decide) (fun c8 => ?_) (fun c8 => ?_)
      · replace hf := opos c8 hf
        exact w_X8_through_L78 M hfl hk38 _ _ _ _ _ _ _ _ hf _ _ _ _ _ hC (lv_sub hl [0, 1, 2, 3, 4, 5, 6] rfl)
      · replace hf := oneg c8 hf
        refine lv_iload hx hb dX8_through_58 (lv_at hl 4 rfl) ?_
        refine lv_bipush (v := (100 : Int32)) hx hb dX8_through_60 (by decide) ?_
        refine fr_aload_n hx hb dX8_through_62 rfl (lv_at hl 0 rfl) ?_
        refine fr_aload hx hb dX8_through_63 (lv_at hl 5 rfl) ?_
        refine lv_iload hx hb dX8_through_65 (lv_at hl 6 rfl) ?_
        obtain ⟨x9, g10, hf⟩ := obind hf
        refine fr_iald hx hb K hC (t := 0) rfl g10 dX8_through_67 ?_
        obtain ⟨b13, q14, hf⟩ := obind hf
        obtain ⟨r11, g12, hf⟩ := obind hf
        refine fr_callV hx hb hml hts hown K hC hR ct_8 (c_X8_strengthNow hfl D cA 8 g12) 1 q14 kw1293 kw1290 kw1292 kw46 kw62 (by decide +kernel) ⟨by exact Nat.le_of_ble_eq_true rfl, by exact Nat.le_of_ble_eq_true rfl⟩ rfl hl.1 (cat8 _ (by exact Nat.le_of_ble_eq_true rfl)) dX8_through_68 rfl (fun H locs _ _ hC => ?_)
        refine lv_isub hx hb dX8_through_71 ?_
        refine lv_imul hx hb dX8_through_72 ?_
        refine lv_bipush (v := (100 : Int32)) hx hb dX8_through_73 (by decide) ?_
        refine lv_idiv hx hb dX8_through_75 (by decide) ?_
        refine lv_istore (lv' := [(4, .int ((a4 * ((100 : Int32) - r11.1)) / (100 : Int32))), (0, va_rf a0), (1, .int a1), (2, .int a2), (3, .int a3), (5, va_rf a5), (6, .int a6)]) hx hb dX8_through_76 hl (by decide) (congrArg (List.cons _) (flk rfl (flk rfl (flk rfl (flk rfl (fld rfl (flk rfl (flk rfl fln)))))))) (fun ls hl => ?_)
        exact w_X8_through_L78 M hfl hk38 _ _ _ _ _ _ _ _ hf _ _ _ _ _ hC (lv_sub hl [1, 2, 3, 4, 0, 5, 6] rfl)
set_option maxHeartbeats 4000000 in
set_option maxRecDepth 100000 in
theorem w_X8_through_L0 {p : Program} {l : Launch} {e : Env} {s : State} {m : MethodId} {args : Array Value} {below : List Frame} {meth : Method} {c : Code} {D : va_G} {cA : Nat → ClassId} {h0 : fSt} {r : (Int32 × fSt)} (M : fM p s m args meth c D cA h0 { frames := 25, cells := fCB h0 - fZ h0, slots := fLB h0 - fL h0, locals := 661 } cX8_through 7 (some (.int)) RX8) (hfl : l.stackTraces = false) (a0 : Option Nat) (a1 : Int32) (a2 : Int32) (a3 : Int32) (h : fSt) (hf : f_X8_through_L0 a0 a1 a2 a3 h = some r) : ∀ (H : Heap) (locs : List Loc) (cells slots : Nat) (ls : Array Slot), fCur D cA s h0 h H locs → lv_has ls 7 [(0, va_rf a0), (1, .int a1), (2, .int a2), (3, .int a3)] → W p l e { frames := 25, cells := fCB h0 - fZ h0, slots := fLB h0 - fL h0, locals := 661 } s m args below meth c H locs cells slots (MQ below (fQ D cA h0 r.2 (some (.int r.1))) args s (fCB h0 - fZ h0) (fLB h0 - fL h0) (fA h0)) (F0 m 0 ls []) := by
  obtain ⟨hx, hb, hml, hr, hlocks, hts, hown, K, hR⟩ := id M
  intro H locs cells slots ls hC hl
  refine fr_aload_n hx hb dX8_through_0 rfl (lv_at hl 0 rfl) ?_
  refine lv_iconst (v := (0 : Int32)) hx hb dX8_through_1 (by decide) ?_
  obtain ⟨h15, g16, hf⟩ := obind hf
  refine fr_put hx hb hts hown K hC ct_8 g16 (by decide) kw971 rfl rfl rfl rfl dX8_through_2 (fun H locs hC => ?_)
  refine lv_iload_n hx hb dX8_through_5 rfl (lv_at hl 1 rfl) ?_
  refine lv_iload_n hx hb dX8_through_6 rfl (lv_at hl 2 rfl) ?_
  refine lv_iload_n hx hb dX8_through_7 rfl (lv_at hl 3 rfl) ?_
  obtain ⟨r17, g18, hf⟩ := obind hf
  refine fr_callS hx hb hml hts hown K hC hR (c_X8_isPoint hfl D cA g18) 3 kw1323 kw1321 kw1322 kw62 (by decide +kernel) ⟨by exact Nat.le_of_ble_eq_true rfl, by exact Nat.le_of_ble_eq_true rfl⟩ rfl hl.1 (cat8 _ (by exact Nat.le_of_ble_eq_true rfl)) dX8_through_8 rfl (fun H locs _ _ hC => ?_)
  refine lv_if_ne (tgt := 20) hx hb dX8_through_11 (by decide) (fun c19 => ?_) (fun c19 => ?_)
  · replace hf := oneg c19 hf
    refine lv_sipush (v := (10000 : Int32)) hx hb dX8_through_20 (by decide) ?_
    refine lv_istore (lv' := [(4, .int (10000 : Int32)), (0, va_rf a0), (1, .int a1), (2, .int a2), (3, .int a3)]) hx hb dX8_through_23 hl (by decide) (congrArg (List.cons _) (flk rfl (flk rfl (flk rfl (flk rfl fln))))) (fun ls hl => ?_)
    refine fr_aload_n hx hb dX8_through_25 rfl (lv_at hl 1 rfl) ?_
    obtain ⟨b22, q23, hf⟩ := obind hf
    obtain ⟨r20, g21, hf⟩ := obind hf
    refine fr_callV hx hb hml hts hown K hC hR ct_8 (c_X8_ordered hfl D cA g21) 0 q23 kw1301 kw1298 kw1300 kw47 kw62 (by decide +kernel) ⟨by exact Nat.le_of_ble_eq_true rfl, by exact Nat.le_of_ble_eq_true rfl⟩ rfl hl.1 (cat8 _ (by exact Nat.le_of_ble_eq_true rfl)) dX8_through_26 rfl (fun H locs _ _ hC => ?_)
    refine fr_astore (lv' := [(5, va_rf r20.1), (4, .int (10000 : Int32)), (0, va_rf a0), (1, .int a1), (2, .int a2), (3, .int a3)]) hx hb dX8_through_29 hl (by decide) (congrArg (List.cons _) (flk rfl (flk rfl (flk rfl (flk rfl (flk rfl fln)))))) (fun ls hl => ?_)
    refine fr_aload hx hb dX8_through_31 (lv_at hl 0 rfl) ?_
    obtain ⟨x24, g25, hf⟩ := obind hf
    refine fr_alen hx hb K hC (t := 0) rfl g25 dX8_through_33 ?_
    refine lv_iconst (v := (1 : Int32)) hx hb dX8_through_34 (by decide) ?_
    refine lv_isub hx hb dX8_through_35 ?_
    refine lv_istore (lv' := [(6, .int (x24 - (1 : Int32))), (5, va_rf r20.1), (4, .int (10000 : Int32)), (0, va_rf a0), (1, .int a1), (2, .int a2), (3, .int a3)]) hx hb dX8_through_36 hl (by decide) (congrArg (List.cons _) (flk (adj1 _ _) (flk rfl (flk rfl (flk rfl (flk rfl (flk rfl fln))))))) (fun ls hl => ?_)
    exact w_X8_through_L38 M hfl 4096 _ _ _ _ _ _ _ _ hf _ _ _ _ _ hC (lv_sub hl [3, 4, 5, 6, 2, 1, 0] rfl)
  · replace hf := opos c19 hf
    refine fr_aload_n hx hb dX8_through_14 rfl (lv_at hl 0 rfl) ?_
    refine lv_iconst (v := (1 : Int32)) hx hb dX8_through_15 (by decide) ?_
    obtain ⟨b28, q29, hf⟩ := obind hf
    obtain ⟨r26, g27, hf⟩ := obind hf
    refine fr_callV hx hb hml hts hown K hC hR ct_8 (c_X8_no hfl D cA g27) 1 q29 kw1070 kw1067 kw1069 kw21 kw62 (by decide +kernel) ⟨by exact Nat.le_of_ble_eq_true rfl, by exact Nat.le_of_ble_eq_true rfl⟩ rfl hl.1 (cat8 _ (by exact Nat.le_of_ble_eq_true rfl)) dX8_through_16 rfl (fun H locs _ _ hC => ?_)
    obtain rfl := Option.some.inj hf
    exact fr_iret hx hb hr hlocks hC dX8_through_19
set_option maxRecDepth 100000 in
theorem c_X8_through {l : Launch} (hfl : l.stackTraces = false) (D : va_G) (cA : Nat → ClassId) {o : Nat} {p0 : Int32} {p1 : Int32} {p2 : Int32} {h : fSt} {r : (Int32 × fSt)} (hf : f_X8_through o p0 p1 p2 h = some r) : fMet l yX8_through (wsC yX8_through cX8_through 7 (some (.int))) (25) (661) D cA [.ref o, .int p0, .int p1, .int p2] h r.2 (some (.int r.1)) := by
  exact fMet.of (own := RX8) (by decide +kernel) rfl (lva1 rfl (lva1 rfl (lva1 rfl (lva1 rfl lva0)))) (lgl1 rfl (lgl1 rfl (lgl1 rfl (lgl1 rfl lgl0)))) (Nat.le_of_ble_eq_true rfl) (fun p e s m args below meth c ls hnm _ M hC hl => by
    have hl : lv_has ls 7 [(0, va_rf (some o)), (1, .int p0), (2, .int p1), (3, .int p2)] := hl
    exact w_X8_through_L0 M hfl _ _ _ _ _ hf _ _ _ _ _ hC (lv_sub hl [0, 1, 2, 3] rfl))
set_option maxHeartbeats 4000000 in
set_option maxRecDepth 100000 in
theorem w_X8_thrown_L0 {p : Program} {l : Launch} {e : Env} {s : State} {m : MethodId} {args : Array Value} {below : List Frame} {meth : Method} {c : Code} {D : va_G} {cA : Nat → ClassId} {h0 : fSt} {r : (Int32 × fSt)} (M : fM p s m args meth c D cA h0 { frames := 0, cells := fCB h0 - fZ h0, slots := fLB h0 - fL h0, locals := 0 } cX8_thrown 1 (some (.int)) RX8) (hfl : l.stackTraces = false) (a0 : Option Nat) (h : fSt) (hf : f_X8_thrown_L0 a0 h = some r) : ∀ (H : Heap) (locs : List Loc) (cells slots : Nat) (ls : Array Slot), fCur D cA s h0 h H locs → lv_has ls 1 [(0, va_rf a0)] → W p l e { frames := 0, cells := fCB h0 - fZ h0, slots := fLB h0 - fL h0, locals := 0 } s m args below meth c H locs cells slots (MQ below (fQ D cA h0 r.2 (some (.int r.1))) args s (fCB h0 - fZ h0) (fLB h0 - fL h0) (fA h0)) (F0 m 0 ls []) := by
  obtain ⟨hx, hb, hml, hr, hlocks, hts, hown, K, hR⟩ := id M
  intro H locs cells slots ls hC hl
  refine fr_aload_n hx hb dX8_thrown_0 rfl (lv_at hl 0 rfl) ?_
  obtain ⟨x1, g2, hf⟩ := obind hf
  refine fr_get hx hb hts hown K hC ct_8 (fgI_get g2) (by decide) kw971 rfl dX8_thrown_1 ?_
  obtain rfl := Option.some.inj hf
  exact fr_iret hx hb hr hlocks hC dX8_thrown_4
set_option maxRecDepth 100000 in
theorem c_X8_thrown {l : Launch} (hfl : l.stackTraces = false) (D : va_G) (cA : Nat → ClassId) {o : Nat} {h : fSt} {r : (Int32 × fSt)} (hf : f_X8_thrown o h = some r) : fMet l yX8_thrown (wsC yX8_thrown cX8_thrown 1 (some (.int))) (0) (0) D cA [.ref o] h r.2 (some (.int r.1)) := by
  exact fMet.of (own := RX8) (by decide +kernel) rfl (lva1 rfl lva0) (lgl1 rfl lgl0) (Nat.le_of_ble_eq_true rfl) (fun p e s m args below meth c ls hnm _ M hC hl => by
    have hl : lv_has ls 1 [(0, va_rf (some o))] := hl
    exact w_X8_thrown_L0 M hfl _ _ hf _ _ _ _ _ hC (lv_sub hl [0] rfl))
set_option maxHeartbeats 4000000 in
set_option maxRecDepth 100000 in
theorem w_X8_toWhole_L37 {p : Program} {l : Launch} {e : Env} {s : State} {m : MethodId} {args : Array Value} {below : List Frame} {meth : Method} {c : Code} {D : va_G} {cA : Nat → ClassId} {h0 : fSt} {r : (Int32 × fSt)} (M : fM p s m args meth c D cA h0 { frames := 6, cells := fCB h0 - fZ h0, slots := fLB h0 - fL h0, locals := 157 } cX8_toWhole 5 (some (.int)) RX8) (hfl : l.stackTraces = false) (s0 : Int32) (h : fSt) (hf : f_X8_toWhole_L37 s0 h = some r) : ∀ (H : Heap) (locs : List Loc) (cells slots : Nat) (ls : Array Slot), fCur D cA s h0 h H locs → lv_has ls 5 [] → W p l e { frames := 6, cells := fCB h0 - fZ h0, slots := fLB h0 - fL h0, locals := 157 } s m args below meth c H locs cells slots (MQ below (fQ D cA h0 r.2 (some (.int r.1))) args s (fCB h0 - fZ h0) (fLB h0 - fL h0) (fA h0)) (F0 m 37 ls [.int s0]) := by
  obtain ⟨hx, hb, hml, hr, hlocks, hts, hown, K, hR⟩ := id M
  intro H locs cells slots ls hC hl
  obtain rfl := Option.some.inj hf
  exact fr_iret hx hb hr hlocks hC dX8_toWhole_37
set_option maxHeartbeats 4000000 in
set_option maxRecDepth 100000 in
theorem w_X8_toWhole_L0 {p : Program} {l : Launch} {e : Env} {s : State} {m : MethodId} {args : Array Value} {below : List Frame} {meth : Method} {c : Code} {D : va_G} {cA : Nat → ClassId} {h0 : fSt} {r : (Int32 × fSt)} (M : fM p s m args meth c D cA h0 { frames := 6, cells := fCB h0 - fZ h0, slots := fLB h0 - fL h0, locals := 157 } cX8_toWhole 5 (some (.int)) RX8) (hfl : l.stackTraces = false) (a0 : Option Nat) (a1 : Int32) (a2 : Int32) (a3 : Int32) (a4 : Int32) (h : fSt) (hf : f_X8_toWhole_L0 a0 a1 a2 a3 a4 h = some r) : ∀ (H : Heap) (locs : List Loc) (cells slots : Nat) (ls : Array Slot), fCur D cA s h0 h H locs → lv_has ls 5 [(0, va_rf a0), (1, .int a1), (2, .int a2), (3, .int a3), (4, .int a4)] → W p l e { frames := 6, cells := fCB h0 - fZ h0, slots := fLB h0 - fL h0, locals := 157 } s m args below meth c H locs cells slots (MQ below (fQ D cA h0 r.2 (some (.int r.1))) args s (fCB h0 - fZ h0) (fLB h0 - fL h0) (fA h0)) (F0 m 0 ls []) := by
  obtain ⟨hx, hb, hml, hr, hlocks, hts, hown, K, hR⟩ := id M
  intro H locs cells slots ls hC hl
  refine fr_aload_n hx hb dX8_toWhole_0 rfl (lv_at hl 0 rfl) ?_
  refine fr_aload_n hx hb dX8_toWhole_1 rfl (lv_at hl 0 rfl) ?_
  refine fr_aload_n hx hb dX8_toWhole_2 rfl (lv_at hl 0 rfl) ?_
  refine lv_iload_n hx hb dX8_toWhole_3 rfl (lv_at hl 1 rfl) ?_
  obtain ⟨b3, q4, hf⟩ := obind hf
  obtain ⟨r1, g2, hf⟩ := obind hf
  refine fr_callV hx hb hml hts hown K hC hR ct_8 (c_X8_isNode hfl D cA g2) 1 q4 kw1063 kw1060 kw1062 kw20 kw62 (by decide +kernel) ⟨by exact Nat.le_of_ble_eq_true rfl, by exact Nat.le_of_ble_eq_true rfl⟩ rfl hl.1 (cat8 _ (by exact Nat.le_of_ble_eq_true rfl)) dX8_toWhole_4 rfl (fun H locs _ _ hC => ?_)
  refine lv_iload_n hx hb dX8_toWhole_7 rfl (lv_at hl 2 rfl) ?_
  refine lv_iload_n hx hb dX8_toWhole_8 rfl (lv_at hl 3 rfl) ?_
  refine lv_iload hx hb dX8_toWhole_9 (lv_at hl 4 rfl) ?_
  obtain ⟨b7, q8, hf⟩ := obind hf
  obtain ⟨r5, g6, hf⟩ := obind hf
  refine fr_callV hx hb hml hts hown K hC hR ct_8 (c_X8_asked hfl D cA g6) 4 q8 kw1227 kw1224 kw1226 kw37 kw62 (by decide +kernel) ⟨by exact Nat.le_of_ble_eq_true rfl, by exact Nat.le_of_ble_eq_true rfl⟩ rfl hl.1 (cat8 _ (by exact Nat.le_of_ble_eq_true rfl)) dX8_toWhole_11 rfl (fun H locs _ _ hC => ?_)
  obtain ⟨h9, g10, hf⟩ := obind hf
  refine fr_put hx hb hts hown K hC ct_8 g10 (by decide) kw971 rfl rfl rfl rfl dX8_toWhole_14 (fun H locs hC => ?_)
  refine fr_aload_n hx hb dX8_toWhole_17 rfl (lv_at hl 0 rfl) ?_
  obtain ⟨x11, g12, hf⟩ := obind hf
  refine fr_get hx hb hts hown K hC ct_8 (fgI_get g12) (by decide) kw971 rfl dX8_toWhole_18 ?_
  refine lv_if_ne (tgt := 36) hx hb dX8_toWhole_21 (by decide) (fun c13 => ?_) (fun c13 => ?_)
  · replace hf := oneg c13 hf
    refine lv_iconst (v := (0 : Int32)) hx hb dX8_toWhole_36 (by decide) ?_
    exact w_X8_toWhole_L37 M hfl _ _ hf _ _ _ _ _ hC (lv_sub hl [] rfl)
  · replace hf := opos c13 hf
    refine fr_aload_n hx hb dX8_toWhole_24 rfl (lv_at hl 0 rfl) ?_
    refine lv_iload_n hx hb dX8_toWhole_25 rfl (lv_at hl 1 rfl) ?_
    refine lv_iload_n hx hb dX8_toWhole_26 rfl (lv_at hl 2 rfl) ?_
    refine lv_iload_n hx hb dX8_toWhole_27 rfl (lv_at hl 3 rfl) ?_
    refine lv_iload hx hb dX8_toWhole_28 (lv_at hl 4 rfl) ?_
    obtain ⟨b16, q17, hf⟩ := obind hf
    obtain ⟨r14, g15, hf⟩ := obind hf
    refine fr_callV hx hb hml hts hown K hC hR ct_8 (c_X8_toWholeNow hfl D cA g15) 4 q17 kw1231 kw1228 kw1230 kw38 kw62 (by decide +kernel) ⟨by exact Nat.le_of_ble_eq_true rfl, by exact Nat.le_of_ble_eq_true rfl⟩ rfl hl.1 (cat8 _ (by exact Nat.le_of_ble_eq_true rfl)) dX8_toWhole_30 rfl (fun H locs _ _ hC => ?_)
    refine lv_goto (tgt := 37) hx hb dX8_toWhole_33 (by decide) ?_
    exact w_X8_toWhole_L37 M hfl _ _ hf _ _ _ _ _ hC (lv_sub hl [] rfl)
set_option maxRecDepth 100000 in
theorem c_X8_toWhole {l : Launch} (hfl : l.stackTraces = false) (D : va_G) (cA : Nat → ClassId) {o : Nat} {p0 : Int32} {p1 : Int32} {p2 : Int32} {p3 : Int32} {h : fSt} {r : (Int32 × fSt)} (hf : f_X8_toWhole o p0 p1 p2 p3 h = some r) : fMet l yX8_toWhole (wsC yX8_toWhole cX8_toWhole 5 (some (.int))) (6) (157) D cA [.ref o, .int p0, .int p1, .int p2, .int p3] h r.2 (some (.int r.1)) := by
  exact fMet.of (own := RX8) (by decide +kernel) rfl (lva1 rfl (lva1 rfl (lva1 rfl (lva1 rfl (lva1 rfl lva0))))) (lgl1 rfl (lgl1 rfl (lgl1 rfl (lgl1 rfl (lgl1 rfl lgl0))))) (Nat.le_of_ble_eq_true rfl) (fun p e s m args below meth c ls hnm _ M hC hl => by
    have hl : lv_has ls 5 [(0, va_rf (some o)), (1, .int p0), (2, .int p1), (3, .int p2), (4, .int p3)] := hl
    exact w_X8_toWhole_L0 M hfl _ _ _ _ _ _ hf _ _ _ _ _ hC (lv_sub hl [0, 1, 2, 3, 4] rfl))
set_option maxHeartbeats 4000000 in
set_option maxRecDepth 100000 in
theorem w_X8_track_L47 {p : Program} {l : Launch} {e : Env} {s : State} {m : MethodId} {args : Array Value} {below : List Frame} {meth : Method} {c : Code} {D : va_G} {cA : Nat → ClassId} {h0 : fSt} {r : (Int32 × fSt)} (M : fM p s m args meth c D cA h0 { frames := 2, cells := fCB h0 - fZ h0, slots := fLB h0 - fL h0, locals := 43 } cX8_track 5 (some (.int)) RX8) (hfl : l.stackTraces = false) (a0 : Option Nat) (h : fSt) (hf : f_X8_track_L47 a0 h = some r) : ∀ (H : Heap) (locs : List Loc) (cells slots : Nat) (ls : Array Slot), fCur D cA s h0 h H locs → lv_has ls 5 [(0, va_rf a0)] → W p l e { frames := 2, cells := fCB h0 - fZ h0, slots := fLB h0 - fL h0, locals := 43 } s m args below meth c H locs cells slots (MQ below (fQ D cA h0 r.2 (some (.int r.1))) args s (fCB h0 - fZ h0) (fLB h0 - fL h0) (fA h0)) (F0 m 47 ls []) := by
  obtain ⟨hx, hb, hml, hr, hlocks, hts, hown, K, hR⟩ := id M
  intro H locs cells slots ls hC hl
  refine fr_aload_n hx hb dX8_track_47 rfl (lv_at hl 0 rfl) ?_
  refine lv_iconst (v := (2 : Int32)) hx hb dX8_track_48 (by decide) ?_
  obtain ⟨b3, q4, hf⟩ := obind hf
  obtain ⟨r1, g2, hf⟩ := obind hf
  refine fr_callV hx hb hml hts hown K hC hR ct_8 (c_X8_no hfl D cA g2) 1 q4 kw1070 kw1067 kw1069 kw21 kw62 (by decide +kernel) ⟨by exact Nat.le_of_ble_eq_true rfl, by exact Nat.le_of_ble_eq_true rfl⟩ rfl hl.1 (cat8 _ (by exact Nat.le_of_ble_eq_true rfl)) dX8_track_49 rfl (fun H locs _ _ hC => ?_)
  obtain rfl := Option.some.inj hf
  exact fr_iret hx hb hr hlocks hC dX8_track_52
set_option maxHeartbeats 4000000 in
set_option maxRecDepth 100000 in
theorem w_X8_track_L76 {p : Program} {l : Launch} {e : Env} {s : State} {m : MethodId} {args : Array Value} {below : List Frame} {meth : Method} {c : Code} {D : va_G} {cA : Nat → ClassId} {h0 : fSt} {r : (Int32 × fSt)} (M : fM p s m args meth c D cA h0 { frames := 2, cells := fCB h0 - fZ h0, slots := fLB h0 - fL h0, locals := 43 } cX8_track 5 (some (.int)) RX8) (hfl : l.stackTraces = false) (a0 : Option Nat) (h : fSt) (hf : f_X8_track_L76 a0 h = some r) : ∀ (H : Heap) (locs : List Loc) (cells slots : Nat) (ls : Array Slot), fCur D cA s h0 h H locs → lv_has ls 5 [(0, va_rf a0)] → W p l e { frames := 2, cells := fCB h0 - fZ h0, slots := fLB h0 - fL h0, locals := 43 } s m args below meth c H locs cells slots (MQ below (fQ D cA h0 r.2 (some (.int r.1))) args s (fCB h0 - fZ h0) (fLB h0 - fL h0) (fA h0)) (F0 m 76 ls []) := by
  obtain ⟨hx, hb, hml, hr, hlocks, hts, hown, K, hR⟩ := id M
  intro H locs cells slots ls hC hl
  refine fr_aload_n hx hb dX8_track_76 rfl (lv_at hl 0 rfl) ?_
  refine lv_iconst (v := (3 : Int32)) hx hb dX8_track_77 (by decide) ?_
  obtain ⟨b7, q8, hf⟩ := obind hf
  obtain ⟨r5, g6, hf⟩ := obind hf
  refine fr_callV hx hb hml hts hown K hC hR ct_8 (c_X8_no hfl D cA g6) 1 q8 kw1070 kw1067 kw1069 kw21 kw62 (by decide +kernel) ⟨by exact Nat.le_of_ble_eq_true rfl, by exact Nat.le_of_ble_eq_true rfl⟩ rfl hl.1 (cat8 _ (by exact Nat.le_of_ble_eq_true rfl)) dX8_track_78 rfl (fun H locs _ _ hC => ?_)
  obtain rfl := Option.some.inj hf
  exact fr_iret hx hb hr hlocks hC dX8_track_81
set_option maxHeartbeats 4000000 in
set_option maxRecDepth 100000 in
theorem w_X8_track_L0 {p : Program} {l : Launch} {e : Env} {s : State} {m : MethodId} {args : Array Value} {below : List Frame} {meth : Method} {c : Code} {D : va_G} {cA : Nat → ClassId} {h0 : fSt} {r : (Int32 × fSt)} (M : fM p s m args meth c D cA h0 { frames := 2, cells := fCB h0 - fZ h0, slots := fLB h0 - fL h0, locals := 43 } cX8_track 5 (some (.int)) RX8) (hfl : l.stackTraces = false) (a0 : Option Nat) (a1 : Int32) (a2 : Int32) (a3 : Int32) (a4 : Int32) (h : fSt) (hf : f_X8_track_L0 a0 a1 a2 a3 a4 h = some r) : ∀ (H : Heap) (locs : List Loc) (cells slots : Nat) (ls : Array Slot), fCur D cA s h0 h H locs → lv_has ls 5 [(0, va_rf a0), (1, .int a1), (2, .int a2), (3, .int a3), (4, .int a4)] → W p l e { frames := 2, cells := fCB h0 - fZ h0, slots := fLB h0 - fL h0, locals := 43 } s m args below meth c H locs cells slots (MQ below (fQ D cA h0 r.2 (some (.int r.1))) args s (fCB h0 - fZ h0) (fLB h0 - fL h0) (fA h0)) (F0 m 0 ls []) := by
  obtain ⟨hx, hb, hml, hr, hlocks, hts, hown, K, hR⟩ := id M
  intro H locs cells slots ls hC hl
  refine fr_aload_n hx hb dX8_track_0 rfl (lv_at hl 0 rfl) ?_
  refine lv_iconst (v := (0 : Int32)) hx hb dX8_track_1 (by decide) ?_
  obtain ⟨h9, g10, hf⟩ := obind hf
  refine fr_put hx hb hts hown K hC ct_8 g10 (by decide) kw971 rfl rfl rfl rfl dX8_track_2 (fun H locs hC => ?_)
  refine fr_aload_n hx hb dX8_track_5 rfl (lv_at hl 0 rfl) ?_
  refine lv_iload_n hx hb dX8_track_6 rfl (lv_at hl 1 rfl) ?_
  obtain ⟨b13, q14, hf⟩ := obind hf
  obtain ⟨r11, g12, hf⟩ := obind hf
  refine fr_callV hx hb hml hts hown K hC hR ct_8 (c_X8_isNode hfl D cA g12) 1 q14 kw1063 kw1060 kw1062 kw20 kw62 (by decide +kernel) ⟨by exact Nat.le_of_ble_eq_true rfl, by exact Nat.le_of_ble_eq_true rfl⟩ rfl hl.1 (cat8 _ (by exact Nat.le_of_ble_eq_true rfl)) dX8_track_7 rfl (fun H locs _ _ hC => ?_)
  refine lv_if_ne (tgt := 19) hx hb dX8_track_10 (by decide) (fun c15 => ?_) (fun c15 => ?_)
  · replace hf := oneg c15 hf
    refine lv_iload_n hx hb dX8_track_19 rfl (lv_at hl 2 rfl) ?_
    refine lv_iconst (v := (0 : Int32)) hx hb dX8_track_20 (by decide) ?_
    refine lv_iconst (v := (3 : Int32)) hx hb dX8_track_21 (by decide) ?_
    obtain ⟨r16, g17, hf⟩ := obind hf
    refine fr_callS hx hb hml hts hown K hC hR (c_X8_isIn hfl D cA g17) 3 kw1066 kw1064 kw1065 kw62 (by decide +kernel) ⟨by exact Nat.le_of_ble_eq_true rfl, by exact Nat.le_of_ble_eq_true rfl⟩ rfl hl.1 (cat8 _ (by exact Nat.le_of_ble_eq_true rfl)) dX8_track_22 rfl (fun H locs _ _ hC => ?_)
    refine lv_if_eq (tgt := 47) hx hb dX8_track_25 (by decide) (fun c18 => ?_) (fun c18 => ?_)
    · replace hf := opos c18 hf
      exact w_X8_track_L47 M hfl _ _ hf _ _ _ _ _ hC (lv_sub hl [0] rfl)
    · replace hf := oneg c18 hf
      refine lv_iload_n hx hb dX8_track_28 rfl (lv_at hl 3 rfl) ?_
      refine lv_iconst (v := (0 : Int32)) hx hb dX8_track_29 (by decide) ?_
      refine lv_iconst (v := (2 : Int32)) hx hb dX8_track_30 (by decide) ?_
      obtain ⟨r19, g20, hf⟩ := obind hf
      refine fr_callS hx hb hml hts hown K hC hR (c_X8_isIn hfl D cA g20) 3 kw1066 kw1064 kw1065 kw62 (by decide +kernel) ⟨by exact Nat.le_of_ble_eq_true rfl, by exact Nat.le_of_ble_eq_true rfl⟩ rfl hl.1 (cat8 _ (by exact Nat.le_of_ble_eq_true rfl)) dX8_track_31 rfl (fun H locs _ _ hC => ?_)
      refine lv_if_eq (tgt := 47) hx hb dX8_track_34 (by decide) (fun c21 => ?_) (fun c21 => ?_)
      · replace hf := opos c21 hf
        exact w_X8_track_L47 M hfl _ _ hf _ _ _ _ _ hC (lv_sub hl [0] rfl)
      · replace hf := oneg c21 hf
        refine lv_iload hx hb dX8_track_37 (lv_at hl 4 rfl) ?_
        refine lv_iconst (v := (0 : Int32)) hx hb dX8_track_39 (by decide) ?_
        refine lv_iconst (v := (2 : Int32)) hx hb dX8_track_40 (by decide) ?_
        obtain ⟨r22, g23, hf⟩ := obind hf
        refine fr_callS hx hb hml hts hown K hC hR (c_X8_isIn hfl D cA g23) 3 kw1066 kw1064 kw1065 kw62 (by decide +kernel) ⟨by exact Nat.le_of_ble_eq_true rfl, by exact Nat.le_of_ble_eq_true rfl⟩ rfl hl.1 (cat8 _ (by exact Nat.le_of_ble_eq_true rfl)) dX8_track_41 rfl (fun H locs _ _ hC => ?_)
        refine lv_if_ne (tgt := 53) hx hb dX8_track_44 (by decide) (fun c24 => ?_) (fun c24 => ?_)
        · replace hf := oneg c24 hf
          refine lv_iload_n hx hb dX8_track_53 rfl (lv_at hl 1 rfl) ?_
          refine lv_if_eq (tgt := 76) hx hb dX8_track_54 (by decide) (fun c25 => ?_) (fun c25 => ?_)
          · replace hf := opos c25 hf
            exact w_X8_track_L76 M hfl _ _ hf _ _ _ _ _ hC (lv_sub hl [0] rfl)
          · replace hf := oneg c25 hf
            refine fr_aload_n hx hb dX8_track_57 rfl (lv_at hl 0 rfl) ?_
            obtain ⟨x26, g27, hf⟩ := obind hf
            refine fr_get hx hb hts hown K hC ct_8 (fgI_get g27) (by decide) kw988 rfl dX8_track_58 ?_
            refine lv_bipush (v := (12 : Int32)) hx hb dX8_track_61 (by decide) ?_
            refine lv_icmp_eq (tgt := 76) hx hb dX8_track_63 (by decide) (fun c28 => ?_) (fun c28 => ?_)
            · replace hf := opos c28 hf
              exact w_X8_track_L76 M hfl _ _ hf _ _ _ _ _ hC (lv_sub hl [0] rfl)
            · replace hf := oneg c28 hf
              refine fr_aload_n hx hb dX8_track_66 rfl (lv_at hl 0 rfl) ?_
              refine lv_iload_n hx hb dX8_track_67 rfl (lv_at hl 1 rfl) ?_
              refine lv_iload_n hx hb dX8_track_68 rfl (lv_at hl 2 rfl) ?_
              obtain ⟨b31, q32, hf⟩ := obind hf
              obtain ⟨r29, g30, hf⟩ := obind hf
              refine fr_callV hx hb hml hts hown K hC hR ct_8 (c_X8_trackOf hfl D cA g30) 2 q32 kw1162 kw1159 kw1161 kw29 kw62 (by decide +kernel) ⟨by exact Nat.le_of_ble_eq_true rfl, by exact Nat.le_of_ble_eq_true rfl⟩ rfl hl.1 (cat8 _ (by exact Nat.le_of_ble_eq_true rfl)) dX8_track_69 rfl (fun H locs _ _ hC => ?_)
              refine lv_iconst (v := (-1 : Int32)) hx hb dX8_track_72 (by decide) ?_
              refine lv_icmp_eq (tgt := 82) hx hb dX8_track_73 (by decide) (fun c33 => ?_) (fun c33 => ?_)
              · replace hf := opos c33 hf
                refine fr_aload_n hx hb dX8_track_82 rfl (lv_at hl 0 rfl) ?_
                obtain ⟨x34, g35, hf⟩ := obind hf
                refine fr_get hx hb hts hown K hC ct_8 (fgR_get g35) (by decide) kw989 rfl dX8_track_83 ?_
                refine fr_aload_n hx hb dX8_track_86 rfl (lv_at hl 0 rfl) ?_
                obtain ⟨x36, g37, hf⟩ := obind hf
                refine fr_get hx hb hts hown K hC ct_8 (fgI_get g37) (by decide) kw988 rfl dX8_track_87 ?_
                refine lv_iload_n hx hb dX8_track_90 rfl (lv_at hl 1 rfl) ?_
                obtain ⟨h38, g39, hf⟩ := obind hf
                refine fr_iast hx hb K hC (t := 0) rfl g39 dX8_track_91 (fun H locs hC => ?_)
                refine fr_aload_n hx hb dX8_track_92 rfl (lv_at hl 0 rfl) ?_
                obtain ⟨x40, g41, hf⟩ := obind hf
                refine fr_get hx hb hts hown K hC ct_8 (fgR_get g41) (by decide) kw990 rfl dX8_track_93 ?_
                refine fr_aload_n hx hb dX8_track_96 rfl (lv_at hl 0 rfl) ?_
                obtain ⟨x42, g43, hf⟩ := obind hf
                refine fr_get hx hb hts hown K hC ct_8 (fgI_get g43) (by decide) kw988 rfl dX8_track_97 ?_
                refine lv_iload_n hx hb dX8_track_100 rfl (lv_at hl 2 rfl) ?_
                obtain ⟨h44, g45, hf⟩ := obind hf
                refine fr_iast hx hb K hC (t := 0) rfl g45 dX8_track_101 (fun H locs hC => ?_)
                refine fr_aload_n hx hb dX8_track_102 rfl (lv_at hl 0 rfl) ?_
                obtain ⟨x46, g47, hf⟩ := obind hf
                refine fr_get hx hb hts hown K hC ct_8 (fgR_get g47) (by decide) kw991 rfl dX8_track_103 ?_
                refine fr_aload_n hx hb dX8_track_106 rfl (lv_at hl 0 rfl) ?_
                obtain ⟨x48, g49, hf⟩ := obind hf
                refine fr_get hx hb hts hown K hC ct_8 (fgI_get g49) (by decide) kw988 rfl dX8_track_107 ?_
                refine lv_iload_n hx hb dX8_track_110 rfl (lv_at hl 3 rfl) ?_
                obtain ⟨h50, g51, hf⟩ := obind hf
                refine fr_iast hx hb K hC (t := 0) rfl g51 dX8_track_111 (fun H locs hC => ?_)
                refine fr_aload_n hx hb dX8_track_112 rfl (lv_at hl 0 rfl) ?_
                obtain ⟨x52, g53, hf⟩ := obind hf
                refine fr_get hx hb hts hown K hC ct_8 (fgR_get g53) (by decide) kw992 rfl dX8_track_113 ?_
                refine fr_aload_n hx hb dX8_track_116 rfl (lv_at hl 0 rfl) ?_
                obtain ⟨x54, g55, hf⟩ := obind hf
                refine fr_get hx hb hts hown K hC ct_8 (fgI_get g55) (by decide) kw988 rfl dX8_track_117 ?_
                refine lv_iload hx hb dX8_track_120 (lv_at hl 4 rfl) ?_
                obtain ⟨h56, g57, hf⟩ := obind hf
                refine fr_iast hx hb K hC (t := 0) rfl g57 dX8_track_122 (fun H locs hC => ?_)
                refine fr_aload_n hx hb dX8_track_123 rfl (lv_at hl 0 rfl) ?_
                refine lv_dup hx hb dX8_track_124 (va_rf_cat _) ?_
                obtain ⟨x58, g59, hf⟩ := obind hf
                refine fr_get hx hb hts hown K hC ct_8 (fgI_get g59) (by decide) kw988 rfl dX8_track_125 ?_
                refine lv_dup_x1 hx hb dX8_track_128 rfl (va_rf_cat _) ?_
                refine lv_iconst (v := (1 : Int32)) hx hb dX8_track_129 (by decide) ?_
                refine lv_iadd hx hb dX8_track_130 ?_
                obtain ⟨h60, g61, hf⟩ := obind hf
                refine fr_put hx hb hts hown K hC ct_8 g61 (by decide) kw988 rfl rfl rfl rfl dX8_track_131 (fun H locs hC => ?_)
                obtain rfl := Option.some.inj hf
                exact fr_iret hx hb hr hlocks hC dX8_track_134
              · replace hf := oneg c33 hf
                exact w_X8_track_L76 M hfl _ _ hf _ _ _ _ _ hC (lv_sub hl [0] rfl)
        · replace hf := opos c24 hf
          exact w_X8_track_L47 M hfl _ _ hf _ _ _ _ _ hC (lv_sub hl [0] rfl)
  · replace hf := opos c15 hf
    refine fr_aload_n hx hb dX8_track_13 rfl (lv_at hl 0 rfl) ?_
    refine lv_iconst (v := (1 : Int32)) hx hb dX8_track_14 (by decide) ?_
    obtain ⟨b64, q65, hf⟩ := obind hf
    obtain ⟨r62, g63, hf⟩ := obind hf
    refine fr_callV hx hb hml hts hown K hC hR ct_8 (c_X8_no hfl D cA g63) 1 q65 kw1070 kw1067 kw1069 kw21 kw62 (by decide +kernel) ⟨by exact Nat.le_of_ble_eq_true rfl, by exact Nat.le_of_ble_eq_true rfl⟩ rfl hl.1 (cat8 _ (by exact Nat.le_of_ble_eq_true rfl)) dX8_track_15 rfl (fun H locs _ _ hC => ?_)
    obtain rfl := Option.some.inj hf
    exact fr_iret hx hb hr hlocks hC dX8_track_18
set_option maxRecDepth 100000 in
theorem c_X8_track {l : Launch} (hfl : l.stackTraces = false) (D : va_G) (cA : Nat → ClassId) {o : Nat} {p0 : Int32} {p1 : Int32} {p2 : Int32} {p3 : Int32} {h : fSt} {r : (Int32 × fSt)} (hf : f_X8_track o p0 p1 p2 p3 h = some r) : fMet l yX8_track (wsC yX8_track cX8_track 5 (some (.int))) (2) (43) D cA [.ref o, .int p0, .int p1, .int p2, .int p3] h r.2 (some (.int r.1)) := by
  exact fMet.of (own := RX8) (by decide +kernel) rfl (lva1 rfl (lva1 rfl (lva1 rfl (lva1 rfl (lva1 rfl lva0))))) (lgl1 rfl (lgl1 rfl (lgl1 rfl (lgl1 rfl (lgl1 rfl lgl0))))) (Nat.le_of_ble_eq_true rfl) (fun p e s m args below meth c ls hnm _ M hC hl => by
    have hl : lv_has ls 5 [(0, va_rf (some o)), (1, .int p0), (2, .int p1), (3, .int p2), (4, .int p3)] := hl
    exact w_X8_track_L0 M hfl _ _ _ _ _ _ hf _ _ _ _ _ hC (lv_sub hl [0, 1, 2, 3, 4] rfl))
set_option maxHeartbeats 4000000 in
set_option maxRecDepth 100000 in
theorem w_X8_tracks_L0 {p : Program} {l : Launch} {e : Env} {s : State} {m : MethodId} {args : Array Value} {below : List Frame} {meth : Method} {c : Code} {D : va_G} {cA : Nat → ClassId} {h0 : fSt} {r : (Int32 × fSt)} (M : fM p s m args meth c D cA h0 { frames := 1, cells := fCB h0 - fZ h0, slots := fLB h0 - fL h0, locals := 21 } cX8_tracks 1 (some (.int)) RX8) (hfl : l.stackTraces = false) (a0 : Option Nat) (h : fSt) (hf : f_X8_tracks_L0 a0 h = some r) : ∀ (H : Heap) (locs : List Loc) (cells slots : Nat) (ls : Array Slot), fCur D cA s h0 h H locs → lv_has ls 1 [(0, va_rf a0)] → W p l e { frames := 1, cells := fCB h0 - fZ h0, slots := fLB h0 - fL h0, locals := 21 } s m args below meth c H locs cells slots (MQ below (fQ D cA h0 r.2 (some (.int r.1))) args s (fCB h0 - fZ h0) (fLB h0 - fL h0) (fA h0)) (F0 m 0 ls []) := by
  obtain ⟨hx, hb, hml, hr, hlocks, hts, hown, K, hR⟩ := id M
  intro H locs cells slots ls hC hl
  refine fr_aload_n hx hb dX8_tracks_0 rfl (lv_at hl 0 rfl) ?_
  refine fr_aload_n hx hb dX8_tracks_1 rfl (lv_at hl 0 rfl) ?_
  obtain ⟨x1, g2, hf⟩ := obind hf
  refine fr_get hx hb hts hown K hC ct_8 (fgI_get g2) (by decide) kw988 rfl dX8_tracks_2 ?_
  obtain ⟨b5, q6, hf⟩ := obind hf
  obtain ⟨r3, g4, hf⟩ := obind hf
  refine fr_callV hx hb hml hts hown K hC hR ct_8 (c_X8_ok hfl D cA g4) 1 q6 kw1134 kw1131 kw1133 kw27 kw62 (by decide +kernel) ⟨by exact Nat.le_of_ble_eq_true rfl, by exact Nat.le_of_ble_eq_true rfl⟩ rfl hl.1 (cat8 _ (by exact Nat.le_of_ble_eq_true rfl)) dX8_tracks_5 rfl (fun H locs _ _ hC => ?_)
  obtain rfl := Option.some.inj hf
  exact fr_iret hx hb hr hlocks hC dX8_tracks_8
set_option maxRecDepth 100000 in
theorem c_X8_tracks {l : Launch} (hfl : l.stackTraces = false) (D : va_G) (cA : Nat → ClassId) {o : Nat} {h : fSt} {r : (Int32 × fSt)} (hf : f_X8_tracks o h = some r) : fMet l yX8_tracks (wsC yX8_tracks cX8_tracks 1 (some (.int))) (1) (21) D cA [.ref o] h r.2 (some (.int r.1)) := by
  exact fMet.of (own := RX8) (by decide +kernel) rfl (lva1 rfl lva0) (lgl1 rfl lgl0) (Nat.le_of_ble_eq_true rfl) (fun p e s m args below meth c ls hnm _ M hC hl => by
    have hl : lv_has ls 1 [(0, va_rf (some o))] := hl
    exact w_X8_tracks_L0 M hfl _ _ hf _ _ _ _ _ hC (lv_sub hl [0] rfl))
set_option maxHeartbeats 4000000 in
set_option maxRecDepth 100000 in
theorem w_X8_turn_L0 {p : Program} {l : Launch} {e : Env} {s : State} {m : MethodId} {args : Array Value} {below : List Frame} {meth : Method} {c : Code} {D : va_G} {cA : Nat → ClassId} {h0 : fSt} {r : (Int32 × fSt)} (M : fM p s m args meth c D cA h0 { frames := 3, cells := fCB h0 - fZ h0, slots := fLB h0 - fL h0, locals := 65 } cX8_turn 5 (some (.int)) RX8) (hfl : l.stackTraces = false) (a0 : Option Nat) (a1 : Int32) (a2 : Int32) (a3 : Int32) (h : fSt) (hf : f_X8_turn_L0 a0 a1 a2 a3 h = some r) : ∀ (H : Heap) (locs : List Loc) (cells slots : Nat) (ls : Array Slot), fCur D cA s h0 h H locs → lv_has ls 5 [(0, va_rf a0), (1, .int a1), (2, .int a2), (3, .int a3)] → W p l e { frames := 3, cells := fCB h0 - fZ h0, slots := fLB h0 - fL h0, locals := 65 } s m args below meth c H locs cells slots (MQ below (fQ D cA h0 r.2 (some (.int r.1))) args s (fCB h0 - fZ h0) (fLB h0 - fL h0) (fA h0)) (F0 m 0 ls []) := by
  obtain ⟨hx, hb, hml, hr, hlocks, hts, hown, K, hR⟩ := id M
  intro H locs cells slots ls hC hl
  refine fr_aload_n hx hb dX8_turn_0 rfl (lv_at hl 0 rfl) ?_
  refine fr_aload_n hx hb dX8_turn_1 rfl (lv_at hl 0 rfl) ?_
  refine lv_iload_n hx hb dX8_turn_2 rfl (lv_at hl 1 rfl) ?_
  refine lv_iload_n hx hb dX8_turn_3 rfl (lv_at hl 2 rfl) ?_
  refine lv_iconst (v := (0 : Int32)) hx hb dX8_turn_4 (by decide) ?_
  refine lv_iconst (v := (3 : Int32)) hx hb dX8_turn_5 (by decide) ?_
  obtain ⟨r1, g2, hf⟩ := obind hf
  refine fr_callS hx hb hml hts hown K hC hR (c_X8_isIn hfl D cA g2) 3 kw1066 kw1064 kw1065 kw62 (by decide +kernel) ⟨by exact Nat.le_of_ble_eq_true rfl, by exact Nat.le_of_ble_eq_true rfl⟩ rfl hl.1 (cat8 _ (by exact Nat.le_of_ble_eq_true rfl)) dX8_turn_6 rfl (fun H locs _ _ hC => ?_)
  obtain ⟨b5, q6, hf⟩ := obind hf
  obtain ⟨r3, g4, hf⟩ := obind hf
  refine fr_callV hx hb hml hts hown K hC hR ct_8 (c_X8_refusal hfl D cA g4) 2 q6 kw1099 kw1096 kw1098 kw25 kw62 (by decide +kernel) ⟨by exact Nat.le_of_ble_eq_true rfl, by exact Nat.le_of_ble_eq_true rfl⟩ rfl hl.1 (cat8 _ (by exact Nat.le_of_ble_eq_true rfl)) dX8_turn_9 rfl (fun H locs _ _ hC => ?_)
  obtain ⟨h7, g8, hf⟩ := obind hf
  refine fr_put hx hb hts hown K hC ct_8 g8 (by decide) kw971 rfl rfl rfl rfl dX8_turn_12 (fun H locs hC => ?_)
  refine fr_aload_n hx hb dX8_turn_15 rfl (lv_at hl 0 rfl) ?_
  obtain ⟨x9, g10, hf⟩ := obind hf
  refine fr_get hx hb hts hown K hC ct_8 (fgI_get g10) (by decide) kw971 rfl dX8_turn_16 ?_
  refine lv_if_eq (tgt := 24) hx hb dX8_turn_19 (by decide) (fun c11 => ?_) (fun c11 => ?_)
  · replace hf := opos c11 hf
    refine fr_aload_n hx hb dX8_turn_24 rfl (lv_at hl 0 rfl) ?_
    obtain ⟨x12, g13, hf⟩ := obind hf
    refine fr_get hx hb hts hown K hC ct_8 (fgR_get g13) (by decide) kw985 rfl dX8_turn_25 ?_
    refine lv_iload_n hx hb dX8_turn_28 rfl (lv_at hl 1 rfl) ?_
    refine lv_iconst (v := (4 : Int32)) hx hb dX8_turn_29 (by decide) ?_
    refine lv_imul hx hb dX8_turn_30 ?_
    refine lv_iconst (v := (2 : Int32)) hx hb dX8_turn_31 (by decide) ?_
    refine lv_iadd hx hb dX8_turn_32 ?_
    obtain ⟨x14, g15, hf⟩ := obind hf
    refine fr_iald hx hb K hC (t := 0) rfl g15 dX8_turn_33 ?_
    refine lv_istore (lv' := [(4, .int x14), (0, va_rf a0), (1, .int a1), (2, .int a2), (3, .int a3)]) hx hb dX8_turn_34 hl (by decide) (congrArg (List.cons _) (flk rfl (flk rfl (flk rfl (flk rfl fln))))) (fun ls hl => ?_)
    refine fr_aload_n hx hb dX8_turn_36 rfl (lv_at hl 1 rfl) ?_
    obtain ⟨x16, g17, hf⟩ := obind hf
    refine fr_get hx hb hts hown K hC ct_8 (fgR_get g17) (by decide) kw985 rfl dX8_turn_37 ?_
    refine lv_iload_n hx hb dX8_turn_40 rfl (lv_at hl 2 rfl) ?_
    refine lv_iconst (v := (4 : Int32)) hx hb dX8_turn_41 (by decide) ?_
    refine lv_imul hx hb dX8_turn_42 ?_
    refine lv_iconst (v := (2 : Int32)) hx hb dX8_turn_43 (by decide) ?_
    refine lv_iadd hx hb dX8_turn_44 ?_
    refine lv_iload_n hx hb dX8_turn_45 rfl (lv_at hl 3 rfl) ?_
    obtain ⟨h18, g19, hf⟩ := obind hf
    refine fr_iast hx hb K hC (t := 0) rfl g19 dX8_turn_46 (fun H locs hC => ?_)
    refine fr_aload_n hx hb dX8_turn_47 rfl (lv_at hl 1 rfl) ?_
    obtain ⟨x20, g21, hf⟩ := obind hf
    refine fr_get hx hb hts hown K hC ct_8 (fgR_get g21) (by decide) kw974 rfl dX8_turn_48 ?_
    refine lv_iload_n hx hb dX8_turn_51 rfl (lv_at hl 2 rfl) ?_
    refine lv_iload_n hx hb dX8_turn_52 rfl (lv_at hl 4 rfl) ?_
    obtain ⟨h22, g23, hf⟩ := obind hf
    refine fr_zast hx hb K hC (t := 2) rfl g23 dX8_turn_53 (fun H locs hC => ?_)
    refine lv_iload hx hb dX8_turn_54 (lv_at hl 0 rfl) ?_
    obtain rfl := Option.some.inj hf
    exact fr_iret hx hb hr hlocks hC dX8_turn_56
  · replace hf := oneg c11 hf
    refine lv_iconst (v := (0 : Int32)) hx hb dX8_turn_22 (by decide) ?_
    obtain rfl := Option.some.inj hf
    exact fr_iret hx hb hr hlocks hC dX8_turn_23
set_option maxRecDepth 100000 in
theorem c_X8_turn {l : Launch} (hfl : l.stackTraces = false) (D : va_G) (cA : Nat → ClassId) {o : Nat} {p0 : Int32} {p1 : Int32} {p2 : Int32} {h : fSt} {r : (Int32 × fSt)} (hf : f_X8_turn o p0 p1 p2 h = some r) : fMet l yX8_turn (wsC yX8_turn cX8_turn 5 (some (.int))) (3) (65) D cA [.ref o, .int p0, .int p1, .int p2] h r.2 (some (.int r.1)) := by
  exact fMet.of (own := RX8) (by decide +kernel) rfl (lva1 rfl (lva1 rfl (lva1 rfl (lva1 rfl lva0)))) (lgl1 rfl (lgl1 rfl (lgl1 rfl (lgl1 rfl lgl0)))) (Nat.le_of_ble_eq_true rfl) (fun p e s m args below meth c ls hnm _ M hC hl => by
    have hl : lv_has ls 5 [(0, va_rf (some o)), (1, .int p0), (2, .int p1), (3, .int p2)] := hl
    exact w_X8_turn_L0 M hfl _ _ _ _ _ hf _ _ _ _ _ hC (lv_sub hl [0, 1, 2, 3] rfl))
set_option maxHeartbeats 4000000 in
set_option maxRecDepth 100000 in
theorem w_X8_isNot_L0 {p : Program} {l : Launch} {e : Env} {s : State} {m : MethodId} {args : Array Value} {below : List Frame} {meth : Method} {c : Code} {D : va_G} {cA : Nat → ClassId} {h0 : fSt} {r : (Int32 × fSt)} (M : fM p s m args meth c D cA h0 { frames := 0, cells := fCB h0 - fZ h0, slots := fLB h0 - fL h0, locals := 0 } cX8_isNot 2 (some (.boolean)) RX8) (hfl : l.stackTraces = false) (a0 : Option Nat) (a1 : Int32) (h : fSt) (hf : f_X8_isNot_L0 a0 a1 h = some r) : ∀ (H : Heap) (locs : List Loc) (cells slots : Nat) (ls : Array Slot), fCur D cA s h0 h H locs → lv_has ls 2 [(0, va_rf a0), (1, .int a1)] → W p l e { frames := 0, cells := fCB h0 - fZ h0, slots := fLB h0 - fL h0, locals := 0 } s m args below meth c H locs cells slots (MQ below (fQ D cA h0 r.2 (some (.int r.1))) args s (fCB h0 - fZ h0) (fLB h0 - fL h0) (fA h0)) (F0 m 0 ls []) := by
  obtain ⟨hx, hb, hml, hr, hlocks, hts, hown, K, hR⟩ := id M
  intro H locs cells slots ls hC hl
  refine fr_aload_n hx hb dX8_isNot_0 rfl (lv_at hl 0 rfl) ?_
  refine lv_iload_n hx hb dX8_isNot_1 rfl (lv_at hl 1 rfl) ?_
  obtain ⟨h1, g2, hf⟩ := obind hf
  refine fr_put hx hb hts hown K hC ct_8 g2 (by decide) kw971 rfl rfl rfl rfl dX8_isNot_2 (fun H locs hC => ?_)
  refine lv_iconst (v := (0 : Int32)) hx hb dX8_isNot_5 (by decide) ?_
  obtain rfl := Option.some.inj hf
  exact fr_zret hx hb hr hlocks hC (Or.inl rfl) dX8_isNot_6
set_option maxRecDepth 100000 in
theorem c_X8_isNot {l : Launch} (hfl : l.stackTraces = false) (D : va_G) (cA : Nat → ClassId) {o : Nat} {p0 : Int32} {h : fSt} {r : (Int32 × fSt)} (hf : f_X8_isNot o p0 h = some r) : fMet l yX8_isNot (wsC yX8_isNot cX8_isNot 2 (some (.boolean))) (0) (0) D cA [.ref o, .int p0] h r.2 (some (.int r.1)) := by
  exact fMet.of (own := RX8) (by decide +kernel) rfl (lva1 rfl (lva1 rfl lva0)) (lgl1 rfl (lgl1 rfl lgl0)) (Nat.le_of_ble_eq_true rfl) (fun p e s m args below meth c ls hnm _ M hC hl => by
    have hl : lv_has ls 2 [(0, va_rf (some o)), (1, .int p0)] := hl
    exact w_X8_isNot_L0 M hfl _ _ _ hf _ _ _ _ _ hC (lv_sub hl [0, 1] rfl))
set_option maxHeartbeats 4000000 in
set_option maxRecDepth 100000 in
theorem w_X8_uncut_L0 {p : Program} {l : Launch} {e : Env} {s : State} {m : MethodId} {args : Array Value} {below : List Frame} {meth : Method} {c : Code} {D : va_G} {cA : Nat → ClassId} {h0 : fSt} {r : (Int32 × fSt)} (M : fM p s m args meth c D cA h0 { frames := 2, cells := fCB h0 - fZ h0, slots := fLB h0 - fL h0, locals := 43 } cX8_uncut 3 (some (.boolean)) RX8) (hfl : l.stackTraces = false) (a0 : Option Nat) (a1 : Int32) (h : fSt) (hf : f_X8_uncut_L0 a0 a1 h = some r) : ∀ (H : Heap) (locs : List Loc) (cells slots : Nat) (ls : Array Slot), fCur D cA s h0 h H locs → lv_has ls 3 [(0, va_rf a0), (1, .int a1)] → W p l e { frames := 2, cells := fCB h0 - fZ h0, slots := fLB h0 - fL h0, locals := 43 } s m args below meth c H locs cells slots (MQ below (fQ D cA h0 r.2 (some (.int r.1))) args s (fCB h0 - fZ h0) (fLB h0 - fL h0) (fA h0)) (F0 m 0 ls []) := by
  obtain ⟨hx, hb, hml, hr, hlocks, hts, hown, K, hR⟩ := id M
  intro H locs cells slots ls hC hl
  refine fr_aload_n hx hb dX8_uncut_0 rfl (lv_at hl 0 rfl) ?_
  refine lv_iconst (v := (0 : Int32)) hx hb dX8_uncut_1 (by decide) ?_
  obtain ⟨h1, g2, hf⟩ := obind hf
  refine fr_put hx hb hts hown K hC ct_8 g2 (by decide) kw971 rfl rfl rfl rfl dX8_uncut_2 (fun H locs hC => ?_)
  refine fr_aload_n hx hb dX8_uncut_5 rfl (lv_at hl 0 rfl) ?_
  refine lv_iload_n hx hb dX8_uncut_6 rfl (lv_at hl 1 rfl) ?_
  obtain ⟨b5, q6, hf⟩ := obind hf
  obtain ⟨r3, g4, hf⟩ := obind hf
  refine fr_callV hx hb hml hts hown K hC hR ct_8 (c_X8_isNode hfl D cA g4) 1 q6 kw1063 kw1060 kw1062 kw20 kw62 (by decide +kernel) ⟨by exact Nat.le_of_ble_eq_true rfl, by exact Nat.le_of_ble_eq_true rfl⟩ rfl hl.1 (cat8 _ (by exact Nat.le_of_ble_eq_true rfl)) dX8_uncut_7 rfl (fun H locs _ _ hC => ?_)
  refine lv_if_ne (tgt := 19) hx hb dX8_uncut_10 (by decide) (fun c7 => ?_) (fun c7 => ?_)
  · replace hf := oneg c7 hf
    refine fr_aload_n hx hb dX8_uncut_19 rfl (lv_at hl 0 rfl) ?_
    obtain ⟨x8, g9, hf⟩ := obind hf
    refine fr_get hx hb hts hown K hC ct_8 (fgR_get g9) (by decide) kw976 rfl dX8_uncut_20 ?_
    refine lv_iload_n hx hb dX8_uncut_23 rfl (lv_at hl 1 rfl) ?_
    obtain ⟨x10, g11, hf⟩ := obind hf
    refine fr_zald hx hb K hC (t := 2) rfl g11 dX8_uncut_24 ?_
    refine lv_istore_n (lv' := [(2, .int x10), (0, va_rf a0), (1, .int a1)]) hx hb dX8_uncut_25 rfl hl (by decide) (congrArg (List.cons _) (flk rfl (flk rfl fln))) (fun ls hl => ?_)
    refine fr_aload_n hx hb dX8_uncut_26 rfl (lv_at hl 1 rfl) ?_
    obtain ⟨x12, g13, hf⟩ := obind hf
    refine fr_get hx hb hts hown K hC ct_8 (fgR_get g13) (by decide) kw976 rfl dX8_uncut_27 ?_
    refine lv_iload_n hx hb dX8_uncut_30 rfl (lv_at hl 2 rfl) ?_
    refine lv_iconst (v := (0 : Int32)) hx hb dX8_uncut_31 (by decide) ?_
    obtain ⟨h14, g15, hf⟩ := obind hf
    refine fr_zast hx hb K hC (t := 2) rfl g15 dX8_uncut_32 (fun H locs hC => ?_)
    refine lv_iload_n hx hb dX8_uncut_33 rfl (lv_at hl 0 rfl) ?_
    by_cases c16 : x10 = 0 ∨ x10 = 1
    rotate_left
    · exact nomatch (oneg c16 hf)
    obtain rfl := Option.some.inj (opos c16 hf)
    exact fr_zret hx hb hr hlocks hC c16 dX8_uncut_34
  · replace hf := opos c7 hf
    refine fr_aload_n hx hb dX8_uncut_13 rfl (lv_at hl 0 rfl) ?_
    refine lv_iconst (v := (1 : Int32)) hx hb dX8_uncut_14 (by decide) ?_
    obtain ⟨b19, q20, hf⟩ := obind hf
    obtain ⟨r17, g18, hf⟩ := obind hf
    refine fr_callV hx hb hml hts hown K hC hR ct_8 (c_X8_isNot hfl D cA g18) 1 q20 kw1126 kw1123 kw1125 kw26 kw62 (by decide +kernel) ⟨by exact Nat.le_of_ble_eq_true rfl, by exact Nat.le_of_ble_eq_true rfl⟩ rfl hl.1 (cat8 _ (by exact Nat.le_of_ble_eq_true rfl)) dX8_uncut_15 rfl (fun H locs _ _ hC => ?_)
    by_cases c21 : r17.1 = 0 ∨ r17.1 = 1
    rotate_left
    · exact nomatch (oneg c21 hf)
    obtain rfl := Option.some.inj (opos c21 hf)
    exact fr_zret hx hb hr hlocks hC c21 dX8_uncut_18
set_option maxRecDepth 100000 in
theorem c_X8_uncut {l : Launch} (hfl : l.stackTraces = false) (D : va_G) (cA : Nat → ClassId) {o : Nat} {p0 : Int32} {h : fSt} {r : (Int32 × fSt)} (hf : f_X8_uncut o p0 h = some r) : fMet l yX8_uncut (wsC yX8_uncut cX8_uncut 3 (some (.boolean))) (2) (43) D cA [.ref o, .int p0] h r.2 (some (.int r.1)) := by
  exact fMet.of (own := RX8) (by decide +kernel) rfl (lva1 rfl (lva1 rfl lva0)) (lgl1 rfl (lgl1 rfl lgl0)) (Nat.le_of_ble_eq_true rfl) (fun p e s m args below meth c ls hnm _ M hC hl => by
    have hl : lv_has ls 3 [(0, va_rf (some o)), (1, .int p0)] := hl
    exact w_X8_uncut_L0 M hfl _ _ _ hf _ _ _ _ _ hC (lv_sub hl [0, 1] rfl))
set_option maxHeartbeats 4000000 in
set_option maxRecDepth 100000 in
theorem w_X8_unkey_L0 {p : Program} {l : Launch} {e : Env} {s : State} {m : MethodId} {args : Array Value} {below : List Frame} {meth : Method} {c : Code} {D : va_G} {cA : Nat → ClassId} {h0 : fSt} {r : (Int32 × fSt)} (M : fM p s m args meth c D cA h0 { frames := 2, cells := fCB h0 - fZ h0, slots := fLB h0 - fL h0, locals := 46 } cX8_unkey 6 (some (.int)) RX8) (hfl : l.stackTraces = false) (a0 : Option Nat) (a1 : Int32) (a2 : Int32) (h : fSt) (hf : f_X8_unkey_L0 a0 a1 a2 h = some r) : ∀ (H : Heap) (locs : List Loc) (cells slots : Nat) (ls : Array Slot), fCur D cA s h0 h H locs → lv_has ls 6 [(0, va_rf a0), (1, .int a1), (2, .int a2)] → W p l e { frames := 2, cells := fCB h0 - fZ h0, slots := fLB h0 - fL h0, locals := 46 } s m args below meth c H locs cells slots (MQ below (fQ D cA h0 r.2 (some (.int r.1))) args s (fCB h0 - fZ h0) (fLB h0 - fL h0) (fA h0)) (F0 m 0 ls []) := by
  obtain ⟨hx, hb, hml, hr, hlocks, hts, hown, K, hR⟩ := id M
  intro H locs cells slots ls hC hl
  refine fr_aload_n hx hb dX8_unkey_0 rfl (lv_at hl 0 rfl) ?_
  refine lv_iconst (v := (0 : Int32)) hx hb dX8_unkey_1 (by decide) ?_
  obtain ⟨h1, g2, hf⟩ := obind hf
  refine fr_put hx hb hts hown K hC ct_8 g2 (by decide) kw971 rfl rfl rfl rfl dX8_unkey_2 (fun H locs hC => ?_)
  refine fr_aload_n hx hb dX8_unkey_5 rfl (lv_at hl 0 rfl) ?_
  refine lv_iload_n hx hb dX8_unkey_6 rfl (lv_at hl 1 rfl) ?_
  obtain ⟨b5, q6, hf⟩ := obind hf
  obtain ⟨r3, g4, hf⟩ := obind hf
  refine fr_callV hx hb hml hts hown K hC hR ct_8 (c_X8_isTrack hfl D cA g4) 1 q6 kw1170 kw1167 kw1169 kw30 kw62 (by decide +kernel) ⟨by exact Nat.le_of_ble_eq_true rfl, by exact Nat.le_of_ble_eq_true rfl⟩ rfl hl.1 (cat8 _ (by exact Nat.le_of_ble_eq_true rfl)) dX8_unkey_7 rfl (fun H locs _ _ hC => ?_)
  refine lv_if_ne (tgt := 19) hx hb dX8_unkey_10 (by decide) (fun c7 => ?_) (fun c7 => ?_)
  · replace hf := oneg c7 hf
    refine fr_aload_n hx hb dX8_unkey_19 rfl (lv_at hl 0 rfl) ?_
    refine lv_iload_n hx hb dX8_unkey_20 rfl (lv_at hl 1 rfl) ?_
    refine lv_iload_n hx hb dX8_unkey_21 rfl (lv_at hl 2 rfl) ?_
    obtain ⟨b10, q11, hf⟩ := obind hf
    obtain ⟨r8, g9, hf⟩ := obind hf
    refine fr_callV hx hb hml hts hown K hC hR ct_8 (c_X8_hasKey hfl D cA g9) 2 q11 kw1177 kw1174 kw1176 kw31 kw62 (by decide +kernel) ⟨by exact Nat.le_of_ble_eq_true rfl, by exact Nat.le_of_ble_eq_true rfl⟩ rfl hl.1 (cat8 _ (by exact Nat.le_of_ble_eq_true rfl)) dX8_unkey_22 rfl (fun H locs _ _ hC => ?_)
    refine lv_if_ne (tgt := 34) hx hb dX8_unkey_25 (by decide) (fun c12 => ?_) (fun c12 => ?_)
    · replace hf := oneg c12 hf
      refine fr_aload_n hx hb dX8_unkey_34 rfl (lv_at hl 0 rfl) ?_
      refine lv_iload_n hx hb dX8_unkey_35 rfl (lv_at hl 1 rfl) ?_
      refine lv_iload_n hx hb dX8_unkey_36 rfl (lv_at hl 2 rfl) ?_
      obtain ⟨b15, q16, hf⟩ := obind hf
      obtain ⟨r13, g14, hf⟩ := obind hf
      refine fr_callV hx hb hml hts hown K hC hR ct_8 (c_X8_keyPlace hfl D cA g14) 2 q16 kw1181 kw1178 kw1180 kw32 kw62 (by decide +kernel) ⟨by exact Nat.le_of_ble_eq_true rfl, by exact Nat.le_of_ble_eq_true rfl⟩ rfl hl.1 (cat8 _ (by exact Nat.le_of_ble_eq_true rfl)) dX8_unkey_37 rfl (fun H locs _ _ hC => ?_)
      refine lv_istore_n (lv' := [(3, .int r13.1), (0, va_rf a0), (1, .int a1), (2, .int a2)]) hx hb dX8_unkey_40 rfl hl (by decide) (congrArg (List.cons _) (flk rfl (flk rfl (flk rfl fln)))) (fun ls hl => ?_)
      refine lv_iload_n hx hb dX8_unkey_41 rfl (lv_at hl 2 rfl) ?_
      refine lv_bipush (v := (8 : Int32)) hx hb dX8_unkey_42 (by decide) ?_
      refine lv_imul hx hb dX8_unkey_44 ?_
      refine lv_iload_n hx hb dX8_unkey_45 rfl (lv_at hl 0 rfl) ?_
      refine lv_iadd hx hb dX8_unkey_46 ?_
      refine lv_istore (lv' := [(4, .int ((a1 * (8 : Int32)) + r13.1)), (3, .int r13.1), (0, va_rf a0), (1, .int a1), (2, .int a2)]) hx hb dX8_unkey_47 hl (by decide) (congrArg (List.cons _) (flk rfl (flk rfl (flk rfl (flk rfl fln))))) (fun ls hl => ?_)
      refine fr_aload_n hx hb dX8_unkey_49 rfl (lv_at hl 2 rfl) ?_
      obtain ⟨x17, g18, hf⟩ := obind hf
      refine fr_get hx hb hts hown K hC ct_8 (fgR_get g18) (by decide) kw995 rfl dX8_unkey_50 ?_
      refine lv_iload hx hb dX8_unkey_53 (lv_at hl 0 rfl) ?_
      obtain ⟨x19, g20, hf⟩ := obind hf
      refine fr_iald hx hb K hC (t := 0) rfl g20 dX8_unkey_55 ?_
      refine lv_istore (lv' := [(5, .int x19), (4, .int ((a1 * (8 : Int32)) + r13.1)), (3, .int r13.1), (0, va_rf a0), (1, .int a1), (2, .int a2)]) hx hb dX8_unkey_56 hl (by decide) (congrArg (List.cons _) (flk rfl (flk rfl (flk rfl (flk rfl (flk rfl fln)))))) (fun ls hl => ?_)
      refine fr_aload_n hx hb dX8_unkey_58 rfl (lv_at hl 3 rfl) ?_
      obtain ⟨x21, g22, hf⟩ := obind hf
      refine fr_get hx hb hts hown K hC ct_8 (fgR_get g22) (by decide) kw993 rfl dX8_unkey_59 ?_
      refine lv_iload_n hx hb dX8_unkey_62 rfl (lv_at hl 4 rfl) ?_
      refine lv_dup2_11 hx hb dX8_unkey_63 rfl (va_rf_cat _) ?_
      obtain ⟨x23, g24, hf⟩ := obind hf
      refine fr_iald hx hb K hC (t := 0) rfl g24 dX8_unkey_64 ?_
      refine lv_iconst (v := (1 : Int32)) hx hb dX8_unkey_65 (by decide) ?_
      refine lv_isub hx hb dX8_unkey_66 ?_
      obtain ⟨h25, g26, hf⟩ := obind hf
      refine fr_iast hx hb K hC (t := 0) rfl g26 dX8_unkey_67 (fun H locs hC => ?_)
      refine fr_aload_n hx hb dX8_unkey_68 rfl (lv_at hl 3 rfl) ?_
      obtain ⟨x27, g28, hf⟩ := obind hf
      refine fr_get hx hb hts hown K hC ct_8 (fgR_get g28) (by decide) kw994 rfl dX8_unkey_69 ?_
      refine lv_iload hx hb dX8_unkey_72 (lv_at hl 1 rfl) ?_
      refine lv_iconst (v := (1 : Int32)) hx hb dX8_unkey_74 (by decide) ?_
      refine lv_iadd hx hb dX8_unkey_75 ?_
      refine fr_aload_n hx hb dX8_unkey_76 rfl (lv_at hl 3 rfl) ?_
      obtain ⟨x29, g30, hf⟩ := obind hf
      refine fr_get hx hb hts hown K hC ct_8 (fgR_get g30) (by decide) kw994 rfl dX8_unkey_77 ?_
      refine lv_iload hx hb dX8_unkey_80 (lv_at hl 1 rfl) ?_
      refine fr_aload_n hx hb dX8_unkey_82 rfl (lv_at hl 3 rfl) ?_
      obtain ⟨x31, g32, hf⟩ := obind hf
      refine fr_get hx hb hts hown K hC ct_8 (fgR_get g32) (by decide) kw993 rfl dX8_unkey_83 ?_
      refine lv_iload_n hx hb dX8_unkey_86 rfl (lv_at hl 4 rfl) ?_
      obtain ⟨x33, g34, hf⟩ := obind hf
      refine fr_iald hx hb K hC (t := 0) rfl g34 dX8_unkey_87 ?_
      refine lv_iload_n hx hb dX8_unkey_88 rfl (lv_at hl 2 rfl) ?_
      refine lv_isub hx hb dX8_unkey_89 ?_
      obtain ⟨h35, g36, hf⟩ := obind hf
      refine fr_copyi hx hb hml hts hown K hC kw1116 kw1118 kw1117 kw70 (t := 0) rfl g36 hl.1 (by exact Nat.le_of_ble_eq_true rfl) (catL _ _ (by exact Nat.le_of_ble_eq_true rfl) (by exact Nat.le_of_ble_eq_true rfl)) dX8_unkey_90 (fun H locs hC => ?_)
      refine fr_aload_n hx hb dX8_unkey_93 rfl (lv_at hl 3 rfl) ?_
      obtain ⟨x37, g38, hf⟩ := obind hf
      refine fr_get hx hb hts hown K hC ct_8 (fgR_get g38) (by decide) kw995 rfl dX8_unkey_94 ?_
      refine lv_iload hx hb dX8_unkey_97 (lv_at hl 1 rfl) ?_
      refine lv_iconst (v := (1 : Int32)) hx hb dX8_unkey_99 (by decide) ?_
      refine lv_iadd hx hb dX8_unkey_100 ?_
      refine fr_aload_n hx hb dX8_unkey_101 rfl (lv_at hl 3 rfl) ?_
      obtain ⟨x39, g40, hf⟩ := obind hf
      refine fr_get hx hb hts hown K hC ct_8 (fgR_get g40) (by decide) kw995 rfl dX8_unkey_102 ?_
      refine lv_iload hx hb dX8_unkey_105 (lv_at hl 1 rfl) ?_
      refine fr_aload_n hx hb dX8_unkey_107 rfl (lv_at hl 3 rfl) ?_
      obtain ⟨x41, g42, hf⟩ := obind hf
      refine fr_get hx hb hts hown K hC ct_8 (fgR_get g42) (by decide) kw993 rfl dX8_unkey_108 ?_
      refine lv_iload_n hx hb dX8_unkey_111 rfl (lv_at hl 4 rfl) ?_
      obtain ⟨x43, g44, hf⟩ := obind hf
      refine fr_iald hx hb K hC (t := 0) rfl g44 dX8_unkey_112 ?_
      refine lv_iload_n hx hb dX8_unkey_113 rfl (lv_at hl 2 rfl) ?_
      refine lv_isub hx hb dX8_unkey_114 ?_
      obtain ⟨h45, g46, hf⟩ := obind hf
      refine fr_copyi hx hb hml hts hown K hC kw1116 kw1118 kw1117 kw70 (t := 0) rfl g46 hl.1 (by exact Nat.le_of_ble_eq_true rfl) (catL _ _ (by exact Nat.le_of_ble_eq_true rfl) (by exact Nat.le_of_ble_eq_true rfl)) dX8_unkey_115 (fun H locs hC => ?_)
      refine lv_iload hx hb dX8_unkey_118 (lv_at hl 0 rfl) ?_
      obtain rfl := Option.some.inj hf
      exact fr_iret hx hb hr hlocks hC dX8_unkey_120
    · replace hf := opos c12 hf
      refine fr_aload_n hx hb dX8_unkey_28 rfl (lv_at hl 0 rfl) ?_
      refine lv_iconst (v := (2 : Int32)) hx hb dX8_unkey_29 (by decide) ?_
      obtain ⟨b49, q50, hf⟩ := obind hf
      obtain ⟨r47, g48, hf⟩ := obind hf
      refine fr_callV hx hb hml hts hown K hC hR ct_8 (c_X8_no hfl D cA g48) 1 q50 kw1070 kw1067 kw1069 kw21 kw62 (by decide +kernel) ⟨by exact Nat.le_of_ble_eq_true rfl, by exact Nat.le_of_ble_eq_true rfl⟩ rfl hl.1 (cat8 _ (by exact Nat.le_of_ble_eq_true rfl)) dX8_unkey_30 rfl (fun H locs _ _ hC => ?_)
      obtain rfl := Option.some.inj hf
      exact fr_iret hx hb hr hlocks hC dX8_unkey_33
  · replace hf := opos c7 hf
    refine fr_aload_n hx hb dX8_unkey_13 rfl (lv_at hl 0 rfl) ?_
    refine lv_iconst (v := (1 : Int32)) hx hb dX8_unkey_14 (by decide) ?_
    obtain ⟨b53, q54, hf⟩ := obind hf
    obtain ⟨r51, g52, hf⟩ := obind hf
    refine fr_callV hx hb hml hts hown K hC hR ct_8 (c_X8_no hfl D cA g52) 1 q54 kw1070 kw1067 kw1069 kw21 kw62 (by decide +kernel) ⟨by exact Nat.le_of_ble_eq_true rfl, by exact Nat.le_of_ble_eq_true rfl⟩ rfl hl.1 (cat8 _ (by exact Nat.le_of_ble_eq_true rfl)) dX8_unkey_15 rfl (fun H locs _ _ hC => ?_)
    obtain rfl := Option.some.inj hf
    exact fr_iret hx hb hr hlocks hC dX8_unkey_18
set_option maxRecDepth 100000 in
theorem c_X8_unkey {l : Launch} (hfl : l.stackTraces = false) (D : va_G) (cA : Nat → ClassId) {o : Nat} {p0 : Int32} {p1 : Int32} {h : fSt} {r : (Int32 × fSt)} (hf : f_X8_unkey o p0 p1 h = some r) : fMet l yX8_unkey (wsC yX8_unkey cX8_unkey 6 (some (.int))) (2) (46) D cA [.ref o, .int p0, .int p1] h r.2 (some (.int r.1)) := by
  exact fMet.of (own := RX8) (by decide +kernel) rfl (lva1 rfl (lva1 rfl (lva1 rfl lva0))) (lgl1 rfl (lgl1 rfl (lgl1 rfl lgl0))) (Nat.le_of_ble_eq_true rfl) (fun p e s m args below meth c ls hnm _ M hC hl => by
    have hl : lv_has ls 6 [(0, va_rf (some o)), (1, .int p0), (2, .int p1)] := hl
    exact w_X8_unkey_L0 M hfl _ _ _ _ hf _ _ _ _ _ hC (lv_sub hl [0, 1, 2] rfl))
