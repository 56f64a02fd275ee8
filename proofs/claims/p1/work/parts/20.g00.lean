theorem dX4_depth_0 : decode cX4_depth 0 = .ok (.iconst 0, 1) := by decide +kernel
theorem dX4_depth_1 : decode cX4_depth 1 = .ok (.istore_n 1, 1) := by decide +kernel
theorem dX4_depth_2 : decode cX4_depth 2 = .ok (.aload_n 0, 1) := by decide +kernel
theorem dX4_depth_3 : decode cX4_depth 3 = .ok (.getfield 51, 3) := by decide +kernel
theorem dX4_depth_6 : decode cX4_depth 6 = .ok (.astore_n 2, 1) := by decide +kernel
theorem dX4_depth_7 : decode cX4_depth 7 = .ok (.aload_n 2, 1) := by decide +kernel
theorem dX4_depth_8 : decode cX4_depth 8 = .ok (.ifnull 14, 3) := by decide +kernel
theorem dX4_depth_11 : decode cX4_depth 11 = .ok (.iinc 1 1, 3) := by decide +kernel
theorem dX4_depth_14 : decode cX4_depth 14 = .ok (.aload_n 2, 1) := by decide +kernel
theorem dX4_depth_15 : decode cX4_depth 15 = .ok (.getfield 51, 3) := by decide +kernel
theorem dX4_depth_18 : decode cX4_depth 18 = .ok (.astore_n 2, 1) := by decide +kernel
theorem dX4_depth_19 : decode cX4_depth 19 = .ok (.goto (-12), 3) := by decide +kernel
theorem dX4_depth_22 : decode cX4_depth 22 = .ok (.iload_n 1, 1) := by decide +kernel
theorem dX4_depth_23 : decode cX4_depth 23 = .ok (.ireturn, 1) := by decide +kernel
theorem dX2_init_0 : decode cX2_init 0 = .ok (.aload_n 0, 1) := by decide +kernel
theorem dX2_init_1 : decode cX2_init 1 = .ok (.invokespecial 1, 3) := by decide +kernel
theorem dX2_init_4 : decode cX2_init 4 = .ok (.aload_n 0, 1) := by decide +kernel
theorem dX2_init_5 : decode cX2_init 5 = .ok (.iload_n 1, 1) := by decide +kernel
theorem dX2_init_6 : decode cX2_init 6 = .ok (.putfield 7, 3) := by decide +kernel
theorem dX2_init_9 : decode cX2_init 9 = .ok (.aload_n 0, 1) := by decide +kernel
theorem dX2_init_10 : decode cX2_init 10 = .ok (.iload_n 2, 1) := by decide +kernel
theorem dX2_init_11 : decode cX2_init 11 = .ok (.putfield 13, 3) := by decide +kernel
theorem dX2_init_14 : decode cX2_init 14 = .ok (.aload_n 0, 1) := by decide +kernel
theorem dX2_init_15 : decode cX2_init 15 = .ok (.iload_n 3, 1) := by decide +kernel
theorem dX2_init_16 : decode cX2_init 16 = .ok (.putfield 16, 3) := by decide +kernel
theorem dX2_init_19 : decode cX2_init 19 = .ok (.aload_n 0, 1) := by decide +kernel
theorem dX2_init_20 : decode cX2_init 20 = .ok (.iload 4, 2) := by decide +kernel
theorem dX2_init_22 : decode cX2_init 22 = .ok (.putfield 19, 3) := by decide +kernel
theorem dX2_init_25 : decode cX2_init 25 = .ok (.return_, 1) := by decide +kernel
theorem dX6_init_0 : decode cX6_init 0 = .ok (.aload_n 0, 1) := by decide +kernel
theorem dX6_init_1 : decode cX6_init 1 = .ok (.invokespecial 3, 3) := by decide +kernel
theorem dX6_init_4 : decode cX6_init 4 = .ok (.aload_n 0, 1) := by decide +kernel
theorem dX6_init_5 : decode cX6_init 5 = .ok (.iload_n 1, 1) := by decide +kernel
theorem dX6_init_6 : decode cX6_init 6 = .ok (.putfield 9, 3) := by decide +kernel
theorem dX6_init_9 : decode cX6_init 9 = .ok (.aload_n 0, 1) := by decide +kernel
theorem dX6_init_10 : decode cX6_init 10 = .ok (.iload_n 2, 1) := by decide +kernel
theorem dX6_init_11 : decode cX6_init 11 = .ok (.putfield 15, 3) := by decide +kernel
theorem dX6_init_14 : decode cX6_init 14 = .ok (.aload_n 0, 1) := by decide +kernel
theorem dX6_init_15 : decode cX6_init 15 = .ok (.iload_n 3, 1) := by decide +kernel
theorem dX6_init_16 : decode cX6_init 16 = .ok (.putfield 18, 3) := by decide +kernel
theorem dX6_init_19 : decode cX6_init 19 = .ok (.return_, 1) := by decide +kernel
theorem dX4_init_0 : decode cX4_init 0 = .ok (.aload_n 0, 1) := by decide +kernel
theorem dX4_init_1 : decode cX4_init 1 = .ok (.invokespecial 3, 3) := by decide +kernel
theorem dX4_init_4 : decode cX4_init 4 = .ok (.aload_n 0, 1) := by decide +kernel
theorem dX4_init_5 : decode cX4_init 5 = .ok (.new 9, 3) := by decide +kernel
theorem dX4_init_8 : decode cX4_init 8 = .ok (.dup, 1) := by decide +kernel
theorem dX4_init_9 : decode cX4_init 9 = .ok (.iconst 0, 1) := by decide +kernel
theorem dX4_init_10 : decode cX4_init 10 = .ok (.sipush (-200), 3) := by decide +kernel
theorem dX4_init_13 : decode cX4_init 13 = .ok (.sipush 200, 3) := by decide +kernel
theorem dX4_init_16 : decode cX4_init 16 = .ok (.invokespecial 11, 3) := by decide +kernel
theorem dX4_init_19 : decode cX4_init 19 = .ok (.putfield 14, 3) := by decide +kernel
theorem dX4_init_22 : decode cX4_init 22 = .ok (.aload_n 0, 1) := by decide +kernel
theorem dX4_init_23 : decode cX4_init 23 = .ok (.new 9, 3) := by decide +kernel
theorem dX4_init_26 : decode cX4_init 26 = .ok (.dup, 1) := by decide +kernel
theorem dX4_init_27 : decode cX4_init 27 = .ok (.iconst 0, 1) := by decide +kernel
theorem dX4_init_28 : decode cX4_init 28 = .ok (.sipush (-200), 3) := by decide +kernel
theorem dX4_init_31 : decode cX4_init 31 = .ok (.sipush 200, 3) := by decide +kernel
theorem dX4_init_34 : decode cX4_init 34 = .ok (.invokespecial 11, 3) := by decide +kernel
theorem dX4_init_37 : decode cX4_init 37 = .ok (.putfield 20, 3) := by decide +kernel
theorem dX4_init_40 : decode cX4_init 40 = .ok (.aload_n 0, 1) := by decide +kernel
theorem dX4_init_41 : decode cX4_init 41 = .ok (.new 9, 3) := by decide +kernel
theorem dX4_init_44 : decode cX4_init 44 = .ok (.dup, 1) := by decide +kernel
theorem dX4_init_45 : decode cX4_init 45 = .ok (.iconst 0, 1) := by decide +kernel
theorem dX4_init_46 : decode cX4_init 46 = .ok (.iconst 0, 1) := by decide +kernel
theorem dX4_init_47 : decode cX4_init 47 = .ok (.iconst 3, 1) := by decide +kernel
theorem dX4_init_48 : decode cX4_init 48 = .ok (.invokespecial 11, 3) := by decide +kernel
theorem dX4_init_51 : decode cX4_init 51 = .ok (.putfield 23, 3) := by decide +kernel
theorem dX4_init_54 : decode cX4_init 54 = .ok (.aload_n 0, 1) := by decide +kernel
theorem dX4_init_55 : decode cX4_init 55 = .ok (.new 9, 3) := by decide +kernel
theorem dX4_init_58 : decode cX4_init 58 = .ok (.dup, 1) := by decide +kernel
theorem dX4_init_59 : decode cX4_init 59 = .ok (.bipush 100, 2) := by decide +kernel
theorem dX4_init_61 : decode cX4_init 61 = .ok (.iconst 0, 1) := by decide +kernel
theorem dX4_init_62 : decode cX4_init 62 = .ok (.bipush 100, 2) := by decide +kernel
theorem dX4_init_64 : decode cX4_init 64 = .ok (.invokespecial 11, 3) := by decide +kernel
theorem dX4_init_67 : decode cX4_init 67 = .ok (.putfield 26, 3) := by decide +kernel
theorem dX4_init_70 : decode cX4_init 70 = .ok (.aload_n 0, 1) := by decide +kernel
theorem dX4_init_71 : decode cX4_init 71 = .ok (.iconst 1, 1) := by decide +kernel
theorem dX4_init_72 : decode cX4_init 72 = .ok (.putfield 29, 3) := by decide +kernel
theorem dX4_init_75 : decode cX4_init 75 = .ok (.aload_n 0, 1) := by decide +kernel
theorem dX4_init_76 : decode cX4_init 76 = .ok (.iconst 1, 1) := by decide +kernel
theorem dX4_init_77 : decode cX4_init 77 = .ok (.putfield 33, 3) := by decide +kernel
theorem dX4_init_80 : decode cX4_init 80 = .ok (.aload_n 0, 1) := by decide +kernel
theorem dX4_init_81 : decode cX4_init 81 = .ok (.iload_n 1, 1) := by decide +kernel
theorem dX4_init_82 : decode cX4_init 82 = .ok (.putfield 36, 3) := by decide +kernel
theorem dX4_init_85 : decode cX4_init 85 = .ok (.aload_n 0, 1) := by decide +kernel
theorem dX4_init_86 : decode cX4_init 86 = .ok (.iload_n 2, 1) := by decide +kernel
theorem dX4_init_87 : decode cX4_init 87 = .ok (.putfield 39, 3) := by decide +kernel
theorem dX4_init_90 : decode cX4_init 90 = .ok (.aload_n 0, 1) := by decide +kernel
theorem dX4_init_91 : decode cX4_init 91 = .ok (.new 42, 3) := by decide +kernel
theorem dX4_init_94 : decode cX4_init 94 = .ok (.dup, 1) := by decide +kernel
theorem dX4_init_95 : decode cX4_init 95 = .ok (.iconst 0, 1) := by decide +kernel
theorem dX4_init_96 : decode cX4_init 96 = .ok (.iconst 0, 1) := by decide +kernel
theorem dX4_init_97 : decode cX4_init 97 = .ok (.iload_n 3, 1) := by decide +kernel
theorem dX4_init_98 : decode cX4_init 98 = .ok (.iload 4, 2) := by decide +kernel
theorem dX4_init_100 : decode cX4_init 100 = .ok (.invokespecial 44, 3) := by decide +kernel
theorem dX4_init_103 : decode cX4_init 103 = .ok (.putfield 47, 3) := by decide +kernel
theorem dX4_init_106 : decode cX4_init 106 = .ok (.return_, 1) := by decide +kernel
theorem dX4_takeIn_0 : decode cX4_takeIn 0 = .ok (.aconst_null, 1) := by decide +kernel
theorem dX4_takeIn_1 : decode cX4_takeIn 1 = .ok (.astore_n 2, 1) := by decide +kernel
theorem dX4_takeIn_2 : decode cX4_takeIn 2 = .ok (.aload_n 0, 1) := by decide +kernel
theorem dX4_takeIn_3 : decode cX4_takeIn 3 = .ok (.getfield 55, 3) := by decide +kernel
theorem dX4_takeIn_6 : decode cX4_takeIn 6 = .ok (.astore_n 3, 1) := by decide +kernel
theorem dX4_takeIn_7 : decode cX4_takeIn 7 = .ok (.aload_n 3, 1) := by decide +kernel
theorem dX4_takeIn_8 : decode cX4_takeIn 8 = .ok (.ifnull 13, 3) := by decide +kernel
theorem dX4_takeIn_11 : decode cX4_takeIn 11 = .ok (.aload_n 3, 1) := by decide +kernel
theorem dX4_takeIn_12 : decode cX4_takeIn 12 = .ok (.astore_n 2, 1) := by decide +kernel
theorem dX4_takeIn_13 : decode cX4_takeIn 13 = .ok (.aload_n 3, 1) := by decide +kernel
theorem dX4_takeIn_14 : decode cX4_takeIn 14 = .ok (.getfield 58, 3) := by decide +kernel
theorem dX4_takeIn_17 : decode cX4_takeIn 17 = .ok (.astore_n 3, 1) := by decide +kernel
theorem dX4_takeIn_18 : decode cX4_takeIn 18 = .ok (.goto (-11), 3) := by decide +kernel
theorem dX4_takeIn_21 : decode cX4_takeIn 21 = .ok (.aload_n 2, 1) := by decide +kernel
theorem dX4_takeIn_22 : decode cX4_takeIn 22 = .ok (.ifnonnull 11, 3) := by decide +kernel
theorem dX4_takeIn_25 : decode cX4_takeIn 25 = .ok (.aload_n 0, 1) := by decide +kernel
theorem dX4_takeIn_26 : decode cX4_takeIn 26 = .ok (.aload_n 1, 1) := by decide +kernel
theorem dX4_takeIn_27 : decode cX4_takeIn 27 = .ok (.putfield 55, 3) := by decide +kernel
theorem dX4_takeIn_30 : decode cX4_takeIn 30 = .ok (.goto 8, 3) := by decide +kernel
theorem dX4_takeIn_33 : decode cX4_takeIn 33 = .ok (.aload_n 2, 1) := by decide +kernel
theorem dX4_takeIn_34 : decode cX4_takeIn 34 = .ok (.aload_n 1, 1) := by decide +kernel
theorem dX4_takeIn_35 : decode cX4_takeIn 35 = .ok (.putfield 58, 3) := by decide +kernel
theorem dX4_takeIn_38 : decode cX4_takeIn 38 = .ok (.aload_n 1, 1) := by decide +kernel
theorem dX4_takeIn_39 : decode cX4_takeIn 39 = .ok (.aconst_null, 1) := by decide +kernel
theorem dX4_takeIn_40 : decode cX4_takeIn 40 = .ok (.putfield 58, 3) := by decide +kernel
theorem dX4_takeIn_43 : decode cX4_takeIn 43 = .ok (.aload_n 1, 1) := by decide +kernel
theorem dX4_takeIn_44 : decode cX4_takeIn 44 = .ok (.aload_n 0, 1) := by decide +kernel
theorem dX4_takeIn_45 : decode cX4_takeIn 45 = .ok (.putfield 51, 3) := by decide +kernel
theorem dX4_takeIn_48 : decode cX4_takeIn 48 = .ok (.return_, 1) := by decide +kernel
theorem dX7_nodeOrNull_0 : decode cX7_nodeOrNull 0 = .ok (.iload_n 1, 1) := by decide +kernel
theorem dX7_nodeOrNull_1 : decode cX7_nodeOrNull 1 = .ok (.ifCond .lt 12, 3) := by decide +kernel
theorem dX7_nodeOrNull_4 : decode cX7_nodeOrNull 4 = .ok (.iload_n 1, 1) := by decide +kernel
theorem dX7_nodeOrNull_5 : decode cX7_nodeOrNull 5 = .ok (.aload_n 0, 1) := by decide +kernel
theorem dX7_nodeOrNull_6 : decode cX7_nodeOrNull 6 = .ok (.getfield 11, 3) := by decide +kernel
theorem dX7_nodeOrNull_9 : decode cX7_nodeOrNull 9 = .ok (.arraylength, 1) := by decide +kernel
theorem dX7_nodeOrNull_10 : decode cX7_nodeOrNull 10 = .ok (.if_icmp .lt 5, 3) := by decide +kernel
theorem dX7_nodeOrNull_13 : decode cX7_nodeOrNull 13 = .ok (.aconst_null, 1) := by decide +kernel
theorem dX7_nodeOrNull_14 : decode cX7_nodeOrNull 14 = .ok (.areturn, 1) := by decide +kernel
theorem dX7_nodeOrNull_15 : decode cX7_nodeOrNull 15 = .ok (.aload_n 0, 1) := by decide +kernel
theorem dX7_nodeOrNull_16 : decode cX7_nodeOrNull 16 = .ok (.getfield 11, 3) := by decide +kernel
theorem dX7_nodeOrNull_19 : decode cX7_nodeOrNull 19 = .ok (.iload_n 1, 1) := by decide +kernel
theorem dX7_nodeOrNull_20 : decode cX7_nodeOrNull 20 = .ok (.aaload, 1) := by decide +kernel
theorem dX7_nodeOrNull_21 : decode cX7_nodeOrNull 21 = .ok (.astore_n 2, 1) := by decide +kernel
theorem dX7_nodeOrNull_22 : decode cX7_nodeOrNull 22 = .ok (.aload_n 2, 1) := by decide +kernel
theorem dX7_nodeOrNull_23 : decode cX7_nodeOrNull 23 = .ok (.ifnull 10, 3) := by decide +kernel
theorem dX7_nodeOrNull_26 : decode cX7_nodeOrNull 26 = .ok (.aload_n 2, 1) := by decide +kernel
theorem dX7_nodeOrNull_27 : decode cX7_nodeOrNull 27 = .ok (.getfield 340, 3) := by decide +kernel
theorem dX7_nodeOrNull_30 : decode cX7_nodeOrNull 30 = .ok (.ifCond .eq 7, 3) := by decide +kernel
theorem dX7_nodeOrNull_33 : decode cX7_nodeOrNull 33 = .ok (.aconst_null, 1) := by decide +kernel
theorem dX7_nodeOrNull_34 : decode cX7_nodeOrNull 34 = .ok (.goto 4, 3) := by decide +kernel
theorem dX7_nodeOrNull_37 : decode cX7_nodeOrNull 37 = .ok (.aload_n 2, 1) := by decide +kernel
theorem dX7_nodeOrNull_38 : decode cX7_nodeOrNull 38 = .ok (.areturn, 1) := by decide +kernel
theorem dX7_found_0 : decode cX7_found 0 = .ok (.aload_n 0, 1) := by decide +kernel
theorem dX7_found_1 : decode cX7_found 1 = .ok (.iload_n 1, 1) := by decide +kernel
theorem dX7_found_2 : decode cX7_found 2 = .ok (.invokevirtual 330, 3) := by decide +kernel
theorem dX7_found_5 : decode cX7_found 5 = .ok (.astore_n 2, 1) := by decide +kernel
theorem dX7_found_6 : decode cX7_found 6 = .ok (.aload_n 2, 1) := by decide +kernel
theorem dX7_found_7 : decode cX7_found 7 = .ok (.ifnonnull 14, 3) := by decide +kernel
theorem dX7_found_10 : decode cX7_found 10 = .ok (.new 290, 3) := by decide +kernel
theorem dX7_found_13 : decode cX7_found 13 = .ok (.dup, 1) := by decide +kernel
theorem dX7_found_14 : decode cX7_found 14 = .ok (.ldc_w 343, 3) := by decide +kernel
theorem dX7_found_17 : decode cX7_found 17 = .ok (.invokespecial 294, 3) := by decide +kernel
theorem dX7_found_20 : decode cX7_found 20 = .ok (.athrow, 1) := by decide +kernel
theorem dX7_found_21 : decode cX7_found 21 = .ok (.aload_n 2, 1) := by decide +kernel
theorem dX7_found_22 : decode cX7_found 22 = .ok (.areturn, 1) := by decide +kernel
theorem dX7_isFrom_0 : decode cX7_isFrom 0 = .ok (.iload_n 0, 1) := by decide +kernel
theorem dX7_isFrom_1 : decode cX7_isFrom 1 = .ok (.iload_n 1, 1) := by decide +kernel
theorem dX7_isFrom_2 : decode cX7_isFrom 2 = .ok (.if_icmp .lt 12, 3) := by decide +kernel
theorem dX7_isFrom_5 : decode cX7_isFrom 5 = .ok (.iload_n 0, 1) := by decide +kernel
theorem dX7_isFrom_6 : decode cX7_isFrom 6 = .ok (.iload_n 2, 1) := by decide +kernel
theorem dX7_isFrom_7 : decode cX7_isFrom 7 = .ok (.if_icmp .gt 7, 3) := by decide +kernel
theorem dX7_isFrom_10 : decode cX7_isFrom 10 = .ok (.iconst 1, 1) := by decide +kernel
theorem dX7_isFrom_11 : decode cX7_isFrom 11 = .ok (.goto 4, 3) := by decide +kernel
theorem dX7_isFrom_14 : decode cX7_isFrom 14 = .ok (.iconst 0, 1) := by decide +kernel
theorem dX7_isFrom_15 : decode cX7_isFrom 15 = .ok (.ireturn, 1) := by decide +kernel
theorem dX7_layHanging_0 : decode cX7_layHanging 0 = .ok (.iload_n 2, 1) := by decide +kernel
theorem dX7_layHanging_1 : decode cX7_layHanging 1 = .ok (.istore 5, 2) := by decide +kernel
theorem dX7_layHanging_3 : decode cX7_layHanging 3 = .ok (.iload 5, 2) := by decide +kernel
theorem dX7_layHanging_5 : decode cX7_layHanging 5 = .ok (.iload_n 3, 1) := by decide +kernel
theorem dX7_layHanging_6 : decode cX7_layHanging 6 = .ok (.if_icmp .gt 48, 3) := by decide +kernel
theorem dX7_layHanging_9 : decode cX7_layHanging 9 = .ok (.aload_n 1, 1) := by decide +kernel
theorem dX7_layHanging_10 : decode cX7_layHanging 10 = .ok (.getfield 370, 3) := by decide +kernel
theorem dX7_layHanging_13 : decode cX7_layHanging 13 = .ok (.astore 6, 2) := by decide +kernel
theorem dX7_layHanging_15 : decode cX7_layHanging 15 = .ok (.aload 6, 2) := by decide +kernel
theorem dX7_layHanging_17 : decode cX7_layHanging 17 = .ok (.ifnull 31, 3) := by decide +kernel
theorem dX7_layHanging_20 : decode cX7_layHanging 20 = .ok (.aload 6, 2) := by decide +kernel
theorem dX7_layHanging_22 : decode cX7_layHanging 22 = .ok (.getfield 153, 3) := by decide +kernel
theorem dX7_layHanging_25 : decode cX7_layHanging 25 = .ok (.iload 5, 2) := by decide +kernel
theorem dX7_layHanging_27 : decode cX7_layHanging 27 = .ok (.if_icmp .ne 11, 3) := by decide +kernel
theorem dX7_layHanging_30 : decode cX7_layHanging 30 = .ok (.aload_n 0, 1) := by decide +kernel
theorem dX7_layHanging_31 : decode cX7_layHanging 31 = .ok (.aload 6, 2) := by decide +kernel
theorem dX7_layHanging_33 : decode cX7_layHanging 33 = .ok (.iload 4, 2) := by decide +kernel
theorem dX7_layHanging_35 : decode cX7_layHanging 35 = .ok (.invokevirtual 362, 3) := by decide +kernel
theorem dX7_layHanging_38 : decode cX7_layHanging 38 = .ok (.aload 6, 2) := by decide +kernel
theorem dX7_layHanging_40 : decode cX7_layHanging 40 = .ok (.getfield 373, 3) := by decide +kernel
theorem dX7_layHanging_43 : decode cX7_layHanging 43 = .ok (.astore 6, 2) := by decide +kernel
theorem dX7_layHanging_45 : decode cX7_layHanging 45 = .ok (.goto (-30), 3) := by decide +kernel
theorem dX7_layHanging_48 : decode cX7_layHanging 48 = .ok (.iinc 5 1, 3) := by decide +kernel
theorem dX7_layHanging_51 : decode cX7_layHanging 51 = .ok (.goto (-48), 3) := by decide +kernel
theorem dX7_layHanging_54 : decode cX7_layHanging 54 = .ok (.return_, 1) := by decide +kernel
theorem dX7_lay_0 : decode cX7_lay 0 = .ok (.iload_n 2, 1) := by decide +kernel
theorem dX7_lay_1 : decode cX7_lay 1 = .ok (.iconst 4, 1) := by decide +kernel
theorem dX7_lay_2 : decode cX7_lay 2 = .ok (.if_icmp .le 4, 3) := by decide +kernel
theorem dX7_lay_5 : decode cX7_lay 5 = .ok (.return_, 1) := by decide +kernel
theorem dX7_lay_6 : decode cX7_lay 6 = .ok (.aload_n 0, 1) := by decide +kernel
theorem dX7_lay_7 : decode cX7_lay 7 = .ok (.aload_n 1, 1) := by decide +kernel
theorem dX7_lay_8 : decode cX7_lay 8 = .ok (.bipush (-9), 2) := by decide +kernel
theorem dX7_lay_10 : decode cX7_lay 10 = .ok (.iconst (-1), 1) := by decide +kernel
theorem dX7_lay_11 : decode cX7_lay 11 = .ok (.iload_n 2, 1) := by decide +kernel
theorem dX7_lay_12 : decode cX7_lay 12 = .ok (.iconst 1, 1) := by decide +kernel
theorem dX7_lay_13 : decode cX7_lay 13 = .ok (.iadd, 1) := by decide +kernel
theorem dX7_lay_14 : decode cX7_lay 14 = .ok (.invokevirtual 366, 3) := by decide +kernel
theorem dX7_lay_17 : decode cX7_lay 17 = .ok (.aload_n 1, 1) := by decide +kernel
theorem dX7_lay_18 : decode cX7_lay 18 = .ok (.aload_n 0, 1) := by decide +kernel
theorem dX7_lay_19 : decode cX7_lay 19 = .ok (.getfield 46, 3) := by decide +kernel
theorem dX7_lay_22 : decode cX7_lay 22 = .ok (.putfield 98, 3) := by decide +kernel
theorem dX7_lay_25 : decode cX7_lay 25 = .ok (.aload_n 1, 1) := by decide +kernel
theorem dX7_lay_26 : decode cX7_lay 26 = .ok (.aload_n 0, 1) := by decide +kernel
theorem dX7_lay_27 : decode cX7_lay 27 = .ok (.getfield 49, 3) := by decide +kernel
theorem dX7_lay_30 : decode cX7_lay 30 = .ok (.putfield 287, 3) := by decide +kernel
theorem dX7_lay_33 : decode cX7_lay 33 = .ok (.aload_n 0, 1) := by decide +kernel
theorem dX7_lay_34 : decode cX7_lay 34 = .ok (.aload_n 1, 1) := by decide +kernel
theorem dX7_lay_35 : decode cX7_lay 35 = .ok (.putfield 46, 3) := by decide +kernel
theorem dX7_lay_38 : decode cX7_lay 38 = .ok (.aload_n 0, 1) := by decide +kernel
theorem dX7_lay_39 : decode cX7_lay 39 = .ok (.dup, 1) := by decide +kernel
theorem dX7_lay_40 : decode cX7_lay 40 = .ok (.getfield 49, 3) := by decide +kernel
theorem dX7_lay_43 : decode cX7_lay 43 = .ok (.iconst 1, 1) := by decide +kernel
theorem dX7_lay_44 : decode cX7_lay 44 = .ok (.iadd, 1) := by decide +kernel
theorem dX7_lay_45 : decode cX7_lay 45 = .ok (.putfield 49, 3) := by decide +kernel
theorem dX7_lay_48 : decode cX7_lay 48 = .ok (.aload_n 0, 1) := by decide +kernel
theorem dX7_lay_49 : decode cX7_lay 49 = .ok (.aload_n 1, 1) := by decide +kernel
theorem dX7_lay_50 : decode cX7_lay 50 = .ok (.iconst 0, 1) := by decide +kernel
theorem dX7_lay_51 : decode cX7_lay 51 = .ok (.bipush 9, 2) := by decide +kernel
theorem dX7_lay_53 : decode cX7_lay 53 = .ok (.iload_n 2, 1) := by decide +kernel
theorem dX7_lay_54 : decode cX7_lay 54 = .ok (.iconst 1, 1) := by decide +kernel
theorem dX7_lay_55 : decode cX7_lay 55 = .ok (.iadd, 1) := by decide +kernel
theorem dX7_lay_56 : decode cX7_lay 56 = .ok (.invokevirtual 366, 3) := by decide +kernel
theorem dX7_lay_59 : decode cX7_lay 59 = .ok (.return_, 1) := by decide +kernel
theorem dX7_layOrder_0 : decode cX7_layOrder 0 = .ok (.aload_n 0, 1) := by decide +kernel
theorem dX7_layOrder_1 : decode cX7_layOrder 1 = .ok (.aconst_null, 1) := by decide +kernel
theorem dX7_layOrder_2 : decode cX7_layOrder 2 = .ok (.putfield 46, 3) := by decide +kernel
theorem dX7_layOrder_5 : decode cX7_layOrder 5 = .ok (.aload_n 0, 1) := by decide +kernel
theorem dX7_layOrder_6 : decode cX7_layOrder 6 = .ok (.iconst 0, 1) := by decide +kernel
theorem dX7_layOrder_7 : decode cX7_layOrder 7 = .ok (.putfield 49, 3) := by decide +kernel
theorem dX7_layOrder_10 : decode cX7_layOrder 10 = .ok (.aload_n 0, 1) := by decide +kernel
theorem dX7_layOrder_11 : decode cX7_layOrder 11 = .ok (.aload_n 0, 1) := by decide +kernel
theorem dX7_layOrder_12 : decode cX7_layOrder 12 = .ok (.getfield 24, 3) := by decide +kernel
theorem dX7_layOrder_15 : decode cX7_layOrder 15 = .ok (.iconst 0, 1) := by decide +kernel
theorem dX7_layOrder_16 : decode cX7_layOrder 16 = .ok (.invokevirtual 362, 3) := by decide +kernel
theorem dX7_layOrder_19 : decode cX7_layOrder 19 = .ok (.return_, 1) := by decide +kernel
theorem dX7_add_0 : decode cX7_add 0 = .ok (.aload_n 0, 1) := by decide +kernel
theorem dX7_add_1 : decode cX7_add 1 = .ok (.iload_n 1, 1) := by decide +kernel
theorem dX7_add_2 : decode cX7_add 2 = .ok (.invokevirtual 52, 3) := by decide +kernel
theorem dX7_add_5 : decode cX7_add 5 = .ok (.astore 5, 2) := by decide +kernel
theorem dX7_add_7 : decode cX7_add 7 = .ok (.iload_n 2, 1) := by decide +kernel
theorem dX7_add_8 : decode cX7_add 8 = .ok (.iconst 0, 1) := by decide +kernel
theorem dX7_add_9 : decode cX7_add 9 = .ok (.iconst 2, 1) := by decide +kernel
theorem dX7_add_10 : decode cX7_add 10 = .ok (.invokestatic 56, 3) := by decide +kernel
theorem dX7_add_13 : decode cX7_add 13 = .ok (.ifCond .ne 13, 3) := by decide +kernel
theorem dX7_add_16 : decode cX7_add 16 = .ok (.new 60, 3) := by decide +kernel
theorem dX7_add_19 : decode cX7_add 19 = .ok (.dup, 1) := by decide +kernel
theorem dX7_add_20 : decode cX7_add 20 = .ok (.ldc 62, 2) := by decide +kernel
theorem dX7_add_22 : decode cX7_add 22 = .ok (.invokespecial 64, 3) := by decide +kernel
theorem dX7_add_25 : decode cX7_add 25 = .ok (.athrow, 1) := by decide +kernel
theorem dX7_add_26 : decode cX7_add 26 = .ok (.iload_n 2, 1) := by decide +kernel
theorem dX7_add_27 : decode cX7_add 27 = .ok (.ifCond .eq 36, 3) := by decide +kernel
theorem dX7_add_30 : decode cX7_add 30 = .ok (.iload_n 3, 1) := by decide +kernel
theorem dX7_add_31 : decode cX7_add 31 = .ok (.iconst 1, 1) := by decide +kernel
theorem dX7_add_32 : decode cX7_add 32 = .ok (.sipush 200, 3) := by decide +kernel
theorem dX7_add_35 : decode cX7_add 35 = .ok (.invokestatic 56, 3) := by decide +kernel
theorem dX7_add_38 : decode cX7_add 38 = .ok (.ifCond .eq 15, 3) := by decide +kernel
theorem dX7_add_41 : decode cX7_add 41 = .ok (.iload 4, 2) := by decide +kernel
theorem dX7_add_43 : decode cX7_add 43 = .ok (.iconst 1, 1) := by decide +kernel
theorem dX7_add_44 : decode cX7_add 44 = .ok (.sipush 200, 3) := by decide +kernel
theorem dX7_add_47 : decode cX7_add 47 = .ok (.invokestatic 56, 3) := by decide +kernel
theorem dX7_add_50 : decode cX7_add 50 = .ok (.ifCond .ne 13, 3) := by decide +kernel
theorem dX7_add_53 : decode cX7_add 53 = .ok (.new 60, 3) := by decide +kernel
theorem dX7_add_56 : decode cX7_add 56 = .ok (.dup, 1) := by decide +kernel
theorem dX7_add_57 : decode cX7_add 57 = .ok (.ldc 67, 2) := by decide +kernel
theorem dX7_add_59 : decode cX7_add 59 = .ok (.invokespecial 64, 3) := by decide +kernel
theorem dX7_add_62 : decode cX7_add 62 = .ok (.athrow, 1) := by decide +kernel
theorem dX7_add_63 : decode cX7_add 63 = .ok (.aload_n 0, 1) := by decide +kernel
theorem dX7_add_64 : decode cX7_add 64 = .ok (.getfield 42, 3) := by decide +kernel
theorem dX7_add_67 : decode cX7_add 67 = .ok (.ifCond .lt 24, 3) := by decide +kernel
theorem dX7_add_70 : decode cX7_add 70 = .ok (.aload_n 0, 1) := by decide +kernel
theorem dX7_add_71 : decode cX7_add 71 = .ok (.getfield 42, 3) := by decide +kernel
theorem dX7_add_74 : decode cX7_add 74 = .ok (.aload_n 0, 1) := by decide +kernel
theorem dX7_add_75 : decode cX7_add 75 = .ok (.getfield 11, 3) := by decide +kernel
theorem dX7_add_78 : decode cX7_add 78 = .ok (.arraylength, 1) := by decide +kernel
theorem dX7_add_79 : decode cX7_add 79 = .ok (.if_icmp .ge 12, 3) := by decide +kernel
theorem dX7_add_82 : decode cX7_add 82 = .ok (.aload 5, 2) := by decide +kernel
theorem dX7_add_84 : decode cX7_add 84 = .ok (.invokevirtual 69, 3) := by decide +kernel
theorem dX7_add_87 : decode cX7_add 87 = .ok (.iconst 4, 1) := by decide +kernel
theorem dX7_add_88 : decode cX7_add 88 = .ok (.if_icmp .lt 13, 3) := by decide +kernel
theorem dX7_add_91 : decode cX7_add 91 = .ok (.new 73, 3) := by decide +kernel
theorem dX7_add_94 : decode cX7_add 94 = .ok (.dup, 1) := by decide +kernel
theorem dX7_add_95 : decode cX7_add 95 = .ok (.ldc 75, 2) := by decide +kernel
theorem dX7_add_97 : decode cX7_add 97 = .ok (.invokespecial 77, 3) := by decide +kernel
theorem dX7_add_100 : decode cX7_add 100 = .ok (.athrow, 1) := by decide +kernel
theorem dX7_add_101 : decode cX7_add 101 = .ok (.new 9, 3) := by decide +kernel
theorem dX7_add_104 : decode cX7_add 104 = .ok (.dup, 1) := by decide +kernel
theorem dX7_add_105 : decode cX7_add 105 = .ok (.aload_n 0, 1) := by decide +kernel
theorem dX7_add_106 : decode cX7_add 106 = .ok (.getfield 42, 3) := by decide +kernel
theorem dX7_add_109 : decode cX7_add 109 = .ok (.iload_n 2, 1) := by decide +kernel
theorem dX7_add_110 : decode cX7_add 110 = .ok (.iload_n 3, 1) := by decide +kernel
theorem dX7_add_111 : decode cX7_add 111 = .ok (.iload 4, 2) := by decide +kernel
theorem dX7_add_113 : decode cX7_add 113 = .ok (.invokespecial 21, 3) := by decide +kernel
theorem dX7_add_116 : decode cX7_add 116 = .ok (.astore 6, 2) := by decide +kernel
theorem dX7_add_118 : decode cX7_add 118 = .ok (.aload_n 0, 1) := by decide +kernel
theorem dX7_add_119 : decode cX7_add 119 = .ok (.getfield 11, 3) := by decide +kernel
theorem dX7_add_122 : decode cX7_add 122 = .ok (.aload_n 0, 1) := by decide +kernel
theorem dX7_add_123 : decode cX7_add 123 = .ok (.getfield 42, 3) := by decide +kernel
theorem dX7_add_126 : decode cX7_add 126 = .ok (.aload 6, 2) := by decide +kernel
theorem dX7_add_128 : decode cX7_add 128 = .ok (.aastore, 1) := by decide +kernel
theorem dX7_add_129 : decode cX7_add 129 = .ok (.aload_n 0, 1) := by decide +kernel
theorem dX7_add_130 : decode cX7_add 130 = .ok (.dup, 1) := by decide +kernel
theorem dX7_add_131 : decode cX7_add 131 = .ok (.getfield 42, 3) := by decide +kernel
theorem dX7_add_134 : decode cX7_add 134 = .ok (.iconst 1, 1) := by decide +kernel
theorem dX7_add_135 : decode cX7_add 135 = .ok (.iadd, 1) := by decide +kernel
theorem dX7_add_136 : decode cX7_add 136 = .ok (.putfield 42, 3) := by decide +kernel
theorem dX7_add_139 : decode cX7_add 139 = .ok (.aload 5, 2) := by decide +kernel
theorem dX7_add_141 : decode cX7_add 141 = .ok (.aload 6, 2) := by decide +kernel
theorem dX7_add_143 : decode cX7_add 143 = .ok (.invokevirtual 78, 3) := by decide +kernel
theorem dX7_add_146 : decode cX7_add 146 = .ok (.aload_n 0, 1) := by decide +kernel
theorem dX7_add_147 : decode cX7_add 147 = .ok (.invokevirtual 82, 3) := by decide +kernel
theorem dX7_add_150 : decode cX7_add 150 = .ok (.aload 6, 2) := by decide +kernel
theorem dX7_add_152 : decode cX7_add 152 = .ok (.getfield 85, 3) := by decide +kernel
theorem dX7_add_155 : decode cX7_add 155 = .ok (.ireturn, 1) := by decide +kernel
theorem dL_add_0 : decode cL_add 0 = .ok (.aload 5, 2) := by decide +kernel
theorem dL_add_2 : decode cL_add 2 = .ok (.iconst 0, 1) := by decide +kernel
theorem dL_add_3 : decode cL_add 3 = .ok (.aload_n 0, 1) := by decide +kernel
theorem dL_add_4 : decode cL_add 4 = .ok (.iload_n 1, 1) := by decide +kernel
theorem dL_add_5 : decode cL_add 5 = .ok (.iload_n 2, 1) := by decide +kernel
theorem dL_add_6 : decode cL_add 6 = .ok (.iload_n 3, 1) := by decide +kernel
theorem dL_add_7 : decode cL_add 7 = .ok (.iload 4, 2) := by decide +kernel
theorem dL_add_9 : decode cL_add 9 = .ok (.invokevirtual 7, 3) := by decide +kernel
theorem dL_add_12 : decode cL_add 12 = .ok (.i2l, 1) := by decide +kernel
theorem dL_add_13 : decode cL_add 13 = .ok (.lastore, 1) := by decide +kernel
theorem dL_add_14 : decode cL_add 14 = .ok (.goto 15, 3) := by decide +kernel
theorem dL_add_17 : decode cL_add 17 = .ok (.astore 6, 2) := by decide +kernel
theorem dL_add_19 : decode cL_add 19 = .ok (.iconst 1, 1) := by decide +kernel
theorem dL_add_20 : decode cL_add 20 = .ok (.ireturn, 1) := by decide +kernel
theorem dL_add_21 : decode cL_add 21 = .ok (.astore 6, 2) := by decide +kernel
theorem dL_add_23 : decode cL_add 23 = .ok (.iconst 2, 1) := by decide +kernel
theorem dL_add_24 : decode cL_add 24 = .ok (.ireturn, 1) := by decide +kernel
theorem dL_add_25 : decode cL_add 25 = .ok (.astore 6, 2) := by decide +kernel
theorem dL_add_27 : decode cL_add 27 = .ok (.iconst 3, 1) := by decide +kernel
theorem dL_add_28 : decode cL_add 28 = .ok (.ireturn, 1) := by decide +kernel
theorem dL_add_29 : decode cL_add 29 = .ok (.iconst 0, 1) := by decide +kernel
theorem dL_add_30 : decode cL_add 30 = .ok (.ireturn, 1) := by decide +kernel
theorem dX7_commonDivisor_0 : decode cX7_commonDivisor 0 = .ok (.lload_n 0, 1) := by decide +kernel
theorem dX7_commonDivisor_1 : decode cX7_commonDivisor 1 = .ok (.lconst 0, 1) := by decide +kernel
theorem dX7_commonDivisor_2 : decode cX7_commonDivisor 2 = .ok (.lcmp, 1) := by decide +kernel
theorem dX7_commonDivisor_3 : decode cX7_commonDivisor 3 = .ok (.ifCond .ge 8, 3) := by decide +kernel
theorem dX7_commonDivisor_6 : decode cX7_commonDivisor 6 = .ok (.lload_n 0, 1) := by decide +kernel
theorem dX7_commonDivisor_7 : decode cX7_commonDivisor 7 = .ok (.lneg, 1) := by decide +kernel
theorem dX7_commonDivisor_8 : decode cX7_commonDivisor 8 = .ok (.goto 4, 3) := by decide +kernel
theorem dX7_commonDivisor_11 : decode cX7_commonDivisor 11 = .ok (.lload_n 0, 1) := by decide +kernel
theorem dX7_commonDivisor_12 : decode cX7_commonDivisor 12 = .ok (.lstore 4, 2) := by decide +kernel
theorem dX7_commonDivisor_14 : decode cX7_commonDivisor 14 = .ok (.lload_n 2, 1) := by decide +kernel
theorem dX7_commonDivisor_15 : decode cX7_commonDivisor 15 = .ok (.lconst 0, 1) := by decide +kernel
theorem dX7_commonDivisor_16 : decode cX7_commonDivisor 16 = .ok (.lcmp, 1) := by decide +kernel
theorem dX7_commonDivisor_17 : decode cX7_commonDivisor 17 = .ok (.ifCond .ge 8, 3) := by decide +kernel
theorem dX7_commonDivisor_20 : decode cX7_commonDivisor 20 = .ok (.lload_n 2, 1) := by decide +kernel
theorem dX7_commonDivisor_21 : decode cX7_commonDivisor 21 = .ok (.lneg, 1) := by decide +kernel
theorem dX7_commonDivisor_22 : decode cX7_commonDivisor 22 = .ok (.goto 4, 3) := by decide +kernel
theorem dX7_commonDivisor_25 : decode cX7_commonDivisor 25 = .ok (.lload_n 2, 1) := by decide +kernel
theorem dX7_commonDivisor_26 : decode cX7_commonDivisor 26 = .ok (.lstore 6, 2) := by decide +kernel
theorem dX7_commonDivisor_28 : decode cX7_commonDivisor 28 = .ok (.iconst 0, 1) := by decide +kernel
theorem dX7_commonDivisor_29 : decode cX7_commonDivisor 29 = .ok (.istore 8, 2) := by decide +kernel
theorem dX7_commonDivisor_31 : decode cX7_commonDivisor 31 = .ok (.iload 8, 2) := by decide +kernel
theorem dX7_commonDivisor_33 : decode cX7_commonDivisor 33 = .ok (.sipush 200, 3) := by decide +kernel
theorem dX7_commonDivisor_36 : decode cX7_commonDivisor 36 = .ok (.if_icmp .ge 31, 3) := by decide +kernel
theorem dX7_commonDivisor_39 : decode cX7_commonDivisor 39 = .ok (.lload 6, 2) := by decide +kernel
theorem dX7_commonDivisor_41 : decode cX7_commonDivisor 41 = .ok (.lconst 0, 1) := by decide +kernel
theorem dX7_commonDivisor_42 : decode cX7_commonDivisor 42 = .ok (.lcmp, 1) := by decide +kernel
theorem dX7_commonDivisor_43 : decode cX7_commonDivisor 43 = .ok (.ifCond .eq 24, 3) := by decide +kernel
theorem dX7_commonDivisor_46 : decode cX7_commonDivisor 46 = .ok (.lload 4, 2) := by decide +kernel
theorem dX7_commonDivisor_48 : decode cX7_commonDivisor 48 = .ok (.lload 6, 2) := by decide +kernel
theorem dX7_commonDivisor_50 : decode cX7_commonDivisor 50 = .ok (.lrem, 1) := by decide +kernel
theorem dX7_commonDivisor_51 : decode cX7_commonDivisor 51 = .ok (.lstore 9, 2) := by decide +kernel
theorem dX7_commonDivisor_53 : decode cX7_commonDivisor 53 = .ok (.lload 6, 2) := by decide +kernel
theorem dX7_commonDivisor_55 : decode cX7_commonDivisor 55 = .ok (.lstore 4, 2) := by decide +kernel
theorem dX7_commonDivisor_57 : decode cX7_commonDivisor 57 = .ok (.lload 9, 2) := by decide +kernel
theorem dX7_commonDivisor_59 : decode cX7_commonDivisor 59 = .ok (.lstore 6, 2) := by decide +kernel
theorem dX7_commonDivisor_61 : decode cX7_commonDivisor 61 = .ok (.iinc 8 1, 3) := by decide +kernel
theorem dX7_commonDivisor_64 : decode cX7_commonDivisor 64 = .ok (.goto (-33), 3) := by decide +kernel
theorem dX7_commonDivisor_67 : decode cX7_commonDivisor 67 = .ok (.lload 4, 2) := by decide +kernel
theorem dX7_commonDivisor_69 : decode cX7_commonDivisor 69 = .ok (.lconst 0, 1) := by decide +kernel
theorem dX7_commonDivisor_70 : decode cX7_commonDivisor 70 = .ok (.lcmp, 1) := by decide +kernel
theorem dX7_commonDivisor_71 : decode cX7_commonDivisor 71 = .ok (.ifCond .le 8, 3) := by decide +kernel
theorem dX7_commonDivisor_74 : decode cX7_commonDivisor 74 = .ok (.lload 4, 2) := by decide +kernel
theorem dX7_commonDivisor_76 : decode cX7_commonDivisor 76 = .ok (.goto 4, 3) := by decide +kernel
theorem dX7_commonDivisor_79 : decode cX7_commonDivisor 79 = .ok (.lconst 1, 1) := by decide +kernel
theorem dX7_commonDivisor_80 : decode cX7_commonDivisor 80 = .ok (.lreturn, 1) := by decide +kernel
theorem dX5_part_0 : decode cX5_part 0 = .ok (.iload_n 1, 1) := by decide +kernel
theorem dX5_part_1 : decode cX5_part 1 = .ok (.iconst 2, 1) := by decide +kernel
theorem dX5_part_2 : decode cX5_part 2 = .ok (.if_icmp .ge 10, 3) := by decide +kernel
theorem dX5_part_5 : decode cX5_part 5 = .ok (.aload_n 0, 1) := by decide +kernel
theorem dX5_part_6 : decode cX5_part 6 = .ok (.getfield 15, 3) := by decide +kernel
theorem dX5_part_9 : decode cX5_part 9 = .ok (.goto 7, 3) := by decide +kernel
theorem dX5_part_12 : decode cX5_part 12 = .ok (.aload_n 0, 1) := by decide +kernel
theorem dX5_part_13 : decode cX5_part 13 = .ok (.getfield 18, 3) := by decide +kernel
theorem dX5_part_16 : decode cX5_part 16 = .ok (.lstore_n 2, 1) := by decide +kernel
theorem dX5_part_17 : decode cX5_part 17 = .ok (.lload_n 2, 1) := by decide +kernel
theorem dX5_part_18 : decode cX5_part 18 = .ok (.aload_n 0, 1) := by decide +kernel
theorem dX5_part_19 : decode cX5_part 19 = .ok (.getfield 9, 3) := by decide +kernel
theorem dX5_part_22 : decode cX5_part 22 = .ok (.invokestatic 64, 3) := by decide +kernel
theorem dX5_part_25 : decode cX5_part 25 = .ok (.lstore 4, 2) := by decide +kernel
theorem dX5_part_27 : decode cX5_part 27 = .ok (.iload_n 1, 1) := by decide +kernel
theorem dX5_part_28 : decode cX5_part 28 = .ok (.iconst 2, 1) := by decide +kernel
theorem dX5_part_29 : decode cX5_part 29 = .ok (.irem, 1) := by decide +kernel
theorem dX5_part_30 : decode cX5_part 30 = .ok (.ifCond .ne 7, 3) := by decide +kernel
theorem dX5_part_33 : decode cX5_part 33 = .ok (.lload_n 2, 1) := by decide +kernel
theorem dX5_part_34 : decode cX5_part 34 = .ok (.goto 7, 3) := by decide +kernel
theorem dX5_part_37 : decode cX5_part 37 = .ok (.aload_n 0, 1) := by decide +kernel
theorem dX5_part_38 : decode cX5_part 38 = .ok (.getfield 9, 3) := by decide +kernel
theorem dX5_part_41 : decode cX5_part 41 = .ok (.lload 4, 2) := by decide +kernel
theorem dX5_part_43 : decode cX5_part 43 = .ok (.ldiv, 1) := by decide +kernel
theorem dX5_part_44 : decode cX5_part 44 = .ok (.lreturn, 1) := by decide +kernel
theorem dX7_checkPoint_0 : decode cX7_checkPoint 0 = .ok (.iload_n 0, 1) := by decide +kernel
theorem dX7_checkPoint_1 : decode cX7_checkPoint 1 = .ok (.sipush (-1000), 3) := by decide +kernel
theorem dX7_checkPoint_4 : decode cX7_checkPoint 4 = .ok (.sipush 1000, 3) := by decide +kernel
theorem dX7_checkPoint_7 : decode cX7_checkPoint 7 = .ok (.invokestatic 56, 3) := by decide +kernel
theorem dX7_checkPoint_10 : decode cX7_checkPoint 10 = .ok (.ifCond .eq 16, 3) := by decide +kernel
theorem dX7_checkPoint_13 : decode cX7_checkPoint 13 = .ok (.iload_n 1, 1) := by decide +kernel
theorem dX7_checkPoint_14 : decode cX7_checkPoint 14 = .ok (.sipush (-1000), 3) := by decide +kernel
theorem dX7_checkPoint_17 : decode cX7_checkPoint 17 = .ok (.sipush 1000, 3) := by decide +kernel
theorem dX7_checkPoint_20 : decode cX7_checkPoint 20 = .ok (.invokestatic 56, 3) := by decide +kernel
theorem dX7_checkPoint_23 : decode cX7_checkPoint 23 = .ok (.ifCond .ne 14, 3) := by decide +kernel
theorem dX7_checkPoint_26 : decode cX7_checkPoint 26 = .ok (.new 60, 3) := by decide +kernel
theorem dX7_checkPoint_29 : decode cX7_checkPoint 29 = .ok (.dup, 1) := by decide +kernel
theorem dX7_checkPoint_30 : decode cX7_checkPoint 30 = .ok (.ldc_w 351, 3) := by decide +kernel
theorem dX7_checkPoint_33 : decode cX7_checkPoint 33 = .ok (.invokespecial 64, 3) := by decide +kernel
theorem dX7_checkPoint_36 : decode cX7_checkPoint 36 = .ok (.athrow, 1) := by decide +kernel
theorem dX7_checkPoint_37 : decode cX7_checkPoint 37 = .ok (.iload_n 2, 1) := by decide +kernel
theorem dX7_checkPoint_38 : decode cX7_checkPoint 38 = .ok (.iconst 0, 1) := by decide +kernel
theorem dX7_checkPoint_39 : decode cX7_checkPoint 39 = .ok (.iconst 3, 1) := by decide +kernel
theorem dX7_checkPoint_40 : decode cX7_checkPoint 40 = .ok (.invokestatic 56, 3) := by decide +kernel
theorem dX7_checkPoint_43 : decode cX7_checkPoint 43 = .ok (.ifCond .ne 14, 3) := by decide +kernel
theorem dX7_checkPoint_46 : decode cX7_checkPoint 46 = .ok (.new 60, 3) := by decide +kernel
theorem dX7_checkPoint_49 : decode cX7_checkPoint 49 = .ok (.dup, 1) := by decide +kernel
theorem dX7_checkPoint_50 : decode cX7_checkPoint 50 = .ok (.ldc_w 353, 3) := by decide +kernel
theorem dX7_checkPoint_53 : decode cX7_checkPoint 53 = .ok (.invokespecial 64, 3) := by decide +kernel
theorem dX7_checkPoint_56 : decode cX7_checkPoint 56 = .ok (.athrow, 1) := by decide +kernel
theorem dX7_checkPoint_57 : decode cX7_checkPoint 57 = .ok (.return_, 1) := by decide +kernel
theorem dX5_turnQuarters_0 : decode cX5_turnQuarters 0 = .ok (.iconst 0, 1) := by decide +kernel
theorem dX5_turnQuarters_1 : decode cX5_turnQuarters 1 = .ok (.istore_n 2, 1) := by decide +kernel
theorem dX5_turnQuarters_2 : decode cX5_turnQuarters 2 = .ok (.iload_n 2, 1) := by decide +kernel
theorem dX5_turnQuarters_3 : decode cX5_turnQuarters 3 = .ok (.iload_n 1, 1) := by decide +kernel
theorem dX5_turnQuarters_4 : decode cX5_turnQuarters 4 = .ok (.if_icmp .ge 28, 3) := by decide +kernel
theorem dX5_turnQuarters_7 : decode cX5_turnQuarters 7 = .ok (.aload_n 0, 1) := by decide +kernel
theorem dX5_turnQuarters_8 : decode cX5_turnQuarters 8 = .ok (.getfield 15, 3) := by decide +kernel
theorem dX5_turnQuarters_11 : decode cX5_turnQuarters 11 = .ok (.lstore_n 3, 1) := by decide +kernel
theorem dX5_turnQuarters_12 : decode cX5_turnQuarters 12 = .ok (.aload_n 0, 1) := by decide +kernel
theorem dX5_turnQuarters_13 : decode cX5_turnQuarters 13 = .ok (.aload_n 0, 1) := by decide +kernel
theorem dX5_turnQuarters_14 : decode cX5_turnQuarters 14 = .ok (.getfield 18, 3) := by decide +kernel
theorem dX5_turnQuarters_17 : decode cX5_turnQuarters 17 = .ok (.lneg, 1) := by decide +kernel
theorem dX5_turnQuarters_18 : decode cX5_turnQuarters 18 = .ok (.putfield 15, 3) := by decide +kernel
theorem dX5_turnQuarters_21 : decode cX5_turnQuarters 21 = .ok (.aload_n 0, 1) := by decide +kernel
theorem dX5_turnQuarters_22 : decode cX5_turnQuarters 22 = .ok (.lload_n 3, 1) := by decide +kernel
theorem dX5_turnQuarters_23 : decode cX5_turnQuarters 23 = .ok (.putfield 18, 3) := by decide +kernel
theorem dX5_turnQuarters_26 : decode cX5_turnQuarters 26 = .ok (.iinc 2 1, 3) := by decide +kernel
theorem dX5_turnQuarters_29 : decode cX5_turnQuarters 29 = .ok (.goto (-27), 3) := by decide +kernel
theorem dX5_turnQuarters_32 : decode cX5_turnQuarters 32 = .ok (.return_, 1) := by decide +kernel
theorem dX6_countedTime_0 : decode cX6_countedTime 0 = .ok (.iload_n 3, 1) := by decide +kernel
theorem dX6_countedTime_1 : decode cX6_countedTime 1 = .ok (.iload_n 2, 1) := by decide +kernel
theorem dX6_countedTime_2 : decode cX6_countedTime 2 = .ok (.isub, 1) := by decide +kernel
theorem dX6_countedTime_3 : decode cX6_countedTime 3 = .ok (.istore 4, 2) := by decide +kernel
theorem dX6_countedTime_5 : decode cX6_countedTime 5 = .ok (.aload_n 0, 1) := by decide +kernel
theorem dX6_countedTime_6 : decode cX6_countedTime 6 = .ok (.getfield 66, 3) := by decide +kernel
theorem dX6_countedTime_9 : decode cX6_countedTime 9 = .ok (.ifCond .eq 14, 3) := by decide +kernel
theorem dX6_countedTime_12 : decode cX6_countedTime 12 = .ok (.iload_n 1, 1) := by decide +kernel
theorem dX6_countedTime_13 : decode cX6_countedTime 13 = .ok (.iload_n 3, 1) := by decide +kernel
theorem dX6_countedTime_14 : decode cX6_countedTime 14 = .ok (.if_icmp .le 9, 3) := by decide +kernel
theorem dX6_countedTime_17 : decode cX6_countedTime 17 = .ok (.iload 4, 2) := by decide +kernel
theorem dX6_countedTime_19 : decode cX6_countedTime 19 = .ok (.iconst 1, 1) := by decide +kernel
theorem dX6_countedTime_20 : decode cX6_countedTime 20 = .ok (.if_icmp .ge 5, 3) := by decide +kernel
theorem dX6_countedTime_23 : decode cX6_countedTime 23 = .ok (.iload_n 1, 1) := by decide +kernel
theorem dX6_countedTime_24 : decode cX6_countedTime 24 = .ok (.ireturn, 1) := by decide +kernel
theorem dX6_countedTime_25 : decode cX6_countedTime 25 = .ok (.iload_n 1, 1) := by decide +kernel
theorem dX6_countedTime_26 : decode cX6_countedTime 26 = .ok (.iload_n 2, 1) := by decide +kernel
theorem dX6_countedTime_27 : decode cX6_countedTime 27 = .ok (.isub, 1) := by decide +kernel
theorem dX6_countedTime_28 : decode cX6_countedTime 28 = .ok (.istore 5, 2) := by decide +kernel
theorem dX6_countedTime_30 : decode cX6_countedTime 30 = .ok (.aload_n 0, 1) := by decide +kernel
theorem dX6_countedTime_31 : decode cX6_countedTime 31 = .ok (.getfield 66, 3) := by decide +kernel
theorem dX6_countedTime_34 : decode cX6_countedTime 34 = .ok (.iconst 1, 1) := by decide +kernel
theorem dX6_countedTime_35 : decode cX6_countedTime 35 = .ok (.if_icmp .ne 11, 3) := by decide +kernel
theorem dX6_countedTime_38 : decode cX6_countedTime 38 = .ok (.iload_n 2, 1) := by decide +kernel
theorem dX6_countedTime_39 : decode cX6_countedTime 39 = .ok (.iload 5, 2) := by decide +kernel
theorem dX6_countedTime_41 : decode cX6_countedTime 41 = .ok (.iload 4, 2) := by decide +kernel
theorem dX6_countedTime_43 : decode cX6_countedTime 43 = .ok (.irem, 1) := by decide +kernel
theorem dX6_countedTime_44 : decode cX6_countedTime 44 = .ok (.iadd, 1) := by decide +kernel
theorem dX6_countedTime_45 : decode cX6_countedTime 45 = .ok (.ireturn, 1) := by decide +kernel
theorem dX6_countedTime_46 : decode cX6_countedTime 46 = .ok (.iload 5, 2) := by decide +kernel
theorem dX6_countedTime_48 : decode cX6_countedTime 48 = .ok (.iconst 2, 1) := by decide +kernel
theorem dX6_countedTime_49 : decode cX6_countedTime 49 = .ok (.iload 4, 2) := by decide +kernel
theorem dX6_countedTime_51 : decode cX6_countedTime 51 = .ok (.imul, 1) := by decide +kernel
theorem dX6_countedTime_52 : decode cX6_countedTime 52 = .ok (.irem, 1) := by decide +kernel
theorem dX6_countedTime_53 : decode cX6_countedTime 53 = .ok (.istore 6, 2) := by decide +kernel
theorem dX6_countedTime_55 : decode cX6_countedTime 55 = .ok (.iload_n 2, 1) := by decide +kernel
theorem dX6_countedTime_56 : decode cX6_countedTime 56 = .ok (.iload 6, 2) := by decide +kernel
theorem dX6_countedTime_58 : decode cX6_countedTime 58 = .ok (.iload 4, 2) := by decide +kernel
theorem dX6_countedTime_60 : decode cX6_countedTime 60 = .ok (.if_icmp .gt 8, 3) := by decide +kernel
theorem dX6_countedTime_63 : decode cX6_countedTime 63 = .ok (.iload 6, 2) := by decide +kernel
theorem dX6_countedTime_65 : decode cX6_countedTime 65 = .ok (.goto 10, 3) := by decide +kernel
theorem dX6_countedTime_68 : decode cX6_countedTime 68 = .ok (.iconst 2, 1) := by decide +kernel
theorem dX6_countedTime_69 : decode cX6_countedTime 69 = .ok (.iload 4, 2) := by decide +kernel
theorem dX6_countedTime_71 : decode cX6_countedTime 71 = .ok (.imul, 1) := by decide +kernel
theorem dX6_countedTime_72 : decode cX6_countedTime 72 = .ok (.iload 6, 2) := by decide +kernel
theorem dX6_countedTime_74 : decode cX6_countedTime 74 = .ok (.isub, 1) := by decide +kernel
theorem dX6_countedTime_75 : decode cX6_countedTime 75 = .ok (.iadd, 1) := by decide +kernel
theorem dX6_countedTime_76 : decode cX6_countedTime 76 = .ok (.ireturn, 1) := by decide +kernel
theorem dX6_lastKeyUpTo_0 : decode cX6_lastKeyUpTo 0 = .ok (.aconst_null, 1) := by decide +kernel
theorem dX6_lastKeyUpTo_1 : decode cX6_lastKeyUpTo 1 = .ok (.astore_n 2, 1) := by decide +kernel
theorem dX6_lastKeyUpTo_2 : decode cX6_lastKeyUpTo 2 = .ok (.aload_n 0, 1) := by decide +kernel
theorem dX6_lastKeyUpTo_3 : decode cX6_lastKeyUpTo 3 = .ok (.getfield 40, 3) := by decide +kernel
theorem dX6_lastKeyUpTo_6 : decode cX6_lastKeyUpTo 6 = .ok (.astore_n 3, 1) := by decide +kernel
theorem dX6_lastKeyUpTo_7 : decode cX6_lastKeyUpTo 7 = .ok (.aload_n 3, 1) := by decide +kernel
theorem dX6_lastKeyUpTo_8 : decode cX6_lastKeyUpTo 8 = .ok (.ifnull 21, 3) := by decide +kernel
theorem dX6_lastKeyUpTo_11 : decode cX6_lastKeyUpTo 11 = .ok (.aload_n 3, 1) := by decide +kernel
theorem dX6_lastKeyUpTo_12 : decode cX6_lastKeyUpTo 12 = .ok (.getfield 29, 3) := by decide +kernel
theorem dX6_lastKeyUpTo_15 : decode cX6_lastKeyUpTo 15 = .ok (.iload_n 1, 1) := by decide +kernel
theorem dX6_lastKeyUpTo_16 : decode cX6_lastKeyUpTo 16 = .ok (.if_icmp .gt 13, 3) := by decide +kernel
theorem dX6_lastKeyUpTo_19 : decode cX6_lastKeyUpTo 19 = .ok (.aload_n 3, 1) := by decide +kernel
theorem dX6_lastKeyUpTo_20 : decode cX6_lastKeyUpTo 20 = .ok (.astore_n 2, 1) := by decide +kernel
theorem dX6_lastKeyUpTo_21 : decode cX6_lastKeyUpTo 21 = .ok (.aload_n 3, 1) := by decide +kernel
theorem dX6_lastKeyUpTo_22 : decode cX6_lastKeyUpTo 22 = .ok (.getfield 44, 3) := by decide +kernel
theorem dX6_lastKeyUpTo_25 : decode cX6_lastKeyUpTo 25 = .ok (.astore_n 3, 1) := by decide +kernel
theorem dX6_lastKeyUpTo_26 : decode cX6_lastKeyUpTo 26 = .ok (.goto (-19), 3) := by decide +kernel
theorem dX6_lastKeyUpTo_29 : decode cX6_lastKeyUpTo 29 = .ok (.aload_n 2, 1) := by decide +kernel
theorem dX6_lastKeyUpTo_30 : decode cX6_lastKeyUpTo 30 = .ok (.areturn, 1) := by decide +kernel
theorem dX6_valueFrom_0 : decode cX6_valueFrom 0 = .ok (.aload_n 1, 1) := by decide +kernel
theorem dX6_valueFrom_1 : decode cX6_valueFrom 1 = .ok (.getfield 44, 3) := by decide +kernel
theorem dX6_valueFrom_4 : decode cX6_valueFrom 4 = .ok (.astore_n 3, 1) := by decide +kernel
theorem dX6_valueFrom_5 : decode cX6_valueFrom 5 = .ok (.aload_n 3, 1) := by decide +kernel
theorem dX6_valueFrom_6 : decode cX6_valueFrom 6 = .ok (.ifnull 10, 3) := by decide +kernel
theorem dX6_valueFrom_9 : decode cX6_valueFrom 9 = .ok (.aload_n 0, 1) := by decide +kernel
theorem dX6_valueFrom_10 : decode cX6_valueFrom 10 = .ok (.getfield 69, 3) := by decide +kernel
theorem dX6_valueFrom_13 : decode cX6_valueFrom 13 = .ok (.ifCond .ne 8, 3) := by decide +kernel
theorem dX6_valueFrom_16 : decode cX6_valueFrom 16 = .ok (.aload_n 1, 1) := by decide +kernel
theorem dX6_valueFrom_17 : decode cX6_valueFrom 17 = .ok (.getfield 34, 3) := by decide +kernel
theorem dX6_valueFrom_20 : decode cX6_valueFrom 20 = .ok (.ireturn, 1) := by decide +kernel
theorem dX6_valueFrom_21 : decode cX6_valueFrom 21 = .ok (.iload_n 2, 1) := by decide +kernel
theorem dX6_valueFrom_22 : decode cX6_valueFrom 22 = .ok (.aload_n 1, 1) := by decide +kernel
theorem dX6_valueFrom_23 : decode cX6_valueFrom 23 = .ok (.getfield 29, 3) := by decide +kernel
theorem dX6_valueFrom_26 : decode cX6_valueFrom 26 = .ok (.isub, 1) := by decide +kernel
theorem dX6_valueFrom_27 : decode cX6_valueFrom 27 = .ok (.i2l, 1) := by decide +kernel
theorem dX6_valueFrom_28 : decode cX6_valueFrom 28 = .ok (.lstore 4, 2) := by decide +kernel
theorem dX6_valueFrom_30 : decode cX6_valueFrom 30 = .ok (.aload_n 3, 1) := by decide +kernel
theorem dX6_valueFrom_31 : decode cX6_valueFrom 31 = .ok (.getfield 29, 3) := by decide +kernel
theorem dX6_valueFrom_34 : decode cX6_valueFrom 34 = .ok (.aload_n 1, 1) := by decide +kernel
theorem dX6_valueFrom_35 : decode cX6_valueFrom 35 = .ok (.getfield 29, 3) := by decide +kernel
theorem dX6_valueFrom_38 : decode cX6_valueFrom 38 = .ok (.isub, 1) := by decide +kernel
theorem dX6_valueFrom_39 : decode cX6_valueFrom 39 = .ok (.i2l, 1) := by decide +kernel
theorem dX6_valueFrom_40 : decode cX6_valueFrom 40 = .ok (.lstore 6, 2) := by decide +kernel
theorem dX6_valueFrom_42 : decode cX6_valueFrom 42 = .ok (.lload 6, 2) := by decide +kernel
theorem dX6_valueFrom_44 : decode cX6_valueFrom 44 = .ok (.lconst 1, 1) := by decide +kernel
theorem dX6_valueFrom_45 : decode cX6_valueFrom 45 = .ok (.lcmp, 1) := by decide +kernel
theorem dX6_valueFrom_46 : decode cX6_valueFrom 46 = .ok (.ifCond .ge 8, 3) := by decide +kernel
theorem dX6_valueFrom_49 : decode cX6_valueFrom 49 = .ok (.aload_n 1, 1) := by decide +kernel
theorem dX6_valueFrom_50 : decode cX6_valueFrom 50 = .ok (.getfield 34, 3) := by decide +kernel
theorem dX6_valueFrom_53 : decode cX6_valueFrom 53 = .ok (.ireturn, 1) := by decide +kernel
theorem dX6_valueFrom_54 : decode cX6_valueFrom 54 = .ok (.aload_n 3, 1) := by decide +kernel
theorem dX6_valueFrom_55 : decode cX6_valueFrom 55 = .ok (.getfield 34, 3) := by decide +kernel
theorem dX6_valueFrom_58 : decode cX6_valueFrom 58 = .ok (.aload_n 1, 1) := by decide +kernel
theorem dX6_valueFrom_59 : decode cX6_valueFrom 59 = .ok (.getfield 34, 3) := by decide +kernel
theorem dX6_valueFrom_62 : decode cX6_valueFrom 62 = .ok (.isub, 1) := by decide +kernel
theorem dX6_valueFrom_63 : decode cX6_valueFrom 63 = .ok (.i2l, 1) := by decide +kernel
theorem dX6_valueFrom_64 : decode cX6_valueFrom 64 = .ok (.lstore 8, 2) := by decide +kernel
theorem dX6_valueFrom_66 : decode cX6_valueFrom 66 = .ok (.aload_n 0, 1) := by decide +kernel
theorem dX6_valueFrom_67 : decode cX6_valueFrom 67 = .ok (.getfield 69, 3) := by decide +kernel
theorem dX6_valueFrom_70 : decode cX6_valueFrom 70 = .ok (.iconst 1, 1) := by decide +kernel
theorem dX6_valueFrom_71 : decode cX6_valueFrom 71 = .ok (.if_icmp .ne 19, 3) := by decide +kernel
theorem dX6_valueFrom_74 : decode cX6_valueFrom 74 = .ok (.aload_n 1, 1) := by decide +kernel
theorem dX6_valueFrom_75 : decode cX6_valueFrom 75 = .ok (.getfield 34, 3) := by decide +kernel
theorem dX6_valueFrom_78 : decode cX6_valueFrom 78 = .ok (.i2l, 1) := by decide +kernel
theorem dX6_valueFrom_79 : decode cX6_valueFrom 79 = .ok (.lload 8, 2) := by decide +kernel
theorem dX6_valueFrom_81 : decode cX6_valueFrom 81 = .ok (.lload 4, 2) := by decide +kernel
theorem dX6_valueFrom_83 : decode cX6_valueFrom 83 = .ok (.lmul, 1) := by decide +kernel
theorem dX6_valueFrom_84 : decode cX6_valueFrom 84 = .ok (.lload 6, 2) := by decide +kernel
theorem dX6_valueFrom_86 : decode cX6_valueFrom 86 = .ok (.ldiv, 1) := by decide +kernel
theorem dX6_valueFrom_87 : decode cX6_valueFrom 87 = .ok (.ladd, 1) := by decide +kernel
theorem dX6_valueFrom_88 : decode cX6_valueFrom 88 = .ok (.l2i, 1) := by decide +kernel
theorem dX6_valueFrom_89 : decode cX6_valueFrom 89 = .ok (.ireturn, 1) := by decide +kernel
theorem dX6_valueFrom_90 : decode cX6_valueFrom 90 = .ok (.aload_n 1, 1) := by decide +kernel
theorem dX6_valueFrom_91 : decode cX6_valueFrom 91 = .ok (.getfield 34, 3) := by decide +kernel
theorem dX6_valueFrom_94 : decode cX6_valueFrom 94 = .ok (.i2l, 1) := by decide +kernel
theorem dX6_valueFrom_95 : decode cX6_valueFrom 95 = .ok (.lload 8, 2) := by decide +kernel
theorem dX6_valueFrom_97 : decode cX6_valueFrom 97 = .ok (.lload 4, 2) := by decide +kernel
theorem dX6_valueFrom_99 : decode cX6_valueFrom 99 = .ok (.lmul, 1) := by decide +kernel
theorem dX6_valueFrom_100 : decode cX6_valueFrom 100 = .ok (.lload 4, 2) := by decide +kernel
theorem dX6_valueFrom_102 : decode cX6_valueFrom 102 = .ok (.lmul, 1) := by decide +kernel
theorem dX6_valueFrom_103 : decode cX6_valueFrom 103 = .ok (.ldc2_w 72, 3) := by decide +kernel
theorem dX6_valueFrom_106 : decode cX6_valueFrom 106 = .ok (.lload 6, 2) := by decide +kernel
theorem dX6_valueFrom_108 : decode cX6_valueFrom 108 = .ok (.lmul, 1) := by decide +kernel
theorem dX6_valueFrom_109 : decode cX6_valueFrom 109 = .ok (.ldc2_w 74, 3) := by decide +kernel
theorem dX6_valueFrom_112 : decode cX6_valueFrom 112 = .ok (.lload 4, 2) := by decide +kernel
theorem dX6_valueFrom_114 : decode cX6_valueFrom 114 = .ok (.lmul, 1) := by decide +kernel
theorem dX6_valueFrom_115 : decode cX6_valueFrom 115 = .ok (.lsub, 1) := by decide +kernel
theorem dX6_valueFrom_116 : decode cX6_valueFrom 116 = .ok (.lmul, 1) := by decide +kernel
theorem dX6_valueFrom_117 : decode cX6_valueFrom 117 = .ok (.lload 6, 2) := by decide +kernel
theorem dX6_valueFrom_119 : decode cX6_valueFrom 119 = .ok (.lload 6, 2) := by decide +kernel
theorem dX6_valueFrom_121 : decode cX6_valueFrom 121 = .ok (.lmul, 1) := by decide +kernel
theorem dX6_valueFrom_122 : decode cX6_valueFrom 122 = .ok (.lload 6, 2) := by decide +kernel
theorem dX6_valueFrom_124 : decode cX6_valueFrom 124 = .ok (.lmul, 1) := by decide +kernel
theorem dX6_valueFrom_125 : decode cX6_valueFrom 125 = .ok (.ldiv, 1) := by decide +kernel
theorem dX6_valueFrom_126 : decode cX6_valueFrom 126 = .ok (.ladd, 1) := by decide +kernel
theorem dX6_valueFrom_127 : decode cX6_valueFrom 127 = .ok (.l2i, 1) := by decide +kernel
theorem dX6_valueFrom_128 : decode cX6_valueFrom 128 = .ok (.ireturn, 1) := by decide +kernel
theorem dX6_at_0 : decode cX6_at 0 = .ok (.aload_n 0, 1) := by decide +kernel
theorem dX6_at_1 : decode cX6_at 1 = .ok (.getfield 40, 3) := by decide +kernel
theorem dX6_at_4 : decode cX6_at 4 = .ok (.ifnonnull 8, 3) := by decide +kernel
theorem dX6_at_7 : decode cX6_at 7 = .ok (.aload_n 0, 1) := by decide +kernel
theorem dX6_at_8 : decode cX6_at 8 = .ok (.getfield 9, 3) := by decide +kernel
theorem dX6_at_11 : decode cX6_at 11 = .ok (.ireturn, 1) := by decide +kernel
theorem dX6_at_12 : decode cX6_at 12 = .ok (.iload_n 1, 1) := by decide +kernel
theorem dX6_at_13 : decode cX6_at 13 = .ok (.istore_n 2, 1) := by decide +kernel
theorem dX6_at_14 : decode cX6_at 14 = .ok (.aload_n 0, 1) := by decide +kernel
theorem dX6_at_15 : decode cX6_at 15 = .ok (.iload_n 1, 1) := by decide +kernel
theorem dX6_at_16 : decode cX6_at 16 = .ok (.invokevirtual 25, 3) := by decide +kernel
theorem dX6_at_19 : decode cX6_at 19 = .ok (.astore_n 3, 1) := by decide +kernel
theorem dX6_at_20 : decode cX6_at 20 = .ok (.aload_n 3, 1) := by decide +kernel
theorem dX6_at_21 : decode cX6_at 21 = .ok (.ifnull 33, 3) := by decide +kernel
theorem dX6_at_24 : decode cX6_at 24 = .ok (.aload_n 3, 1) := by decide +kernel
theorem dX6_at_25 : decode cX6_at 25 = .ok (.getfield 44, 3) := by decide +kernel
theorem dX6_at_28 : decode cX6_at 28 = .ok (.ifnonnull 26, 3) := by decide +kernel
theorem dX6_at_31 : decode cX6_at 31 = .ok (.aload_n 0, 1) := by decide +kernel
theorem dX6_at_32 : decode cX6_at 32 = .ok (.iload_n 1, 1) := by decide +kernel
theorem dX6_at_33 : decode cX6_at 33 = .ok (.aload_n 0, 1) := by decide +kernel
theorem dX6_at_34 : decode cX6_at 34 = .ok (.getfield 40, 3) := by decide +kernel
theorem dX6_at_37 : decode cX6_at 37 = .ok (.getfield 29, 3) := by decide +kernel
theorem dX6_at_40 : decode cX6_at 40 = .ok (.aload_n 3, 1) := by decide +kernel
theorem dX6_at_41 : decode cX6_at 41 = .ok (.getfield 29, 3) := by decide +kernel
theorem dX6_at_44 : decode cX6_at 44 = .ok (.invokevirtual 58, 3) := by decide +kernel
theorem dX6_at_47 : decode cX6_at 47 = .ok (.istore_n 2, 1) := by decide +kernel
theorem dX6_at_48 : decode cX6_at 48 = .ok (.aload_n 0, 1) := by decide +kernel
theorem dX6_at_49 : decode cX6_at 49 = .ok (.iload_n 2, 1) := by decide +kernel
theorem dX6_at_50 : decode cX6_at 50 = .ok (.invokevirtual 25, 3) := by decide +kernel
theorem dX6_at_53 : decode cX6_at 53 = .ok (.astore_n 3, 1) := by decide +kernel
theorem dX6_at_54 : decode cX6_at 54 = .ok (.aload_n 3, 1) := by decide +kernel
theorem dX6_at_55 : decode cX6_at 55 = .ok (.ifnonnull 13, 3) := by decide +kernel
theorem dX6_at_58 : decode cX6_at 58 = .ok (.aload_n 0, 1) := by decide +kernel
theorem dX6_at_59 : decode cX6_at 59 = .ok (.getfield 40, 3) := by decide +kernel
theorem dX6_at_62 : decode cX6_at 62 = .ok (.getfield 34, 3) := by decide +kernel
theorem dX6_at_65 : decode cX6_at 65 = .ok (.goto 9, 3) := by decide +kernel
theorem dX6_at_68 : decode cX6_at 68 = .ok (.aload_n 0, 1) := by decide +kernel
theorem dX6_at_69 : decode cX6_at 69 = .ok (.aload_n 3, 1) := by decide +kernel
theorem dX6_at_70 : decode cX6_at 70 = .ok (.iload_n 2, 1) := by decide +kernel
theorem dX6_at_71 : decode cX6_at 71 = .ok (.invokevirtual 62, 3) := by decide +kernel
theorem dX6_at_74 : decode cX6_at 74 = .ok (.ireturn, 1) := by decide +kernel
noncomputable def f_X4_depth_L7 (n : Nat) : Int32 → Option Nat → fSt → Option (Int32 × fSt) := Nat.rec (motive := fun _ => Int32 → Option Nat → fSt → Option (Int32 × fSt)) (fun _ _ _ => none) (fun _ k7 (a1 : Int32) (a2 : Option Nat) (h : fSt) => (if a2 = none then some (a1, h) else (fgR h a2 4 14).bind fun x2 => k7 (a1 + (1 : Int32)) x2 h)) n
noncomputable def f_X4_depth_L0 (a0 : Option Nat) (h : fSt) : Option (Int32 × fSt) := (fgR h a0 4 14).bind fun x4 => f_X4_depth_L7 4096 (0 : Int32) x4 h
noncomputable def f_X4_depth (o : Nat) (h : fSt) : Option (Int32 × fSt) := f_X4_depth_L0 (some o) h
noncomputable def f_X2_init_L0 (a0 : Option Nat) (a1 : Int32) (a2 : Int32) (a3 : Int32) (a4 : Int32) (h : fSt) : Option (Unit × fSt) := (fobj h a0 2).bind fun b1 => (fput h a0 2 0 (.int a1)).bind fun h3 => (fput h3 a0 2 1 (.int a2)).bind fun h5 => (fput h5 a0 2 2 (.int a3)).bind fun h7 => (fput h7 a0 2 3 (.int a4)).bind fun h9 => some ((), h9)
noncomputable def f_X2_init (o : Nat) (p0 : Int32) (p1 : Int32) (p2 : Int32) (p3 : Int32) (h : fSt) : Option (Unit × fSt) := f_X2_init_L0 (some o) p0 p1 p2 p3 h
noncomputable def f_X6_init_L0 (a0 : Option Nat) (a1 : Int32) (a2 : Int32) (a3 : Int32) (h : fSt) : Option (Unit × fSt) := (fobj h a0 6).bind fun b1 => (fput h a0 6 2 (.int a1)).bind fun h3 => (fput h3 a0 6 0 (.int a2)).bind fun h5 => (fput h5 a0 6 1 (.int a3)).bind fun h7 => some ((), h7)
noncomputable def f_X6_init (o : Nat) (p0 : Int32) (p1 : Int32) (p2 : Int32) (h : fSt) : Option (Unit × fSt) := f_X6_init_L0 (some o) p0 p1 p2 h
noncomputable def f_X4_init_L0 (a0 : Option Nat) (a1 : Int32) (a2 : Int32) (a3 : Int32) (a4 : Int32) (h : fSt) : Option (Unit × fSt) := (fobj h a0 4).bind fun b1 => (fnew h (.inl (6, [.int 0, .int 0, .int 0, .int 0, .int 0, .int 0, .int 0, .null, .int 0])) 9).bind fun r3 => (f_X6_init r3.1 (0 : Int32) (-200 : Int32) (200 : Int32) r3.2).bind fun r5 => (fput r5.2 a0 4 3 (va_rf (some r3.1))).bind fun h7 => (fnew h7 (.inl (6, [.int 0, .int 0, .int 0, .int 0, .int 0, .int 0, .int 0, .null, .int 0])) 9).bind fun r9 => (f_X6_init r9.1 (0 : Int32) (-200 : Int32) (200 : Int32) r9.2).bind fun r11 => (fput r11.2 a0 4 4 (va_rf (some r9.1))).bind fun h13 => (fnew h13 (.inl (6, [.int 0, .int 0, .int 0, .int 0, .int 0, .int 0, .int 0, .null, .int 0])) 9).bind fun r15 => (f_X6_init r15.1 (0 : Int32) (0 : Int32) (3 : Int32) r15.2).bind fun r17 => (fput r17.2 a0 4 5 (va_rf (some r15.1))).bind fun h19 => (fnew h19 (.inl (6, [.int 0, .int 0, .int 0, .int 0, .int 0, .int 0, .int 0, .null, .int 0])) 9).bind fun r21 => (f_X6_init r21.1 (100 : Int32) (0 : Int32) (100 : Int32) r21.2).bind fun r23 => (fput r23.2 a0 4 6 (va_rf (some r21.1))).bind fun h25 => (fput h25 a0 4 7 (.int (1 : Int32))).bind fun h27 => (fput h27 a0 4 8 (.int (1 : Int32))).bind fun h29 => (fput h29 a0 4 0 (.int a1)).bind fun h31 => (fput h31 a0 4 1 (.int a2)).bind fun h33 => (fnew h33 (.inl (2, [.int 0, .int 0, .int 0, .int 0])) 4).bind fun r35 => (f_X2_init r35.1 (0 : Int32) (0 : Int32) a3 a4 r35.2).bind fun r37 => (fput r37.2 a0 4 2 (va_rf (some r35.1))).bind fun h39 => some ((), h39)
noncomputable def f_X4_init (o : Nat) (p0 : Int32) (p1 : Int32) (p2 : Int32) (p3 : Int32) (h : fSt) : Option (Unit × fSt) := f_X4_init_L0 (some o) p0 p1 p2 p3 h
noncomputable def f_X4_takeIn_L38 (a0 : Option Nat) (a1 : Option Nat) (h : fSt) : Option (Unit × fSt) := (fput h a1 4 16 (va_rf none)).bind fun h1 => (fput h1 a1 4 14 (va_rf a0)).bind fun h3 => some ((), h3)
noncomputable def f_X4_takeIn_L7 (n : Nat) : Option Nat → Option Nat → Option Nat → Option Nat → fSt → Option (Unit × fSt) := Nat.rec (motive := fun _ => Option Nat → Option Nat → Option Nat → Option Nat → fSt → Option (Unit × fSt)) (fun _ _ _ _ _ => none) (fun _ k7 (a0 : Option Nat) (a1 : Option Nat) (a2 : Option Nat) (a3 : Option Nat) (h : fSt) => (if a3 = none then (if a2 = none then (fput h a0 4 15 (va_rf a1)).bind fun h9 => f_X4_takeIn_L38 a0 a1 h9 else (fput h a2 4 16 (va_rf a1)).bind fun h7 => f_X4_takeIn_L38 a0 a1 h7) else (fgR h a3 4 16).bind fun x11 => k7 a0 a1 a3 x11 h)) n
noncomputable def f_X4_takeIn_L0 (a0 : Option Nat) (a1 : Option Nat) (h : fSt) : Option (Unit × fSt) := (fgR h a0 4 15).bind fun x13 => f_X4_takeIn_L7 4096 a0 a1 none x13 h
noncomputable def f_X4_takeIn (o : Nat) (p0 : Option Nat) (h : fSt) : Option (Unit × fSt) := f_X4_takeIn_L0 (some o) p0 h
noncomputable def f_X7_nodeOrNull_L13  (h : fSt) : Option (Option Nat × fSt) := some (none, h)
noncomputable def f_X7_nodeOrNull_L38 (s0 : Option Nat) (h : fSt) : Option (Option Nat × fSt) := some (s0, h)
noncomputable def f_X7_nodeOrNull_L33  (h : fSt) : Option (Option Nat × fSt) := f_X7_nodeOrNull_L38 none h
noncomputable def f_X7_nodeOrNull_L0 (a0 : Option Nat) (a1 : Int32) (h : fSt) : Option (Option Nat × fSt) := (if a1 < 0 then f_X7_nodeOrNull_L13 h else (fgR h a0 7 0).bind fun x2 => (flen h x2 4).bind fun x4 => (if a1 < x4 then (fgR h a0 7 0).bind fun x7 => (faR h x7 4 a1).bind fun x9 => (if x9 = none then f_X7_nodeOrNull_L33 h else (fgI h x9 4 13).bind fun x12 => (if x12 = 0 then f_X7_nodeOrNull_L38 x9 h else f_X7_nodeOrNull_L33 h)) else f_X7_nodeOrNull_L13 h))
noncomputable def f_X7_nodeOrNull (o : Nat) (p0 : Int32) (h : fSt) : Option (Option Nat × fSt) := f_X7_nodeOrNull_L0 (some o) p0 h
noncomputable def f_X7_found_L0 (a0 : Option Nat) (a1 : Int32) (h : fSt) : Option ((Option Nat ⊕ Nat) × fSt) := (fobj h a0 7).bind fun b3 => (f_X7_nodeOrNull b3 a1 h).bind fun r1 => (if r1.1 = none then (fthr r1.2).bind fun h6 => some (.inr 0, h6) else some (.inl r1.1, r1.2))
noncomputable def f_X7_found (o : Nat) (p0 : Int32) (h : fSt) : Option ((Option Nat ⊕ Nat) × fSt) := f_X7_found_L0 (some o) p0 h
noncomputable def f_X7_isFrom_L15 (s0 : Int32) (h : fSt) : Option (Int32 × fSt) := if s0 = 0 ∨ s0 = 1 then some (s0, h) else none
noncomputable def f_X7_isFrom_L14  (h : fSt) : Option (Int32 × fSt) := f_X7_isFrom_L15 (0 : Int32) h
noncomputable def f_X7_isFrom_L0 (a0 : Int32) (a1 : Int32) (a2 : Int32) (h : fSt) : Option (Int32 × fSt) := (if a0 < a1 then f_X7_isFrom_L14 h else (if a2 < a0 then f_X7_isFrom_L14 h else f_X7_isFrom_L15 (1 : Int32) h))
noncomputable def f_X7_isFrom (p0 : Int32) (p1 : Int32) (p2 : Int32) (h : fSt) : Option (Int32 × fSt) := f_X7_isFrom_L0 p0 p1 p2 h
noncomputable def f_X7_layHanging_L38 (self : Nat → Option Nat → Int32 → fSt → Option (Unit × fSt)) (k3 : Option Nat → Option Nat → Int32 → Int32 → Int32 → fSt → Option (Unit × fSt)) (k15 : Option Nat → Option Nat → Int32 → Int32 → Int32 → Option Nat → fSt → Option (Unit × fSt)) (a0 : Option Nat) (a1 : Option Nat) (a3 : Int32) (a4 : Int32) (a5 : Int32) (a6 : Option Nat) (h : fSt) : Option (Unit × fSt) := (fgR h a6 4 16).bind fun x1 => k15 a0 a1 a3 a4 a5 x1 h
noncomputable def f_X7_layHanging_L15 (self : Nat → Option Nat → Int32 → fSt → Option (Unit × fSt)) (k3 : Option Nat → Option Nat → Int32 → Int32 → Int32 → fSt → Option (Unit × fSt)) (n : Nat) : Option Nat → Option Nat → Int32 → Int32 → Int32 → Option Nat → fSt → Option (Unit × fSt) := Nat.rec (motive := fun _ => Option Nat → Option Nat → Int32 → Int32 → Int32 → Option Nat → fSt → Option (Unit × fSt)) (fun _ _ _ _ _ _ _ => none) (fun _ k15 (a0 : Option Nat) (a1 : Option Nat) (a3 : Int32) (a4 : Int32) (a5 : Int32) (a6 : Option Nat) (h : fSt) => (if a6 = none then k3 a0 a1 a3 a4 (a5 + (1 : Int32)) h else (fgI h a6 4 10).bind fun x4 => (if x4 = a5 then (fobj h a0 7).bind fun b9 => (self b9 a6 a4 h).bind fun r7 => f_X7_layHanging_L38 self k3 k15 a0 a1 a3 a4 a5 a6 r7.2 else f_X7_layHanging_L38 self k3 k15 a0 a1 a3 a4 a5 a6 h))) n
noncomputable def f_X7_layHanging_L3 (self : Nat → Option Nat → Int32 → fSt → Option (Unit × fSt)) (n : Nat) : Option Nat → Option Nat → Int32 → Int32 → Int32 → fSt → Option (Unit × fSt) := Nat.rec (motive := fun _ => Option Nat → Option Nat → Int32 → Int32 → Int32 → fSt → Option (Unit × fSt)) (fun _ _ _ _ _ _ => none) (fun _ k3 (a0 : Option Nat) (a1 : Option Nat) (a3 : Int32) (a4 : Int32) (a5 : Int32) (h : fSt) => (if a3 < a5 then some ((), h) else (fgR h a1 4 15).bind fun x12 => f_X7_layHanging_L15 self k3 4096 a0 a1 a3 a4 a5 x12 h)) n
noncomputable def f_X7_layHanging_L0 (self : Nat → Option Nat → Int32 → fSt → Option (Unit × fSt)) (a0 : Option Nat) (a1 : Option Nat) (a2 : Int32) (a3 : Int32) (a4 : Int32) (h : fSt) : Option (Unit × fSt) := f_X7_layHanging_L3 self 4096 a0 a1 a3 a4 a2 h
noncomputable def f_X7_layHanging (self : Nat → Option Nat → Int32 → fSt → Option (Unit × fSt)) (o : Nat) (p0 : Option Nat) (p1 : Int32) (p2 : Int32) (p3 : Int32) (h : fSt) : Option (Unit × fSt) := f_X7_layHanging_L0 self (some o) p0 p1 p2 p3 h
noncomputable def f_X7_lay_L0 (self : Nat → Option Nat → Int32 → fSt → Option (Unit × fSt)) (a0 : Option Nat) (a1 : Option Nat) (a2 : Int32) (h : fSt) : Option (Unit × fSt) := (if a2 ≤ (4 : Int32) then (fobj h a0 7).bind fun b4 => (f_X7_layHanging self b4 a1 (-9 : Int32) (-1 : Int32) (a2 + (1 : Int32)) h).bind fun r2 => (fgR r2.2 a0 7 8).bind fun x6 => (fput r2.2 a1 4 17 (va_rf x6)).bind fun h8 => (fgI h8 a0 7 9).bind fun x10 => (fput h8 a1 4 18 (.int x10)).bind fun h12 => (fput h12 a0 7 8 (va_rf a1)).bind fun h14 => (fgI h14 a0 7 9).bind fun x16 => (fput h14 a0 7 9 (.int (x16 + (1 : Int32)))).bind fun h18 => (fobj h18 a0 7).bind fun b22 => (f_X7_layHanging self b22 a1 (0 : Int32) (9 : Int32) (a2 + (1 : Int32)) h18).bind fun r20 => some ((), r20.2) else some ((), h))
noncomputable def f_X7_lay (d : Nat) : Nat → Option Nat → Int32 → fSt → Option (Unit × fSt) := Nat.rec (motive := fun _ => Nat → Option Nat → Int32 → fSt → Option (Unit × fSt)) (fun _ _ _ _ => none) (fun _ self (o : Nat) (p0 : Option Nat) (p1 : Int32) (h : fSt) => f_X7_lay_L0 self (some o) p0 p1 h) d
noncomputable def f_X7_layOrder_L0 (a0 : Option Nat) (h : fSt) : Option (Unit × fSt) := (fput h a0 7 8 (va_rf none)).bind fun h1 => (fput h1 a0 7 9 (.int (0 : Int32))).bind fun h3 => (fgR h3 a0 7 2).bind fun x5 => (fobj h3 a0 7).bind fun b9 => (f_X7_lay 8 b9 x5 (0 : Int32) h3).bind fun r7 => some ((), r7.2)
noncomputable def f_X7_layOrder (o : Nat) (h : fSt) : Option (Unit × fSt) := f_X7_layOrder_L0 (some o) h
noncomputable def f_X7_add_L53  (h : fSt) : Option ((Int32 ⊕ Nat) × fSt) := (fthr h).bind fun h1 => some (.inr 1, h1)
noncomputable def f_X7_add_L91  (h : fSt) : Option ((Int32 ⊕ Nat) × fSt) := (fthr h).bind fun h3 => some (.inr 2, h3)
noncomputable def f_X7_add_L63 (a0 : Option Nat) (a2 : Int32) (a3 : Int32) (a4 : Int32) (a5 : Option Nat) (h : fSt) : Option ((Int32 ⊕ Nat) × fSt) := (fgI h a0 7 5).bind fun x5 => (if x5 < 0 then f_X7_add_L91 h else (fgI h a0 7 5).bind fun x8 => (fgR h a0 7 0).bind fun x10 => (flen h x10 4).bind fun x12 => (if x12 ≤ x8 then f_X7_add_L91 h else (fobj h a5 4).bind fun b17 => (f_X4_depth b17 h).bind fun r15 => (if r15.1 < (4 : Int32) then (fnew r15.2 (.inl (4, [.int 0, .int 0, .null, .null, .null, .null, .null, .int 0, .int 0, .int 0, .int 0, .int 0, .null, .int 0, .null, .null, .null, .null, .int 0])) 19).bind fun r20 => (fgI r20.2 a0 7 5).bind fun x22 => (f_X4_init r20.1 x22 a2 a3 a4 r20.2).bind fun r24 => (fgR r24.2 a0 7 0).bind fun x26 => (fgI r24.2 a0 7 5).bind fun x28 => (fsR r24.2 x26 4 4 x28 (some r20.1)).bind fun h30 => (fgI h30 a0 7 5).bind fun x32 => (fput h30 a0 7 5 (.int (x32 + (1 : Int32)))).bind fun h34 => (fobj h34 a5 4).bind fun b38 => (f_X4_takeIn b38 (some r20.1) h34).bind fun r36 => (fobj r36.2 a0 7).bind fun b42 => (f_X7_layOrder b42 r36.2).bind fun r40 => (fgI r40.2 (some r20.1) 4 0).bind fun x44 => some (.inl x44, r40.2) else f_X7_add_L91 r15.2)))
noncomputable def f_X7_add_L0 (a0 : Option Nat) (a1 : Int32) (a2 : Int32) (a3 : Int32) (a4 : Int32) (h : fSt) : Option ((Int32 ⊕ Nat) × fSt) := (fobj h a0 7).bind fun b48 => (f_X7_found b48 a1 h).bind fun r46 => Sum.elim (fun v50 => (f_X7_isFrom a2 (0 : Int32) (2 : Int32) r46.2).bind fun r53 => (if r53.1 = 0 then (fthr r53.2).bind fun h63 => some (.inr 1, h63) else (if a2 = 0 then f_X7_add_L63 a0 a2 a3 a4 v50 r53.2 else (f_X7_isFrom a3 (1 : Int32) (200 : Int32) r53.2).bind fun r57 => (if r57.1 = 0 then f_X7_add_L53 r57.2 else (f_X7_isFrom a4 (1 : Int32) (200 : Int32) r57.2).bind fun r60 => (if r60.1 = 0 then f_X7_add_L53 r60.2 else f_X7_add_L63 a0 a2 a3 a4 v50 r60.2))))) (fun k51 => some (.inr k51, r46.2)) r46.1
noncomputable def f_X7_add (o : Nat) (p0 : Int32) (p1 : Int32) (p2 : Int32) (p3 : Int32) (h : fSt) : Option ((Int32 ⊕ Nat) × fSt) := f_X7_add_L0 (some o) p0 p1 p2 p3 h
noncomputable def f_L_add_L0 (a0 : Option Nat) (a1 : Int32) (a2 : Int32) (a3 : Int32) (a4 : Int32) (a5 : Option Nat) (h : fSt) : Option ((Int32 ⊕ Nat) × fSt) := (fobj h a0 7).bind fun b3 => (f_X7_add b3 a1 a2 a3 a4 h).bind fun r1 => Sum.elim (fun v5 => (fsJ r1.2 a5 1 (0 : Int32) (Int32.toInt64 v5)).bind fun h8 => some (.inl (0 : Int32), h8)) (fun k6 => (if k6 = 0 then some (.inl (1 : Int32), r1.2) else (if k6 = 1 then some (.inl (2 : Int32), r1.2) else (if k6 = 2 then some (.inl (3 : Int32), r1.2) else none)))) r1.1
noncomputable def f_L_add (p0 : Option Nat) (p1 : Int32) (p2 : Int32) (p3 : Int32) (p4 : Int32) (p5 : Option Nat) (h : fSt) : Option ((Int32 ⊕ Nat) × fSt) := f_L_add_L0 p0 p1 p2 p3 p4 p5 h
noncomputable def f_X7_commonDivisor_L80 (s0 : Int64) (h : fSt) : Option (Int64 × fSt) := some (s0, h)
noncomputable def f_X7_commonDivisor_L67 (a4 : Int64) (h : fSt) : Option (Int64 × fSt) := (if a4 ≤ (0 : Int64) then f_X7_commonDivisor_L80 (1 : Int64) h else f_X7_commonDivisor_L80 a4 h)
noncomputable def f_X7_commonDivisor_L31 (n : Nat) : Int64 → Int64 → Int32 → fSt → Option (Int64 × fSt) := Nat.rec (motive := fun _ => Int64 → Int64 → Int32 → fSt → Option (Int64 × fSt)) (fun _ _ _ _ => none) (fun _ k31 (a4 : Int64) (a6 : Int64) (a8 : Int32) (h : fSt) => (if (200 : Int32) ≤ a8 then f_X7_commonDivisor_L67 a4 h else (if a6 = (0 : Int64) then f_X7_commonDivisor_L67 a4 h else (if a6 = 0 then none else k31 a6 (a4 - a4 / a6 * a6) (a8 + (1 : Int32)) h)))) n
noncomputable def f_X7_commonDivisor_L26 (a4 : Int64) (s0 : Int64) (h : fSt) : Option (Int64 × fSt) := f_X7_commonDivisor_L31 4096 a4 s0 (0 : Int32) h
noncomputable def f_X7_commonDivisor_L12 (a2 : Int64) (s0 : Int64) (h : fSt) : Option (Int64 × fSt) := (if (0 : Int64) ≤ a2 then f_X7_commonDivisor_L26 s0 a2 h else f_X7_commonDivisor_L26 s0 (-a2) h)
noncomputable def f_X7_commonDivisor_L0 (a0 : Int64) (a2 : Int64) (h : fSt) : Option (Int64 × fSt) := (if (0 : Int64) ≤ a0 then f_X7_commonDivisor_L12 a2 a0 h else f_X7_commonDivisor_L12 a2 (-a0) h)
noncomputable def f_X7_commonDivisor (p0 : Int64) (p1 : Int64) (h : fSt) : Option (Int64 × fSt) := f_X7_commonDivisor_L0 p0 p1 h
noncomputable def f_X5_part_L41 (a4 : Int64) (s0 : Int64) (h : fSt) : Option (Int64 × fSt) := (if a4 = 0 then none else some ((s0 / a4), h))
noncomputable def f_X5_part_L16 (a0 : Option Nat) (a1 : Int32) (s0 : Int64) (h : fSt) : Option (Int64 × fSt) := (fgJ h a0 5 2).bind fun x2 => (f_X7_commonDivisor s0 x2 h).bind fun r4 => (if (a1 - a1 / (2 : Int32) * (2 : Int32)) = 0 then f_X5_part_L41 r4.1 s0 r4.2 else (fgJ r4.2 a0 5 2).bind fun x7 => f_X5_part_L41 r4.1 x7 r4.2)
noncomputable def f_X5_part_L0 (a0 : Option Nat) (a1 : Int32) (h : fSt) : Option (Int64 × fSt) := (if (2 : Int32) ≤ a1 then (fgJ h a0 5 1).bind fun x10 => f_X5_part_L16 a0 a1 x10 h else (fgJ h a0 5 0).bind fun x12 => f_X5_part_L16 a0 a1 x12 h)
noncomputable def f_X5_part (o : Nat) (p0 : Int32) (h : fSt) : Option (Int64 × fSt) := f_X5_part_L0 (some o) p0 h
noncomputable def f_X7_checkPoint_L26  (h : fSt) : Option ((Unit ⊕ Nat) × fSt) := (fthr h).bind fun h1 => some (.inr 1, h1)
noncomputable def f_X7_checkPoint_L0 (a0 : Int32) (a1 : Int32) (a2 : Int32) (h : fSt) : Option ((Unit ⊕ Nat) × fSt) := (f_X7_isFrom a0 (-1000 : Int32) (1000 : Int32) h).bind fun r3 => (if r3.1 = 0 then f_X7_checkPoint_L26 r3.2 else (f_X7_isFrom a1 (-1000 : Int32) (1000 : Int32) r3.2).bind fun r6 => (if r6.1 = 0 then f_X7_checkPoint_L26 r6.2 else (f_X7_isFrom a2 (0 : Int32) (3 : Int32) r6.2).bind fun r9 => (if r9.1 = 0 then (fthr r9.2).bind fun h12 => some (.inr 1, h12) else some (.inl (), r9.2))))
noncomputable def f_X7_checkPoint (p0 : Int32) (p1 : Int32) (p2 : Int32) (h : fSt) : Option ((Unit ⊕ Nat) × fSt) := f_X7_checkPoint_L0 p0 p1 p2 h
noncomputable def f_X5_turnQuarters_L2 (n : Nat) : Option Nat → Int32 → Int32 → fSt → Option (Unit × fSt) := Nat.rec (motive := fun _ => Option Nat → Int32 → Int32 → fSt → Option (Unit × fSt)) (fun _ _ _ _ => none) (fun _ k2 (a0 : Option Nat) (a1 : Int32) (a2 : Int32) (h : fSt) => (if a1 ≤ a2 then some ((), h) else (fgJ h a0 5 0).bind fun x2 => (fgJ h a0 5 1).bind fun x4 => (fput h a0 5 0 (.long (-x4))).bind fun h6 => (fput h6 a0 5 1 (.long x2)).bind fun h8 => k2 a0 a1 (a2 + (1 : Int32)) h8)) n
noncomputable def f_X5_turnQuarters_L0 (a0 : Option Nat) (a1 : Int32) (h : fSt) : Option (Unit × fSt) := f_X5_turnQuarters_L2 4096 a0 a1 (0 : Int32) h
noncomputable def f_X5_turnQuarters (o : Nat) (p0 : Int32) (h : fSt) : Option (Unit × fSt) := f_X5_turnQuarters_L0 (some o) p0 h
noncomputable def f_X6_countedTime_L23 (a1 : Int32) (h : fSt) : Option (Int32 × fSt) := some (a1, h)
noncomputable def f_X6_countedTime_L75 (s1 : Int32) (s0 : Int32) (h : fSt) : Option (Int32 × fSt) := some ((s0 + s1), h)
noncomputable def f_X6_countedTime_L0 (a0 : Option Nat) (a1 : Int32) (a2 : Int32) (a3 : Int32) (h : fSt) : Option (Int32 × fSt) := (fgI h a0 6 6).bind fun x1 => (if x1 = 0 then f_X6_countedTime_L23 a1 h else (if a1 ≤ a3 then f_X6_countedTime_L23 a1 h else (if (1 : Int32) ≤ (a3 - a2) then (fgI h a0 6 6).bind fun x6 => (if x6 = (1 : Int32) then (if (a3 - a2) = 0 then none else some ((a2 + ((a1 - a2) - (a1 - a2) / (a3 - a2) * (a3 - a2))), h)) else (if ((2 : Int32) * (a3 - a2)) = 0 then none else (if (a3 - a2) < ((a1 - a2) - (a1 - a2) / ((2 : Int32) * (a3 - a2)) * ((2 : Int32) * (a3 - a2))) then f_X6_countedTime_L75 (((2 : Int32) * (a3 - a2)) - ((a1 - a2) - (a1 - a2) / ((2 : Int32) * (a3 - a2)) * ((2 : Int32) * (a3 - a2)))) a2 h else f_X6_countedTime_L75 ((a1 - a2) - (a1 - a2) / ((2 : Int32) * (a3 - a2)) * ((2 : Int32) * (a3 - a2))) a2 h))) else f_X6_countedTime_L23 a1 h)))
noncomputable def f_X6_countedTime (o : Nat) (p0 : Int32) (p1 : Int32) (p2 : Int32) (h : fSt) : Option (Int32 × fSt) := f_X6_countedTime_L0 (some o) p0 p1 p2 h
noncomputable def f_X6_lastKeyUpTo_L29 (a2 : Option Nat) (h : fSt) : Option (Option Nat × fSt) := some (a2, h)
noncomputable def f_X6_lastKeyUpTo_L7 (n : Nat) : Int32 → Option Nat → Option Nat → fSt → Option (Option Nat × fSt) := Nat.rec (motive := fun _ => Int32 → Option Nat → Option Nat → fSt → Option (Option Nat × fSt)) (fun _ _ _ _ => none) (fun _ k7 (a1 : Int32) (a2 : Option Nat) (a3 : Option Nat) (h : fSt) => (if a3 = none then f_X6_lastKeyUpTo_L29 a2 h else (fgI h a3 3 0).bind fun x2 => (if a1 < x2 then f_X6_lastKeyUpTo_L29 a2 h else (fgR h a3 3 2).bind fun x5 => k7 a1 a3 x5 h))) n
noncomputable def f_X6_lastKeyUpTo_L0 (a0 : Option Nat) (a1 : Int32) (h : fSt) : Option (Option Nat × fSt) := (fgR h a0 6 7).bind fun x7 => f_X6_lastKeyUpTo_L7 4096 a1 none x7 h
noncomputable def f_X6_lastKeyUpTo (o : Nat) (p0 : Int32) (h : fSt) : Option (Option Nat × fSt) := f_X6_lastKeyUpTo_L0 (some o) p0 h
noncomputable def f_X6_valueFrom_L16 (a1 : Option Nat) (h : fSt) : Option (Int32 × fSt) := (fgI h a1 3 1).bind fun x1 => some (x1, h)
noncomputable def f_X6_valueFrom_L0 (a0 : Option Nat) (a1 : Option Nat) (a2 : Int32) (h : fSt) : Option (Int32 × fSt) := (fgR h a1 3 2).bind fun x3 => (if x3 = none then f_X6_valueFrom_L16 a1 h else (fgI h a0 6 5).bind fun x6 => (if x6 = 0 then f_X6_valueFrom_L16 a1 h else (fgI h a1 3 0).bind fun x9 => (fgI h x3 3 0).bind fun x11 => (fgI h a1 3 0).bind fun x13 => (if (1 : Int64) ≤ (Int32.toInt64 (x11 - x13)) then (fgI h x3 3 1).bind fun x16 => (fgI h a1 3 1).bind fun x18 => (fgI h a0 6 5).bind fun x20 => (if x20 = (1 : Int32) then (fgI h a1 3 1).bind fun x26 => (if (Int32.toInt64 (x11 - x13)) = 0 then none else some ((Int64.toInt32 ((Int32.toInt64 x26) + (((Int32.toInt64 (x16 - x18)) * (Int32.toInt64 (a2 - x9))) / (Int32.toInt64 (x11 - x13))))), h)) else (fgI h a1 3 1).bind fun x23 => (if (((Int32.toInt64 (x11 - x13)) * (Int32.toInt64 (x11 - x13))) * (Int32.toInt64 (x11 - x13))) = 0 then none else some ((Int64.toInt32 ((Int32.toInt64 x23) + (((((Int32.toInt64 (x16 - x18)) * (Int32.toInt64 (a2 - x9))) * (Int32.toInt64 (a2 - x9))) * (((3 : Int64) * (Int32.toInt64 (x11 - x13))) - ((2 : Int64) * (Int32.toInt64 (a2 - x9))))) / (((Int32.toInt64 (x11 - x13)) * (Int32.toInt64 (x11 - x13))) * (Int32.toInt64 (x11 - x13)))))), h))) else (fgI h a1 3 1).bind fun x29 => some (x29, h))))
noncomputable def f_X6_valueFrom (o : Nat) (p0 : Option Nat) (p1 : Int32) (h : fSt) : Option (Int32 × fSt) := f_X6_valueFrom_L0 (some o) p0 p1 h
noncomputable def f_X6_at_L74 (s0 : Int32) (h : fSt) : Option (Int32 × fSt) := some (s0, h)
noncomputable def f_X6_at_L54 (a0 : Option Nat) (a2 : Int32) (a3 : Option Nat) (h : fSt) : Option (Int32 × fSt) := (if a3 = none then (fgR h a0 6 7).bind fun x6 => (fgI h x6 3 1).bind fun x8 => f_X6_at_L74 x8 h else (fobj h a0 6).bind fun b4 => (f_X6_valueFrom b4 a3 a2 h).bind fun r2 => f_X6_at_L74 r2.1 r2.2)
noncomputable def f_X6_at_L0 (a0 : Option Nat) (a1 : Int32) (h : fSt) : Option (Int32 × fSt) := (fgR h a0 6 7).bind fun x10 => (if x10 = none then (fgI h a0 6 2).bind fun x35 => some (x35, h) else (fobj h a0 6).bind fun b15 => (f_X6_lastKeyUpTo b15 a1 h).bind fun r13 => (if r13.1 = none then f_X6_at_L54 a0 a1 r13.1 r13.2 else (fgR r13.2 r13.1 3 2).bind fun x18 => (if x18 = none then (fgR r13.2 a0 6 7).bind fun x21 => (fgI r13.2 x21 3 0).bind fun x23 => (fgI r13.2 r13.1 3 0).bind fun x25 => (fobj r13.2 a0 6).bind fun b29 => (f_X6_countedTime b29 a1 x23 x25 r13.2).bind fun r27 => (fobj r27.2 a0 6).bind fun b33 => (f_X6_lastKeyUpTo b33 r27.1 r27.2).bind fun r31 => f_X6_at_L54 a0 r27.1 r31.1 r31.2 else f_X6_at_L54 a0 a1 r13.1 r13.2)))
noncomputable def f_X6_at (o : Nat) (p0 : Int32) (h : fSt) : Option (Int32 × fSt) := f_X6_at_L0 (some o) p0 h
set_option maxHeartbeats 4000000 in
set_option maxRecDepth 100000 in
theorem w_X4_depth_L7 {p : Program} {l : Launch} {e : Env} {s : State} {m : MethodId} {args : Array Value} {below : List Frame} {meth : Method} {c : Code} {D : va_G} {cA : Nat → ClassId} {h0 : fSt} {r : (Int32 × fSt)} (M : fM p s m args meth c D cA h0 { frames := 0, cells := fCB h0 - fZ h0, slots := fLB h0 - fL h0, locals := 0 } cX4_depth 3 (some (.int)) RX4) (hfl : l.stackTraces = false) : ∀ (n : Nat) (a1 : Int32) (a2 : Option Nat) (h : fSt), f_X4_depth_L7 n a1 a2 h = some r → ∀ (H : Heap) (locs : List Loc) (cells slots : Nat) (ls : Array Slot), fCur D cA s h0 h H locs → lv_has ls 3 [(1, .int a1), (2, va_rf a2)] → W p l e { frames := 0, cells := fCB h0 - fZ h0, slots := fLB h0 - fL h0, locals := 0 } s m args below meth c H locs cells slots (MQ below (fQ D cA h0 r.2 (some (.int r.1))) args s (fCB h0 - fZ h0) (fLB h0 - fL h0) (fA h0)) (F0 m 7 ls []) := by
  obtain ⟨hx, hb, hml, hr, hlocks, hts, hown, K, hR⟩ := id M
  intro n
  induction n with
  | zero =>
    intro a1 a2 h hf
    exact nomatch (show (none : Option (Int32 × fSt)) = some r from hf)
  | succ n hk7 =>
    intro a1 a2 h hf H locs cells slots ls hC hl
    refine fr_aload_n hx hb dX4_depth_7 rfl (lv_at hl 1 rfl) ?_
    refine fr_ifnull (tgt := 22) hx hb dX4_depth_8 (by decide) (fun c1 => ?_) (fun c1 => ?_)
    · replace hf := opos c1 hf
      refine lv_iload_n hx hb dX4_depth_22 rfl (lv_at hl 0 rfl) ?_
      obtain rfl := Option.some.inj hf
      exact fr_iret hx hb hr hlocks hC dX4_depth_23
    · replace hf := oneg c1 hf
      refine lv_iinc (v := (a1 + (1 : Int32))) (lv' := [(1, .int (a1 + (1 : Int32))), (2, va_rf a2)]) hx hb dX4_depth_11 hl (k := 0) rfl rfl (by decide) (congrArg (List.cons _) (fld rfl (flk rfl fln))) (fun ls hl => ?_)
      refine fr_aload_n hx hb dX4_depth_14 rfl (lv_at hl 1 rfl) ?_
      obtain ⟨x2, g3, hf⟩ := obind hf
      refine fr_get hx hb hts hown K hC ct_4 (fgR_get g3) (by decide) kw183 rfl dX4_depth_15 ?_
      refine fr_astore_n (lv' := [(2, va_rf x2), (1, .int (a1 + (1 : Int32)))]) hx hb dX4_depth_18 rfl hl (by decide) (congrArg (List.cons _) (flk rfl (fld rfl fln))) (fun ls hl => ?_)
      refine lv_goto (tgt := 7) hx hb dX4_depth_19 (by decide) ?_
      exact hk7 _ _ _ hf _ _ _ _ _ hC (lv_sub hl [1, 0] rfl)
set_option maxHeartbeats 4000000 in
set_option maxRecDepth 100000 in
theorem w_X4_depth_L0 {p : Program} {l : Launch} {e : Env} {s : State} {m : MethodId} {args : Array Value} {below : List Frame} {meth : Method} {c : Code} {D : va_G} {cA : Nat → ClassId} {h0 : fSt} {r : (Int32 × fSt)} (M : fM p s m args meth c D cA h0 { frames := 0, cells := fCB h0 - fZ h0, slots := fLB h0 - fL h0, locals := 0 } cX4_depth 3 (some (.int)) RX4) (hfl : l.stackTraces = false) (a0 : Option Nat) (h : fSt) (hf : f_X4_depth_L0 a0 h = some r) : ∀ (H : Heap) (locs : List Loc) (cells slots : Nat) (ls : Array Slot), fCur D cA s h0 h H locs → lv_has ls 3 [(0, va_rf a0)] → W p l e { frames := 0, cells := fCB h0 - fZ h0, slots := fLB h0 - fL h0, locals := 0 } s m args below meth c H locs cells slots (MQ below (fQ D cA h0 r.2 (some (.int r.1))) args s (fCB h0 - fZ h0) (fLB h0 - fL h0) (fA h0)) (F0 m 0 ls []) := by
  obtain ⟨hx, hb, hml, hr, hlocks, hts, hown, K, hR⟩ := id M
  intro H locs cells slots ls hC hl
  refine lv_iconst (v := (0 : Int32)) hx hb dX4_depth_0 (by decide) ?_
  refine lv_istore_n (lv' := [(1, .int (0 : Int32)), (0, va_rf a0)]) hx hb dX4_depth_1 rfl hl (by decide) (congrArg (List.cons _) (flk (adj1 _ _) fln)) (fun ls hl => ?_)
  refine fr_aload_n hx hb dX4_depth_2 rfl (lv_at hl 1 rfl) ?_
  obtain ⟨x4, g5, hf⟩ := obind hf
  refine fr_get hx hb hts hown K hC ct_4 (fgR_get g5) (by decide) kw183 rfl dX4_depth_3 ?_
  refine fr_astore_n (lv' := [(2, va_rf x4), (1, .int (0 : Int32)), (0, va_rf a0)]) hx hb dX4_depth_6 rfl hl (by decide) (congrArg (List.cons _) (flk rfl (flk rfl fln))) (fun ls hl => ?_)
  exact w_X4_depth_L7 M hfl 4096 _ _ _ hf _ _ _ _ _ hC (lv_sub hl [1, 0] rfl)
set_option maxRecDepth 100000 in
theorem c_X4_depth {l : Launch} (hfl : l.stackTraces = false) (D : va_G) (cA : Nat → ClassId) {o : Nat} {h : fSt} {r : (Int32 × fSt)} (hf : f_X4_depth o h = some r) : fMet l yX4_depth (wsC yX4_depth cX4_depth 3 (some (.int))) (0) (0) D cA [.ref o] h r.2 (some (.int r.1)) := by
  exact fMet.of (own := RX4) (by decide +kernel) rfl (lva1 rfl lva0) (lgl1 rfl lgl0) (Nat.le_of_ble_eq_true rfl) (fun p e s m args below meth c ls hnm _ M hC hl => by
    have hl : lv_has ls 3 [(0, va_rf (some o))] := hl
    exact w_X4_depth_L0 M hfl _ _ hf _ _ _ _ _ hC (lv_sub hl [0] rfl))
set_option maxHeartbeats 4000000 in
set_option maxRecDepth 100000 in
theorem w_X2_init_L0 {p : Program} {l : Launch} {e : Env} {s : State} {m : MethodId} {args : Array Value} {below : List Frame} {meth : Method} {c : Code} {D : va_G} {cA : Nat → ClassId} {h0 : fSt} {r : (Unit × fSt)} (M : fM p s m args meth c D cA h0 { frames := 1, cells := fCB h0 - fZ h0, slots := fLB h0 - fL h0, locals := 20 } cX2_init 5 none RX2) (hfl : l.stackTraces = false) (hnm : meth.name = "<init>") (a0 : Option Nat) (a1 : Int32) (a2 : Int32) (a3 : Int32) (a4 : Int32) (h : fSt) (hf : f_X2_init_L0 a0 a1 a2 a3 a4 h = some r) : ∀ (H : Heap) (locs : List Loc) (cells slots : Nat) (ls : Array Slot), fCur D cA s h0 h H locs → lv_has ls 5 [(0, va_rf a0), (1, .int a1), (2, .int a2), (3, .int a3), (4, .int a4)] → W p l e { frames := 1, cells := fCB h0 - fZ h0, slots := fLB h0 - fL h0, locals := 20 } s m args below meth c H locs cells slots (MQ below (fQ D cA h0 r.2 none) args s (fCB h0 - fZ h0) (fLB h0 - fL h0) (fA h0)) (F0 m 0 ls []) := by
  obtain ⟨hx, hb, hml, hr, hlocks, hts, hown, K, hR⟩ := id M
  intro H locs cells slots ls hC hl
  refine fr_aload_n hx hb dX2_init_0 rfl (lv_at hl 0 rfl) ?_
  obtain ⟨b1, q2, hf⟩ := obind hf
  refine fr_objInit hx hb hml hts hown kw133 kw78 kw79 hl.1 (fobj_inv q2).1 dX2_init_1 (by exact Nat.le_of_ble_eq_true rfl) (catL _ _ (by exact Nat.le_of_ble_eq_true rfl) (by exact Nat.le_of_ble_eq_true rfl)) ?_
  refine fr_aload_n hx hb dX2_init_4 rfl (lv_at hl 0 rfl) ?_
  refine lv_iload_n hx hb dX2_init_5 rfl (lv_at hl 1 rfl) ?_
  obtain ⟨h3, g4, hf⟩ := obind hf
  refine fr_putF hx hb hts hown K hC ct_2 g4 (by decide) kw134 rfl rfl hnm rfl rfl rfl dX2_init_6 (fun H locs hC => ?_)
  refine fr_aload_n hx hb dX2_init_9 rfl (lv_at hl 0 rfl) ?_
  refine lv_iload_n hx hb dX2_init_10 rfl (lv_at hl 2 rfl) ?_
  obtain ⟨h5, g6, hf⟩ := obind hf
  refine fr_putF hx hb hts hown K hC ct_2 g6 (by decide) kw136 rfl rfl hnm rfl rfl rfl dX2_init_11 (fun H locs hC => ?_)
  refine fr_aload_n hx hb dX2_init_14 rfl (lv_at hl 0 rfl) ?_
  refine lv_iload_n hx hb dX2_init_15 rfl (lv_at hl 3 rfl) ?_
  obtain ⟨h7, g8, hf⟩ := obind hf
  refine fr_putF hx hb hts hown K hC ct_2 g8 (by decide) kw138 rfl rfl hnm rfl rfl rfl dX2_init_16 (fun H locs hC => ?_)
  refine fr_aload_n hx hb dX2_init_19 rfl (lv_at hl 0 rfl) ?_
  refine lv_iload hx hb dX2_init_20 (lv_at hl 4 rfl) ?_
  obtain ⟨h9, g10, hf⟩ := obind hf
  refine fr_putF hx hb hts hown K hC ct_2 g10 (by decide) kw140 rfl rfl hnm rfl rfl rfl dX2_init_22 (fun H locs hC => ?_)
  obtain rfl := Option.some.inj hf
  exact fr_vret hx hb hr hlocks hC dX2_init_25
set_option maxRecDepth 100000 in
theorem c_X2_init {l : Launch} (hfl : l.stackTraces = false) (D : va_G) (cA : Nat → ClassId) {o : Nat} {p0 : Int32} {p1 : Int32} {p2 : Int32} {p3 : Int32} {h : fSt} {r : (Unit × fSt)} (hf : f_X2_init o p0 p1 p2 p3 h = some r) : fMet l yX2_init (wsC yX2_init cX2_init 5 none) (1) (20) D cA [.ref o, .int p0, .int p1, .int p2, .int p3] h r.2 none := by
  exact fMet.of (own := RX2) (by decide +kernel) rfl (lva1 rfl (lva1 rfl (lva1 rfl (lva1 rfl (lva1 rfl lva0))))) (lgl1 rfl (lgl1 rfl (lgl1 rfl (lgl1 rfl (lgl1 rfl lgl0))))) (Nat.le_of_ble_eq_true rfl) (fun p e s m args below meth c ls hnm _ M hC hl => by
    have hl : lv_has ls 5 [(0, va_rf (some o)), (1, .int p0), (2, .int p1), (3, .int p2), (4, .int p3)] := hl
    exact w_X2_init_L0 M hfl (show meth.name = "<init>" from hnm) _ _ _ _ _ _ hf _ _ _ _ _ hC (lv_sub hl [0, 1, 2, 3, 4] rfl))
set_option maxHeartbeats 4000000 in
set_option maxRecDepth 100000 in
theorem w_X6_init_L0 {p : Program} {l : Launch} {e : Env} {s : State} {m : MethodId} {args : Array Value} {below : List Frame} {meth : Method} {c : Code} {D : va_G} {cA : Nat → ClassId} {h0 : fSt} {r : (Unit × fSt)} (M : fM p s m args meth c D cA h0 { frames := 1, cells := fCB h0 - fZ h0, slots := fLB h0 - fL h0, locals := 20 } cX6_init 4 none RX6) (hfl : l.stackTraces = false) (hnm : meth.name = "<init>") (a0 : Option Nat) (a1 : Int32) (a2 : Int32) (a3 : Int32) (h : fSt) (hf : f_X6_init_L0 a0 a1 a2 a3 h = some r) : ∀ (H : Heap) (locs : List Loc) (cells slots : Nat) (ls : Array Slot), fCur D cA s h0 h H locs → lv_has ls 4 [(0, va_rf a0), (1, .int a1), (2, .int a2), (3, .int a3)] → W p l e { frames := 1, cells := fCB h0 - fZ h0, slots := fLB h0 - fL h0, locals := 20 } s m args below meth c H locs cells slots (MQ below (fQ D cA h0 r.2 none) args s (fCB h0 - fZ h0) (fLB h0 - fL h0) (fA h0)) (F0 m 0 ls []) := by
  obtain ⟨hx, hb, hml, hr, hlocks, hts, hown, K, hR⟩ := id M
  intro H locs cells slots ls hC hl
  refine fr_aload_n hx hb dX6_init_0 rfl (lv_at hl 0 rfl) ?_
  obtain ⟨b1, q2, hf⟩ := obind hf
  refine fr_objInit hx hb hml hts hown kw94 kw78 kw79 hl.1 (fobj_inv q2).1 dX6_init_1 (by exact Nat.le_of_ble_eq_true rfl) (catL _ _ (by exact Nat.le_of_ble_eq_true rfl) (by exact Nat.le_of_ble_eq_true rfl)) ?_
  refine fr_aload_n hx hb dX6_init_4 rfl (lv_at hl 0 rfl) ?_
  refine lv_iload_n hx hb dX6_init_5 rfl (lv_at hl 1 rfl) ?_
  obtain ⟨h3, g4, hf⟩ := obind hf
  refine fr_put hx hb hts hown K hC ct_6 g4 (by decide) kw97 rfl rfl rfl rfl dX6_init_6 (fun H locs hC => ?_)
  refine fr_aload_n hx hb dX6_init_9 rfl (lv_at hl 0 rfl) ?_
  refine lv_iload_n hx hb dX6_init_10 rfl (lv_at hl 2 rfl) ?_
  obtain ⟨h5, g6, hf⟩ := obind hf
  refine fr_putF hx hb hts hown K hC ct_6 g6 (by decide) kw95 rfl rfl hnm rfl rfl rfl dX6_init_11 (fun H locs hC => ?_)
  refine fr_aload_n hx hb dX6_init_14 rfl (lv_at hl 0 rfl) ?_
  refine lv_iload_n hx hb dX6_init_15 rfl (lv_at hl 3 rfl) ?_
  obtain ⟨h7, g8, hf⟩ := obind hf
  refine fr_putF hx hb hts hown K hC ct_6 g8 (by decide) kw96 rfl rfl hnm rfl rfl rfl dX6_init_16 (fun H locs hC => ?_)
  obtain rfl := Option.some.inj hf
  exact fr_vret hx hb hr hlocks hC dX6_init_19
set_option maxRecDepth 100000 in
theorem c_X6_init {l : Launch} (hfl : l.stackTraces = false) (D : va_G) (cA : Nat → ClassId) {o : Nat} {p0 : Int32} {p1 : Int32} {p2 : Int32} {h : fSt} {r : (Unit × fSt)} (hf : f_X6_init o p0 p1 p2 h = some r) : fMet l yX6_init (wsC yX6_init cX6_init 4 none) (1) (20) D cA [.ref o, .int p0, .int p1, .int p2] h r.2 none := by
  exact fMet.of (own := RX6) (by decide +kernel) rfl (lva1 rfl (lva1 rfl (lva1 rfl (lva1 rfl lva0)))) (lgl1 rfl (lgl1 rfl (lgl1 rfl (lgl1 rfl lgl0)))) (Nat.le_of_ble_eq_true rfl) (fun p e s m args below meth c ls hnm _ M hC hl => by
    have hl : lv_has ls 4 [(0, va_rf (some o)), (1, .int p0), (2, .int p1), (3, .int p2)] := hl
    exact w_X6_init_L0 M hfl (show meth.name = "<init>" from hnm) _ _ _ _ _ hf _ _ _ _ _ hC (lv_sub hl [0, 1, 2, 3] rfl))
set_option maxHeartbeats 4000000 in
set_option maxRecDepth 100000 in
theorem w_X4_init_L0 {p : Program} {l : Launch} {e : Env} {s : State} {m : MethodId} {args : Array Value} {below : List Frame} {meth : Method} {c : Code} {D : va_G} {cA : Nat → ClassId} {h0 : fSt} {r : (Unit × fSt)} (M : fM p s m args meth c D cA h0 { frames := 2, cells := fCB h0 - fZ h0, slots := fLB h0 - fL h0, locals := 44 } cX4_init 5 none RX4) (hfl : l.stackTraces = false) (hnm : meth.name = "<init>") (a0 : Option Nat) (a1 : Int32) (a2 : Int32) (a3 : Int32) (a4 : Int32) (h : fSt) (hf : f_X4_init_L0 a0 a1 a2 a3 a4 h = some r) : ∀ (H : Heap) (locs : List Loc) (cells slots : Nat) (ls : Array Slot), fCur D cA s h0 h H locs → lv_has ls 5 [(0, va_rf a0), (1, .int a1), (2, .int a2), (3, .int a3), (4, .int a4)] → W p l e { frames := 2, cells := fCB h0 - fZ h0, slots := fLB h0 - fL h0, locals := 44 } s m args below meth c H locs cells slots (MQ below (fQ D cA h0 r.2 none) args s (fCB h0 - fZ h0) (fLB h0 - fL h0) (fA h0)) (F0 m 0 ls []) := by
  obtain ⟨hx, hb, hml, hr, hlocks, hts, hown, K, hR⟩ := id M
  intro H locs cells slots ls hC hl
  refine fr_aload_n hx hb dX4_init_0 rfl (lv_at hl 0 rfl) ?_
  obtain ⟨b1, q2, hf⟩ := obind hf
  refine fr_objInit hx hb hml hts hown kw88 kw78 kw79 hl.1 (fobj_inv q2).1 dX4_init_1 (by exact Nat.le_of_ble_eq_true rfl) (catL _ _ (by exact Nat.le_of_ble_eq_true rfl) (by exact Nat.le_of_ble_eq_true rfl)) ?_
  refine fr_aload_n hx hb dX4_init_4 rfl (lv_at hl 0 rfl) ?_
  obtain ⟨r3, g4, hf⟩ := obind hf
  refine fr_new hx hb hts hown K hC ct_6 hR g4 dv_6 kw89 kw90 kw57 dX4_init_5 (fun H _ _ hC => ?_)
  refine lv_dup hx hb dX4_init_8 (va_rf_cat _) ?_
  refine lv_iconst (v := (0 : Int32)) hx hb dX4_init_9 (by decide) ?_
  refine lv_sipush (v := (-200 : Int32)) hx hb dX4_init_10 (by decide) ?_
  refine lv_sipush (v := (200 : Int32)) hx hb dX4_init_13 (by decide) ?_
  obtain ⟨r5, g6, hf⟩ := obind hf
  refine fr_callI hx hb hml hts hown K hC hR (c_X6_init hfl D cA g6) 3 kw93 kw91 kw92 kw57 rfl (by decide +kernel) ⟨by exact Nat.le_of_ble_eq_true rfl, by exact Nat.le_of_ble_eq_true rfl⟩ rfl hl.1 (cat8 _ (by exact Nat.le_of_ble_eq_true rfl)) dX4_init_16 rfl (fun H locs _ _ hC => ?_)
  obtain ⟨h7, g8, hf⟩ := obind hf
  refine fr_putF hx hb hts hown K hC ct_4 g8 (by decide) kw157 rfl rfl hnm rfl (nR _ _) (fR _ _) dX4_init_19 (fun H locs hC => ?_)
  refine fr_aload_n hx hb dX4_init_22 rfl (lv_at hl 0 rfl) ?_
  obtain ⟨r9, g10, hf⟩ := obind hf
  refine fr_new hx hb hts hown K hC ct_6 hR g10 dv_6 kw89 kw90 kw57 dX4_init_23 (fun H _ _ hC => ?_)
  refine lv_dup hx hb dX4_init_26 (va_rf_cat _) ?_
  refine lv_iconst (v := (0 : Int32)) hx hb dX4_init_27 (by decide) ?_
  refine lv_sipush (v := (-200 : Int32)) hx hb dX4_init_28 (by decide) ?_
  refine lv_sipush (v := (200 : Int32)) hx hb dX4_init_31 (by decide) ?_
  obtain ⟨r11, g12, hf⟩ := obind hf
  refine fr_callI hx hb hml hts hown K hC hR (c_X6_init hfl D cA g12) 3 kw93 kw91 kw92 kw57 rfl (by decide +kernel) ⟨by exact Nat.le_of_ble_eq_true rfl, by exact Nat.le_of_ble_eq_true rfl⟩ rfl hl.1 (cat8 _ (by exact Nat.le_of_ble_eq_true rfl)) dX4_init_34 rfl (fun H locs _ _ hC => ?_)
  obtain ⟨h13, g14, hf⟩ := obind hf
  refine fr_putF hx hb hts hown K hC ct_4 g14 (by decide) kw160 rfl rfl hnm rfl (nR _ _) (fR _ _) dX4_init_37 (fun H locs hC => ?_)
  refine fr_aload_n hx hb dX4_init_40 rfl (lv_at hl 0 rfl) ?_
  obtain ⟨r15, g16, hf⟩ := obind hf
  refine fr_new hx hb hts hown K hC ct_6 hR g16 dv_6 kw89 kw90 kw57 dX4_init_41 (fun H _ _ hC => ?_)
  refine lv_dup hx hb dX4_init_44 (va_rf_cat _) ?_
  refine lv_iconst (v := (0 : Int32)) hx hb dX4_init_45 (by decide) ?_
  refine lv_iconst (v := (0 : Int32)) hx hb dX4_init_46 (by decide) ?_
  refine lv_iconst (v := (3 : Int32)) hx hb dX4_init_47 (by decide) ?_
  obtain ⟨r17, g18, hf⟩ := obind hf
  refine fr_callI hx hb hml hts hown K hC hR (c_X6_init hfl D cA g18) 3 kw93 kw91 kw92 kw57 rfl (by decide +kernel) ⟨by exact Nat.le_of_ble_eq_true rfl, by exact Nat.le_of_ble_eq_true rfl⟩ rfl hl.1 (cat8 _ (by exact Nat.le_of_ble_eq_true rfl)) dX4_init_48 rfl (fun H locs _ _ hC => ?_)
  obtain ⟨h19, g20, hf⟩ := obind hf
  refine fr_putF hx hb hts hown K hC ct_4 g20 (by decide) kw163 rfl rfl hnm rfl (nR _ _) (fR _ _) dX4_init_51 (fun H locs hC => ?_)
  refine fr_aload_n hx hb dX4_init_54 rfl (lv_at hl 0 rfl) ?_
  obtain ⟨r21, g22, hf⟩ := obind hf
  refine fr_new hx hb hts hown K hC ct_6 hR g22 dv_6 kw89 kw90 kw57 dX4_init_55 (fun H _ _ hC => ?_)
  refine lv_dup hx hb dX4_init_58 (va_rf_cat _) ?_
  refine lv_bipush (v := (100 : Int32)) hx hb dX4_init_59 (by decide) ?_
  refine lv_iconst (v := (0 : Int32)) hx hb dX4_init_61 (by decide) ?_
  refine lv_bipush (v := (100 : Int32)) hx hb dX4_init_62 (by decide) ?_
  obtain ⟨r23, g24, hf⟩ := obind hf
  refine fr_callI hx hb hml hts hown K hC hR (c_X6_init hfl D cA g24) 3 kw93 kw91 kw92 kw57 rfl (by decide +kernel) ⟨by exact Nat.le_of_ble_eq_true rfl, by exact Nat.le_of_ble_eq_true rfl⟩ rfl hl.1 (cat8 _ (by exact Nat.le_of_ble_eq_true rfl)) dX4_init_64 rfl (fun H locs _ _ hC => ?_)
  obtain ⟨h25, g26, hf⟩ := obind hf
  refine fr_putF hx hb hts hown K hC ct_4 g26 (by decide) kw166 rfl rfl hnm rfl (nR _ _) (fR _ _) dX4_init_67 (fun H locs hC => ?_)
  refine fr_aload_n hx hb dX4_init_70 rfl (lv_at hl 0 rfl) ?_
  refine lv_iconst (v := (1 : Int32)) hx hb dX4_init_71 (by decide) ?_
  obtain ⟨h27, g28, hf⟩ := obind hf
  refine fr_put hx hb hts hown K hC ct_4 g28 (by decide) kw168 rfl rfl rfl rfl dX4_init_72 (fun H locs hC => ?_)
  refine fr_aload_n hx hb dX4_init_75 rfl (lv_at hl 0 rfl) ?_
  refine lv_iconst (v := (1 : Int32)) hx hb dX4_init_76 (by decide) ?_
  obtain ⟨h29, g30, hf⟩ := obind hf
  refine fr_put hx hb hts hown K hC ct_4 g30 (by decide) kw171 rfl rfl rfl rfl dX4_init_77 (fun H locs hC => ?_)
  refine fr_aload_n hx hb dX4_init_80 rfl (lv_at hl 0 rfl) ?_
  refine lv_iload_n hx hb dX4_init_81 rfl (lv_at hl 1 rfl) ?_
  obtain ⟨h31, g32, hf⟩ := obind hf
  refine fr_putF hx hb hts hown K hC ct_4 g32 (by decide) kw151 rfl rfl hnm rfl rfl rfl dX4_init_82 (fun H locs hC => ?_)
  refine fr_aload_n hx hb dX4_init_85 rfl (lv_at hl 0 rfl) ?_
  refine lv_iload_n hx hb dX4_init_86 rfl (lv_at hl 2 rfl) ?_
  obtain ⟨h33, g34, hf⟩ := obind hf
  refine fr_putF hx hb hts hown K hC ct_4 g34 (by decide) kw153 rfl rfl hnm rfl rfl rfl dX4_init_87 (fun H locs hC => ?_)
  refine fr_aload_n hx hb dX4_init_90 rfl (lv_at hl 0 rfl) ?_
  obtain ⟨r35, g36, hf⟩ := obind hf
  refine fr_new hx hb hts hown K hC ct_2 hR g36 dv_2 kw128 kw129 kw58 dX4_init_91 (fun H _ _ hC => ?_)
  refine lv_dup hx hb dX4_init_94 (va_rf_cat _) ?_
  refine lv_iconst (v := (0 : Int32)) hx hb dX4_init_95 (by decide) ?_
  refine lv_iconst (v := (0 : Int32)) hx hb dX4_init_96 (by decide) ?_
  refine lv_iload_n hx hb dX4_init_97 rfl (lv_at hl 3 rfl) ?_
  refine lv_iload hx hb dX4_init_98 (lv_at hl 4 rfl) ?_
  obtain ⟨r37, g38, hf⟩ := obind hf
  refine fr_callI hx hb hml hts hown K hC hR (c_X2_init hfl D cA g38) 4 kw132 kw130 kw131 kw58 rfl (by decide +kernel) ⟨by exact Nat.le_of_ble_eq_true rfl, by exact Nat.le_of_ble_eq_true rfl⟩ rfl hl.1 (cat8 _ (by exact Nat.le_of_ble_eq_true rfl)) dX4_init_100 rfl (fun H locs _ _ hC => ?_)
  obtain ⟨h39, g40, hf⟩ := obind hf
  refine fr_putF hx hb hts hown K hC ct_4 g40 (by decide) kw155 rfl rfl hnm rfl (nR _ _) (fR _ _) dX4_init_103 (fun H locs hC => ?_)
  obtain rfl := Option.some.inj hf
  exact fr_vret hx hb hr hlocks hC dX4_init_106
set_option maxRecDepth 100000 in
theorem c_X4_init {l : Launch} (hfl : l.stackTraces = false) (D : va_G) (cA : Nat → ClassId) {o : Nat} {p0 : Int32} {p1 : Int32} {p2 : Int32} {p3 : Int32} {h : fSt} {r : (Unit × fSt)} (hf : f_X4_init o p0 p1 p2 p3 h = some r) : fMet l yX4_init (wsC yX4_init cX4_init 5 none) (2) (44) D cA [.ref o, .int p0, .int p1, .int p2, .int p3] h r.2 none := by
  exact fMet.of (own := RX4) (by decide +kernel) rfl (lva1 rfl (lva1 rfl (lva1 rfl (lva1 rfl (lva1 rfl lva0))))) (lgl1 rfl (lgl1 rfl (lgl1 rfl (lgl1 rfl (lgl1 rfl lgl0))))) (Nat.le_of_ble_eq_true rfl) (fun p e s m args below meth c ls hnm _ M hC hl => by
    have hl : lv_has ls 5 [(0, va_rf (some o)), (1, .int p0), (2, .int p1), (3, .int p2), (4, .int p3)] := hl
    exact w_X4_init_L0 M hfl (show meth.name = "<init>" from hnm) _ _ _ _ _ _ hf _ _ _ _ _ hC (lv_sub hl [0, 1, 2, 3, 4] rfl))
set_option maxHeartbeats 4000000 in
set_option maxRecDepth 100000 in
theorem w_X4_takeIn_L38 {p : Program} {l : Launch} {e : Env} {s : State} {m : MethodId} {args : Array Value} {below : List Frame} {meth : Method} {c : Code} {D : va_G} {cA : Nat → ClassId} {h0 : fSt} {r : (Unit × fSt)} (M : fM p s m args meth c D cA h0 { frames := 0, cells := fCB h0 - fZ h0, slots := fLB h0 - fL h0, locals := 0 } cX4_takeIn 4 none RX4) (hfl : l.stackTraces = false) (a0 : Option Nat) (a1 : Option Nat) (h : fSt) (hf : f_X4_takeIn_L38 a0 a1 h = some r) : ∀ (H : Heap) (locs : List Loc) (cells slots : Nat) (ls : Array Slot), fCur D cA s h0 h H locs → lv_has ls 4 [(0, va_rf a0), (1, va_rf a1)] → W p l e { frames := 0, cells := fCB h0 - fZ h0, slots := fLB h0 - fL h0, locals := 0 } s m args below meth c H locs cells slots (MQ below (fQ D cA h0 r.2 none) args s (fCB h0 - fZ h0) (fLB h0 - fL h0) (fA h0)) (F0 m 38 ls []) := by
  obtain ⟨hx, hb, hml, hr, hlocks, hts, hown, K, hR⟩ := id M
  intro H locs cells slots ls hC hl
  refine fr_aload_n hx hb dX4_takeIn_38 rfl (lv_at hl 1 rfl) ?_
  refine fr_null hx hb dX4_takeIn_39 ?_
  obtain ⟨h1, g2, hf⟩ := obind hf
  refine fr_put hx hb hts hown K hC ct_4 g2 (by decide) kw187 rfl rfl (nR _ _) (fR _ _) dX4_takeIn_40 (fun H locs hC => ?_)
  refine fr_aload_n hx hb dX4_takeIn_43 rfl (lv_at hl 1 rfl) ?_
  refine fr_aload_n hx hb dX4_takeIn_44 rfl (lv_at hl 0 rfl) ?_
  obtain ⟨h3, g4, hf⟩ := obind hf
  refine fr_put hx hb hts hown K hC ct_4 g4 (by decide) kw183 rfl rfl (nR _ _) (fR _ _) dX4_takeIn_45 (fun H locs hC => ?_)
  obtain rfl := Option.some.inj hf
  exact fr_vret hx hb hr hlocks hC dX4_takeIn_48
set_option maxHeartbeats 4000000 in
set_option maxRecDepth 100000 in
theorem w_X4_takeIn_L7 {p : Program} {l : Launch} {e : Env} {s : State} {m : MethodId} {args : Array Value} {below : List Frame} {meth : Method} {c : Code} {D : va_G} {cA : Nat → ClassId} {h0 : fSt} {r : (Unit × fSt)} (M : fM p s m args meth c D cA h0 { frames := 0, cells := fCB h0 - fZ h0, slots := fLB h0 - fL h0, locals := 0 } cX4_takeIn 4 none RX4) (hfl : l.stackTraces = false) : ∀ (n : Nat) (a0 : Option Nat) (a1 : Option Nat) (a2 : Option Nat) (a3 : Option Nat) (h : fSt), f_X4_takeIn_L7 n a0 a1 a2 a3 h = some r → ∀ (H : Heap) (locs : List Loc) (cells slots : Nat) (ls : Array Slot), fCur D cA s h0 h H locs → lv_has ls 4 [(0, va_rf a0), (1, va_rf a1), (2, va_rf a2), (3, va_rf a3)] → W p l e { frames := 0, cells := fCB h0 - fZ h0, slots := fLB h0 - fL h0, locals := 0 } s m args below meth c H locs cells slots (MQ below (fQ D cA h0 r.2 none) args s (fCB h0 - fZ h0) (fLB h0 - fL h0) (fA h0)) (F0 m 7 ls []) := by
  obtain ⟨hx, hb, hml, hr, hlocks, hts, hown, K, hR⟩ := id M
  intro n
  induction n with
  | zero =>
    intro a0 a1 a2 a3 h hf
    exact nomatch (show (none : Option (Unit × fSt)) = some r from hf)
  | succ n hk7 =>
    intro a0 a1 a2 a3 h hf H locs cells slots ls hC hl
    refine fr_aload_n hx hb dX4_takeIn_7 rfl (lv_at hl 3 rfl) ?_
    refine fr_ifnull (tgt := 21) hx hb dX4_takeIn_8 (by decide) (fun c5 => ?_) (fun c5 => ?_)
    · replace hf := opos c5 hf
      refine fr_aload_n hx hb dX4_takeIn_21 rfl (lv_at hl 2 rfl) ?_
      refine fr_ifnonnull (tgt := 33) hx hb dX4_takeIn_22 (by decide) (fun c6 => ?_) (fun c6 => ?_)
      · replace hf := oneg c6 hf
        refine fr_aload_n hx hb dX4_takeIn_33 rfl (lv_at hl 2 rfl) ?_
        refine fr_aload_n hx hb dX4_takeIn_34 rfl (lv_at hl 1 rfl) ?_
        obtain ⟨h7, g8, hf⟩ := obind hf
        refine fr_put hx hb hts hown K hC ct_4 g8 (by decide) kw187 rfl rfl (nR _ _) (fR _ _) dX4_takeIn_35 (fun H locs hC => ?_)
        exact w_X4_takeIn_L38 M hfl _ _ _ hf _ _ _ _ _ hC (lv_sub hl [0, 1] rfl)
      · replace hf := opos c6 hf
        refine fr_aload_n hx hb dX4_takeIn_25 rfl (lv_at hl 0 rfl) ?_
        refine fr_aload_n hx hb dX4_takeIn_26 rfl (lv_at hl 1 rfl) ?_
        obtain ⟨h9, g10, hf⟩ := obind hf
        refine fr_put hx hb hts hown K hC ct_4 g10 (by decide) kw185 rfl rfl (nR _ _) (fR _ _) dX4_takeIn_27 (fun H locs hC => ?_)
        refine lv_goto (tgt := 38) hx hb dX4_takeIn_30 (by decide) ?_
        exact w_X4_takeIn_L38 M hfl _ _ _ hf _ _ _ _ _ hC (lv_sub hl [0, 1] rfl)
    · replace hf := oneg c5 hf
      refine fr_aload_n hx hb dX4_takeIn_11 rfl (lv_at hl 3 rfl) ?_
      refine fr_astore_n (lv' := [(2, va_rf a3), (0, va_rf a0), (1, va_rf a1), (3, va_rf a3)]) hx hb dX4_takeIn_12 rfl hl (by decide) (congrArg (List.cons _) (flk rfl (flk (adj1 _ _) (fld rfl (flk rfl fln))))) (fun ls hl => ?_)
      refine fr_aload_n hx hb dX4_takeIn_13 rfl (lv_at hl 3 rfl) ?_
      obtain ⟨x11, g12, hf⟩ := obind hf
      refine fr_get hx hb hts hown K hC ct_4 (fgR_get g12) (by decide) kw187 rfl dX4_takeIn_14 ?_
      refine fr_astore_n (lv' := [(3, va_rf x11), (2, va_rf a3), (0, va_rf a0), (1, va_rf a1)]) hx hb dX4_takeIn_17 rfl hl (by decide) (congrArg (List.cons _) (flk (adj1 _ _) (flk rfl (flk rfl (fld rfl fln))))) (fun ls hl => ?_)
      refine lv_goto (tgt := 7) hx hb dX4_takeIn_18 (by decide) ?_
      exact hk7 _ _ _ _ _ hf _ _ _ _ _ hC (lv_sub hl [2, 3, 1, 0] rfl)
set_option maxHeartbeats 4000000 in
set_option maxRecDepth 100000 in
theorem w_X4_takeIn_L0 {p : Program} {l : Launch} {e : Env} {s : State} {m : MethodId} {args : Array Value} {below : List Frame} {meth : Method} {c : Code} {D : va_G} {cA : Nat → ClassId} {h0 : fSt} {r : (Unit × fSt)} (M : fM p s m args meth c D cA h0 { frames := 0, cells := fCB h0 - fZ h0, slots := fLB h0 - fL h0, locals := 0 } cX4_takeIn 4 none RX4) (hfl : l.stackTraces = false) (a0 : Option Nat) (a1 : Option Nat) (h : fSt) (hf : f_X4_takeIn_L0 a0 a1 h = some r) : ∀ (H : Heap) (locs : List Loc) (cells slots : Nat) (ls : Array Slot), fCur D cA s h0 h H locs → lv_has ls 4 [(0, va_rf a0), (1, va_rf a1)] → W p l e { frames := 0, cells := fCB h0 - fZ h0, slots := fLB h0 - fL h0, locals := 0 } s m args below meth c H locs cells slots (MQ below (fQ D cA h0 r.2 none) args s (fCB h0 - fZ h0) (fLB h0 - fL h0) (fA h0)) (F0 m 0 ls []) := by
  obtain ⟨hx, hb, hml, hr, hlocks, hts, hown, K, hR⟩ := id M
  intro H locs cells slots ls hC hl
  refine fr_null hx hb dX4_takeIn_0 ?_
  refine fr_astore_n (lv' := [(2, va_rf none), (0, va_rf a0), (1, va_rf a1)]) hx hb dX4_takeIn_1 rfl hl (by decide) (congrArg (List.cons _) (flk rfl (flk (adj1 _ _) fln))) (fun ls hl => ?_)
  refine fr_aload_n hx hb dX4_takeIn_2 rfl (lv_at hl 1 rfl) ?_
  obtain ⟨x13, g14, hf⟩ := obind hf
  refine fr_get hx hb hts hown K hC ct_4 (fgR_get g14) (by decide) kw185 rfl dX4_takeIn_3 ?_
  refine fr_astore_n (lv' := [(3, va_rf x13), (2, va_rf none), (0, va_rf a0), (1, va_rf a1)]) hx hb dX4_takeIn_6 rfl hl (by decide) (congrArg (List.cons _) (flk (adj1 _ _) (flk rfl (flk rfl fln)))) (fun ls hl => ?_)
  exact w_X4_takeIn_L7 M hfl 4096 _ _ _ _ _ hf _ _ _ _ _ hC (lv_sub hl [2, 3, 1, 0] rfl)
set_option maxRecDepth 100000 in
theorem c_X4_takeIn {l : Launch} (hfl : l.stackTraces = false) (D : va_G) (cA : Nat → ClassId) {o : Nat} {p0 : Option Nat} {h : fSt} {r : (Unit × fSt)} (hf : f_X4_takeIn o p0 h = some r) : fMet l yX4_takeIn (wsC yX4_takeIn cX4_takeIn 4 none) (0) (0) D cA [.ref o, va_rf p0] h r.2 none := by
  exact fMet.of (own := RX4) (by decide +kernel) rfl (lva1 rfl (lva1 (va_rf_cat _) lva0)) (lgl1 rfl (lgl1 (va_rf_cat _) lgl0)) (Nat.le_of_ble_eq_true rfl) (fun p e s m args below meth c ls hnm _ M hC hl => by
    have hl : lv_has ls 4 [(0, va_rf (some o)), (1, va_rf p0)] := hl
    exact w_X4_takeIn_L0 M hfl _ _ _ hf _ _ _ _ _ hC (lv_sub hl [0, 1] rfl))
set_option maxHeartbeats 4000000 in
set_option maxRecDepth 100000 in
theorem w_X7_nodeOrNull_L13 {p : Program} {l : Launch} {e : Env} {s : State} {m : MethodId} {args : Array Value} {below : List Frame} {meth : Method} {c : Code} {D : va_G} {cA : Nat → ClassId} {h0 : fSt} {r : (Option Nat × fSt)} (M : fM p s m args meth c D cA h0 { frames := 0, cells := fCB h0 - fZ h0, slots := fLB h0 - fL h0, locals := 0 } cX7_nodeOrNull 3 (some (.object "TapestryScene$Node")) RX7) (hfl : l.stackTraces = false)  (h : fSt) (hf : f_X7_nodeOrNull_L13  h = some r) : ∀ (H : Heap) (locs : List Loc) (cells slots : Nat) (ls : Array Slot), fCur D cA s h0 h H locs → lv_has ls 3 [] → W p l e { frames := 0, cells := fCB h0 - fZ h0, slots := fLB h0 - fL h0, locals := 0 } s m args below meth c H locs cells slots (MQ below (fQ D cA h0 r.2 (some (va_rf r.1))) args s (fCB h0 - fZ h0) (fLB h0 - fL h0) (fA h0)) (F0 m 13 ls []) := by
  obtain ⟨hx, hb, hml, hr, hlocks, hts, hown, K, hR⟩ := id M
  intro H locs cells slots ls hC hl
  refine fr_null hx hb dX7_nodeOrNull_13 ?_
  obtain rfl := Option.some.inj hf
  exact fr_aret hx hb hr (Or.inl ⟨_, rfl⟩) hlocks hC dX7_nodeOrNull_14
set_option maxHeartbeats 4000000 in
set_option maxRecDepth 100000 in
theorem w_X7_nodeOrNull_L38 {p : Program} {l : Launch} {e : Env} {s : State} {m : MethodId} {args : Array Value} {below : List Frame} {meth : Method} {c : Code} {D : va_G} {cA : Nat → ClassId} {h0 : fSt} {r : (Option Nat × fSt)} (M : fM p s m args meth c D cA h0 { frames := 0, cells := fCB h0 - fZ h0, slots := fLB h0 - fL h0, locals := 0 } cX7_nodeOrNull 3 (some (.object "TapestryScene$Node")) RX7) (hfl : l.stackTraces = false) (s0 : Option Nat) (h : fSt) (hf : f_X7_nodeOrNull_L38 s0 h = some r) : ∀ (H : Heap) (locs : List Loc) (cells slots : Nat) (ls : Array Slot), fCur D cA s h0 h H locs → lv_has ls 3 [] → W p l e { frames := 0, cells := fCB h0 - fZ h0, slots := fLB h0 - fL h0, locals := 0 } s m args below meth c H locs cells slots (MQ below (fQ D cA h0 r.2 (some (va_rf r.1))) args s (fCB h0 - fZ h0) (fLB h0 - fL h0) (fA h0)) (F0 m 38 ls [va_rf s0]) := by
  obtain ⟨hx, hb, hml, hr, hlocks, hts, hown, K, hR⟩ := id M
  intro H locs cells slots ls hC hl
  obtain rfl := Option.some.inj hf
  exact fr_aret hx hb hr (Or.inl ⟨_, rfl⟩) hlocks hC dX7_nodeOrNull_38
set_option maxHeartbeats 4000000 in
set_option maxRecDepth 100000 in
theorem w_X7_nodeOrNull_L33 {p : Program} {l : Launch} {e : Env} {s : State} {m : MethodId} {args : Array Value} {below : List Frame} {meth : Method} {c : Code} {D : va_G} {cA : Nat → ClassId} {h0 : fSt} {r : (Option Nat × fSt)} (M : fM p s m args meth c D cA h0 { frames := 0, cells := fCB h0 - fZ h0, slots := fLB h0 - fL h0, locals := 0 } cX7_nodeOrNull 3 (some (.object "TapestryScene$Node")) RX7) (hfl : l.stackTraces = false)  (h : fSt) (hf : f_X7_nodeOrNull_L33  h = some r) : ∀ (H : Heap) (locs : List Loc) (cells slots : Nat) (ls : Array Slot), fCur D cA s h0 h H locs → lv_has ls 3 [] → W p l e { frames := 0, cells := fCB h0 - fZ h0, slots := fLB h0 - fL h0, locals := 0 } s m args below meth c H locs cells slots (MQ below (fQ D cA h0 r.2 (some (va_rf r.1))) args s (fCB h0 - fZ h0) (fLB h0 - fL h0) (fA h0)) (F0 m 33 ls []) := by
  obtain ⟨hx, hb, hml, hr, hlocks, hts, hown, K, hR⟩ := id M
  intro H locs cells slots ls hC hl
  refine fr_null hx hb dX7_nodeOrNull_33 ?_
  refine lv_goto (tgt := 38) hx hb dX7_nodeOrNull_34 (by decide) ?_
  exact w_X7_nodeOrNull_L38 M hfl _ _ hf _ _ _ _ _ hC (lv_sub hl [] rfl)
set_option maxHeartbeats 4000000 in
set_option maxRecDepth 100000 in
theorem w_X7_nodeOrNull_L0 {p : Program} {l : Launch} {e : Env} {s : State} {m : MethodId} {args : Array Value} {below : List Frame} {meth : Method} {c : Code} {D : va_G} {cA : Nat → ClassId} {h0 : fSt} {r : (Option Nat × fSt)} (M : fM p s m args meth c D cA h0 { frames := 0, cells := fCB h0 - fZ h0, slots := fLB h0 - fL h0, locals := 0 } cX7_nodeOrNull 3 (some (.object "TapestryScene$Node")) RX7) (hfl : l.stackTraces = false) (a0 : Option Nat) (a1 : Int32) (h : fSt) (hf : f_X7_nodeOrNull_L0 a0 a1 h = some r) : ∀ (H : Heap) (locs : List Loc) (cells slots : Nat) (ls : Array Slot), fCur D cA s h0 h H locs → lv_has ls 3 [(0, va_rf a0), (1, .int a1)] → W p l e { frames := 0, cells := fCB h0 - fZ h0, slots := fLB h0 - fL h0, locals := 0 } s m args below meth c H locs cells slots (MQ below (fQ D cA h0 r.2 (some (va_rf r.1))) args s (fCB h0 - fZ h0) (fLB h0 - fL h0) (fA h0)) (F0 m 0 ls []) := by
  obtain ⟨hx, hb, hml, hr, hlocks, hts, hown, K, hR⟩ := id M
  intro H locs cells slots ls hC hl
  refine lv_iload_n hx hb dX7_nodeOrNull_0 rfl (lv_at hl 1 rfl) ?_
  refine lv_if_lt (tgt := 13) hx hb dX7_nodeOrNull_1 (by decide) (fun c1 => ?_) (fun c1 => ?_)
  · replace hf := opos c1 hf
    exact w_X7_nodeOrNull_L13 M hfl _ hf _ _ _ _ _ hC (lv_sub hl [] rfl)
  · replace hf := oneg c1 hf
    refine lv_iload_n hx hb dX7_nodeOrNull_4 rfl (lv_at hl 1 rfl) ?_
    refine fr_aload_n hx hb dX7_nodeOrNull_5 rfl (lv_at hl 0 rfl) ?_
    obtain ⟨x2, g3, hf⟩ := obind hf
    refine fr_get hx hb hts hown K hC ct_7 (fgR_get g3) (by decide) kw290 rfl dX7_nodeOrNull_6 ?_
    obtain ⟨x4, g5, hf⟩ := obind hf
    refine fr_alen hx hb K hC (t := 4) rfl g5 dX7_nodeOrNull_9 ?_
    refine lv_icmp_lt (tgt := 15) hx hb dX7_nodeOrNull_10 (by decide) (fun c6 => ?_) (fun c6 => ?_)
    · replace hf := opos c6 hf
      refine fr_aload_n hx hb dX7_nodeOrNull_15 rfl (lv_at hl 0 rfl) ?_
      obtain ⟨x7, g8, hf⟩ := obind hf
      refine fr_get hx hb hts hown K hC ct_7 (fgR_get g8) (by decide) kw290 rfl dX7_nodeOrNull_16 ?_
      refine lv_iload_n hx hb dX7_nodeOrNull_19 rfl (lv_at hl 1 rfl) ?_
      obtain ⟨x9, g10, hf⟩ := obind hf
      refine fr_aald hx hb K hC (t := 4) rfl g10 dX7_nodeOrNull_20 ?_
      refine fr_astore_n (lv' := [(2, va_rf x9), (0, va_rf a0), (1, .int a1)]) hx hb dX7_nodeOrNull_21 rfl hl (by decide) (congrArg (List.cons _) (flk rfl (flk rfl fln))) (fun ls hl => ?_)
      refine fr_aload_n hx hb dX7_nodeOrNull_22 rfl (lv_at hl 0 rfl) ?_
      refine fr_ifnull (tgt := 33) hx hb dX7_nodeOrNull_23 (by decide) (fun c11 => ?_) (fun c11 => ?_)
      · replace hf := opos c11 hf
        exact w_X7_nodeOrNull_L33 M hfl _ hf _ _ _ _ _ hC (lv_sub hl [] rfl)
      · replace hf := oneg c11 hf
        refine fr_aload_n hx hb dX7_nodeOrNull_26 rfl (lv_at hl 0 rfl) ?_
        obtain ⟨x12, g13, hf⟩ := obind hf
        refine fr_get hx hb hts hown K hC ct_4 (fgI_get g13) (by decide) kw182 rfl dX7_nodeOrNull_27 ?_
        refine lv_if_eq (tgt := 37) hx hb dX7_nodeOrNull_30 (by decide) (fun c14 => ?_) (fun c14 => ?_)
        · replace hf := opos c14 hf
          refine fr_aload_n hx hb dX7_nodeOrNull_37 rfl (lv_at hl 0 rfl) ?_
          exact w_X7_nodeOrNull_L38 M hfl _ _ hf _ _ _ _ _ hC (lv_sub hl [] rfl)
        · replace hf := oneg c14 hf
          exact w_X7_nodeOrNull_L33 M hfl _ hf _ _ _ _ _ hC (lv_sub hl [] rfl)
    · replace hf := oneg c6 hf
      exact w_X7_nodeOrNull_L13 M hfl _ hf _ _ _ _ _ hC (lv_sub hl [] rfl)
set_option maxRecDepth 100000 in
theorem c_X7_nodeOrNull {l : Launch} (hfl : l.stackTraces = false) (D : va_G) (cA : Nat → ClassId) {o : Nat} {p0 : Int32} {h : fSt} {r : (Option Nat × fSt)} (hf : f_X7_nodeOrNull o p0 h = some r) : fMet l yX7_nodeOrNull (wsC yX7_nodeOrNull cX7_nodeOrNull 3 (some (.object "TapestryScene$Node"))) (0) (0) D cA [.ref o, .int p0] h r.2 (some (va_rf r.1)) := by
  exact fMet.of (own := RX7) (by decide +kernel) rfl (lva1 rfl (lva1 rfl lva0)) (lgl1 rfl (lgl1 rfl lgl0)) (Nat.le_of_ble_eq_true rfl) (fun p e s m args below meth c ls hnm _ M hC hl => by
    have hl : lv_has ls 3 [(0, va_rf (some o)), (1, .int p0)] := hl
    exact w_X7_nodeOrNull_L0 M hfl _ _ _ hf _ _ _ _ _ hC (lv_sub hl [0, 1] rfl))
set_option maxHeartbeats 4000000 in
set_option maxRecDepth 100000 in
theorem w_X7_found_L0 {p : Program} {l : Launch} {e : Env} {s : State} {m : MethodId} {args : Array Value} {below : List Frame} {meth : Method} {c : Code} {D : va_G} {cA : Nat → ClassId} {h0 : fSt} {r : ((Option Nat ⊕ Nat) × fSt)} (M : fM p s m args meth c D cA h0 { frames := 6, cells := fCB h0 - fZ h0, slots := fLB h0 - fL h0, locals := 90 } cX7_found 3 (some (.object "TapestryScene$Node")) RX7) (hfl : l.stackTraces = false) (hno : ∀ x ∈ c.exceptionTable.toList, False) (a0 : Option Nat) (a1 : Int32) (h : fSt) (hf : f_X7_found_L0 a0 a1 h = some r) : ∀ (H : Heap) (locs : List Loc) (cells slots : Nat) (ls : Array Slot), fCur D cA s h0 h H locs → lv_has ls 3 [(0, va_rf a0), (1, .int a1)] → W p l e { frames := 6, cells := fCB h0 - fZ h0, slots := fLB h0 - fL h0, locals := 90 } s m args below meth c H locs cells slots (vx_MQ below (fQX D cA h0 r.2 (rR r.1)) (fXC D cA h0 r.2 (rR r.1)) args s (fCB h0 - fZ h0) (fLB h0 - fL h0) (fA h0)) (F0 m 0 ls []) := by
  obtain ⟨hx, hb, hml, hr, hlocks, hts, hown, K, hR⟩ := id M
  intro H locs cells slots ls hC hl
  refine fr_aload_n hx hb dX7_found_0 rfl (lv_at hl 0 rfl) ?_
  refine lv_iload_n hx hb dX7_found_1 rfl (lv_at hl 1 rfl) ?_
  obtain ⟨b3, q4, hf⟩ := obind hf
  obtain ⟨r1, g2, hf⟩ := obind hf
  refine fr_callV hx hb hml hts hown K hC hR ct_7 (c_X7_nodeOrNull hfl D cA g2) 1 q4 kw354 kw351 kw353 kw0 kw55 (by decide +kernel) ⟨by exact Nat.le_of_ble_eq_true rfl, by exact Nat.le_of_ble_eq_true rfl⟩ rfl hl.1 (cat8 _ (by exact Nat.le_of_ble_eq_true rfl)) dX7_found_2 rfl (fun H locs _ _ hC => ?_)
  refine fr_astore_n (lv' := [(2, va_rf r1.1), (0, va_rf a0), (1, .int a1)]) hx hb dX7_found_5 rfl hl (by decide) (congrArg (List.cons _) (flk rfl (flk rfl fln))) (fun ls hl => ?_)
  refine fr_aload_n hx hb dX7_found_6 rfl (lv_at hl 0 rfl) ?_
  refine fr_ifnonnull (tgt := 21) hx hb dX7_found_7 (by decide) (fun c5 => ?_) (fun c5 => ?_)
  · replace hf := oneg c5 hf
    refine fr_aload_n hx hb dX7_found_21 rfl (lv_at hl 0 rfl) ?_
    obtain rfl := Option.some.inj hf
    exact fr_retQ (fr_aret hx hb hr (Or.inl ⟨_, rfl⟩) hlocks hC dX7_found_22)
  · replace hf := opos c5 hf
    obtain ⟨h6, g7, hf⟩ := obind hf
    obtain rfl := Option.some.inj hf
    exact fr_throwSW hx hb hml hts hfl hown K hC hR th_RX7_290_294_0 st_RX7_343 hl.1 dX7_found_10 dX7_found_13 dX7_found_14 dX7_found_17 dX7_found_20 hno (by exact Nat.le_of_ble_eq_true rfl) (catL _ _ (by exact Nat.le_of_ble_eq_true rfl) (by exact Nat.le_of_ble_eq_true rfl)) hlocks g7
set_option maxRecDepth 100000 in
theorem c_X7_found {l : Launch} (hfl : l.stackTraces = false) (D : va_G) (cA : Nat → ClassId) {o : Nat} {p0 : Int32} {h : fSt} {r : ((Option Nat ⊕ Nat) × fSt)} (hf : f_X7_found o p0 h = some r) : fMetX l yX7_found (wsC yX7_found cX7_found 3 (some (.object "TapestryScene$Node"))) (6) (90) D cA [.ref o, .int p0] h r.2 (rR r.1) := by
  exact fMetX.of (own := RX7) (by decide +kernel) rfl (lva1 rfl (lva1 rfl lva0)) (lgl1 rfl (lgl1 rfl lgl0)) (Nat.le_of_ble_eq_true rfl) (fun p e s m args below meth c ls hno M hC hl => by
    have hl : lv_has ls 3 [(0, va_rf (some o)), (1, .int p0)] := hl
    exact w_X7_found_L0 M hfl hno _ _ _ hf _ _ _ _ _ hC (lv_sub hl [0, 1] rfl))
set_option maxHeartbeats 4000000 in
set_option maxRecDepth 100000 in
theorem w_X7_isFrom_L15 {p : Program} {l : Launch} {e : Env} {s : State} {m : MethodId} {args : Array Value} {below : List Frame} {meth : Method} {c : Code} {D : va_G} {cA : Nat → ClassId} {h0 : fSt} {r : (Int32 × fSt)} (M : fM p s m args meth c D cA h0 { frames := 0, cells := fCB h0 - fZ h0, slots := fLB h0 - fL h0, locals := 0 } cX7_isFrom 3 (some (.boolean)) RX7) (hfl : l.stackTraces = false) (s0 : Int32) (h : fSt) (hf : f_X7_isFrom_L15 s0 h = some r) : ∀ (H : Heap) (locs : List Loc) (cells slots : Nat) (ls : Array Slot), fCur D cA s h0 h H locs → lv_has ls 3 [] → W p l e { frames := 0, cells := fCB h0 - fZ h0, slots := fLB h0 - fL h0, locals := 0 } s m args below meth c H locs cells slots (MQ below (fQ D cA h0 r.2 (some (.int r.1))) args s (fCB h0 - fZ h0) (fLB h0 - fL h0) (fA h0)) (F0 m 15 ls [.int s0]) := by
  obtain ⟨hx, hb, hml, hr, hlocks, hts, hown, K, hR⟩ := id M
  intro H locs cells slots ls hC hl
  by_cases c1 : s0 = 0 ∨ s0 = 1
  rotate_left
  · exact nomatch (oneg c1 hf)
  obtain rfl := Option.some.inj (opos c1 hf)
  exact fr_zret hx hb hr hlocks hC c1 dX7_isFrom_15
set_option maxHeartbeats 4000000 in
set_option maxRecDepth 100000 in
theorem w_X7_isFrom_L14 {p : Program} {l : Launch} {e : Env} {s : State} {m : MethodId} {args : Array Value} {below : List Frame} {meth : Method} {c : Code} {D : va_G} {cA : Nat → ClassId} {h0 : fSt} {r : (Int32 × fSt)} (M : fM p s m args meth c D cA h0 { frames := 0, cells := fCB h0 - fZ h0, slots := fLB h0 - fL h0, locals := 0 } cX7_isFrom 3 (some (.boolean)) RX7) (hfl : l.stackTraces = false)  (h : fSt) (hf : f_X7_isFrom_L14  h = some r) : ∀ (H : Heap) (locs : List Loc) (cells slots : Nat) (ls : Array Slot), fCur D cA s h0 h H locs → lv_has ls 3 [] → W p l e { frames := 0, cells := fCB h0 - fZ h0, slots := fLB h0 - fL h0, locals := 0 } s m args below meth c H locs cells slots (MQ below (fQ D cA h0 r.2 (some (.int r.1))) args s (fCB h0 - fZ h0) (fLB h0 - fL h0) (fA h0)) (F0 m 14 ls []) := by
  obtain ⟨hx, hb, hml, hr, hlocks, hts, hown, K, hR⟩ := id M
  intro H locs cells slots ls hC hl
  refine lv_iconst (v := (0 : Int32)) hx hb dX7_isFrom_14 (by decide) ?_
  exact w_X7_isFrom_L15 M hfl _ _ hf _ _ _ _ _ hC (lv_sub hl [] rfl)
set_option maxHeartbeats 4000000 in
set_option maxRecDepth 100000 in
theorem w_X7_isFrom_L0 {p : Program} {l : Launch} {e : Env} {s : State} {m : MethodId} {args : Array Value} {below : List Frame} {meth : Method} {c : Code} {D : va_G} {cA : Nat → ClassId} {h0 : fSt} {r : (Int32 × fSt)} (M : fM p s m args meth c D cA h0 { frames := 0, cells := fCB h0 - fZ h0, slots := fLB h0 - fL h0, locals := 0 } cX7_isFrom 3 (some (.boolean)) RX7) (hfl : l.stackTraces = false) (a0 : Int32) (a1 : Int32) (a2 : Int32) (h : fSt) (hf : f_X7_isFrom_L0 a0 a1 a2 h = some r) : ∀ (H : Heap) (locs : List Loc) (cells slots : Nat) (ls : Array Slot), fCur D cA s h0 h H locs → lv_has ls 3 [(0, .int a0), (1, .int a1), (2, .int a2)] → W p l e { frames := 0, cells := fCB h0 - fZ h0, slots := fLB h0 - fL h0, locals := 0 } s m args below meth c H locs cells slots (MQ below (fQ D cA h0 r.2 (some (.int r.1))) args s (fCB h0 - fZ h0) (fLB h0 - fL h0) (fA h0)) (F0 m 0 ls []) := by
  obtain ⟨hx, hb, hml, hr, hlocks, hts, hown, K, hR⟩ := id M
  intro H locs cells slots ls hC hl
  refine lv_iload_n hx hb dX7_isFrom_0 rfl (lv_at hl 0 rfl) ?_
  refine lv_iload_n hx hb dX7_isFrom_1 rfl (lv_at hl 1 rfl) ?_
  refine lv_icmp_lt (tgt := 14) hx hb dX7_isFrom_2 (by decide) (fun c2 => ?_) (fun c2 => ?_)
  · replace hf := opos c2 hf
    exact w_X7_isFrom_L14 M hfl _ hf _ _ _ _ _ hC (lv_sub hl [] rfl)
  · replace hf := oneg c2 hf
    refine lv_iload_n hx hb dX7_isFrom_5 rfl (lv_at hl 0 rfl) ?_
    refine lv_iload_n hx hb dX7_isFrom_6 rfl (lv_at hl 2 rfl) ?_
    refine lv_icmp_gt (tgt := 14) hx hb dX7_isFrom_7 (by decide) (fun c3 => ?_) (fun c3 => ?_)
    · replace hf := opos c3 hf
      exact w_X7_isFrom_L14 M hfl _ hf _ _ _ _ _ hC (lv_sub hl [] rfl)
    · replace hf := oneg c3 hf
      refine lv_iconst (v := (1 : Int32)) hx hb dX7_isFrom_10 (by decide) ?_
      refine lv_goto (tgt := 15) hx hb dX7_isFrom_11 (by decide) ?_
      exact w_X7_isFrom_L15 M hfl _ _ hf _ _ _ _ _ hC (lv_sub hl [] rfl)
set_option maxRecDepth 100000 in
theorem c_X7_isFrom {l : Launch} (hfl : l.stackTraces = false) (D : va_G) (cA : Nat → ClassId) {p0 : Int32} {p1 : Int32} {p2 : Int32} {h : fSt} {r : (Int32 × fSt)} (hf : f_X7_isFrom p0 p1 p2 h = some r) : fMet l yX7_isFrom (wsC yX7_isFrom cX7_isFrom 3 (some (.boolean))) (0) (0) D cA [.int p0, .int p1, .int p2] h r.2 (some (.int r.1)) := by
  exact fMet.of (own := RX7) (by decide +kernel) rfl (lva1 rfl (lva1 rfl (lva1 rfl lva0))) (lgl1 rfl (lgl1 rfl (lgl1 rfl lgl0))) (Nat.le_of_ble_eq_true rfl) (fun p e s m args below meth c ls hnm _ M hC hl => by
    have hl : lv_has ls 3 [(0, .int p0), (1, .int p1), (2, .int p2)] := hl
    exact w_X7_isFrom_L0 M hfl _ _ _ _ hf _ _ _ _ _ hC (lv_sub hl [0, 1, 2] rfl))
set_option maxHeartbeats 4000000 in
set_option maxRecDepth 100000 in
theorem w_X7_layHanging_L38 {p : Program} {l : Launch} {e : Env} {s : State} {m : MethodId} {args : Array Value} {below : List Frame} {meth : Method} {c : Code} {D : va_G} {cA : Nat → ClassId} {h0 : fSt} {self : Nat → Option Nat → Int32 → fSt → Option (Unit × fSt)} {fd ld : Nat} {r : (Unit × fSt)} (hself : ∀ {o : Nat} {p0 : Option Nat} {p1 : Int32} {h : fSt} {r : (Unit × fSt)}, self o p0 p1 h = some r → fMet l yX7_lay (wsC yX7_lay cX7_lay 3 none) fd ld D cA [.ref o, va_rf p0, .int p1] h r.2 none) (M : fM p s m args meth c D cA h0 { frames := fd + 1, cells := fCB h0 - fZ h0, slots := fLB h0 - fL h0, locals := ld + 22 } cX7_layHanging 7 none RX7) (hfl : l.stackTraces = false) {k3 : Option Nat → Option Nat → Int32 → Int32 → Int32 → fSt → Option (Unit × fSt)} (hk3 : ∀ (a0 : Option Nat) (a1 : Option Nat) (a3 : Int32) (a4 : Int32) (a5 : Int32) (h : fSt), k3 a0 a1 a3 a4 a5 h = some r → ∀ (H : Heap) (locs : List Loc) (cells slots : Nat) (ls : Array Slot), fCur D cA s h0 h H locs → lv_has ls 7 [(0, va_rf a0), (1, va_rf a1), (3, .int a3), (4, .int a4), (5, .int a5)] → W p l e { frames := fd + 1, cells := fCB h0 - fZ h0, slots := fLB h0 - fL h0, locals := ld + 22 } s m args below meth c H locs cells slots (MQ below (fQ D cA h0 r.2 none) args s (fCB h0 - fZ h0) (fLB h0 - fL h0) (fA h0)) (F0 m 3 ls [])) {k15 : Option Nat → Option Nat → Int32 → Int32 → Int32 → Option Nat → fSt → Option (Unit × fSt)} (hk15 : ∀ (a0 : Option Nat) (a1 : Option Nat) (a3 : Int32) (a4 : Int32) (a5 : Int32) (a6 : Option Nat) (h : fSt), k15 a0 a1 a3 a4 a5 a6 h = some r → ∀ (H : Heap) (locs : List Loc) (cells slots : Nat) (ls : Array Slot), fCur D cA s h0 h H locs → lv_has ls 7 [(0, va_rf a0), (1, va_rf a1), (3, .int a3), (4, .int a4), (5, .int a5), (6, va_rf a6)] → W p l e { frames := fd + 1, cells := fCB h0 - fZ h0, slots := fLB h0 - fL h0, locals := ld + 22 } s m args below meth c H locs cells slots (MQ below (fQ D cA h0 r.2 none) args s (fCB h0 - fZ h0) (fLB h0 - fL h0) (fA h0)) (F0 m 15 ls [])) (a0 : Option Nat) (a1 : Option Nat) (a3 : Int32) (a4 : Int32) (a5 : Int32) (a6 : Option Nat) (h : fSt) (hf : f_X7_layHanging_L38 self k3 k15 a0 a1 a3 a4 a5 a6 h = some r) : ∀ (H : Heap) (locs : List Loc) (cells slots : Nat) (ls : Array Slot), fCur D cA s h0 h H locs → lv_has ls 7 [(0, va_rf a0), (1, va_rf a1), (3, .int a3), (4, .int a4), (5, .int a5), (6, va_rf a6)] → W p l e { frames := fd + 1, cells := fCB h0 - fZ h0, slots := fLB h0 - fL h0, locals := ld + 22 } s m args below meth c H locs cells slots (MQ below (fQ D cA h0 r.2 none) args s (fCB h0 - fZ h0) (fLB h0 - fL h0) (fA h0)) (F0 m 38 ls []) := by
  obtain ⟨hx, hb, hml, hr, hlocks, hts, hown, K, hR⟩ := id M
  intro H locs cells slots ls hC hl
  refine fr_aload hx hb dX7_layHanging_38 (lv_at hl 5 rfl) ?_
  obtain ⟨x1, g2, hf⟩ := obind hf
  refine fr_get hx hb hts hown K hC ct_4 (fgR_get g2) (by decide) kw188 rfl dX7_layHanging_40 ?_
  refine fr_astore (lv' := [(6, va_rf x1), (0, va_rf a0), (1, va_rf a1), (3, .int a3), (4, .int a4), (5, .int a5)]) hx hb dX7_layHanging_43 hl (by decide) (congrArg (List.cons _) (flk rfl (flk rfl (flk rfl (flk rfl (flk rfl (fld rfl fln))))))) (fun ls hl => ?_)
  refine lv_goto (tgt := 15) hx hb dX7_layHanging_45 (by decide) ?_
  exact hk15 _ _ _ _ _ _ _ hf _ _ _ _ _ hC (lv_sub hl [1, 2, 3, 4, 5, 0] rfl)
set_option maxHeartbeats 4000000 in
set_option maxRecDepth 100000 in
theorem w_X7_layHanging_L15 {p : Program} {l : Launch} {e : Env} {s : State} {m : MethodId} {args : Array Value} {below : List Frame} {meth : Method} {c : Code} {D : va_G} {cA : Nat → ClassId} {h0 : fSt} {self : Nat → Option Nat → Int32 → fSt → Option (Unit × fSt)} {fd ld : Nat} {r : (Unit × fSt)} (hself : ∀ {o : Nat} {p0 : Option Nat} {p1 : Int32} {h : fSt} {r : (Unit × fSt)}, self o p0 p1 h = some r → fMet l yX7_lay (wsC yX7_lay cX7_lay 3 none) fd ld D cA [.ref o, va_rf p0, .int p1] h r.2 none) (M : fM p s m args meth c D cA h0 { frames := fd + 1, cells := fCB h0 - fZ h0, slots := fLB h0 - fL h0, locals := ld + 22 } cX7_layHanging 7 none RX7) (hfl : l.stackTraces = false) {k3 : Option Nat → Option Nat → Int32 → Int32 → Int32 → fSt → Option (Unit × fSt)} (hk3 : ∀ (a0 : Option Nat) (a1 : Option Nat) (a3 : Int32) (a4 : Int32) (a5 : Int32) (h : fSt), k3 a0 a1 a3 a4 a5 h = some r → ∀ (H : Heap) (locs : List Loc) (cells slots : Nat) (ls : Array Slot), fCur D cA s h0 h H locs → lv_has ls 7 [(0, va_rf a0), (1, va_rf a1), (3, .int a3), (4, .int a4), (5, .int a5)] → W p l e { frames := fd + 1, cells := fCB h0 - fZ h0, slots := fLB h0 - fL h0, locals := ld + 22 } s m args below meth c H locs cells slots (MQ below (fQ D cA h0 r.2 none) args s (fCB h0 - fZ h0) (fLB h0 - fL h0) (fA h0)) (F0 m 3 ls [])) : ∀ (n : Nat) (a0 : Option Nat) (a1 : Option Nat) (a3 : Int32) (a4 : Int32) (a5 : Int32) (a6 : Option Nat) (h : fSt), f_X7_layHanging_L15 self k3 n a0 a1 a3 a4 a5 a6 h = some r → ∀ (H : Heap) (locs : List Loc) (cells slots : Nat) (ls : Array Slot), fCur D cA s h0 h H locs → lv_has ls 7 [(0, va_rf a0), (1, va_rf a1), (3, .int a3), (4, .int a4), (5, .int a5), (6, va_rf a6)] → W p l e { frames := fd + 1, cells := fCB h0 - fZ h0, slots := fLB h0 - fL h0, locals := ld + 22 } s m args below meth c H locs cells slots (MQ below (fQ D cA h0 r.2 none) args s (fCB h0 - fZ h0) (fLB h0 - fL h0) (fA h0)) (F0 m 15 ls []) := by
  obtain ⟨hx, hb, hml, hr, hlocks, hts, hown, K, hR⟩ := id M
  intro n
  induction n with
  | zero =>
    intro a0 a1 a3 a4 a5 a6 h hf
    exact nomatch (show (none : Option (Unit × fSt)) = some r from hf)
  | succ n hk15 =>
    intro a0 a1 a3 a4 a5 a6 h hf H locs cells slots ls hC hl
    refine fr_aload hx hb dX7_layHanging_15 (lv_at hl 5 rfl) ?_
    refine fr_ifnull (tgt := 48) hx hb dX7_layHanging_17 (by decide) (fun c3 => ?_) (fun c3 => ?_)
    · replace hf := opos c3 hf
      refine lv_iinc (v := (a5 + (1 : Int32))) (lv' := [(5, .int (a5 + (1 : Int32))), (0, va_rf a0), (1, va_rf a1), (3, .int a3), (4, .int a4), (6, va_rf a6)]) hx hb dX7_layHanging_48 hl (k := 4) rfl rfl (by decide) (congrArg (List.cons _) (flk rfl (flk rfl (flk rfl (flk rfl (fld rfl (flk rfl fln))))))) (fun ls hl => ?_)
      refine lv_goto (tgt := 3) hx hb dX7_layHanging_51 (by decide) ?_
      exact hk3 _ _ _ _ _ _ hf _ _ _ _ _ hC (lv_sub hl [1, 2, 3, 4, 0] rfl)
    · replace hf := oneg c3 hf
      refine fr_aload hx hb dX7_layHanging_20 (lv_at hl 5 rfl) ?_
      obtain ⟨x4, g5, hf⟩ := obind hf
      refine fr_get hx hb hts hown K hC ct_4 (fgI_get g5) (by decide) kw176 rfl dX7_layHanging_22 ?_
      refine lv_iload hx hb dX7_layHanging_25 (lv_at hl 4 rfl) ?_
      refine lv_icmp_ne (tgt := 38) hx hb dX7_layHanging_27 (by decide) (fun c6 => ?_) (fun c6 => ?_)
      · replace hf := oneg c6 hf
        exact w_X7_layHanging_L38 @hself M hfl hk3 hk15 _ _ _ _ _ _ _ hf _ _ _ _ _ hC (lv_sub hl [0, 1, 2, 3, 4, 5] rfl)
      · replace hf := opos c6 hf
        refine fr_aload_n hx hb dX7_layHanging_30 rfl (lv_at hl 0 rfl) ?_
        refine fr_aload hx hb dX7_layHanging_31 (lv_at hl 5 rfl) ?_
        refine lv_iload hx hb dX7_layHanging_33 (lv_at hl 3 rfl) ?_
        obtain ⟨b9, q10, hf⟩ := obind hf
        obtain ⟨r7, g8, hf⟩ := obind hf
        refine fr_callV hx hb hml hts hown K hC hR ct_7 (hself g8) 2 q10 kw629 kw626 kw628 kw14 kw55 (by decide +kernel) ⟨by dsimp only; omega, by dsimp only; omega⟩ rfl hl.1 (cat8 _ (by exact Nat.le_of_ble_eq_true rfl)) dX7_layHanging_35 rfl (fun H locs _ _ hC => ?_)
        exact w_X7_layHanging_L38 @hself M hfl hk3 hk15 _ _ _ _ _ _ _ hf _ _ _ _ _ hC (lv_sub hl [0, 1, 2, 3, 4, 5] rfl)
set_option maxHeartbeats 4000000 in
set_option maxRecDepth 100000 in
theorem w_X7_layHanging_L3 {p : Program} {l : Launch} {e : Env} {s : State} {m : MethodId} {args : Array Value} {below : List Frame} {meth : Method} {c : Code} {D : va_G} {cA : Nat → ClassId} {h0 : fSt} {self : Nat → Option Nat → Int32 → fSt → Option (Unit × fSt)} {fd ld : Nat} {r : (Unit × fSt)} (hself : ∀ {o : Nat} {p0 : Option Nat} {p1 : Int32} {h : fSt} {r : (Unit × fSt)}, self o p0 p1 h = some r → fMet l yX7_lay (wsC yX7_lay cX7_lay 3 none) fd ld D cA [.ref o, va_rf p0, .int p1] h r.2 none) (M : fM p s m args meth c D cA h0 { frames := fd + 1, cells := fCB h0 - fZ h0, slots := fLB h0 - fL h0, locals := ld + 22 } cX7_layHanging 7 none RX7) (hfl : l.stackTraces = false) : ∀ (n : Nat) (a0 : Option Nat) (a1 : Option Nat) (a3 : Int32) (a4 : Int32) (a5 : Int32) (h : fSt), f_X7_layHanging_L3 self n a0 a1 a3 a4 a5 h = some r → ∀ (H : Heap) (locs : List Loc) (cells slots : Nat) (ls : Array Slot), fCur D cA s h0 h H locs → lv_has ls 7 [(0, va_rf a0), (1, va_rf a1), (3, .int a3), (4, .int a4), (5, .int a5)] → W p l e { frames := fd + 1, cells := fCB h0 - fZ h0, slots := fLB h0 - fL h0, locals := ld + 22 } s m args below meth c H locs cells slots (MQ below (fQ D cA h0 r.2 none) args s (fCB h0 - fZ h0) (fLB h0 - fL h0) (fA h0)) (F0 m 3 ls []) := by
  obtain ⟨hx, hb, hml, hr, hlocks, hts, hown, K, hR⟩ := id M
  intro n
  induction n with
  | zero =>
    intro a0 a1 a3 a4 a5 h hf
    exact nomatch (show (none : Option (Unit × fSt)) = some r from hf)
  | succ n hk3 =>
    intro a0 a1 a3 a4 a5 h hf H locs cells slots ls hC hl
    refine lv_iload hx hb dX7_layHanging_3 (lv_at hl 4 rfl) ?_
    refine lv_iload_n hx hb dX7_layHanging_5 rfl (lv_at hl 2 rfl) ?_
    refine lv_icmp_gt (tgt := 54) hx hb dX7_layHanging_6 (by decide) (fun c11 => ?_) (fun c11 => ?_)
    · replace hf := opos c11 hf
      obtain rfl := Option.some.inj hf
      exact fr_vret hx hb hr hlocks hC dX7_layHanging_54
    · replace hf := oneg c11 hf
      refine fr_aload_n hx hb dX7_layHanging_9 rfl (lv_at hl 1 rfl) ?_
      obtain ⟨x12, g13, hf⟩ := obind hf
      refine fr_get hx hb hts hown K hC ct_4 (fgR_get g13) (by decide) kw186 rfl dX7_layHanging_10 ?_
      refine fr_astore (lv' := [(6, va_rf x12), (0, va_rf a0), (1, va_rf a1), (3, .int a3), (4, .int a4), (5, .int a5)]) hx hb dX7_layHanging_13 hl (by decide) (congrArg (List.cons _) (flk rfl (flk rfl (flk rfl (flk rfl (flk rfl fln)))))) (fun ls hl => ?_)
      exact w_X7_layHanging_L15 @hself M hfl hk3 4096 _ _ _ _ _ _ _ hf _ _ _ _ _ hC (lv_sub hl [1, 2, 3, 4, 5, 0] rfl)
set_option maxHeartbeats 4000000 in
set_option maxRecDepth 100000 in
theorem w_X7_layHanging_L0 {p : Program} {l : Launch} {e : Env} {s : State} {m : MethodId} {args : Array Value} {below : List Frame} {meth : Method} {c : Code} {D : va_G} {cA : Nat → ClassId} {h0 : fSt} {self : Nat → Option Nat → Int32 → fSt → Option (Unit × fSt)} {fd ld : Nat} {r : (Unit × fSt)} (hself : ∀ {o : Nat} {p0 : Option Nat} {p1 : Int32} {h : fSt} {r : (Unit × fSt)}, self o p0 p1 h = some r → fMet l yX7_lay (wsC yX7_lay cX7_lay 3 none) fd ld D cA [.ref o, va_rf p0, .int p1] h r.2 none) (M : fM p s m args meth c D cA h0 { frames := fd + 1, cells := fCB h0 - fZ h0, slots := fLB h0 - fL h0, locals := ld + 22 } cX7_layHanging 7 none RX7) (hfl : l.stackTraces = false) (a0 : Option Nat) (a1 : Option Nat) (a2 : Int32) (a3 : Int32) (a4 : Int32) (h : fSt) (hf : f_X7_layHanging_L0 self a0 a1 a2 a3 a4 h = some r) : ∀ (H : Heap) (locs : List Loc) (cells slots : Nat) (ls : Array Slot), fCur D cA s h0 h H locs → lv_has ls 7 [(0, va_rf a0), (1, va_rf a1), (2, .int a2), (3, .int a3), (4, .int a4)] → W p l e { frames := fd + 1, cells := fCB h0 - fZ h0, slots := fLB h0 - fL h0, locals := ld + 22 } s m args below meth c H locs cells slots (MQ below (fQ D cA h0 r.2 none) args s (fCB h0 - fZ h0) (fLB h0 - fL h0) (fA h0)) (F0 m 0 ls []) := by
  obtain ⟨hx, hb, hml, hr, hlocks, hts, hown, K, hR⟩ := id M
  intro H locs cells slots ls hC hl
  refine lv_iload_n hx hb dX7_layHanging_0 rfl (lv_at hl 2 rfl) ?_
  refine lv_istore (lv' := [(5, .int a2), (0, va_rf a0), (1, va_rf a1), (2, .int a2), (3, .int a3), (4, .int a4)]) hx hb dX7_layHanging_1 hl (by decide) (congrArg (List.cons _) (flk rfl (flk rfl (flk rfl (flk rfl (flk rfl fln)))))) (fun ls hl => ?_)
  exact w_X7_layHanging_L3 @hself M hfl 4096 _ _ _ _ _ _ hf _ _ _ _ _ hC (lv_sub hl [1, 2, 4, 5, 0] rfl)
set_option maxRecDepth 100000 in
theorem c_X7_layHanging {l : Launch} (hfl : l.stackTraces = false) (D : va_G) (cA : Nat → ClassId) {self : Nat → Option Nat → Int32 → fSt → Option (Unit × fSt)} {fd ld : Nat} (hself : ∀ {o : Nat} {p0 : Option Nat} {p1 : Int32} {h : fSt} {r : (Unit × fSt)}, self o p0 p1 h = some r → fMet l yX7_lay (wsC yX7_lay cX7_lay 3 none) fd ld D cA [.ref o, va_rf p0, .int p1] h r.2 none) {o : Nat} {p0 : Option Nat} {p1 : Int32} {p2 : Int32} {p3 : Int32} {h : fSt} {r : (Unit × fSt)} (hf : f_X7_layHanging self o p0 p1 p2 p3 h = some r) : fMet l yX7_layHanging (wsC yX7_layHanging cX7_layHanging 7 none) (fd + 1) (ld + 22) D cA [.ref o, va_rf p0, .int p1, .int p2, .int p3] h r.2 none := by
  exact fMet.of (own := RX7) (by decide +kernel) rfl (lva1 rfl (lva1 (va_rf_cat _) (lva1 rfl (lva1 rfl (lva1 rfl lva0))))) (lgl1 rfl (lgl1 (va_rf_cat _) (lgl1 rfl (lgl1 rfl (lgl1 rfl lgl0))))) (Nat.le_of_ble_eq_true rfl) (fun p e s m args below meth c ls hnm _ M hC hl => by
    have hl : lv_has ls 7 [(0, va_rf (some o)), (1, va_rf p0), (2, .int p1), (3, .int p2), (4, .int p3)] := hl
    exact w_X7_layHanging_L0 @hself M hfl _ _ _ _ _ _ hf _ _ _ _ _ hC (lv_sub hl [0, 1, 2, 3, 4] rfl))
set_option maxHeartbeats 4000000 in
set_option maxRecDepth 100000 in
theorem w_X7_lay_L0 {p : Program} {l : Launch} {e : Env} {s : State} {m : MethodId} {args : Array Value} {below : List Frame} {meth : Method} {c : Code} {D : va_G} {cA : Nat → ClassId} {h0 : fSt} {self : Nat → Option Nat → Int32 → fSt → Option (Unit × fSt)} {fd ld : Nat} {r : (Unit × fSt)} (hself : ∀ {o : Nat} {p0 : Option Nat} {p1 : Int32} {h : fSt} {r : (Unit × fSt)}, self o p0 p1 h = some r → fMet l yX7_lay (wsC yX7_lay cX7_lay 3 none) fd ld D cA [.ref o, va_rf p0, .int p1] h r.2 none) (M : fM p s m args meth c D cA h0 { frames := fd + 2, cells := fCB h0 - fZ h0, slots := fLB h0 - fL h0, locals := ld + 48 } cX7_lay 3 none RX7) (hfl : l.stackTraces = false) (a0 : Option Nat) (a1 : Option Nat) (a2 : Int32) (h : fSt) (hf : f_X7_lay_L0 self a0 a1 a2 h = some r) : ∀ (H : Heap) (locs : List Loc) (cells slots : Nat) (ls : Array Slot), fCur D cA s h0 h H locs → lv_has ls 3 [(0, va_rf a0), (1, va_rf a1), (2, .int a2)] → W p l e { frames := fd + 2, cells := fCB h0 - fZ h0, slots := fLB h0 - fL h0, locals := ld + 48 } s m args below meth c H locs cells slots (MQ below (fQ D cA h0 r.2 none) args s (fCB h0 - fZ h0) (fLB h0 - fL h0) (fA h0)) (F0 m 0 ls []) := by
  obtain ⟨hx, hb, hml, hr, hlocks, hts, hown, K, hR⟩ := id M
  intro H locs cells slots ls hC hl
  refine lv_iload_n hx hb dX7_lay_0 rfl (lv_at hl 2 rfl) ?_
  refine lv_iconst (v := (4 : Int32)) hx hb dX7_lay_1 (by decide) ?_
  refine lv_icmp_le (tgt := 6) hx hb dX7_lay_2 (by decide) (fun c1 => ?_) (fun c1 => ?_)
  · replace hf := opos c1 hf
    refine fr_aload_n hx hb dX7_lay_6 rfl (lv_at hl 0 rfl) ?_
    refine fr_aload_n hx hb dX7_lay_7 rfl (lv_at hl 1 rfl) ?_
    refine lv_bipush (v := (-9 : Int32)) hx hb dX7_lay_8 (by decide) ?_
    refine lv_iconst (v := (-1 : Int32)) hx hb dX7_lay_10 (by decide) ?_
    refine lv_iload_n hx hb dX7_lay_11 rfl (lv_at hl 2 rfl) ?_
    refine lv_iconst (v := (1 : Int32)) hx hb dX7_lay_12 (by decide) ?_
    refine lv_iadd hx hb dX7_lay_13 ?_
    obtain ⟨b4, q5, hf⟩ := obind hf
    obtain ⟨r2, g3, hf⟩ := obind hf
    refine fr_callV hx hb hml hts hown K hC hR ct_7 (c_X7_layHanging hfl D cA @hself g3) 4 q5 kw633 kw630 kw632 kw15 kw55 (by decide +kernel) ⟨by dsimp only; omega, by dsimp only; omega⟩ rfl hl.1 (cat8 _ (by exact Nat.le_of_ble_eq_true rfl)) dX7_lay_14 rfl (fun H locs _ _ hC => ?_)
    refine fr_aload_n hx hb dX7_lay_17 rfl (lv_at hl 1 rfl) ?_
    refine fr_aload_n hx hb dX7_lay_18 rfl (lv_at hl 0 rfl) ?_
    obtain ⟨x6, g7, hf⟩ := obind hf
    refine fr_get hx hb hts hown K hC ct_7 (fgR_get g7) (by decide) kw298 rfl dX7_lay_19 ?_
    obtain ⟨h8, g9, hf⟩ := obind hf
    refine fr_put hx hb hts hown K hC ct_4 g9 (by decide) kw189 rfl rfl (nR _ _) (fR _ _) dX7_lay_22 (fun H locs hC => ?_)
    refine fr_aload_n hx hb dX7_lay_25 rfl (lv_at hl 1 rfl) ?_
    refine fr_aload_n hx hb dX7_lay_26 rfl (lv_at hl 0 rfl) ?_
    obtain ⟨x10, g11, hf⟩ := obind hf
    refine fr_get hx hb hts hown K hC ct_7 (fgI_get g11) (by decide) kw299 rfl dX7_lay_27 ?_
    obtain ⟨h12, g13, hf⟩ := obind hf
    refine fr_put hx hb hts hown K hC ct_4 g13 (by decide) kw190 rfl rfl rfl rfl dX7_lay_30 (fun H locs hC => ?_)
    refine fr_aload_n hx hb dX7_lay_33 rfl (lv_at hl 0 rfl) ?_
    refine fr_aload_n hx hb dX7_lay_34 rfl (lv_at hl 1 rfl) ?_
    obtain ⟨h14, g15, hf⟩ := obind hf
    refine fr_put hx hb hts hown K hC ct_7 g15 (by decide) kw298 rfl rfl (nR _ _) (fR _ _) dX7_lay_35 (fun H locs hC => ?_)
    refine fr_aload_n hx hb dX7_lay_38 rfl (lv_at hl 0 rfl) ?_
    refine lv_dup hx hb dX7_lay_39 (va_rf_cat _) ?_
    obtain ⟨x16, g17, hf⟩ := obind hf
    refine fr_get hx hb hts hown K hC ct_7 (fgI_get g17) (by decide) kw299 rfl dX7_lay_40 ?_
    refine lv_iconst (v := (1 : Int32)) hx hb dX7_lay_43 (by decide) ?_
    refine lv_iadd hx hb dX7_lay_44 ?_
    obtain ⟨h18, g19, hf⟩ := obind hf
    refine fr_put hx hb hts hown K hC ct_7 g19 (by decide) kw299 rfl rfl rfl rfl dX7_lay_45 (fun H locs hC => ?_)
    refine fr_aload_n hx hb dX7_lay_48 rfl (lv_at hl 0 rfl) ?_
    refine fr_aload_n hx hb dX7_lay_49 rfl (lv_at hl 1 rfl) ?_
    refine lv_iconst (v := (0 : Int32)) hx hb dX7_lay_50 (by decide) ?_
    refine lv_bipush (v := (9 : Int32)) hx hb dX7_lay_51 (by decide) ?_
    refine lv_iload_n hx hb dX7_lay_53 rfl (lv_at hl 2 rfl) ?_
    refine lv_iconst (v := (1 : Int32)) hx hb dX7_lay_54 (by decide) ?_
    refine lv_iadd hx hb dX7_lay_55 ?_
    obtain ⟨b22, q23, hf⟩ := obind hf
    obtain ⟨r20, g21, hf⟩ := obind hf
    refine fr_callV hx hb hml hts hown K hC hR ct_7 (c_X7_layHanging hfl D cA @hself g21) 4 q23 kw633 kw630 kw632 kw15 kw55 (by decide +kernel) ⟨by dsimp only; omega, by dsimp only; omega⟩ rfl hl.1 (cat8 _ (by exact Nat.le_of_ble_eq_true rfl)) dX7_lay_56 rfl (fun H locs _ _ hC => ?_)
    obtain rfl := Option.some.inj hf
    exact fr_vret hx hb hr hlocks hC dX7_lay_59
  · replace hf := oneg c1 hf
    obtain rfl := Option.some.inj hf
    exact fr_vret hx hb hr hlocks hC dX7_lay_5
set_option maxRecDepth 100000 in
theorem c_X7_lay {l : Launch} (hfl : l.stackTraces = false) (D : va_G) (cA : Nat → ClassId) (d : Nat) : ∀ {o : Nat} {p0 : Option Nat} {p1 : Int32} {h : fSt} {r : (Unit × fSt)}, f_X7_lay d o p0 p1 h = some r → fMet l yX7_lay (wsC yX7_lay cX7_lay 3 none) (2 * d) (48 * d) D cA [.ref o, va_rf p0, .int p1] h r.2 none := by
  induction d with
  | zero =>
    intro o p0 p1 h r hf
    exact nomatch (show (none : Option (Unit × fSt)) = some r from hf)
  | succ d hself =>
    intro o p0 p1 h r hf
    have hf : f_X7_lay_L0 (f_X7_lay d) (some o) p0 p1 h = some r := hf
    exact fMet.of (own := RX7) (by decide +kernel) rfl (lva1 rfl (lva1 (va_rf_cat _) (lva1 rfl lva0))) (lgl1 rfl (lgl1 (va_rf_cat _) (lgl1 rfl lgl0))) (Nat.le_of_ble_eq_true rfl) (fun p e s m args below meth c ls hnm _ M hC hl => by
    have hl : lv_has ls 3 [(0, va_rf (some o)), (1, va_rf p0), (2, .int p1)] := hl
    exact w_X7_lay_L0 @hself M hfl _ _ _ _ hf _ _ _ _ _ hC (lv_sub hl [0, 1, 2] rfl))
set_option maxHeartbeats 4000000 in
set_option maxRecDepth 100000 in
theorem w_X7_layOrder_L0 {p : Program} {l : Launch} {e : Env} {s : State} {m : MethodId} {args : Array Value} {below : List Frame} {meth : Method} {c : Code} {D : va_G} {cA : Nat → ClassId} {h0 : fSt} {r : (Unit × fSt)} (M : fM p s m args meth c D cA h0 { frames := 17, cells := fCB h0 - fZ h0, slots := fLB h0 - fL h0, locals := 406 } cX7_layOrder 1 none RX7) (hfl : l.stackTraces = false) (a0 : Option Nat) (h : fSt) (hf : f_X7_layOrder_L0 a0 h = some r) : ∀ (H : Heap) (locs : List Loc) (cells slots : Nat) (ls : Array Slot), fCur D cA s h0 h H locs → lv_has ls 1 [(0, va_rf a0)] → W p l e { frames := 17, cells := fCB h0 - fZ h0, slots := fLB h0 - fL h0, locals := 406 } s m args below meth c H locs cells slots (MQ below (fQ D cA h0 r.2 none) args s (fCB h0 - fZ h0) (fLB h0 - fL h0) (fA h0)) (F0 m 0 ls []) := by
  obtain ⟨hx, hb, hml, hr, hlocks, hts, hown, K, hR⟩ := id M
  intro H locs cells slots ls hC hl
  refine fr_aload_n hx hb dX7_layOrder_0 rfl (lv_at hl 0 rfl) ?_
  refine fr_null hx hb dX7_layOrder_1 ?_
  obtain ⟨h1, g2, hf⟩ := obind hf
  refine fr_put hx hb hts hown K hC ct_7 g2 (by decide) kw298 rfl rfl (nR _ _) (fR _ _) dX7_layOrder_2 (fun H locs hC => ?_)
  refine fr_aload_n hx hb dX7_layOrder_5 rfl (lv_at hl 0 rfl) ?_
  refine lv_iconst (v := (0 : Int32)) hx hb dX7_layOrder_6 (by decide) ?_
  obtain ⟨h3, g4, hf⟩ := obind hf
  refine fr_put hx hb hts hown K hC ct_7 g4 (by decide) kw299 rfl rfl rfl rfl dX7_layOrder_7 (fun H locs hC => ?_)
  refine fr_aload_n hx hb dX7_layOrder_10 rfl (lv_at hl 0 rfl) ?_
  refine fr_aload_n hx hb dX7_layOrder_11 rfl (lv_at hl 0 rfl) ?_
  obtain ⟨x5, g6, hf⟩ := obind hf
  refine fr_get hx hb hts hown K hC ct_7 (fgR_get g6) (by decide) kw292 rfl dX7_layOrder_12 ?_
  refine lv_iconst (v := (0 : Int32)) hx hb dX7_layOrder_15 (by decide) ?_
  obtain ⟨b9, q10, hf⟩ := obind hf
  obtain ⟨r7, g8, hf⟩ := obind hf
  refine fr_callV hx hb hml hts hown K hC hR ct_7 (c_X7_lay hfl D cA 8 g8) 2 q10 kw629 kw626 kw628 kw14 kw55 (by decide +kernel) ⟨by exact Nat.le_of_ble_eq_true rfl, by exact Nat.le_of_ble_eq_true rfl⟩ rfl hl.1 (cat8 _ (by exact Nat.le_of_ble_eq_true rfl)) dX7_layOrder_16 rfl (fun H locs _ _ hC => ?_)
  obtain rfl := Option.some.inj hf
  exact fr_vret hx hb hr hlocks hC dX7_layOrder_19
set_option maxRecDepth 100000 in
theorem c_X7_layOrder {l : Launch} (hfl : l.stackTraces = false) (D : va_G) (cA : Nat → ClassId) {o : Nat} {h : fSt} {r : (Unit × fSt)} (hf : f_X7_layOrder o h = some r) : fMet l yX7_layOrder (wsC yX7_layOrder cX7_layOrder 1 none) (17) (406) D cA [.ref o] h r.2 none := by
  exact fMet.of (own := RX7) (by decide +kernel) rfl (lva1 rfl lva0) (lgl1 rfl lgl0) (Nat.le_of_ble_eq_true rfl) (fun p e s m args below meth c ls hnm _ M hC hl => by
    have hl : lv_has ls 1 [(0, va_rf (some o))] := hl
    exact w_X7_layOrder_L0 M hfl _ _ hf _ _ _ _ _ hC (lv_sub hl [0] rfl))
set_option maxHeartbeats 4000000 in
set_option maxRecDepth 100000 in
theorem w_X7_add_L53 {p : Program} {l : Launch} {e : Env} {s : State} {m : MethodId} {args : Array Value} {below : List Frame} {meth : Method} {c : Code} {D : va_G} {cA : Nat → ClassId} {h0 : fSt} {r : ((Int32 ⊕ Nat) × fSt)} (M : fM p s m args meth c D cA h0 { frames := 18, cells := fCB h0 - fZ h0, slots := fLB h0 - fL h0, locals := 426 } cX7_add 7 (some (.int)) RX7) (hfl : l.stackTraces = false) (hno : ∀ x ∈ c.exceptionTable.toList, False)  (h : fSt) (hf : f_X7_add_L53  h = some r) : ∀ (H : Heap) (locs : List Loc) (cells slots : Nat) (ls : Array Slot), fCur D cA s h0 h H locs → lv_has ls 7 [] → W p l e { frames := 18, cells := fCB h0 - fZ h0, slots := fLB h0 - fL h0, locals := 426 } s m args below meth c H locs cells slots (vx_MQ below (fQX D cA h0 r.2 (rI r.1)) (fXC D cA h0 r.2 (rI r.1)) args s (fCB h0 - fZ h0) (fLB h0 - fL h0) (fA h0)) (F0 m 53 ls []) := by
  obtain ⟨hx, hb, hml, hr, hlocks, hts, hown, K, hR⟩ := id M
  intro H locs cells slots ls hC hl
  obtain ⟨h1, g2, hf⟩ := obind hf
  obtain rfl := Option.some.inj hf
  exact fr_throwS hx hb hml hts hfl hown K hC hR th_RX7_60_64_1 st_RX7_67 hl.1 dX7_add_53 dX7_add_56 dX7_add_57 dX7_add_59 dX7_add_62 hno (by exact Nat.le_of_ble_eq_true rfl) (catL _ _ (by exact Nat.le_of_ble_eq_true rfl) (by exact Nat.le_of_ble_eq_true rfl)) hlocks g2
set_option maxHeartbeats 4000000 in
set_option maxRecDepth 100000 in
theorem w_X7_add_L91 {p : Program} {l : Launch} {e : Env} {s : State} {m : MethodId} {args : Array Value} {below : List Frame} {meth : Method} {c : Code} {D : va_G} {cA : Nat → ClassId} {h0 : fSt} {r : ((Int32 ⊕ Nat) × fSt)} (M : fM p s m args meth c D cA h0 { frames := 18, cells := fCB h0 - fZ h0, slots := fLB h0 - fL h0, locals := 426 } cX7_add 7 (some (.int)) RX7) (hfl : l.stackTraces = false) (hno : ∀ x ∈ c.exceptionTable.toList, False)  (h : fSt) (hf : f_X7_add_L91  h = some r) : ∀ (H : Heap) (locs : List Loc) (cells slots : Nat) (ls : Array Slot), fCur D cA s h0 h H locs → lv_has ls 7 [] → W p l e { frames := 18, cells := fCB h0 - fZ h0, slots := fLB h0 - fL h0, locals := 426 } s m args below meth c H locs cells slots (vx_MQ below (fQX D cA h0 r.2 (rI r.1)) (fXC D cA h0 r.2 (rI r.1)) args s (fCB h0 - fZ h0) (fLB h0 - fL h0) (fA h0)) (F0 m 91 ls []) := by
  obtain ⟨hx, hb, hml, hr, hlocks, hts, hown, K, hR⟩ := id M
  intro H locs cells slots ls hC hl
  obtain ⟨h3, g4, hf⟩ := obind hf
  obtain rfl := Option.some.inj hf
  exact fr_throwS hx hb hml hts hfl hown K hC hR th_RX7_73_77_2 st_RX7_75 hl.1 dX7_add_91 dX7_add_94 dX7_add_95 dX7_add_97 dX7_add_100 hno (by exact Nat.le_of_ble_eq_true rfl) (catL _ _ (by exact Nat.le_of_ble_eq_true rfl) (by exact Nat.le_of_ble_eq_true rfl)) hlocks g4
set_option maxHeartbeats 4000000 in
set_option maxRecDepth 100000 in
theorem w_X7_add_L63 {p : Program} {l : Launch} {e : Env} {s : State} {m : MethodId} {args : Array Value} {below : List Frame} {meth : Method} {c : Code} {D : va_G} {cA : Nat → ClassId} {h0 : fSt} {r : ((Int32 ⊕ Nat) × fSt)} (M : fM p s m args meth c D cA h0 { frames := 18, cells := fCB h0 - fZ h0, slots := fLB h0 - fL h0, locals := 426 } cX7_add 7 (some (.int)) RX7) (hfl : l.stackTraces = false) (hno : ∀ x ∈ c.exceptionTable.toList, False) (a0 : Option Nat) (a2 : Int32) (a3 : Int32) (a4 : Int32) (a5 : Option Nat) (h : fSt) (hf : f_X7_add_L63 a0 a2 a3 a4 a5 h = some r) : ∀ (H : Heap) (locs : List Loc) (cells slots : Nat) (ls : Array Slot), fCur D cA s h0 h H locs → lv_has ls 7 [(0, va_rf a0), (2, .int a2), (3, .int a3), (4, .int a4), (5, va_rf a5)] → W p l e { frames := 18, cells := fCB h0 - fZ h0, slots := fLB h0 - fL h0, locals := 426 } s m args below meth c H locs cells slots (vx_MQ below (fQX D cA h0 r.2 (rI r.1)) (fXC D cA h0 r.2 (rI r.1)) args s (fCB h0 - fZ h0) (fLB h0 - fL h0) (fA h0)) (F0 m 63 ls []) := by
  obtain ⟨hx, hb, hml, hr, hlocks, hts, hown, K, hR⟩ := id M
  intro H locs cells slots ls hC hl
  refine fr_aload_n hx hb dX7_add_63 rfl (lv_at hl 0 rfl) ?_
  obtain ⟨x5, g6, hf⟩ := obind hf
  refine fr_get hx hb hts hown K hC ct_7 (fgI_get g6) (by decide) kw295 rfl dX7_add_64 ?_
  refine lv_if_lt (tgt := 91) hx hb dX7_add_67 (by decide) (fun c7 => ?_) (fun c7 => ?_)
  · replace hf := opos c7 hf
    exact w_X7_add_L91 M hfl hno _ hf _ _ _ _ _ hC (lv_sub hl [] rfl)
  · replace hf := oneg c7 hf
    refine fr_aload_n hx hb dX7_add_70 rfl (lv_at hl 0 rfl) ?_
    obtain ⟨x8, g9, hf⟩ := obind hf
    refine fr_get hx hb hts hown K hC ct_7 (fgI_get g9) (by decide) kw295 rfl dX7_add_71 ?_
    refine fr_aload_n hx hb dX7_add_74 rfl (lv_at hl 0 rfl) ?_
    obtain ⟨x10, g11, hf⟩ := obind hf
    refine fr_get hx hb hts hown K hC ct_7 (fgR_get g11) (by decide) kw290 rfl dX7_add_75 ?_
    obtain ⟨x12, g13, hf⟩ := obind hf
    refine fr_alen hx hb K hC (t := 4) rfl g13 dX7_add_78 ?_
    refine lv_icmp_ge (tgt := 91) hx hb dX7_add_79 (by decide) (fun c14 => ?_) (fun c14 => ?_)
    · replace hf := opos c14 hf
      exact w_X7_add_L91 M hfl hno _ hf _ _ _ _ _ hC (lv_sub hl [] rfl)
    · replace hf := oneg c14 hf
      refine fr_aload hx hb dX7_add_82 (lv_at hl 4 rfl) ?_
      obtain ⟨b17, q18, hf⟩ := obind hf
      obtain ⟨r15, g16, hf⟩ := obind hf
      refine fr_callV hx hb hml hts hown K hC hR ct_4 (c_X4_depth hfl D cA g16) 0 q18 kw365 kw362 kw363 kw364 kw56 (by decide +kernel) ⟨by exact Nat.le_of_ble_eq_true rfl, by exact Nat.le_of_ble_eq_true rfl⟩ rfl hl.1 (cat8 _ (by exact Nat.le_of_ble_eq_true rfl)) dX7_add_84 rfl (fun H locs _ _ hC => ?_)
      refine lv_iconst (v := (4 : Int32)) hx hb dX7_add_87 (by decide) ?_
      refine lv_icmp_lt (tgt := 101) hx hb dX7_add_88 (by decide) (fun c19 => ?_) (fun c19 => ?_)
      · replace hf := opos c19 hf
        obtain ⟨r20, g21, hf⟩ := obind hf
        refine fr_new hx hb hts hown K hC ct_4 hR g21 dv_4 kw80 kw84 kw56 dX7_add_101 (fun H _ _ hC => ?_)
        refine lv_dup hx hb dX7_add_104 (va_rf_cat _) ?_
        refine fr_aload_n hx hb dX7_add_105 rfl (lv_at hl 0 rfl) ?_
        obtain ⟨x22, g23, hf⟩ := obind hf
        refine fr_get hx hb hts hown K hC ct_7 (fgI_get g23) (by decide) kw295 rfl dX7_add_106 ?_
        refine lv_iload_n hx hb dX7_add_109 rfl (lv_at hl 1 rfl) ?_
        refine lv_iload_n hx hb dX7_add_110 rfl (lv_at hl 2 rfl) ?_
        refine lv_iload hx hb dX7_add_111 (lv_at hl 3 rfl) ?_
        obtain ⟨r24, g25, hf⟩ := obind hf
        refine fr_callI hx hb hml hts hown K hC hR (c_X4_init hfl D cA g25) 4 kw87 kw85 kw86 kw56 rfl (by decide +kernel) ⟨by exact Nat.le_of_ble_eq_true rfl, by exact Nat.le_of_ble_eq_true rfl⟩ rfl hl.1 (cat8 _ (by exact Nat.le_of_ble_eq_true rfl)) dX7_add_113 rfl (fun H locs _ _ hC => ?_)
        refine fr_astore (lv' := [(6, va_rf (some r20.1)), (0, va_rf a0), (2, .int a2), (3, .int a3), (4, .int a4), (5, va_rf a5)]) hx hb dX7_add_116 hl (by decide) (congrArg (List.cons _) (flk rfl (flk rfl (flk rfl (flk rfl (flk (adj1 _ _) fln)))))) (fun ls hl => ?_)
        refine fr_aload_n hx hb dX7_add_118 rfl (lv_at hl 1 rfl) ?_
        obtain ⟨x26, g27, hf⟩ := obind hf
        refine fr_get hx hb hts hown K hC ct_7 (fgR_get g27) (by decide) kw290 rfl dX7_add_119 ?_
        refine fr_aload_n hx hb dX7_add_122 rfl (lv_at hl 1 rfl) ?_
        obtain ⟨x28, g29, hf⟩ := obind hf
        refine fr_get hx hb hts hown K hC ct_7 (fgI_get g29) (by decide) kw295 rfl dX7_add_123 ?_
        refine fr_aload hx hb dX7_add_126 (lv_at hl 0 rfl) ?_
        obtain ⟨h30, g31, hf⟩ := obind hf
        refine fr_aast hx hb K hC (t := 4) ct_4 rfl g31 dX7_add_128 (fun H locs hC => ?_)
        refine fr_aload_n hx hb dX7_add_129 rfl (lv_at hl 1 rfl) ?_
        refine lv_dup hx hb dX7_add_130 (va_rf_cat _) ?_
        obtain ⟨x32, g33, hf⟩ := obind hf
        refine fr_get hx hb hts hown K hC ct_7 (fgI_get g33) (by decide) kw295 rfl dX7_add_131 ?_
        refine lv_iconst (v := (1 : Int32)) hx hb dX7_add_134 (by decide) ?_
        refine lv_iadd hx hb dX7_add_135 ?_
        obtain ⟨h34, g35, hf⟩ := obind hf
        refine fr_put hx hb hts hown K hC ct_7 g35 (by decide) kw295 rfl rfl rfl rfl dX7_add_136 (fun H locs hC => ?_)
        refine fr_aload hx hb dX7_add_139 (lv_at hl 5 rfl) ?_
        refine fr_aload hx hb dX7_add_141 (lv_at hl 0 rfl) ?_
        obtain ⟨b38, q39, hf⟩ := obind hf
        obtain ⟨r36, g37, hf⟩ := obind hf
        refine fr_callV hx hb hml hts hown K hC hR ct_4 (c_X4_takeIn hfl D cA g37) 1 q39 kw621 kw618 kw619 kw620 kw56 (by decide +kernel) ⟨by exact Nat.le_of_ble_eq_true rfl, by exact Nat.le_of_ble_eq_true rfl⟩ rfl hl.1 (cat8 _ (by exact Nat.le_of_ble_eq_true rfl)) dX7_add_143 rfl (fun H locs _ _ hC => ?_)
        refine fr_aload_n hx hb dX7_add_146 rfl (lv_at hl 1 rfl) ?_
        obtain ⟨b42, q43, hf⟩ := obind hf
        obtain ⟨r40, g41, hf⟩ := obind hf
        refine fr_callV hx hb hml hts hown K hC hR ct_7 (c_X7_layOrder hfl D cA g41) 0 q43 kw625 kw622 kw624 kw13 kw55 (by decide +kernel) ⟨by exact Nat.le_of_ble_eq_true rfl, by exact Nat.le_of_ble_eq_true rfl⟩ rfl hl.1 (cat8 _ (by exact Nat.le_of_ble_eq_true rfl)) dX7_add_147 rfl (fun H locs _ _ hC => ?_)
        refine fr_aload hx hb dX7_add_150 (lv_at hl 0 rfl) ?_
        obtain ⟨x44, g45, hf⟩ := obind hf
        refine fr_get hx hb hts hown K hC ct_4 (fgI_get g45) (by decide) kw152 rfl dX7_add_152 ?_
        obtain rfl := Option.some.inj hf
        exact fr_retQ (fr_iret hx hb hr hlocks hC dX7_add_155)
      · replace hf := oneg c19 hf
        exact w_X7_add_L91 M hfl hno _ hf _ _ _ _ _ hC (lv_sub hl [] rfl)
set_option maxHeartbeats 4000000 in
set_option maxRecDepth 100000 in
theorem w_X7_add_L0 {p : Program} {l : Launch} {e : Env} {s : State} {m : MethodId} {args : Array Value} {below : List Frame} {meth : Method} {c : Code} {D : va_G} {cA : Nat → ClassId} {h0 : fSt} {r : ((Int32 ⊕ Nat) × fSt)} (M : fM p s m args meth c D cA h0 { frames := 18, cells := fCB h0 - fZ h0, slots := fLB h0 - fL h0, locals := 426 } cX7_add 7 (some (.int)) RX7) (hfl : l.stackTraces = false) (hno : ∀ x ∈ c.exceptionTable.toList, False) (a0 : Option Nat) (a1 : Int32) (a2 : Int32) (a3 : Int32) (a4 : Int32) (h : fSt) (hf : f_X7_add_L0 a0 a1 a2 a3 a4 h = some r) : ∀ (H : Heap) (locs : List Loc) (cells slots : Nat) (ls : Array Slot), fCur D cA s h0 h H locs → lv_has ls 7 [(0, va_rf a0), (1, .int a1), (2, .int a2), (3, .int a3), (4, .int a4)] → W p l e { frames := 18, cells := fCB h0 - fZ h0, slots := fLB h0 - fL h0, locals := 426 } s m args below meth c H locs cells slots (vx_MQ below (fQX D cA h0 r.2 (rI r.1)) (fXC D cA h0 r.2 (rI r.1)) args s (fCB h0 - fZ h0) (fLB h0 - fL h0) (fA h0)) (F0 m 0 ls []) := by
  obtain ⟨hx, hb, hml, hr, hlocks, hts, hown, K, hR⟩ := id M
  intro H locs cells slots ls hC hl
  refine fr_aload_n hx hb dX7_add_0 rfl (lv_at hl 0 rfl) ?_
  refine lv_iload_n hx hb dX7_add_1 rfl (lv_at hl 1 rfl) ?_
  obtain ⟨b48, q49, hf⟩ := obind hf
  obtain ⟨⟨v50 | k51, h52⟩, g47, hf⟩ := obind hf
  · refine fr_callVX hx hb hml hts hown K hC hR ct_7 (c_X7_found hfl D cA g47) 1 q49 kw583 kw580 kw582 kw12 kw55 (by decide +kernel) ⟨by exact Nat.le_of_ble_eq_true rfl, by exact Nat.le_of_ble_eq_true rfl⟩ rfl hl.1 (cat8 _ (by exact Nat.le_of_ble_eq_true rfl)) dX7_add_2 rfl (fun H locs _ _ hC => ?_)
    refine fr_astore (lv' := [(5, va_rf v50), (0, va_rf a0), (1, .int a1), (2, .int a2), (3, .int a3), (4, .int a4)]) hx hb dX7_add_5 hl (by decide) (congrArg (List.cons _) (flk rfl (flk rfl (flk rfl (flk rfl (flk rfl fln)))))) (fun ls hl => ?_)
    refine lv_iload_n hx hb dX7_add_7 rfl (lv_at hl 3 rfl) ?_
    refine lv_iconst (v := (0 : Int32)) hx hb dX7_add_8 (by decide) ?_
    refine lv_iconst (v := (2 : Int32)) hx hb dX7_add_9 (by decide) ?_
    obtain ⟨r53, g54, hf⟩ := obind hf
    refine fr_callS hx hb hml hts hown K hC hR (c_X7_isFrom hfl D cA g54) 3 kw492 kw490 kw491 kw55 (by decide +kernel) ⟨by exact Nat.le_of_ble_eq_true rfl, by exact Nat.le_of_ble_eq_true rfl⟩ rfl hl.1 (cat8 _ (by exact Nat.le_of_ble_eq_true rfl)) dX7_add_10 rfl (fun H locs _ _ hC => ?_)
    refine lv_if_ne (tgt := 26) hx hb dX7_add_13 (by decide) (fun c55 => ?_) (fun c55 => ?_)
    · replace hf := oneg c55 hf
      refine lv_iload_n hx hb dX7_add_26 rfl (lv_at hl 3 rfl) ?_
      refine lv_if_eq (tgt := 63) hx hb dX7_add_27 (by decide) (fun c56 => ?_) (fun c56 => ?_)
      · replace hf := opos c56 hf
        exact w_X7_add_L63 M hfl hno _ _ _ _ _ _ hf _ _ _ _ _ hC (lv_sub hl [1, 3, 4, 5, 0] rfl)
      · replace hf := oneg c56 hf
        refine lv_iload_n hx hb dX7_add_30 rfl (lv_at hl 4 rfl) ?_
        refine lv_iconst (v := (1 : Int32)) hx hb dX7_add_31 (by decide) ?_
        refine lv_sipush (v := (200 : Int32)) hx hb dX7_add_32 (by decide) ?_
        obtain ⟨r57, g58, hf⟩ := obind hf
        refine fr_callS hx hb hml hts hown K hC hR (c_X7_isFrom hfl D cA g58) 3 kw492 kw490 kw491 kw55 (by decide +kernel) ⟨by exact Nat.le_of_ble_eq_true rfl, by exact Nat.le_of_ble_eq_true rfl⟩ rfl hl.1 (cat8 _ (by exact Nat.le_of_ble_eq_true rfl)) dX7_add_35 rfl (fun H locs _ _ hC => ?_)
        refine lv_if_eq (tgt := 53) hx hb dX7_add_38 (by decide) (fun c59 => ?_) (fun c59 => ?_)
        · replace hf := opos c59 hf
          exact w_X7_add_L53 M hfl hno _ hf _ _ _ _ _ hC (lv_sub hl [] rfl)
        · replace hf := oneg c59 hf
          refine lv_iload hx hb dX7_add_41 (lv_at hl 5 rfl) ?_
          refine lv_iconst (v := (1 : Int32)) hx hb dX7_add_43 (by decide) ?_
          refine lv_sipush (v := (200 : Int32)) hx hb dX7_add_44 (by decide) ?_
          obtain ⟨r60, g61, hf⟩ := obind hf
          refine fr_callS hx hb hml hts hown K hC hR (c_X7_isFrom hfl D cA g61) 3 kw492 kw490 kw491 kw55 (by decide +kernel) ⟨by exact Nat.le_of_ble_eq_true rfl, by exact Nat.le_of_ble_eq_true rfl⟩ rfl hl.1 (cat8 _ (by exact Nat.le_of_ble_eq_true rfl)) dX7_add_47 rfl (fun H locs _ _ hC => ?_)
          refine lv_if_ne (tgt := 63) hx hb dX7_add_50 (by decide) (fun c62 => ?_) (fun c62 => ?_)
          · replace hf := oneg c62 hf
            exact w_X7_add_L63 M hfl hno _ _ _ _ _ _ hf _ _ _ _ _ hC (lv_sub hl [1, 3, 4, 5, 0] rfl)
          · replace hf := opos c62 hf
            exact w_X7_add_L53 M hfl hno _ hf _ _ _ _ _ hC (lv_sub hl [] rfl)
    · replace hf := opos c55 hf
      obtain ⟨h63, g64, hf⟩ := obind hf
      obtain rfl := Option.some.inj hf
      exact fr_throwS hx hb hml hts hfl hown K hC hR th_RX7_60_64_1 st_RX7_62 hl.1 dX7_add_16 dX7_add_19 dX7_add_20 dX7_add_22 dX7_add_25 hno (by exact Nat.le_of_ble_eq_true rfl) (catL _ _ (by exact Nat.le_of_ble_eq_true rfl) (by exact Nat.le_of_ble_eq_true rfl)) hlocks g64
  · obtain rfl := Option.some.inj hf
    refine fr_callVT hx hb hml hts hown K hC hR ct_7 (c_X7_found hfl D cA g47) 1 q49 kw583 kw580 kw582 kw12 kw55 (by decide +kernel) ⟨by exact Nat.le_of_ble_eq_true rfl, by exact Nat.le_of_ble_eq_true rfl⟩ rfl hl.1 (cat8 _ (by exact Nat.le_of_ble_eq_true rfl)) dX7_add_2 rfl (fun H locs _ _ q ce hC e1 e2 e3 => ?_)
    exact fr_out (fun x hx9 => (hno x hx9).elim) hlocks hC e1 e2 e3
set_option maxRecDepth 100000 in
theorem c_X7_add {l : Launch} (hfl : l.stackTraces = false) (D : va_G) (cA : Nat → ClassId) {o : Nat} {p0 : Int32} {p1 : Int32} {p2 : Int32} {p3 : Int32} {h : fSt} {r : ((Int32 ⊕ Nat) × fSt)} (hf : f_X7_add o p0 p1 p2 p3 h = some r) : fMetX l yX7_add (wsC yX7_add cX7_add 7 (some (.int))) (18) (426) D cA [.ref o, .int p0, .int p1, .int p2, .int p3] h r.2 (rI r.1) := by
  exact fMetX.of (own := RX7) (by decide +kernel) rfl (lva1 rfl (lva1 rfl (lva1 rfl (lva1 rfl (lva1 rfl lva0))))) (lgl1 rfl (lgl1 rfl (lgl1 rfl (lgl1 rfl (lgl1 rfl lgl0))))) (Nat.le_of_ble_eq_true rfl) (fun p e s m args below meth c ls hno M hC hl => by
    have hl : lv_has ls 7 [(0, va_rf (some o)), (1, .int p0), (2, .int p1), (3, .int p2), (4, .int p3)] := hl
    exact w_X7_add_L0 M hfl hno _ _ _ _ _ _ hf _ _ _ _ _ hC (lv_sub hl [0, 1, 2, 3, 4] rfl))
set_option maxHeartbeats 4000000 in
set_option maxRecDepth 100000 in
theorem w_L_add_L0 {p : Program} {l : Launch} {e : Env} {s : State} {m : MethodId} {args : Array Value} {below : List Frame} {meth : Method} {c : Code} {D : va_G} {cA : Nat → ClassId} {h0 : fSt} {r : ((Int32 ⊕ Nat) × fSt)} (M : fM p s m args meth c D cA h0 { frames := 19, cells := fCB h0 - fZ h0, slots := fLB h0 - fL h0, locals := 452 } cL_add 7 (some (.int)) RL) (hfl : l.stackTraces = false) (hno : c.exceptionTable.toList = tableOf [(0, 14, 17, 13), (0, 14, 21, 15), (0, 14, 25, 17)]) (a0 : Option Nat) (a1 : Int32) (a2 : Int32) (a3 : Int32) (a4 : Int32) (a5 : Option Nat) (h : fSt) (hf : f_L_add_L0 a0 a1 a2 a3 a4 a5 h = some r) : ∀ (H : Heap) (locs : List Loc) (cells slots : Nat) (ls : Array Slot), fCur D cA s h0 h H locs → lv_has ls 7 [(0, va_rf a0), (1, .int a1), (2, .int a2), (3, .int a3), (4, .int a4), (5, va_rf a5)] → W p l e { frames := 19, cells := fCB h0 - fZ h0, slots := fLB h0 - fL h0, locals := 452 } s m args below meth c H locs cells slots (vx_MQ below (fQX D cA h0 r.2 (rI r.1)) (fXC D cA h0 r.2 (rI r.1)) args s (fCB h0 - fZ h0) (fLB h0 - fL h0) (fA h0)) (F0 m 0 ls []) := by
  obtain ⟨hx, hb, hml, hr, hlocks, hts, hown, K, hR⟩ := id M
  intro H locs cells slots ls hC hl
  refine fr_aload hx hb dL_add_0 (lv_at hl 5 rfl) ?_
  refine lv_iconst (v := (0 : Int32)) hx hb dL_add_2 (by decide) ?_
  refine fr_aload_n hx hb dL_add_3 rfl (lv_at hl 0 rfl) ?_
  refine lv_iload_n hx hb dL_add_4 rfl (lv_at hl 1 rfl) ?_
  refine lv_iload_n hx hb dL_add_5 rfl (lv_at hl 2 rfl) ?_
  refine lv_iload_n hx hb dL_add_6 rfl (lv_at hl 3 rfl) ?_
  refine lv_iload hx hb dL_add_7 (lv_at hl 4 rfl) ?_
  obtain ⟨b3, q4, hf⟩ := obind hf
  obtain ⟨⟨v5 | k6, h7⟩, g2, hf⟩ := obind hf
  · refine fr_callVX hx hb hml hts hown K hC hR ct_7 (c_X7_add hfl D cA g2) 4 q4 kw579 kw576 kw577 kw578 kw55 (by decide +kernel) ⟨by exact Nat.le_of_ble_eq_true rfl, by exact Nat.le_of_ble_eq_true rfl⟩ rfl hl.1 (cat8 _ (by exact Nat.le_of_ble_eq_true rfl)) dL_add_9 rfl (fun H locs _ _ hC => ?_)
    refine lv_i2l (v := (Int32.toInt64 v5)) hx hb dL_add_12 rfl ?_
    obtain ⟨h8, g9, hf⟩ := obind hf
    refine fr_last hx hb K hC (t := 1) rfl g9 dL_add_13 (fun H locs hC => ?_)
    refine lv_goto (tgt := 29) hx hb dL_add_14 (by decide) ?_
    refine lv_iconst (v := (0 : Int32)) hx hb dL_add_29 (by decide) ?_
    obtain rfl := Option.some.inj hf
    exact fr_retQ (fr_iret hx hb hr hlocks hC dL_add_30)
  · refine fr_callVT hx hb hml hts hown K hC hR ct_7 (c_X7_add hfl D cA g2) 4 q4 kw579 kw576 kw577 kw578 kw55 (by decide +kernel) ⟨by exact Nat.le_of_ble_eq_true rfl, by exact Nat.le_of_ble_eq_true rfl⟩ rfl hl.1 (cat8 _ (by exact Nat.le_of_ble_eq_true rfl)) dL_add_9 rfl (fun H locs _ _ q ce hC e1 e2 e3 => ?_)
    by_cases c10 : k6 = 0
    · replace hf := opos c10 hf
      subst c10
      refine fr_catch (k9 := 0) (name := "java/lang/IndexOutOfBoundsException") hts K hown [] ⟨0, 14, 17, 13⟩ [⟨0, 14, 21, 15⟩, ⟨0, 14, 25, 17⟩] (by rw [hno]; rfl) (fun z hz => nomatch hz) (by decide) (by decide) kw573 kn586 e1 e2 e3 ?_
      refine fr_astore (lv' := [(6, va_rf (some q)), (0, va_rf a0), (1, .int a1), (2, .int a2), (3, .int a3), (4, .int a4), (5, va_rf a5)]) hx hb dL_add_17 hl (by decide) (congrArg (List.cons _) (flk rfl (flk rfl (flk rfl (flk rfl (flk rfl (flk (adj1 _ _) fln))))))) (fun ls hl => ?_)
      refine lv_iconst (v := (1 : Int32)) hx hb dL_add_19 (by decide) ?_
      obtain rfl := Option.some.inj hf
      exact fr_retQ (fr_iret hx hb hr hlocks hC dL_add_20)
    replace hf := oneg c10 hf
    by_cases c12 : k6 = 1
    · replace hf := opos c12 hf
      subst c12
      refine fr_catch (k9 := 1) (name := "java/lang/IllegalArgumentException") hts K hown [⟨0, 14, 17, 13⟩] ⟨0, 14, 21, 15⟩ [⟨0, 14, 25, 17⟩] (by rw [hno]; rfl) (all1 ⟨by decide, _, kw573, by decide +kernel⟩) (by decide) (by decide) kw574 kn495 e1 e2 e3 ?_
      refine fr_astore (lv' := [(6, va_rf (some q)), (0, va_rf a0), (1, .int a1), (2, .int a2), (3, .int a3), (4, .int a4), (5, va_rf a5)]) hx hb dL_add_21 hl (by decide) (congrArg (List.cons _) (flk rfl (flk rfl (flk rfl (flk rfl (flk rfl (flk (adj1 _ _) fln))))))) (fun ls hl => ?_)
      refine lv_iconst (v := (2 : Int32)) hx hb dL_add_23 (by decide) ?_
      obtain rfl := Option.some.inj hf
      exact fr_retQ (fr_iret hx hb hr hlocks hC dL_add_24)
    replace hf := oneg c12 hf
    by_cases c14 : k6 = 2
    · replace hf := opos c14 hf
      subst c14
      refine fr_catch (k9 := 2) (name := "java/lang/IllegalStateException") hts K hown [⟨0, 14, 17, 13⟩, ⟨0, 14, 21, 15⟩] ⟨0, 14, 25, 17⟩ [] (by rw [hno]; rfl) (all2 ⟨by decide, _, kw573, by decide +kernel⟩ ⟨by decide, _, kw574, by decide +kernel⟩) (by decide) (by decide) kw575 kn604 e1 e2 e3 ?_
      refine fr_astore (lv' := [(6, va_rf (some q)), (0, va_rf a0), (1, .int a1), (2, .int a2), (3, .int a3), (4, .int a4), (5, va_rf a5)]) hx hb dL_add_25 hl (by decide) (congrArg (List.cons _) (flk rfl (flk rfl (flk rfl (flk rfl (flk rfl (flk (adj1 _ _) fln))))))) (fun ls hl => ?_)
      refine lv_iconst (v := (3 : Int32)) hx hb dL_add_27 (by decide) ?_
      obtain rfl := Option.some.inj hf
      exact fr_retQ (fr_iret hx hb hr hlocks hC dL_add_28)
    replace hf := oneg c14 hf
    exact nomatch hf
set_option maxRecDepth 100000 in
theorem c_L_add {l : Launch} (hfl : l.stackTraces = false) (D : va_G) (cA : Nat → ClassId) {p0 : Option Nat} {p1 : Int32} {p2 : Int32} {p3 : Int32} {p4 : Int32} {p5 : Option Nat} {h : fSt} {r : ((Int32 ⊕ Nat) × fSt)} (hf : f_L_add p0 p1 p2 p3 p4 p5 h = some r) : fMetX l yL_add (wsCH yL_add cL_add 7 (some (.int)) [(0, 14, 17, 13), (0, 14, 21, 15), (0, 14, 25, 17)]) (19) (452) D cA [va_rf p0, .int p1, .int p2, .int p3, .int p4, va_rf p5] h r.2 (rI r.1) := by
  exact fMetX.ofH (own := RL) (by decide +kernel) rfl (lva1 (va_rf_cat _) (lva1 rfl (lva1 rfl (lva1 rfl (lva1 rfl (lva1 (va_rf_cat _) lva0)))))) (lgl1 (va_rf_cat _) (lgl1 rfl (lgl1 rfl (lgl1 rfl (lgl1 rfl (lgl1 (va_rf_cat _) lgl0)))))) (Nat.le_of_ble_eq_true rfl) (fun p e s m args below meth c ls hno M hC hl => by
    have hl : lv_has ls 7 [(0, va_rf p0), (1, .int p1), (2, .int p2), (3, .int p3), (4, .int p4), (5, va_rf p5)] := hl
    exact w_L_add_L0 M hfl hno _ _ _ _ _ _ _ hf _ _ _ _ _ hC (lv_sub hl [0, 1, 2, 3, 4, 5] rfl))
set_option maxHeartbeats 4000000 in
set_option maxRecDepth 100000 in
theorem w_X7_commonDivisor_L80 {p : Program} {l : Launch} {e : Env} {s : State} {m : MethodId} {args : Array Value} {below : List Frame} {meth : Method} {c : Code} {D : va_G} {cA : Nat → ClassId} {h0 : fSt} {r : (Int64 × fSt)} (M : fM p s m args meth c D cA h0 { frames := 0, cells := fCB h0 - fZ h0, slots := fLB h0 - fL h0, locals := 0 } cX7_commonDivisor 11 (some (.long)) RX7) (hfl : l.stackTraces = false) (s0 : Int64) (h : fSt) (hf : f_X7_commonDivisor_L80 s0 h = some r) : ∀ (H : Heap) (locs : List Loc) (cells slots : Nat) (ls : Array Slot), fCur D cA s h0 h H locs → lv_has ls 11 [] → W p l e { frames := 0, cells := fCB h0 - fZ h0, slots := fLB h0 - fL h0, locals := 0 } s m args below meth c H locs cells slots (MQ below (fQ D cA h0 r.2 (some (.long r.1))) args s (fCB h0 - fZ h0) (fLB h0 - fL h0) (fA h0)) (F0 m 80 ls [.long s0]) := by
  obtain ⟨hx, hb, hml, hr, hlocks, hts, hown, K, hR⟩ := id M
  intro H locs cells slots ls hC hl
  obtain rfl := Option.some.inj hf
  exact fr_lret hx hb hr hlocks hC dX7_commonDivisor_80
set_option maxHeartbeats 4000000 in
set_option maxRecDepth 100000 in
theorem w_X7_commonDivisor_L67 {p : Program} {l : Launch} {e : Env} {s : State} {m : MethodId} {args : Array Value} {below : List Frame} {meth : Method} {c : Code} {D : va_G} {cA : Nat → ClassId} {h0 : fSt} {r : (Int64 × fSt)} (M : fM p s m args meth c D cA h0 { frames := 0, cells := fCB h0 - fZ h0, slots := fLB h0 - fL h0, locals := 0 } cX7_commonDivisor 11 (some (.long)) RX7) (hfl : l.stackTraces = false) (a4 : Int64) (h : fSt) (hf : f_X7_commonDivisor_L67 a4 h = some r) : ∀ (H : Heap) (locs : List Loc) (cells slots : Nat) (ls : Array Slot), fCur D cA s h0 h H locs → lv_has ls 11 [(4, .long a4)] → W p l e { frames := 0, cells := fCB h0 - fZ h0, slots := fLB h0 - fL h0, locals := 0 } s m args below meth c H locs cells slots (MQ below (fQ D cA h0 r.2 (some (.long r.1))) args s (fCB h0 - fZ h0) (fLB h0 - fL h0) (fA h0)) (F0 m 67 ls []) := by
  obtain ⟨hx, hb, hml, hr, hlocks, hts, hown, K, hR⟩ := id M
  intro H locs cells slots ls hC hl
  refine lv_lload hx hb dX7_commonDivisor_67 (lv_at hl 0 rfl) ?_
  refine lv_lconst (v := (0 : Int64)) hx hb dX7_commonDivisor_69 (by decide) ?_
  refine fr_lcmp_le (tgt := 79) hx hb dX7_commonDivisor_70 dX7_commonDivisor_71 (by decide) (fun c1 => ?_) (fun c1 => ?_)
  · replace hf := opos c1 hf
    refine lv_lconst (v := (1 : Int64)) hx hb dX7_commonDivisor_79 (by decide) ?_
    exact w_X7_commonDivisor_L80 M hfl _ _ hf _ _ _ _ _ hC (lv_sub hl [] rfl)
  · replace hf := oneg c1 hf
    refine lv_lload hx hb dX7_commonDivisor_74 (lv_at hl 0 rfl) ?_
    refine lv_goto (tgt := 80) hx hb dX7_commonDivisor_76 (by decide) ?_
    exact w_X7_commonDivisor_L80 M hfl _ _ hf _ _ _ _ _ hC (lv_sub hl [] rfl)
set_option maxHeartbeats 4000000 in
set_option maxRecDepth 100000 in
theorem w_X7_commonDivisor_L31 {p : Program} {l : Launch} {e : Env} {s : State} {m : MethodId} {args : Array Value} {below : List Frame} {meth : Method} {c : Code} {D : va_G} {cA : Nat → ClassId} {h0 : fSt} {r : (Int64 × fSt)} (M : fM p s m args meth c D cA h0 { frames := 0, cells := fCB h0 - fZ h0, slots := fLB h0 - fL h0, locals := 0 } cX7_commonDivisor 11 (some (.long)) RX7) (hfl : l.stackTraces = false) : ∀ (n : Nat) (a4 : Int64) (a6 : Int64) (a8 : Int32) (h : fSt), f_X7_commonDivisor_L31 n a4 a6 a8 h = some r → ∀ (H : Heap) (locs : List Loc) (cells slots : Nat) (ls : Array Slot), fCur D cA s h0 h H locs → lv_has ls 11 [(4, .long a4), (6, .long a6), (8, .int a8)] → W p l e { frames := 0, cells := fCB h0 - fZ h0, slots := fLB h0 - fL h0, locals := 0 } s m args below meth c H locs cells slots (MQ below (fQ D cA h0 r.2 (some (.long r.1))) args s (fCB h0 - fZ h0) (fLB h0 - fL h0) (fA h0)) (F0 m 31 ls []) := by
  obtain ⟨hx, hb, hml, hr, hlocks, hts, hown, K, hR⟩ := id M
  intro n
  induction n with
  | zero =>
    intro a4 a6 a8 h hf
    exact nomatch (show (none : Option (Int64 × fSt)) = some r from hf)
  | succ n hk31 =>
    intro a4 a6 a8 h hf H locs cells slots ls hC hl
    refine lv_iload hx hb dX7_commonDivisor_31 (lv_at hl 2 rfl) ?_
    refine lv_sipush (v := (200 : Int32)) hx hb dX7_commonDivisor_33 (by decide) ?_
    refine lv_icmp_ge (tgt := 67) hx hb dX7_commonDivisor_36 (by decide) (fun c2 => ?_) (fun c2 => ?_)
    · replace hf := opos c2 hf
      exact w_X7_commonDivisor_L67 M hfl _ _ hf _ _ _ _ _ hC (lv_sub hl [0] rfl)
    · replace hf := oneg c2 hf
      refine lv_lload hx hb dX7_commonDivisor_39 (lv_at hl 1 rfl) ?_
      refine lv_lconst (v := (0 : Int64)) hx hb dX7_commonDivisor_41 (by decide) ?_
      refine fr_lcmp_eq (tgt := 67) hx hb dX7_commonDivisor_42 dX7_commonDivisor_43 (by decide) (fun c3 => ?_) (fun c3 => ?_)
      · replace hf := opos c3 hf
        exact w_X7_commonDivisor_L67 M hfl _ _ hf _ _ _ _ _ hC (lv_sub hl [0] rfl)
      · replace hf := oneg c3 hf
        refine lv_lload hx hb dX7_commonDivisor_46 (lv_at hl 0 rfl) ?_
        refine lv_lload hx hb dX7_commonDivisor_48 (lv_at hl 1 rfl) ?_
        by_cases c4 : a6 = 0
        · exact nomatch (opos c4 hf)
        replace hf := oneg c4 hf
        refine lv_lrem hx hb dX7_commonDivisor_50 c4 ?_
        refine lv_lstore (lv' := [(9, .long (a4 - a4 / a6 * a6)), (4, .long a4), (6, .long a6), (8, .int a8)]) hx hb dX7_commonDivisor_51 hl (by decide) (congrArg (List.cons _) (flk rfl (flk rfl (flk rfl fln)))) (fun ls hl => ?_)
        refine lv_lload hx hb dX7_commonDivisor_53 (lv_at hl 2 rfl) ?_
        refine lv_lstore (lv' := [(4, .long a6), (9, .long (a4 - a4 / a6 * a6)), (6, .long a6), (8, .int a8)]) hx hb dX7_commonDivisor_55 hl (by decide) (congrArg (List.cons _) (flk rfl (fld rfl (flk rfl (flk rfl fln))))) (fun ls hl => ?_)
        refine lv_lload hx hb dX7_commonDivisor_57 (lv_at hl 1 rfl) ?_
        refine lv_lstore (lv' := [(6, .long (a4 - a4 / a6 * a6)), (4, .long a6), (9, .long (a4 - a4 / a6 * a6)), (8, .int a8)]) hx hb dX7_commonDivisor_59 hl (by decide) (congrArg (List.cons _) (flk rfl (flk rfl (fld rfl (flk rfl fln))))) (fun ls hl => ?_)
        refine lv_iinc (v := (a8 + (1 : Int32))) (lv' := [(8, .int (a8 + (1 : Int32))), (6, .long (a4 - a4 / a6 * a6)), (4, .long a6), (9, .long (a4 - a4 / a6 * a6))]) hx hb dX7_commonDivisor_61 hl (k := 3) rfl rfl (by decide) (congrArg (List.cons _) (flk rfl (flk rfl (flk rfl (fld rfl fln))))) (fun ls hl => ?_)
        refine lv_goto (tgt := 31) hx hb dX7_commonDivisor_64 (by decide) ?_
        exact hk31 _ _ _ _ hf _ _ _ _ _ hC (lv_sub hl [2, 1, 0] rfl)
set_option maxHeartbeats 4000000 in
set_option maxRecDepth 100000 in
theorem w_X7_commonDivisor_L26 {p : Program} {l : Launch} {e : Env} {s : State} {m : MethodId} {args : Array Value} {below : List Frame} {meth : Method} {c : Code} {D : va_G} {cA : Nat → ClassId} {h0 : fSt} {r : (Int64 × fSt)} (M : fM p s m args meth c D cA h0 { frames := 0, cells := fCB h0 - fZ h0, slots := fLB h0 - fL h0, locals := 0 } cX7_commonDivisor 11 (some (.long)) RX7) (hfl : l.stackTraces = false) (a4 : Int64) (s0 : Int64) (h : fSt) (hf : f_X7_commonDivisor_L26 a4 s0 h = some r) : ∀ (H : Heap) (locs : List Loc) (cells slots : Nat) (ls : Array Slot), fCur D cA s h0 h H locs → lv_has ls 11 [(4, .long a4)] → W p l e { frames := 0, cells := fCB h0 - fZ h0, slots := fLB h0 - fL h0, locals := 0 } s m args below meth c H locs cells slots (MQ below (fQ D cA h0 r.2 (some (.long r.1))) args s (fCB h0 - fZ h0) (fLB h0 - fL h0) (fA h0)) (F0 m 26 ls [.long s0]) := by
  obtain ⟨hx, hb, hml, hr, hlocks, hts, hown, K, hR⟩ := id M
  intro H locs cells slots ls hC hl
  refine lv_lstore (lv' := [(6, .long s0), (4, .long a4)]) hx hb dX7_commonDivisor_26 hl (by decide) (congrArg (List.cons _) (flk rfl fln)) (fun ls hl => ?_)
  refine lv_iconst (v := (0 : Int32)) hx hb dX7_commonDivisor_28 (by decide) ?_
  refine lv_istore (lv' := [(8, .int (0 : Int32)), (6, .long s0), (4, .long a4)]) hx hb dX7_commonDivisor_29 hl (by decide) (congrArg (List.cons _) (flk rfl (flk rfl fln))) (fun ls hl => ?_)
  exact w_X7_commonDivisor_L31 M hfl 4096 _ _ _ _ hf _ _ _ _ _ hC (lv_sub hl [2, 1, 0] rfl)
set_option maxHeartbeats 4000000 in
set_option maxRecDepth 100000 in
theorem w_X7_commonDivisor_L12 {p : Program} {l : Launch} {e : Env} {s : State} {m : MethodId} {args : Array Value} {below : List Frame} {meth : Method} {c : Code} {D : va_G} {cA : Nat → ClassId} {h0 : fSt} {r : (Int64 × fSt)} (M : fM p s m args meth c D cA h0 { frames := 0, cells := fCB h0 - fZ h0, slots := fLB h0 - fL h0, locals := 0 } cX7_commonDivisor 11 (some (.long)) RX7) (hfl : l.stackTraces = false) (a2 : Int64) (s0 : Int64) (h : fSt) (hf : f_X7_commonDivisor_L12 a2 s0 h = some r) : ∀ (H : Heap) (locs : List Loc) (cells slots : Nat) (ls : Array Slot), fCur D cA s h0 h H locs → lv_has ls 11 [(2, .long a2)] → W p l e { frames := 0, cells := fCB h0 - fZ h0, slots := fLB h0 - fL h0, locals := 0 } s m args below meth c H locs cells slots (MQ below (fQ D cA h0 r.2 (some (.long r.1))) args s (fCB h0 - fZ h0) (fLB h0 - fL h0) (fA h0)) (F0 m 12 ls [.long s0]) := by
  obtain ⟨hx, hb, hml, hr, hlocks, hts, hown, K, hR⟩ := id M
  intro H locs cells slots ls hC hl
  refine lv_lstore (lv' := [(4, .long s0), (2, .long a2)]) hx hb dX7_commonDivisor_12 hl (by decide) (congrArg (List.cons _) (flk rfl fln)) (fun ls hl => ?_)
  refine lv_lload_n hx hb dX7_commonDivisor_14 rfl (lv_at hl 1 rfl) ?_
  refine lv_lconst (v := (0 : Int64)) hx hb dX7_commonDivisor_15 (by decide) ?_
  refine fr_lcmp_ge (tgt := 25) hx hb dX7_commonDivisor_16 dX7_commonDivisor_17 (by decide) (fun c5 => ?_) (fun c5 => ?_)
  · replace hf := opos c5 hf
    refine lv_lload_n hx hb dX7_commonDivisor_25 rfl (lv_at hl 1 rfl) ?_
    exact w_X7_commonDivisor_L26 M hfl _ _ _ hf _ _ _ _ _ hC (lv_sub hl [0] rfl)
  · replace hf := oneg c5 hf
    refine lv_lload_n hx hb dX7_commonDivisor_20 rfl (lv_at hl 1 rfl) ?_
    refine lv_lneg hx hb dX7_commonDivisor_21 ?_
    refine lv_goto (tgt := 26) hx hb dX7_commonDivisor_22 (by decide) ?_
    exact w_X7_commonDivisor_L26 M hfl _ _ _ hf _ _ _ _ _ hC (lv_sub hl [0] rfl)
set_option maxHeartbeats 4000000 in
set_option maxRecDepth 100000 in
theorem w_X7_commonDivisor_L0 {p : Program} {l : Launch} {e : Env} {s : State} {m : MethodId} {args : Array Value} {below : List Frame} {meth : Method} {c : Code} {D : va_G} {cA : Nat → ClassId} {h0 : fSt} {r : (Int64 × fSt)} (M : fM p s m args meth c D cA h0 { frames := 0, cells := fCB h0 - fZ h0, slots := fLB h0 - fL h0, locals := 0 } cX7_commonDivisor 11 (some (.long)) RX7) (hfl : l.stackTraces = false) (a0 : Int64) (a2 : Int64) (h : fSt) (hf : f_X7_commonDivisor_L0 a0 a2 h = some r) : ∀ (H : Heap) (locs : List Loc) (cells slots : Nat) (ls : Array Slot), fCur D cA s h0 h H locs → lv_has ls 11 [(0, .long a0), (2, .long a2)] → W p l e { frames := 0, cells := fCB h0 - fZ h0, slots := fLB h0 - fL h0, locals := 0 } s m args below meth c H locs cells slots (MQ below (fQ D cA h0 r.2 (some (.long r.1))) args s (fCB h0 - fZ h0) (fLB h0 - fL h0) (fA h0)) (F0 m 0 ls []) := by
  obtain ⟨hx, hb, hml, hr, hlocks, hts, hown, K, hR⟩ := id M
  intro H locs cells slots ls hC hl
  refine lv_lload_n hx hb dX7_commonDivisor_0 rfl (lv_at hl 0 rfl) ?_
  refine lv_lconst (v := (0 : Int64)) hx hb dX7_commonDivisor_1 (by decide) ?_
  refine fr_lcmp_ge (tgt := 11) hx hb dX7_commonDivisor_2 dX7_commonDivisor_3 (by decide) (fun c6 => ?_) (fun c6 => ?_)
  · replace hf := opos c6 hf
    refine lv_lload_n hx hb dX7_commonDivisor_11 rfl (lv_at hl 0 rfl) ?_
    exact w_X7_commonDivisor_L12 M hfl _ _ _ hf _ _ _ _ _ hC (lv_sub hl [1] rfl)
  · replace hf := oneg c6 hf
    refine lv_lload_n hx hb dX7_commonDivisor_6 rfl (lv_at hl 0 rfl) ?_
    refine lv_lneg hx hb dX7_commonDivisor_7 ?_
    refine lv_goto (tgt := 12) hx hb dX7_commonDivisor_8 (by decide) ?_
    exact w_X7_commonDivisor_L12 M hfl _ _ _ hf _ _ _ _ _ hC (lv_sub hl [1] rfl)
set_option maxRecDepth 100000 in
theorem c_X7_commonDivisor {l : Launch} (hfl : l.stackTraces = false) (D : va_G) (cA : Nat → ClassId) {p0 : Int64} {p1 : Int64} {h : fSt} {r : (Int64 × fSt)} (hf : f_X7_commonDivisor p0 p1 h = some r) : fMet l yX7_commonDivisor (wsC yX7_commonDivisor cX7_commonDivisor 11 (some (.long))) (0) (0) D cA [.long p0, .long p1] h r.2 (some (.long r.1)) := by
  exact fMet.of (own := RX7) (by decide +kernel) rfl (lva2 rfl (lva2 rfl lva0)) (lgl2 rfl (lgl2 rfl lgl0)) (Nat.le_of_ble_eq_true rfl) (fun p e s m args below meth c ls hnm _ M hC hl => by
    have hl : lv_has ls 11 [(0, .long p0), (2, .long p1)] := hl
    exact w_X7_commonDivisor_L0 M hfl _ _ _ hf _ _ _ _ _ hC (lv_sub hl [0, 1] rfl))
set_option maxHeartbeats 4000000 in
set_option maxRecDepth 100000 in
theorem w_X5_part_L41 {p : Program} {l : Launch} {e : Env} {s : State} {m : MethodId} {args : Array Value} {below : List Frame} {meth : Method} {c : Code} {D : va_G} {cA : Nat → ClassId} {h0 : fSt} {r : (Int64 × fSt)} (M : fM p s m args meth c D cA h0 { frames := 1, cells := fCB h0 - fZ h0, slots := fLB h0 - fL h0, locals := 30 } cX5_part 6 (some (.long)) RX5) (hfl : l.stackTraces = false) (a4 : Int64) (s0 : Int64) (h : fSt) (hf : f_X5_part_L41 a4 s0 h = some r) : ∀ (H : Heap) (locs : List Loc) (cells slots : Nat) (ls : Array Slot), fCur D cA s h0 h H locs → lv_has ls 6 [(4, .long a4)] → W p l e { frames := 1, cells := fCB h0 - fZ h0, slots := fLB h0 - fL h0, locals := 30 } s m args below meth c H locs cells slots (MQ below (fQ D cA h0 r.2 (some (.long r.1))) args s (fCB h0 - fZ h0) (fLB h0 - fL h0) (fA h0)) (F0 m 41 ls [.long s0]) := by
  obtain ⟨hx, hb, hml, hr, hlocks, hts, hown, K, hR⟩ := id M
  intro H locs cells slots ls hC hl
  refine lv_lload hx hb dX5_part_41 (lv_at hl 0 rfl) ?_
  by_cases c1 : a4 = 0
  · exact nomatch (opos c1 hf)
  replace hf := oneg c1 hf
  refine lv_ldiv hx hb dX5_part_43 c1 ?_
  obtain rfl := Option.some.inj hf
  exact fr_lret hx hb hr hlocks hC dX5_part_44
set_option maxHeartbeats 4000000 in
set_option maxRecDepth 100000 in
theorem w_X5_part_L16 {p : Program} {l : Launch} {e : Env} {s : State} {m : MethodId} {args : Array Value} {below : List Frame} {meth : Method} {c : Code} {D : va_G} {cA : Nat → ClassId} {h0 : fSt} {r : (Int64 × fSt)} (M : fM p s m args meth c D cA h0 { frames := 1, cells := fCB h0 - fZ h0, slots := fLB h0 - fL h0, locals := 30 } cX5_part 6 (some (.long)) RX5) (hfl : l.stackTraces = false) (a0 : Option Nat) (a1 : Int32) (s0 : Int64) (h : fSt) (hf : f_X5_part_L16 a0 a1 s0 h = some r) : ∀ (H : Heap) (locs : List Loc) (cells slots : Nat) (ls : Array Slot), fCur D cA s h0 h H locs → lv_has ls 6 [(0, va_rf a0), (1, .int a1)] → W p l e { frames := 1, cells := fCB h0 - fZ h0, slots := fLB h0 - fL h0, locals := 30 } s m args below meth c H locs cells slots (MQ below (fQ D cA h0 r.2 (some (.long r.1))) args s (fCB h0 - fZ h0) (fLB h0 - fL h0) (fA h0)) (F0 m 16 ls [.long s0]) := by
  obtain ⟨hx, hb, hml, hr, hlocks, hts, hown, K, hR⟩ := id M
  intro H locs cells slots ls hC hl
  refine lv_lstore_n (lv' := [(2, .long s0), (0, va_rf a0), (1, .int a1)]) hx hb dX5_part_16 rfl hl (by decide) (congrArg (List.cons _) (flk rfl (flk rfl fln))) (fun ls hl => ?_)
  refine lv_lload_n hx hb dX5_part_17 rfl (lv_at hl 0 rfl) ?_
  refine fr_aload_n hx hb dX5_part_18 rfl (lv_at hl 1 rfl) ?_
  obtain ⟨x2, g3, hf⟩ := obind hf
  refine fr_get hx hb hts hown K hC ct_5 (fgJ_get g3) (by decide) kw242 rfl dX5_part_19 ?_
  obtain ⟨r4, g5, hf⟩ := obind hf
  refine fr_callSN hx hb hml hts hown K hC hR (c_X7_commonDivisor hfl D cA g5) 2 kw419 kn417 kw418 kw55 (by decide +kernel) ⟨by exact Nat.le_of_ble_eq_true rfl, by exact Nat.le_of_ble_eq_true rfl⟩ rfl hl.1 (cat8 _ (by exact Nat.le_of_ble_eq_true rfl)) dX5_part_22 rfl (fun H locs _ _ hC => ?_)
  refine lv_lstore (lv' := [(4, .long r4.1), (2, .long s0), (0, va_rf a0), (1, .int a1)]) hx hb dX5_part_25 hl (by decide) (congrArg (List.cons _) (flk rfl (flk rfl (flk rfl fln)))) (fun ls hl => ?_)
  refine lv_iload_n hx hb dX5_part_27 rfl (lv_at hl 3 rfl) ?_
  refine lv_iconst (v := (2 : Int32)) hx hb dX5_part_28 (by decide) ?_
  refine lv_irem hx hb dX5_part_29 (by decide) ?_
  refine lv_if_ne (tgt := 37) hx hb dX5_part_30 (by decide) (fun c6 => ?_) (fun c6 => ?_)
  · replace hf := oneg c6 hf
    refine fr_aload_n hx hb dX5_part_37 rfl (lv_at hl 2 rfl) ?_
    obtain ⟨x7, g8, hf⟩ := obind hf
    refine fr_get hx hb hts hown K hC ct_5 (fgJ_get g8) (by decide) kw242 rfl dX5_part_38 ?_
    exact w_X5_part_L41 M hfl _ _ _ hf _ _ _ _ _ hC (lv_sub hl [0] rfl)
  · replace hf := opos c6 hf
    refine lv_lload_n hx hb dX5_part_33 rfl (lv_at hl 1 rfl) ?_
    refine lv_goto (tgt := 41) hx hb dX5_part_34 (by decide) ?_
    exact w_X5_part_L41 M hfl _ _ _ hf _ _ _ _ _ hC (lv_sub hl [0] rfl)
set_option maxHeartbeats 4000000 in
set_option maxRecDepth 100000 in
theorem w_X5_part_L0 {p : Program} {l : Launch} {e : Env} {s : State} {m : MethodId} {args : Array Value} {below : List Frame} {meth : Method} {c : Code} {D : va_G} {cA : Nat → ClassId} {h0 : fSt} {r : (Int64 × fSt)} (M : fM p s m args meth c D cA h0 { frames := 1, cells := fCB h0 - fZ h0, slots := fLB h0 - fL h0, locals := 30 } cX5_part 6 (some (.long)) RX5) (hfl : l.stackTraces = false) (a0 : Option Nat) (a1 : Int32) (h : fSt) (hf : f_X5_part_L0 a0 a1 h = some r) : ∀ (H : Heap) (locs : List Loc) (cells slots : Nat) (ls : Array Slot), fCur D cA s h0 h H locs → lv_has ls 6 [(0, va_rf a0), (1, .int a1)] → W p l e { frames := 1, cells := fCB h0 - fZ h0, slots := fLB h0 - fL h0, locals := 30 } s m args below meth c H locs cells slots (MQ below (fQ D cA h0 r.2 (some (.long r.1))) args s (fCB h0 - fZ h0) (fLB h0 - fL h0) (fA h0)) (F0 m 0 ls []) := by
  obtain ⟨hx, hb, hml, hr, hlocks, hts, hown, K, hR⟩ := id M
  intro H locs cells slots ls hC hl
  refine lv_iload_n hx hb dX5_part_0 rfl (lv_at hl 1 rfl) ?_
  refine lv_iconst (v := (2 : Int32)) hx hb dX5_part_1 (by decide) ?_
  refine lv_icmp_ge (tgt := 12) hx hb dX5_part_2 (by decide) (fun c9 => ?_) (fun c9 => ?_)
  · replace hf := opos c9 hf
    refine fr_aload_n hx hb dX5_part_12 rfl (lv_at hl 0 rfl) ?_
    obtain ⟨x10, g11, hf⟩ := obind hf
    refine fr_get hx hb hts hown K hC ct_5 (fgJ_get g11) (by decide) kw239 rfl dX5_part_13 ?_
    exact w_X5_part_L16 M hfl _ _ _ _ hf _ _ _ _ _ hC (lv_sub hl [0, 1] rfl)
  · replace hf := oneg c9 hf
    refine fr_aload_n hx hb dX5_part_5 rfl (lv_at hl 0 rfl) ?_
    obtain ⟨x12, g13, hf⟩ := obind hf
    refine fr_get hx hb hts hown K hC ct_5 (fgJ_get g13) (by decide) kw237 rfl dX5_part_6 ?_
    refine lv_goto (tgt := 16) hx hb dX5_part_9 (by decide) ?_
    exact w_X5_part_L16 M hfl _ _ _ _ hf _ _ _ _ _ hC (lv_sub hl [0, 1] rfl)
set_option maxRecDepth 100000 in
theorem c_X5_part {l : Launch} (hfl : l.stackTraces = false) (D : va_G) (cA : Nat → ClassId) {o : Nat} {p0 : Int32} {h : fSt} {r : (Int64 × fSt)} (hf : f_X5_part o p0 h = some r) : fMet l yX5_part (wsC yX5_part cX5_part 6 (some (.long))) (1) (30) D cA [.ref o, .int p0] h r.2 (some (.long r.1)) := by
  exact fMet.of (own := RX5) (by decide +kernel) rfl (lva1 rfl (lva1 rfl lva0)) (lgl1 rfl (lgl1 rfl lgl0)) (Nat.le_of_ble_eq_true rfl) (fun p e s m args below meth c ls hnm _ M hC hl => by
    have hl : lv_has ls 6 [(0, va_rf (some o)), (1, .int p0)] := hl
    exact w_X5_part_L0 M hfl _ _ _ hf _ _ _ _ _ hC (lv_sub hl [0, 1] rfl))
set_option maxHeartbeats 4000000 in
set_option maxRecDepth 100000 in
theorem w_X7_checkPoint_L26 {p : Program} {l : Launch} {e : Env} {s : State} {m : MethodId} {args : Array Value} {below : List Frame} {meth : Method} {c : Code} {D : va_G} {cA : Nat → ClassId} {h0 : fSt} {r : ((Unit ⊕ Nat) × fSt)} (M : fM p s m args meth c D cA h0 { frames := 6, cells := fCB h0 - fZ h0, slots := fLB h0 - fL h0, locals := 90 } cX7_checkPoint 3 none RX7) (hfl : l.stackTraces = false) (hno : ∀ x ∈ c.exceptionTable.toList, False)  (h : fSt) (hf : f_X7_checkPoint_L26  h = some r) : ∀ (H : Heap) (locs : List Loc) (cells slots : Nat) (ls : Array Slot), fCur D cA s h0 h H locs → lv_has ls 3 [] → W p l e { frames := 6, cells := fCB h0 - fZ h0, slots := fLB h0 - fL h0, locals := 90 } s m args below meth c H locs cells slots (vx_MQ below (fQX D cA h0 r.2 (rV r.1)) (fXC D cA h0 r.2 (rV r.1)) args s (fCB h0 - fZ h0) (fLB h0 - fL h0) (fA h0)) (F0 m 26 ls []) := by
  obtain ⟨hx, hb, hml, hr, hlocks, hts, hown, K, hR⟩ := id M
  intro H locs cells slots ls hC hl
  obtain ⟨h1, g2, hf⟩ := obind hf
  obtain rfl := Option.some.inj hf
  exact fr_throwSW hx hb hml hts hfl hown K hC hR th_RX7_60_64_1 st_RX7_351 hl.1 dX7_checkPoint_26 dX7_checkPoint_29 dX7_checkPoint_30 dX7_checkPoint_33 dX7_checkPoint_36 hno (by exact Nat.le_of_ble_eq_true rfl) (catL _ _ (by exact Nat.le_of_ble_eq_true rfl) (by exact Nat.le_of_ble_eq_true rfl)) hlocks g2
set_option maxHeartbeats 4000000 in
set_option maxRecDepth 100000 in
theorem w_X7_checkPoint_L0 {p : Program} {l : Launch} {e : Env} {s : State} {m : MethodId} {args : Array Value} {below : List Frame} {meth : Method} {c : Code} {D : va_G} {cA : Nat → ClassId} {h0 : fSt} {r : ((Unit ⊕ Nat) × fSt)} (M : fM p s m args meth c D cA h0 { frames := 6, cells := fCB h0 - fZ h0, slots := fLB h0 - fL h0, locals := 90 } cX7_checkPoint 3 none RX7) (hfl : l.stackTraces = false) (hno : ∀ x ∈ c.exceptionTable.toList, False) (a0 : Int32) (a1 : Int32) (a2 : Int32) (h : fSt) (hf : f_X7_checkPoint_L0 a0 a1 a2 h = some r) : ∀ (H : Heap) (locs : List Loc) (cells slots : Nat) (ls : Array Slot), fCur D cA s h0 h H locs → lv_has ls 3 [(0, .int a0), (1, .int a1), (2, .int a2)] → W p l e { frames := 6, cells := fCB h0 - fZ h0, slots := fLB h0 - fL h0, locals := 90 } s m args below meth c H locs cells slots (vx_MQ below (fQX D cA h0 r.2 (rV r.1)) (fXC D cA h0 r.2 (rV r.1)) args s (fCB h0 - fZ h0) (fLB h0 - fL h0) (fA h0)) (F0 m 0 ls []) := by
  obtain ⟨hx, hb, hml, hr, hlocks, hts, hown, K, hR⟩ := id M
  intro H locs cells slots ls hC hl
  refine lv_iload_n hx hb dX7_checkPoint_0 rfl (lv_at hl 0 rfl) ?_
  refine lv_sipush (v := (-1000 : Int32)) hx hb dX7_checkPoint_1 (by decide) ?_
  refine lv_sipush (v := (1000 : Int32)) hx hb dX7_checkPoint_4 (by decide) ?_
  obtain ⟨r3, g4, hf⟩ := obind hf
  refine fr_callS hx hb hml hts hown K hC hR (c_X7_isFrom hfl D cA g4) 3 kw492 kw490 kw491 kw55 (by decide +kernel) ⟨by exact Nat.le_of_ble_eq_true rfl, by exact Nat.le_of_ble_eq_true rfl⟩ rfl hl.1 (cat8 _ (by exact Nat.le_of_ble_eq_true rfl)) dX7_checkPoint_7 rfl (fun H locs _ _ hC => ?_)
  refine lv_if_eq (tgt := 26) hx hb dX7_checkPoint_10 (by decide) (fun c5 => ?_) (fun c5 => ?_)
  · replace hf := opos c5 hf
    exact w_X7_checkPoint_L26 M hfl hno _ hf _ _ _ _ _ hC (lv_sub hl [] rfl)
  · replace hf := oneg c5 hf
    refine lv_iload_n hx hb dX7_checkPoint_13 rfl (lv_at hl 1 rfl) ?_
    refine lv_sipush (v := (-1000 : Int32)) hx hb dX7_checkPoint_14 (by decide) ?_
    refine lv_sipush (v := (1000 : Int32)) hx hb dX7_checkPoint_17 (by decide) ?_
    obtain ⟨r6, g7, hf⟩ := obind hf
    refine fr_callS hx hb hml hts hown K hC hR (c_X7_isFrom hfl D cA g7) 3 kw492 kw490 kw491 kw55 (by decide +kernel) ⟨by exact Nat.le_of_ble_eq_true rfl, by exact Nat.le_of_ble_eq_true rfl⟩ rfl hl.1 (cat8 _ (by exact Nat.le_of_ble_eq_true rfl)) dX7_checkPoint_20 rfl (fun H locs _ _ hC => ?_)
    refine lv_if_ne (tgt := 37) hx hb dX7_checkPoint_23 (by decide) (fun c8 => ?_) (fun c8 => ?_)
    · replace hf := oneg c8 hf
      refine lv_iload_n hx hb dX7_checkPoint_37 rfl (lv_at hl 2 rfl) ?_
      refine lv_iconst (v := (0 : Int32)) hx hb dX7_checkPoint_38 (by decide) ?_
      refine lv_iconst (v := (3 : Int32)) hx hb dX7_checkPoint_39 (by decide) ?_
      obtain ⟨r9, g10, hf⟩ := obind hf
      refine fr_callS hx hb hml hts hown K hC hR (c_X7_isFrom hfl D cA g10) 3 kw492 kw490 kw491 kw55 (by decide +kernel) ⟨by exact Nat.le_of_ble_eq_true rfl, by exact Nat.le_of_ble_eq_true rfl⟩ rfl hl.1 (cat8 _ (by exact Nat.le_of_ble_eq_true rfl)) dX7_checkPoint_40 rfl (fun H locs _ _ hC => ?_)
      refine lv_if_ne (tgt := 57) hx hb dX7_checkPoint_43 (by decide) (fun c11 => ?_) (fun c11 => ?_)
      · replace hf := oneg c11 hf
        obtain rfl := Option.some.inj hf
        exact fr_retQ (fr_vret hx hb hr hlocks hC dX7_checkPoint_57)
      · replace hf := opos c11 hf
        obtain ⟨h12, g13, hf⟩ := obind hf
        obtain rfl := Option.some.inj hf
        exact fr_throwSW hx hb hml hts hfl hown K hC hR th_RX7_60_64_1 st_RX7_353 hl.1 dX7_checkPoint_46 dX7_checkPoint_49 dX7_checkPoint_50 dX7_checkPoint_53 dX7_checkPoint_56 hno (by exact Nat.le_of_ble_eq_true rfl) (catL _ _ (by exact Nat.le_of_ble_eq_true rfl) (by exact Nat.le_of_ble_eq_true rfl)) hlocks g13
    · replace hf := opos c8 hf
      exact w_X7_checkPoint_L26 M hfl hno _ hf _ _ _ _ _ hC (lv_sub hl [] rfl)
set_option maxRecDepth 100000 in
theorem c_X7_checkPoint {l : Launch} (hfl : l.stackTraces = false) (D : va_G) (cA : Nat → ClassId) {p0 : Int32} {p1 : Int32} {p2 : Int32} {h : fSt} {r : ((Unit ⊕ Nat) × fSt)} (hf : f_X7_checkPoint p0 p1 p2 h = some r) : fMetX l yX7_checkPoint (wsC yX7_checkPoint cX7_checkPoint 3 none) (6) (90) D cA [.int p0, .int p1, .int p2] h r.2 (rV r.1) := by
  exact fMetX.of (own := RX7) (by decide +kernel) rfl (lva1 rfl (lva1 rfl (lva1 rfl lva0))) (lgl1 rfl (lgl1 rfl (lgl1 rfl lgl0))) (Nat.le_of_ble_eq_true rfl) (fun p e s m args below meth c ls hno M hC hl => by
    have hl : lv_has ls 3 [(0, .int p0), (1, .int p1), (2, .int p2)] := hl
    exact w_X7_checkPoint_L0 M hfl hno _ _ _ _ hf _ _ _ _ _ hC (lv_sub hl [0, 1, 2] rfl))
set_option maxHeartbeats 4000000 in
set_option maxRecDepth 100000 in
theorem w_X5_turnQuarters_L2 {p : Program} {l : Launch} {e : Env} {s : State} {m : MethodId} {args : Array Value} {below : List Frame} {meth : Method} {c : Code} {D : va_G} {cA : Nat → ClassId} {h0 : fSt} {r : (Unit × fSt)} (M : fM p s m args meth c D cA h0 { frames := 0, cells := fCB h0 - fZ h0, slots := fLB h0 - fL h0, locals := 0 } cX5_turnQuarters 5 none RX5) (hfl : l.stackTraces = false) : ∀ (n : Nat) (a0 : Option Nat) (a1 : Int32) (a2 : Int32) (h : fSt), f_X5_turnQuarters_L2 n a0 a1 a2 h = some r → ∀ (H : Heap) (locs : List Loc) (cells slots : Nat) (ls : Array Slot), fCur D cA s h0 h H locs → lv_has ls 5 [(0, va_rf a0), (1, .int a1), (2, .int a2)] → W p l e { frames := 0, cells := fCB h0 - fZ h0, slots := fLB h0 - fL h0, locals := 0 } s m args below meth c H locs cells slots (MQ below (fQ D cA h0 r.2 none) args s (fCB h0 - fZ h0) (fLB h0 - fL h0) (fA h0)) (F0 m 2 ls []) := by
  obtain ⟨hx, hb, hml, hr, hlocks, hts, hown, K, hR⟩ := id M
  intro n
  induction n with
  | zero =>
    intro a0 a1 a2 h hf
    exact nomatch (show (none : Option (Unit × fSt)) = some r from hf)
  | succ n hk2 =>
    intro a0 a1 a2 h hf H locs cells slots ls hC hl
    refine lv_iload_n hx hb dX5_turnQuarters_2 rfl (lv_at hl 2 rfl) ?_
    refine lv_iload_n hx hb dX5_turnQuarters_3 rfl (lv_at hl 1 rfl) ?_
    refine lv_icmp_ge (tgt := 32) hx hb dX5_turnQuarters_4 (by decide) (fun c1 => ?_) (fun c1 => ?_)
    · replace hf := opos c1 hf
      obtain rfl := Option.some.inj hf
      exact fr_vret hx hb hr hlocks hC dX5_turnQuarters_32
    · replace hf := oneg c1 hf
      refine fr_aload_n hx hb dX5_turnQuarters_7 rfl (lv_at hl 0 rfl) ?_
      obtain ⟨x2, g3, hf⟩ := obind hf
      refine fr_get hx hb hts hown K hC ct_5 (fgJ_get g3) (by decide) kw237 rfl dX5_turnQuarters_8 ?_
      refine lv_lstore_n (lv' := [(3, .long x2), (0, va_rf a0), (1, .int a1), (2, .int a2)]) hx hb dX5_turnQuarters_11 rfl hl (by decide) (congrArg (List.cons _) (flk rfl (flk rfl (flk rfl fln)))) (fun ls hl => ?_)
      refine fr_aload_n hx hb dX5_turnQuarters_12 rfl (lv_at hl 1 rfl) ?_
      refine fr_aload_n hx hb dX5_turnQuarters_13 rfl (lv_at hl 1 rfl) ?_
      obtain ⟨x4, g5, hf⟩ := obind hf
      refine fr_get hx hb hts hown K hC ct_5 (fgJ_get g5) (by decide) kw239 rfl dX5_turnQuarters_14 ?_
      refine lv_lneg hx hb dX5_turnQuarters_17 ?_
      obtain ⟨h6, g7, hf⟩ := obind hf
      refine fr_put hx hb hts hown K hC ct_5 g7 (by decide) kw237 rfl rfl rfl rfl dX5_turnQuarters_18 (fun H locs hC => ?_)
      refine fr_aload_n hx hb dX5_turnQuarters_21 rfl (lv_at hl 1 rfl) ?_
      refine lv_lload_n hx hb dX5_turnQuarters_22 rfl (lv_at hl 0 rfl) ?_
      obtain ⟨h8, g9, hf⟩ := obind hf
      refine fr_put hx hb hts hown K hC ct_5 g9 (by decide) kw239 rfl rfl rfl rfl dX5_turnQuarters_23 (fun H locs hC => ?_)
      refine lv_iinc (v := (a2 + (1 : Int32))) (lv' := [(2, .int (a2 + (1 : Int32))), (3, .long x2), (0, va_rf a0), (1, .int a1)]) hx hb dX5_turnQuarters_26 hl (k := 3) rfl rfl (by decide) (congrArg (List.cons _) (flk rfl (flk rfl (flk rfl (fld rfl fln))))) (fun ls hl => ?_)
      refine lv_goto (tgt := 2) hx hb dX5_turnQuarters_29 (by decide) ?_
      exact hk2 _ _ _ _ hf _ _ _ _ _ hC (lv_sub hl [2, 3, 0] rfl)
set_option maxHeartbeats 4000000 in
set_option maxRecDepth 100000 in
theorem w_X5_turnQuarters_L0 {p : Program} {l : Launch} {e : Env} {s : State} {m : MethodId} {args : Array Value} {below : List Frame} {meth : Method} {c : Code} {D : va_G} {cA : Nat → ClassId} {h0 : fSt} {r : (Unit × fSt)} (M : fM p s m args meth c D cA h0 { frames := 0, cells := fCB h0 - fZ h0, slots := fLB h0 - fL h0, locals := 0 } cX5_turnQuarters 5 none RX5) (hfl : l.stackTraces = false) (a0 : Option Nat) (a1 : Int32) (h : fSt) (hf : f_X5_turnQuarters_L0 a0 a1 h = some r) : ∀ (H : Heap) (locs : List Loc) (cells slots : Nat) (ls : Array Slot), fCur D cA s h0 h H locs → lv_has ls 5 [(0, va_rf a0), (1, .int a1)] → W p l e { frames := 0, cells := fCB h0 - fZ h0, slots := fLB h0 - fL h0, locals := 0 } s m args below meth c H locs cells slots (MQ below (fQ D cA h0 r.2 none) args s (fCB h0 - fZ h0) (fLB h0 - fL h0) (fA h0)) (F0 m 0 ls []) := by
  obtain ⟨hx, hb, hml, hr, hlocks, hts, hown, K, hR⟩ := id M
  intro H locs cells slots ls hC hl
  refine lv_iconst (v := (0 : Int32)) hx hb dX5_turnQuarters_0 (by decide) ?_
  refine lv_istore_n (lv' := [(2, .int (0 : Int32)), (0, va_rf a0), (1, .int a1)]) hx hb dX5_turnQuarters_1 rfl hl (by decide) (congrArg (List.cons _) (flk rfl (flk rfl fln))) (fun ls hl => ?_)
  exact w_X5_turnQuarters_L2 M hfl 4096 _ _ _ _ hf _ _ _ _ _ hC (lv_sub hl [1, 2, 0] rfl)
set_option maxRecDepth 100000 in
theorem c_X5_turnQuarters {l : Launch} (hfl : l.stackTraces = false) (D : va_G) (cA : Nat → ClassId) {o : Nat} {p0 : Int32} {h : fSt} {r : (Unit × fSt)} (hf : f_X5_turnQuarters o p0 h = some r) : fMet l yX5_turnQuarters (wsC yX5_turnQuarters cX5_turnQuarters 5 none) (0) (0) D cA [.ref o, .int p0] h r.2 none := by
  exact fMet.of (own := RX5) (by decide +kernel) rfl (lva1 rfl (lva1 rfl lva0)) (lgl1 rfl (lgl1 rfl lgl0)) (Nat.le_of_ble_eq_true rfl) (fun p e s m args below meth c ls hnm _ M hC hl => by
    have hl : lv_has ls 5 [(0, va_rf (some o)), (1, .int p0)] := hl
    exact w_X5_turnQuarters_L0 M hfl _ _ _ hf _ _ _ _ _ hC (lv_sub hl [0, 1] rfl))
set_option maxHeartbeats 4000000 in
set_option maxRecDepth 100000 in
theorem w_X6_countedTime_L23 {p : Program} {l : Launch} {e : Env} {s : State} {m : MethodId} {args : Array Value} {below : List Frame} {meth : Method} {c : Code} {D : va_G} {cA : Nat → ClassId} {h0 : fSt} {r : (Int32 × fSt)} (M : fM p s m args meth c D cA h0 { frames := 0, cells := fCB h0 - fZ h0, slots := fLB h0 - fL h0, locals := 0 } cX6_countedTime 7 (some (.int)) RX6) (hfl : l.stackTraces = false) (a1 : Int32) (h : fSt) (hf : f_X6_countedTime_L23 a1 h = some r) : ∀ (H : Heap) (locs : List Loc) (cells slots : Nat) (ls : Array Slot), fCur D cA s h0 h H locs → lv_has ls 7 [(1, .int a1)] → W p l e { frames := 0, cells := fCB h0 - fZ h0, slots := fLB h0 - fL h0, locals := 0 } s m args below meth c H locs cells slots (MQ below (fQ D cA h0 r.2 (some (.int r.1))) args s (fCB h0 - fZ h0) (fLB h0 - fL h0) (fA h0)) (F0 m 23 ls []) := by
  obtain ⟨hx, hb, hml, hr, hlocks, hts, hown, K, hR⟩ := id M
  intro H locs cells slots ls hC hl
  refine lv_iload_n hx hb dX6_countedTime_23 rfl (lv_at hl 0 rfl) ?_
  obtain rfl := Option.some.inj hf
  exact fr_iret hx hb hr hlocks hC dX6_countedTime_24
set_option maxHeartbeats 4000000 in
set_option maxRecDepth 100000 in
theorem w_X6_countedTime_L75 {p : Program} {l : Launch} {e : Env} {s : State} {m : MethodId} {args : Array Value} {below : List Frame} {meth : Method} {c : Code} {D : va_G} {cA : Nat → ClassId} {h0 : fSt} {r : (Int32 × fSt)} (M : fM p s m args meth c D cA h0 { frames := 0, cells := fCB h0 - fZ h0, slots := fLB h0 - fL h0, locals := 0 } cX6_countedTime 7 (some (.int)) RX6) (hfl : l.stackTraces = false) (s1 : Int32) (s0 : Int32) (h : fSt) (hf : f_X6_countedTime_L75 s1 s0 h = some r) : ∀ (H : Heap) (locs : List Loc) (cells slots : Nat) (ls : Array Slot), fCur D cA s h0 h H locs → lv_has ls 7 [] → W p l e { frames := 0, cells := fCB h0 - fZ h0, slots := fLB h0 - fL h0, locals := 0 } s m args below meth c H locs cells slots (MQ below (fQ D cA h0 r.2 (some (.int r.1))) args s (fCB h0 - fZ h0) (fLB h0 - fL h0) (fA h0)) (F0 m 75 ls [.int s1, .int s0]) := by
  obtain ⟨hx, hb, hml, hr, hlocks, hts, hown, K, hR⟩ := id M
  intro H locs cells slots ls hC hl
  refine lv_iadd hx hb dX6_countedTime_75 ?_
  obtain rfl := Option.some.inj hf
  exact fr_iret hx hb hr hlocks hC dX6_countedTime_76
set_option maxHeartbeats 4000000 in
set_option maxRecDepth 100000 in
theorem w_X6_countedTime_L0 {p : Program} {l : Launch} {e : Env} {s : State} {m : MethodId} {args : Array Value} {below : List Frame} {meth : Method} {c : Code} {D : va_G} {cA : Nat → ClassId} {h0 : fSt} {r : (Int32 × fSt)} (M : fM p s m args meth c D cA h0 { frames := 0, cells := fCB h0 - fZ h0, slots := fLB h0 - fL h0, locals := 0 } cX6_countedTime 7 (some (.int)) RX6) (hfl : l.stackTraces = false) (a0 : Option Nat) (a1 : Int32) (a2 : Int32) (a3 : Int32) (h : fSt) (hf : f_X6_countedTime_L0 a0 a1 a2 a3 h = some r) : ∀ (H : Heap) (locs : List Loc) (cells slots : Nat) (ls : Array Slot), fCur D cA s h0 h H locs → lv_has ls 7 [(0, va_rf a0), (1, .int a1), (2, .int a2), (3, .int a3)] → W p l e { frames := 0, cells := fCB h0 - fZ h0, slots := fLB h0 - fL h0, locals := 0 } s m args below meth c H locs cells slots (MQ below (fQ D cA h0 r.2 (some (.int r.1))) args s (fCB h0 - fZ h0) (fLB h0 - fL h0) (fA h0)) (F0 m 0 ls []) := by
  obtain ⟨hx, hb, hml, hr, hlocks, hts, hown, K, hR⟩ := id M
  intro H locs cells slots ls hC hl
  refine lv_iload_n hx hb dX6_countedTime_0 rfl (lv_at hl 3 rfl) ?_
  refine lv_iload_n hx hb dX6_countedTime_1 rfl (lv_at hl 2 rfl) ?_
  refine lv_isub hx hb dX6_countedTime_2 ?_
  refine lv_istore (lv' := [(4, .int (a3 - a2)), (0, va_rf a0), (1, .int a1), (2, .int a2), (3, .int a3)]) hx hb dX6_countedTime_3 hl (by decide) (congrArg (List.cons _) (flk rfl (flk rfl (flk rfl (flk rfl fln))))) (fun ls hl => ?_)
  refine fr_aload_n hx hb dX6_countedTime_5 rfl (lv_at hl 1 rfl) ?_
  obtain ⟨x1, g2, hf⟩ := obind hf
  refine fr_get hx hb hts hown K hC ct_6 (fgI_get g2) (by decide) kw104 rfl dX6_countedTime_6 ?_
  refine lv_if_eq (tgt := 23) hx hb dX6_countedTime_9 (by decide) (fun c3 => ?_) (fun c3 => ?_)
  · replace hf := opos c3 hf
    exact w_X6_countedTime_L23 M hfl _ _ hf _ _ _ _ _ hC (lv_sub hl [2] rfl)
  · replace hf := oneg c3 hf
    refine lv_iload_n hx hb dX6_countedTime_12 rfl (lv_at hl 2 rfl) ?_
    refine lv_iload_n hx hb dX6_countedTime_13 rfl (lv_at hl 4 rfl) ?_
    refine lv_icmp_le (tgt := 23) hx hb dX6_countedTime_14 (by decide) (fun c4 => ?_) (fun c4 => ?_)
    · replace hf := opos c4 hf
      exact w_X6_countedTime_L23 M hfl _ _ hf _ _ _ _ _ hC (lv_sub hl [2] rfl)
    · replace hf := oneg c4 hf
      refine lv_iload hx hb dX6_countedTime_17 (lv_at hl 0 rfl) ?_
      refine lv_iconst (v := (1 : Int32)) hx hb dX6_countedTime_19 (by decide) ?_
      refine lv_icmp_ge (tgt := 25) hx hb dX6_countedTime_20 (by decide) (fun c5 => ?_) (fun c5 => ?_)
      · replace hf := opos c5 hf
        refine lv_iload_n hx hb dX6_countedTime_25 rfl (lv_at hl 2 rfl) ?_
        refine lv_iload_n hx hb dX6_countedTime_26 rfl (lv_at hl 3 rfl) ?_
        refine lv_isub hx hb dX6_countedTime_27 ?_
        refine lv_istore (lv' := [(5, .int (a1 - a2)), (4, .int (a3 - a2)), (0, va_rf a0), (1, .int a1), (2, .int a2), (3, .int a3)]) hx hb dX6_countedTime_28 hl (by decide) (congrArg (List.cons _) (flk rfl (flk rfl (flk rfl (flk rfl (flk rfl fln)))))) (fun ls hl => ?_)
        refine fr_aload_n hx hb dX6_countedTime_30 rfl (lv_at hl 2 rfl) ?_
        obtain ⟨x6, g7, hf⟩ := obind hf
        refine fr_get hx hb hts hown K hC ct_6 (fgI_get g7) (by decide) kw104 rfl dX6_countedTime_31 ?_
        refine lv_iconst (v := (1 : Int32)) hx hb dX6_countedTime_34 (by decide) ?_
        refine lv_icmp_ne (tgt := 46) hx hb dX6_countedTime_35 (by decide) (fun c8 => ?_) (fun c8 => ?_)
        · replace hf := oneg c8 hf
          refine lv_iload hx hb dX6_countedTime_46 (lv_at hl 0 rfl) ?_
          refine lv_iconst (v := (2 : Int32)) hx hb dX6_countedTime_48 (by decide) ?_
          refine lv_iload hx hb dX6_countedTime_49 (lv_at hl 1 rfl) ?_
          refine lv_imul hx hb dX6_countedTime_51 ?_
          by_cases c9 : ((2 : Int32) * (a3 - a2)) = 0
          · exact nomatch (opos c9 hf)
          replace hf := oneg c9 hf
          refine lv_irem hx hb dX6_countedTime_52 c9 ?_
          refine lv_istore (lv' := [(6, .int ((a1 - a2) - (a1 - a2) / ((2 : Int32) * (a3 - a2)) * ((2 : Int32) * (a3 - a2)))), (5, .int (a1 - a2)), (4, .int (a3 - a2)), (0, va_rf a0), (1, .int a1), (2, .int a2), (3, .int a3)]) hx hb dX6_countedTime_53 hl (by decide) (congrArg (List.cons _) (flk rfl (flk rfl (flk rfl (flk rfl (flk rfl (flk rfl fln))))))) (fun ls hl => ?_)
          refine lv_iload_n hx hb dX6_countedTime_55 rfl (lv_at hl 5 rfl) ?_
          refine lv_iload hx hb dX6_countedTime_56 (lv_at hl 0 rfl) ?_
          refine lv_iload hx hb dX6_countedTime_58 (lv_at hl 2 rfl) ?_
          refine lv_icmp_gt (tgt := 68) hx hb dX6_countedTime_60 (by decide) (fun c10 => ?_) (fun c10 => ?_)
          · replace hf := opos c10 hf
            refine lv_iconst (v := (2 : Int32)) hx hb dX6_countedTime_68 (by decide) ?_
            refine lv_iload hx hb dX6_countedTime_69 (lv_at hl 2 rfl) ?_
            refine lv_imul hx hb dX6_countedTime_71 ?_
            refine lv_iload hx hb dX6_countedTime_72 (lv_at hl 0 rfl) ?_
            refine lv_isub hx hb dX6_countedTime_74 ?_
            exact w_X6_countedTime_L75 M hfl _ _ _ hf _ _ _ _ _ hC (lv_sub hl [] rfl)
          · replace hf := oneg c10 hf
            refine lv_iload hx hb dX6_countedTime_63 (lv_at hl 0 rfl) ?_
            refine lv_goto (tgt := 75) hx hb dX6_countedTime_65 (by decide) ?_
            exact w_X6_countedTime_L75 M hfl _ _ _ hf _ _ _ _ _ hC (lv_sub hl [] rfl)
        · replace hf := opos c8 hf
          refine lv_iload_n hx hb dX6_countedTime_38 rfl (lv_at hl 4 rfl) ?_
          refine lv_iload hx hb dX6_countedTime_39 (lv_at hl 0 rfl) ?_
          refine lv_iload hx hb dX6_countedTime_41 (lv_at hl 1 rfl) ?_
          by_cases c11 : (a3 - a2) = 0
          · exact nomatch (opos c11 hf)
          replace hf := oneg c11 hf
          refine lv_irem hx hb dX6_countedTime_43 c11 ?_
          refine lv_iadd hx hb dX6_countedTime_44 ?_
          obtain rfl := Option.some.inj hf
          exact fr_iret hx hb hr hlocks hC dX6_countedTime_45
      · replace hf := oneg c5 hf
        exact w_X6_countedTime_L23 M hfl _ _ hf _ _ _ _ _ hC (lv_sub hl [2] rfl)
set_option maxRecDepth 100000 in
theorem c_X6_countedTime {l : Launch} (hfl : l.stackTraces = false) (D : va_G) (cA : Nat → ClassId) {o : Nat} {p0 : Int32} {p1 : Int32} {p2 : Int32} {h : fSt} {r : (Int32 × fSt)} (hf : f_X6_countedTime o p0 p1 p2 h = some r) : fMet l yX6_countedTime (wsC yX6_countedTime cX6_countedTime 7 (some (.int))) (0) (0) D cA [.ref o, .int p0, .int p1, .int p2] h r.2 (some (.int r.1)) := by
  exact fMet.of (own := RX6) (by decide +kernel) rfl (lva1 rfl (lva1 rfl (lva1 rfl (lva1 rfl lva0)))) (lgl1 rfl (lgl1 rfl (lgl1 rfl (lgl1 rfl lgl0)))) (Nat.le_of_ble_eq_true rfl) (fun p e s m args below meth c ls hnm _ M hC hl => by
    have hl : lv_has ls 7 [(0, va_rf (some o)), (1, .int p0), (2, .int p1), (3, .int p2)] := hl
    exact w_X6_countedTime_L0 M hfl _ _ _ _ _ hf _ _ _ _ _ hC (lv_sub hl [0, 1, 2, 3] rfl))
set_option maxHeartbeats 4000000 in
set_option maxRecDepth 100000 in
theorem w_X6_lastKeyUpTo_L29 {p : Program} {l : Launch} {e : Env} {s : State} {m : MethodId} {args : Array Value} {below : List Frame} {meth : Method} {c : Code} {D : va_G} {cA : Nat → ClassId} {h0 : fSt} {r : (Option Nat × fSt)} (M : fM p s m args meth c D cA h0 { frames := 0, cells := fCB h0 - fZ h0, slots := fLB h0 - fL h0, locals := 0 } cX6_lastKeyUpTo 4 (some (.object "TapestryScene$Key")) RX6) (hfl : l.stackTraces = false) (a2 : Option Nat) (h : fSt) (hf : f_X6_lastKeyUpTo_L29 a2 h = some r) : ∀ (H : Heap) (locs : List Loc) (cells slots : Nat) (ls : Array Slot), fCur D cA s h0 h H locs → lv_has ls 4 [(2, va_rf a2)] → W p l e { frames := 0, cells := fCB h0 - fZ h0, slots := fLB h0 - fL h0, locals := 0 } s m args below meth c H locs cells slots (MQ below (fQ D cA h0 r.2 (some (va_rf r.1))) args s (fCB h0 - fZ h0) (fLB h0 - fL h0) (fA h0)) (F0 m 29 ls []) := by
  obtain ⟨hx, hb, hml, hr, hlocks, hts, hown, K, hR⟩ := id M
  intro H locs cells slots ls hC hl
  refine fr_aload_n hx hb dX6_lastKeyUpTo_29 rfl (lv_at hl 0 rfl) ?_
  obtain rfl := Option.some.inj hf
  exact fr_aret hx hb hr (Or.inl ⟨_, rfl⟩) hlocks hC dX6_lastKeyUpTo_30
set_option maxHeartbeats 4000000 in
set_option maxRecDepth 100000 in
theorem w_X6_lastKeyUpTo_L7 {p : Program} {l : Launch} {e : Env} {s : State} {m : MethodId} {args : Array Value} {below : List Frame} {meth : Method} {c : Code} {D : va_G} {cA : Nat → ClassId} {h0 : fSt} {r : (Option Nat × fSt)} (M : fM p s m args meth c D cA h0 { frames := 0, cells := fCB h0 - fZ h0, slots := fLB h0 - fL h0, locals := 0 } cX6_lastKeyUpTo 4 (some (.object "TapestryScene$Key")) RX6) (hfl : l.stackTraces = false) : ∀ (n : Nat) (a1 : Int32) (a2 : Option Nat) (a3 : Option Nat) (h : fSt), f_X6_lastKeyUpTo_L7 n a1 a2 a3 h = some r → ∀ (H : Heap) (locs : List Loc) (cells slots : Nat) (ls : Array Slot), fCur D cA s h0 h H locs → lv_has ls 4 [(1, .int a1), (2, va_rf a2), (3, va_rf a3)] → W p l e { frames := 0, cells := fCB h0 - fZ h0, slots := fLB h0 - fL h0, locals := 0 } s m args below meth c H locs cells slots (MQ below (fQ D cA h0 r.2 (some (va_rf r.1))) args s (fCB h0 - fZ h0) (fLB h0 - fL h0) (fA h0)) (F0 m 7 ls []) := by
  obtain ⟨hx, hb, hml, hr, hlocks, hts, hown, K, hR⟩ := id M
  intro n
  induction n with
  | zero =>
    intro a1 a2 a3 h hf
    exact nomatch (show (none : Option (Option Nat × fSt)) = some r from hf)
  | succ n hk7 =>
    intro a1 a2 a3 h hf H locs cells slots ls hC hl
    refine fr_aload_n hx hb dX6_lastKeyUpTo_7 rfl (lv_at hl 2 rfl) ?_
    refine fr_ifnull (tgt := 29) hx hb dX6_lastKeyUpTo_8 (by decide) (fun c1 => ?_) (fun c1 => ?_)
    · replace hf := opos c1 hf
      exact w_X6_lastKeyUpTo_L29 M hfl _ _ hf _ _ _ _ _ hC (lv_sub hl [1] rfl)
    · replace hf := oneg c1 hf
      refine fr_aload_n hx hb dX6_lastKeyUpTo_11 rfl (lv_at hl 2 rfl) ?_
      obtain ⟨x2, g3, hf⟩ := obind hf
      refine fr_get hx hb hts hown K hC ct_3 (fgI_get g3) (by decide) kw796 rfl dX6_lastKeyUpTo_12 ?_
      refine lv_iload_n hx hb dX6_lastKeyUpTo_15 rfl (lv_at hl 0 rfl) ?_
      refine lv_icmp_gt (tgt := 29) hx hb dX6_lastKeyUpTo_16 (by decide) (fun c4 => ?_) (fun c4 => ?_)
      · replace hf := opos c4 hf
        exact w_X6_lastKeyUpTo_L29 M hfl _ _ hf _ _ _ _ _ hC (lv_sub hl [1] rfl)
      · replace hf := oneg c4 hf
        refine fr_aload_n hx hb dX6_lastKeyUpTo_19 rfl (lv_at hl 2 rfl) ?_
        refine fr_astore_n (lv' := [(2, va_rf a3), (1, .int a1), (3, va_rf a3)]) hx hb dX6_lastKeyUpTo_20 rfl hl (by decide) (congrArg (List.cons _) (flk rfl (fld rfl (flk rfl fln)))) (fun ls hl => ?_)
        refine fr_aload_n hx hb dX6_lastKeyUpTo_21 rfl (lv_at hl 2 rfl) ?_
        obtain ⟨x5, g6, hf⟩ := obind hf
        refine fr_get hx hb hts hown K hC ct_3 (fgR_get g6) (by decide) kw800 rfl dX6_lastKeyUpTo_22 ?_
        refine fr_astore_n (lv' := [(3, va_rf x5), (2, va_rf a3), (1, .int a1)]) hx hb dX6_lastKeyUpTo_25 rfl hl (by decide) (congrArg (List.cons _) (flk (adj1 _ _) (flk rfl (fld rfl fln)))) (fun ls hl => ?_)
        refine lv_goto (tgt := 7) hx hb dX6_lastKeyUpTo_26 (by decide) ?_
        exact hk7 _ _ _ _ hf _ _ _ _ _ hC (lv_sub hl [2, 1, 0] rfl)
set_option maxHeartbeats 4000000 in
set_option maxRecDepth 100000 in
theorem w_X6_lastKeyUpTo_L0 {p : Program} {l : Launch} {e : Env} {s : State} {m : MethodId} {args : Array Value} {below : List Frame} {meth : Method} {c : Code} {D : va_G} {cA : Nat → ClassId} {h0 : fSt} {r : (Option Nat × fSt)} (M : fM p s m args meth c D cA h0 { frames := 0, cells := fCB h0 - fZ h0, slots := fLB h0 - fL h0, locals := 0 } cX6_lastKeyUpTo 4 (some (.object "TapestryScene$Key")) RX6) (hfl : l.stackTraces = false) (a0 : Option Nat) (a1 : Int32) (h : fSt) (hf : f_X6_lastKeyUpTo_L0 a0 a1 h = some r) : ∀ (H : Heap) (locs : List Loc) (cells slots : Nat) (ls : Array Slot), fCur D cA s h0 h H locs → lv_has ls 4 [(0, va_rf a0), (1, .int a1)] → W p l e { frames := 0, cells := fCB h0 - fZ h0, slots := fLB h0 - fL h0, locals := 0 } s m args below meth c H locs cells slots (MQ below (fQ D cA h0 r.2 (some (va_rf r.1))) args s (fCB h0 - fZ h0) (fLB h0 - fL h0) (fA h0)) (F0 m 0 ls []) := by
  obtain ⟨hx, hb, hml, hr, hlocks, hts, hown, K, hR⟩ := id M
  intro H locs cells slots ls hC hl
  refine fr_null hx hb dX6_lastKeyUpTo_0 ?_
  refine fr_astore_n (lv' := [(2, va_rf none), (0, va_rf a0), (1, .int a1)]) hx hb dX6_lastKeyUpTo_1 rfl hl (by decide) (congrArg (List.cons _) (flk rfl (flk rfl fln))) (fun ls hl => ?_)
  refine fr_aload_n hx hb dX6_lastKeyUpTo_2 rfl (lv_at hl 1 rfl) ?_
  obtain ⟨x7, g8, hf⟩ := obind hf
  refine fr_get hx hb hts hown K hC ct_6 (fgR_get g8) (by decide) kw106 rfl dX6_lastKeyUpTo_3 ?_
  refine fr_astore_n (lv' := [(3, va_rf x7), (2, va_rf none), (0, va_rf a0), (1, .int a1)]) hx hb dX6_lastKeyUpTo_6 rfl hl (by decide) (congrArg (List.cons _) (flk (adj1 _ _) (flk rfl (flk rfl fln)))) (fun ls hl => ?_)
  exact w_X6_lastKeyUpTo_L7 M hfl 4096 _ _ _ _ hf _ _ _ _ _ hC (lv_sub hl [3, 1, 0] rfl)
set_option maxRecDepth 100000 in
theorem c_X6_lastKeyUpTo {l : Launch} (hfl : l.stackTraces = false) (D : va_G) (cA : Nat → ClassId) {o : Nat} {p0 : Int32} {h : fSt} {r : (Option Nat × fSt)} (hf : f_X6_lastKeyUpTo o p0 h = some r) : fMet l yX6_lastKeyUpTo (wsC yX6_lastKeyUpTo cX6_lastKeyUpTo 4 (some (.object "TapestryScene$Key"))) (0) (0) D cA [.ref o, .int p0] h r.2 (some (va_rf r.1)) := by
  exact fMet.of (own := RX6) (by decide +kernel) rfl (lva1 rfl (lva1 rfl lva0)) (lgl1 rfl (lgl1 rfl lgl0)) (Nat.le_of_ble_eq_true rfl) (fun p e s m args below meth c ls hnm _ M hC hl => by
    have hl : lv_has ls 4 [(0, va_rf (some o)), (1, .int p0)] := hl
    exact w_X6_lastKeyUpTo_L0 M hfl _ _ _ hf _ _ _ _ _ hC (lv_sub hl [0, 1] rfl))
set_option maxHeartbeats 4000000 in
set_option maxRecDepth 100000 in
theorem w_X6_valueFrom_L16 {p : Program} {l : Launch} {e : Env} {s : State} {m : MethodId} {args : Array Value} {below : List Frame} {meth : Method} {c : Code} {D : va_G} {cA : Nat → ClassId} {h0 : fSt} {r : (Int32 × fSt)} (M : fM p s m args meth c D cA h0 { frames := 0, cells := fCB h0 - fZ h0, slots := fLB h0 - fL h0, locals := 0 } cX6_valueFrom 10 (some (.int)) RX6) (hfl : l.stackTraces = false) (a1 : Option Nat) (h : fSt) (hf : f_X6_valueFrom_L16 a1 h = some r) : ∀ (H : Heap) (locs : List Loc) (cells slots : Nat) (ls : Array Slot), fCur D cA s h0 h H locs → lv_has ls 10 [(1, va_rf a1)] → W p l e { frames := 0, cells := fCB h0 - fZ h0, slots := fLB h0 - fL h0, locals := 0 } s m args below meth c H locs cells slots (MQ below (fQ D cA h0 r.2 (some (.int r.1))) args s (fCB h0 - fZ h0) (fLB h0 - fL h0) (fA h0)) (F0 m 16 ls []) := by
  obtain ⟨hx, hb, hml, hr, hlocks, hts, hown, K, hR⟩ := id M
  intro H locs cells slots ls hC hl
  refine fr_aload_n hx hb dX6_valueFrom_16 rfl (lv_at hl 0 rfl) ?_
  obtain ⟨x1, g2, hf⟩ := obind hf
  refine fr_get hx hb hts hown K hC ct_3 (fgI_get g2) (by decide) kw798 rfl dX6_valueFrom_17 ?_
  obtain rfl := Option.some.inj hf
  exact fr_iret hx hb hr hlocks hC dX6_valueFrom_20
set_option maxHeartbeats 4000000 in
set_option maxRecDepth 100000 in
theorem w_X6_valueFrom_L0 {p : Program} {l : Launch} {e : Env} {s : State} {m : MethodId} {args : Array Value} {below : List Frame} {meth : Method} {c : Code} {D : va_G} {cA : Nat → ClassId} {h0 : fSt} {r : (Int32 × fSt)} (M : fM p s m args meth c D cA h0 { frames := 0, cells := fCB h0 - fZ h0, slots := fLB h0 - fL h0, locals := 0 } cX6_valueFrom 10 (some (.int)) RX6) (hfl : l.stackTraces = false) (a0 : Option Nat) (a1 : Option Nat) (a2 : Int32) (h : fSt) (hf : f_X6_valueFrom_L0 a0 a1 a2 h = some r) : ∀ (H : Heap) (locs : List Loc) (cells slots : Nat) (ls : Array Slot), fCur D cA s h0 h H locs → lv_has ls 10 [(0, va_rf a0), (1, va_rf a1), (2, .int a2)] → W p l e { frames := 0, cells := fCB h0 - fZ h0, slots := fLB h0 - fL h0, locals := 0 } s m args below meth c H locs cells slots (MQ below (fQ D cA h0 r.2 (some (.int r.1))) args s (fCB h0 - fZ h0) (fLB h0 - fL h0) (fA h0)) (F0 m 0 ls []) := by
  obtain ⟨hx, hb, hml, hr, hlocks, hts, hown, K, hR⟩ := id M
  intro H locs cells slots ls hC hl
  refine fr_aload_n hx hb dX6_valueFrom_0 rfl (lv_at hl 1 rfl) ?_
  obtain ⟨x3, g4, hf⟩ := obind hf
  refine fr_get hx hb hts hown K hC ct_3 (fgR_get g4) (by decide) kw800 rfl dX6_valueFrom_1 ?_
  refine fr_astore_n (lv' := [(3, va_rf x3), (0, va_rf a0), (1, va_rf a1), (2, .int a2)]) hx hb dX6_valueFrom_4 rfl hl (by decide) (congrArg (List.cons _) (flk rfl (flk rfl (flk rfl fln)))) (fun ls hl => ?_)
  refine fr_aload_n hx hb dX6_valueFrom_5 rfl (lv_at hl 0 rfl) ?_
  refine fr_ifnull (tgt := 16) hx hb dX6_valueFrom_6 (by decide) (fun c5 => ?_) (fun c5 => ?_)
  · replace hf := opos c5 hf
    exact w_X6_valueFrom_L16 M hfl _ _ hf _ _ _ _ _ hC (lv_sub hl [2] rfl)
  · replace hf := oneg c5 hf
    refine fr_aload_n hx hb dX6_valueFrom_9 rfl (lv_at hl 1 rfl) ?_
    obtain ⟨x6, g7, hf⟩ := obind hf
    refine fr_get hx hb hts hown K hC ct_6 (fgI_get g7) (by decide) kw102 rfl dX6_valueFrom_10 ?_
    refine lv_if_ne (tgt := 21) hx hb dX6_valueFrom_13 (by decide) (fun c8 => ?_) (fun c8 => ?_)
    · replace hf := oneg c8 hf
      refine lv_iload_n hx hb dX6_valueFrom_21 rfl (lv_at hl 3 rfl) ?_
      refine fr_aload_n hx hb dX6_valueFrom_22 rfl (lv_at hl 2 rfl) ?_
      obtain ⟨x9, g10, hf⟩ := obind hf
      refine fr_get hx hb hts hown K hC ct_3 (fgI_get g10) (by decide) kw796 rfl dX6_valueFrom_23 ?_
      refine lv_isub hx hb dX6_valueFrom_26 ?_
      refine lv_i2l (v := (Int32.toInt64 (a2 - x9))) hx hb dX6_valueFrom_27 rfl ?_
      refine lv_lstore (lv' := [(4, .long (Int32.toInt64 (a2 - x9))), (3, va_rf x3), (0, va_rf a0), (1, va_rf a1), (2, .int a2)]) hx hb dX6_valueFrom_28 hl (by decide) (congrArg (List.cons _) (flk (adj2 _ _) (flk rfl (flk rfl (flk rfl fln))))) (fun ls hl => ?_)
      refine fr_aload_n hx hb dX6_valueFrom_30 rfl (lv_at hl 1 rfl) ?_
      obtain ⟨x11, g12, hf⟩ := obind hf
      refine fr_get hx hb hts hown K hC ct_3 (fgI_get g12) (by decide) kw796 rfl dX6_valueFrom_31 ?_
      refine fr_aload_n hx hb dX6_valueFrom_34 rfl (lv_at hl 3 rfl) ?_
      obtain ⟨x13, g14, hf⟩ := obind hf
      refine fr_get hx hb hts hown K hC ct_3 (fgI_get g14) (by decide) kw796 rfl dX6_valueFrom_35 ?_
      refine lv_isub hx hb dX6_valueFrom_38 ?_
      refine lv_i2l (v := (Int32.toInt64 (x11 - x13))) hx hb dX6_valueFrom_39 rfl ?_
      refine lv_lstore (lv' := [(6, .long (Int32.toInt64 (x11 - x13))), (4, .long (Int32.toInt64 (a2 - x9))), (3, va_rf x3), (0, va_rf a0), (1, va_rf a1), (2, .int a2)]) hx hb dX6_valueFrom_40 hl (by decide) (congrArg (List.cons _) (flk rfl (flk rfl (flk rfl (flk rfl (flk rfl fln)))))) (fun ls hl => ?_)
      refine lv_lload hx hb dX6_valueFrom_42 (lv_at hl 0 rfl) ?_
      refine lv_lconst (v := (1 : Int64)) hx hb dX6_valueFrom_44 (by decide) ?_
      refine fr_lcmp_ge (tgt := 54) hx hb dX6_valueFrom_45 dX6_valueFrom_46 (by decide) (fun c15 => ?_) (fun c15 => ?_)
      · replace hf := opos c15 hf
        refine fr_aload_n hx hb dX6_valueFrom_54 rfl (lv_at hl 2 rfl) ?_
        obtain ⟨x16, g17, hf⟩ := obind hf
        refine fr_get hx hb hts hown K hC ct_3 (fgI_get g17) (by decide) kw798 rfl dX6_valueFrom_55 ?_
        refine fr_aload_n hx hb dX6_valueFrom_58 rfl (lv_at hl 4 rfl) ?_
        obtain ⟨x18, g19, hf⟩ := obind hf
        refine fr_get hx hb hts hown K hC ct_3 (fgI_get g19) (by decide) kw798 rfl dX6_valueFrom_59 ?_
        refine lv_isub hx hb dX6_valueFrom_62 ?_
        refine lv_i2l (v := (Int32.toInt64 (x16 - x18))) hx hb dX6_valueFrom_63 rfl ?_
        refine lv_lstore (lv' := [(8, .long (Int32.toInt64 (x16 - x18))), (6, .long (Int32.toInt64 (x11 - x13))), (4, .long (Int32.toInt64 (a2 - x9))), (3, va_rf x3), (0, va_rf a0), (1, va_rf a1), (2, .int a2)]) hx hb dX6_valueFrom_64 hl (by decide) (congrArg (List.cons _) (flk rfl (flk rfl (flk rfl (flk rfl (flk rfl (flk rfl fln))))))) (fun ls hl => ?_)
        refine fr_aload_n hx hb dX6_valueFrom_66 rfl (lv_at hl 4 rfl) ?_
        obtain ⟨x20, g21, hf⟩ := obind hf
        refine fr_get hx hb hts hown K hC ct_6 (fgI_get g21) (by decide) kw102 rfl dX6_valueFrom_67 ?_
        refine lv_iconst (v := (1 : Int32)) hx hb dX6_valueFrom_70 (by decide) ?_
        refine lv_icmp_ne (tgt := 90) hx hb dX6_valueFrom_71 (by decide) (fun c22 => ?_) (fun c22 => ?_)
        · replace hf := oneg c22 hf
          refine fr_aload_n hx hb dX6_valueFrom_90 rfl (lv_at hl 5 rfl) ?_
          obtain ⟨x23, g24, hf⟩ := obind hf
          refine fr_get hx hb hts hown K hC ct_3 (fgI_get g24) (by decide) kw798 rfl dX6_valueFrom_91 ?_
          refine lv_i2l (v := (Int32.toInt64 x23)) hx hb dX6_valueFrom_94 rfl ?_
          refine lv_lload hx hb dX6_valueFrom_95 (lv_at hl 0 rfl) ?_
          refine lv_lload hx hb dX6_valueFrom_97 (lv_at hl 2 rfl) ?_
          refine lv_lmul hx hb dX6_valueFrom_99 ?_
          refine lv_lload hx hb dX6_valueFrom_100 (lv_at hl 2 rfl) ?_
          refine lv_lmul hx hb dX6_valueFrom_102 ?_
          refine fr_ldc2 (v := (3 : Int64)) hx hb hts hown kw382 dX6_valueFrom_103 ?_
          refine lv_lload hx hb dX6_valueFrom_106 (lv_at hl 1 rfl) ?_
          refine lv_lmul hx hb dX6_valueFrom_108 ?_
          refine fr_ldc2 (v := (2 : Int64)) hx hb hts hown kw383 dX6_valueFrom_109 ?_
          refine lv_lload hx hb dX6_valueFrom_112 (lv_at hl 2 rfl) ?_
          refine lv_lmul hx hb dX6_valueFrom_114 ?_
          refine lv_lsub hx hb dX6_valueFrom_115 ?_
          refine lv_lmul hx hb dX6_valueFrom_116 ?_
          refine lv_lload hx hb dX6_valueFrom_117 (lv_at hl 1 rfl) ?_
          refine lv_lload hx hb dX6_valueFrom_119 (lv_at hl 1 rfl) ?_
          refine lv_lmul hx hb dX6_valueFrom_121 ?_
          refine lv_lload hx hb dX6_valueFrom_122 (lv_at hl 1 rfl) ?_
          refine lv_lmul hx hb dX6_valueFrom_124 ?_
          by_cases c25 : (((Int32.toInt64 (x11 - x13)) * (Int32.toInt64 (x11 - x13))) * (Int32.toInt64 (x11 - x13))) = 0
          · exact nomatch (opos c25 hf)
          replace hf := oneg c25 hf
          refine lv_ldiv hx hb dX6_valueFrom_125 c25 ?_
          refine lv_ladd hx hb dX6_valueFrom_126 ?_
          refine lv_l2i (v := (Int64.toInt32 ((Int32.toInt64 x23) + (((((Int32.toInt64 (x16 - x18)) * (Int32.toInt64 (a2 - x9))) * (Int32.toInt64 (a2 - x9))) * (((3 : Int64) * (Int32.toInt64 (x11 - x13))) - ((2 : Int64) * (Int32.toInt64 (a2 - x9))))) / (((Int32.toInt64 (x11 - x13)) * (Int32.toInt64 (x11 - x13))) * (Int32.toInt64 (x11 - x13))))))) hx hb dX6_valueFrom_127 rfl ?_
          obtain rfl := Option.some.inj hf
          exact fr_iret hx hb hr hlocks hC dX6_valueFrom_128
        · replace hf := opos c22 hf
          refine fr_aload_n hx hb dX6_valueFrom_74 rfl (lv_at hl 5 rfl) ?_
          obtain ⟨x26, g27, hf⟩ := obind hf
          refine fr_get hx hb hts hown K hC ct_3 (fgI_get g27) (by decide) kw798 rfl dX6_valueFrom_75 ?_
          refine lv_i2l (v := (Int32.toInt64 x26)) hx hb dX6_valueFrom_78 rfl ?_
          refine lv_lload hx hb dX6_valueFrom_79 (lv_at hl 0 rfl) ?_
          refine lv_lload hx hb dX6_valueFrom_81 (lv_at hl 2 rfl) ?_
          refine lv_lmul hx hb dX6_valueFrom_83 ?_
          refine lv_lload hx hb dX6_valueFrom_84 (lv_at hl 1 rfl) ?_
          by_cases c28 : (Int32.toInt64 (x11 - x13)) = 0
          · exact nomatch (opos c28 hf)
          replace hf := oneg c28 hf
          refine lv_ldiv hx hb dX6_valueFrom_86 c28 ?_
          refine lv_ladd hx hb dX6_valueFrom_87 ?_
          refine lv_l2i (v := (Int64.toInt32 ((Int32.toInt64 x26) + (((Int32.toInt64 (x16 - x18)) * (Int32.toInt64 (a2 - x9))) / (Int32.toInt64 (x11 - x13)))))) hx hb dX6_valueFrom_88 rfl ?_
          obtain rfl := Option.some.inj hf
          exact fr_iret hx hb hr hlocks hC dX6_valueFrom_89
      · replace hf := oneg c15 hf
        refine fr_aload_n hx hb dX6_valueFrom_49 rfl (lv_at hl 4 rfl) ?_
        obtain ⟨x29, g30, hf⟩ := obind hf
        refine fr_get hx hb hts hown K hC ct_3 (fgI_get g30) (by decide) kw798 rfl dX6_valueFrom_50 ?_
        obtain rfl := Option.some.inj hf
        exact fr_iret hx hb hr hlocks hC dX6_valueFrom_53
    · replace hf := opos c8 hf
      exact w_X6_valueFrom_L16 M hfl _ _ hf _ _ _ _ _ hC (lv_sub hl [2] rfl)
set_option maxRecDepth 100000 in
theorem c_X6_valueFrom {l : Launch} (hfl : l.stackTraces = false) (D : va_G) (cA : Nat → ClassId) {o : Nat} {p0 : Option Nat} {p1 : Int32} {h : fSt} {r : (Int32 × fSt)} (hf : f_X6_valueFrom o p0 p1 h = some r) : fMet l yX6_valueFrom (wsC yX6_valueFrom cX6_valueFrom 10 (some (.int))) (0) (0) D cA [.ref o, va_rf p0, .int p1] h r.2 (some (.int r.1)) := by
  exact fMet.of (own := RX6) (by decide +kernel) rfl (lva1 rfl (lva1 (va_rf_cat _) (lva1 rfl lva0))) (lgl1 rfl (lgl1 (va_rf_cat _) (lgl1 rfl lgl0))) (Nat.le_of_ble_eq_true rfl) (fun p e s m args below meth c ls hnm _ M hC hl => by
    have hl : lv_has ls 10 [(0, va_rf (some o)), (1, va_rf p0), (2, .int p1)] := hl
    exact w_X6_valueFrom_L0 M hfl _ _ _ _ hf _ _ _ _ _ hC (lv_sub hl [0, 1, 2] rfl))
set_option maxHeartbeats 4000000 in
set_option maxRecDepth 100000 in
theorem w_X6_at_L74 {p : Program} {l : Launch} {e : Env} {s : State} {m : MethodId} {args : Array Value} {below : List Frame} {meth : Method} {c : Code} {D : va_G} {cA : Nat → ClassId} {h0 : fSt} {r : (Int32 × fSt)} (M : fM p s m args meth c D cA h0 { frames := 1, cells := fCB h0 - fZ h0, slots := fLB h0 - fL h0, locals := 29 } cX6_at 4 (some (.int)) RX6) (hfl : l.stackTraces = false) (s0 : Int32) (h : fSt) (hf : f_X6_at_L74 s0 h = some r) : ∀ (H : Heap) (locs : List Loc) (cells slots : Nat) (ls : Array Slot), fCur D cA s h0 h H locs → lv_has ls 4 [] → W p l e { frames := 1, cells := fCB h0 - fZ h0, slots := fLB h0 - fL h0, locals := 29 } s m args below meth c H locs cells slots (MQ below (fQ D cA h0 r.2 (some (.int r.1))) args s (fCB h0 - fZ h0) (fLB h0 - fL h0) (fA h0)) (F0 m 74 ls [.int s0]) := by
  obtain ⟨hx, hb, hml, hr, hlocks, hts, hown, K, hR⟩ := id M
  intro H locs cells slots ls hC hl
  obtain rfl := Option.some.inj hf
  exact fr_iret hx hb hr hlocks hC dX6_at_74
set_option maxHeartbeats 4000000 in
set_option maxRecDepth 100000 in
theorem w_X6_at_L54 {p : Program} {l : Launch} {e : Env} {s : State} {m : MethodId} {args : Array Value} {below : List Frame} {meth : Method} {c : Code} {D : va_G} {cA : Nat → ClassId} {h0 : fSt} {r : (Int32 × fSt)} (M : fM p s m args meth c D cA h0 { frames := 1, cells := fCB h0 - fZ h0, slots := fLB h0 - fL h0, locals := 29 } cX6_at 4 (some (.int)) RX6) (hfl : l.stackTraces = false) (a0 : Option Nat) (a2 : Int32) (a3 : Option Nat) (h : fSt) (hf : f_X6_at_L54 a0 a2 a3 h = some r) : ∀ (H : Heap) (locs : List Loc) (cells slots : Nat) (ls : Array Slot), fCur D cA s h0 h H locs → lv_has ls 4 [(0, va_rf a0), (2, .int a2), (3, va_rf a3)] → W p l e { frames := 1, cells := fCB h0 - fZ h0, slots := fLB h0 - fL h0, locals := 29 } s m args below meth c H locs cells slots (MQ below (fQ D cA h0 r.2 (some (.int r.1))) args s (fCB h0 - fZ h0) (fLB h0 - fL h0) (fA h0)) (F0 m 54 ls []) := by
  obtain ⟨hx, hb, hml, hr, hlocks, hts, hown, K, hR⟩ := id M
  intro H locs cells slots ls hC hl
  refine fr_aload_n hx hb dX6_at_54 rfl (lv_at hl 2 rfl) ?_
  refine fr_ifnonnull (tgt := 68) hx hb dX6_at_55 (by decide) (fun c1 => ?_) (fun c1 => ?_)
  · replace hf := oneg c1 hf
    refine fr_aload_n hx hb dX6_at_68 rfl (lv_at hl 0 rfl) ?_
    refine fr_aload_n hx hb dX6_at_69 rfl (lv_at hl 2 rfl) ?_
    refine lv_iload_n hx hb dX6_at_70 rfl (lv_at hl 1 rfl) ?_
    obtain ⟨b4, q5, hf⟩ := obind hf
    obtain ⟨r2, g3, hf⟩ := obind hf
    refine fr_callV hx hb hml hts hown K hC hR ct_6 (c_X6_valueFrom hfl D cA g3) 2 q5 kw381 kw378 kw380 kw4 kw57 (by decide +kernel) ⟨by exact Nat.le_of_ble_eq_true rfl, by exact Nat.le_of_ble_eq_true rfl⟩ rfl hl.1 (cat8 _ (by exact Nat.le_of_ble_eq_true rfl)) dX6_at_71 rfl (fun H locs _ _ hC => ?_)
    exact w_X6_at_L74 M hfl _ _ hf _ _ _ _ _ hC (lv_sub hl [] rfl)
  · replace hf := opos c1 hf
    refine fr_aload_n hx hb dX6_at_58 rfl (lv_at hl 0 rfl) ?_
    obtain ⟨x6, g7, hf⟩ := obind hf
    refine fr_get hx hb hts hown K hC ct_6 (fgR_get g7) (by decide) kw106 rfl dX6_at_59 ?_
    obtain ⟨x8, g9, hf⟩ := obind hf
    refine fr_get hx hb hts hown K hC ct_3 (fgI_get g9) (by decide) kw798 rfl dX6_at_62 ?_
    refine lv_goto (tgt := 74) hx hb dX6_at_65 (by decide) ?_
    exact w_X6_at_L74 M hfl _ _ hf _ _ _ _ _ hC (lv_sub hl [] rfl)
set_option maxHeartbeats 4000000 in
set_option maxRecDepth 100000 in
theorem w_X6_at_L0 {p : Program} {l : Launch} {e : Env} {s : State} {m : MethodId} {args : Array Value} {below : List Frame} {meth : Method} {c : Code} {D : va_G} {cA : Nat → ClassId} {h0 : fSt} {r : (Int32 × fSt)} (M : fM p s m args meth c D cA h0 { frames := 1, cells := fCB h0 - fZ h0, slots := fLB h0 - fL h0, locals := 29 } cX6_at 4 (some (.int)) RX6) (hfl : l.stackTraces = false) (a0 : Option Nat) (a1 : Int32) (h : fSt) (hf : f_X6_at_L0 a0 a1 h = some r) : ∀ (H : Heap) (locs : List Loc) (cells slots : Nat) (ls : Array Slot), fCur D cA s h0 h H locs → lv_has ls 4 [(0, va_rf a0), (1, .int a1)] → W p l e { frames := 1, cells := fCB h0 - fZ h0, slots := fLB h0 - fL h0, locals := 29 } s m args below meth c H locs cells slots (MQ below (fQ D cA h0 r.2 (some (.int r.1))) args s (fCB h0 - fZ h0) (fLB h0 - fL h0) (fA h0)) (F0 m 0 ls []) := by
  obtain ⟨hx, hb, hml, hr, hlocks, hts, hown, K, hR⟩ := id M
  intro H locs cells slots ls hC hl
  refine fr_aload_n hx hb dX6_at_0 rfl (lv_at hl 0 rfl) ?_
  obtain ⟨x10, g11, hf⟩ := obind hf
  refine fr_get hx hb hts hown K hC ct_6 (fgR_get g11) (by decide) kw106 rfl dX6_at_1 ?_
  refine fr_ifnonnull (tgt := 12) hx hb dX6_at_4 (by decide) (fun c12 => ?_) (fun c12 => ?_)
  · replace hf := oneg c12 hf
    refine lv_iload_n hx hb dX6_at_12 rfl (lv_at hl 1 rfl) ?_
    refine lv_istore_n (lv' := [(2, .int a1), (0, va_rf a0), (1, .int a1)]) hx hb dX6_at_13 rfl hl (by decide) (congrArg (List.cons _) (flk rfl (flk rfl fln))) (fun ls hl => ?_)
    refine fr_aload_n hx hb dX6_at_14 rfl (lv_at hl 1 rfl) ?_
    refine lv_iload_n hx hb dX6_at_15 rfl (lv_at hl 2 rfl) ?_
    obtain ⟨b15, q16, hf⟩ := obind hf
    obtain ⟨r13, g14, hf⟩ := obind hf
    refine fr_callV hx hb hml hts hown K hC hR ct_6 (c_X6_lastKeyUpTo hfl D cA g14) 1 q16 kw373 kw370 kw372 kw2 kw57 (by decide +kernel) ⟨by exact Nat.le_of_ble_eq_true rfl, by exact Nat.le_of_ble_eq_true rfl⟩ rfl hl.1 (cat8 _ (by exact Nat.le_of_ble_eq_true rfl)) dX6_at_16 rfl (fun H locs _ _ hC => ?_)
    refine fr_astore_n (lv' := [(3, va_rf r13.1), (2, .int a1), (0, va_rf a0), (1, .int a1)]) hx hb dX6_at_19 rfl hl (by decide) (congrArg (List.cons _) (flk rfl (flk rfl (flk rfl fln)))) (fun ls hl => ?_)
    refine fr_aload_n hx hb dX6_at_20 rfl (lv_at hl 0 rfl) ?_
    refine fr_ifnull (tgt := 54) hx hb dX6_at_21 (by decide) (fun c17 => ?_) (fun c17 => ?_)
    · replace hf := opos c17 hf
      exact w_X6_at_L54 M hfl _ _ _ _ hf _ _ _ _ _ hC (lv_sub hl [2, 1, 0] rfl)
    · replace hf := oneg c17 hf
      refine fr_aload_n hx hb dX6_at_24 rfl (lv_at hl 0 rfl) ?_
      obtain ⟨x18, g19, hf⟩ := obind hf
      refine fr_get hx hb hts hown K hC ct_3 (fgR_get g19) (by decide) kw800 rfl dX6_at_25 ?_
      refine fr_ifnonnull (tgt := 54) hx hb dX6_at_28 (by decide) (fun c20 => ?_) (fun c20 => ?_)
      · replace hf := oneg c20 hf
        exact w_X6_at_L54 M hfl _ _ _ _ hf _ _ _ _ _ hC (lv_sub hl [2, 1, 0] rfl)
      · replace hf := opos c20 hf
        refine fr_aload_n hx hb dX6_at_31 rfl (lv_at hl 2 rfl) ?_
        refine lv_iload_n hx hb dX6_at_32 rfl (lv_at hl 3 rfl) ?_
        refine fr_aload_n hx hb dX6_at_33 rfl (lv_at hl 2 rfl) ?_
        obtain ⟨x21, g22, hf⟩ := obind hf
        refine fr_get hx hb hts hown K hC ct_6 (fgR_get g22) (by decide) kw106 rfl dX6_at_34 ?_
        obtain ⟨x23, g24, hf⟩ := obind hf
        refine fr_get hx hb hts hown K hC ct_3 (fgI_get g24) (by decide) kw796 rfl dX6_at_37 ?_
        refine fr_aload_n hx hb dX6_at_40 rfl (lv_at hl 0 rfl) ?_
        obtain ⟨x25, g26, hf⟩ := obind hf
        refine fr_get hx hb hts hown K hC ct_3 (fgI_get g26) (by decide) kw796 rfl dX6_at_41 ?_
        obtain ⟨b29, q30, hf⟩ := obind hf
        obtain ⟨r27, g28, hf⟩ := obind hf
        refine fr_callV hx hb hml hts hown K hC hR ct_6 (c_X6_countedTime hfl D cA g28) 3 q30 kw377 kw374 kw376 kw3 kw57 (by decide +kernel) ⟨by exact Nat.le_of_ble_eq_true rfl, by exact Nat.le_of_ble_eq_true rfl⟩ rfl hl.1 (cat8 _ (by exact Nat.le_of_ble_eq_true rfl)) dX6_at_44 rfl (fun H locs _ _ hC => ?_)
        refine lv_istore_n (lv' := [(2, .int r27.1), (3, va_rf r13.1), (0, va_rf a0), (1, .int a1)]) hx hb dX6_at_47 rfl hl (by decide) (congrArg (List.cons _) (flk rfl (fld rfl (flk rfl (flk rfl fln))))) (fun ls hl => ?_)
        refine fr_aload_n hx hb dX6_at_48 rfl (lv_at hl 2 rfl) ?_
        refine lv_iload_n hx hb dX6_at_49 rfl (lv_at hl 0 rfl) ?_
        obtain ⟨b33, q34, hf⟩ := obind hf
        obtain ⟨r31, g32, hf⟩ := obind hf
        refine fr_callV hx hb hml hts hown K hC hR ct_6 (c_X6_lastKeyUpTo hfl D cA g32) 1 q34 kw373 kw370 kw372 kw2 kw57 (by decide +kernel) ⟨by exact Nat.le_of_ble_eq_true rfl, by exact Nat.le_of_ble_eq_true rfl⟩ rfl hl.1 (cat8 _ (by exact Nat.le_of_ble_eq_true rfl)) dX6_at_50 rfl (fun H locs _ _ hC => ?_)
        refine fr_astore_n (lv' := [(3, va_rf r31.1), (2, .int r27.1), (0, va_rf a0), (1, .int a1)]) hx hb dX6_at_53 rfl hl (by decide) (congrArg (List.cons _) (flk rfl (fld rfl (flk rfl (flk rfl fln))))) (fun ls hl => ?_)
        exact w_X6_at_L54 M hfl _ _ _ _ hf _ _ _ _ _ hC (lv_sub hl [2, 1, 0] rfl)
  · replace hf := opos c12 hf
    refine fr_aload_n hx hb dX6_at_7 rfl (lv_at hl 0 rfl) ?_
    obtain ⟨x35, g36, hf⟩ := obind hf
    refine fr_get hx hb hts hown K hC ct_6 (fgI_get g36) (by decide) kw97 rfl dX6_at_8 ?_
    obtain rfl := Option.some.inj hf
    exact fr_iret hx hb hr hlocks hC dX6_at_11
set_option maxRecDepth 100000 in
theorem c_X6_at {l : Launch} (hfl : l.stackTraces = false) (D : va_G) (cA : Nat → ClassId) {o : Nat} {p0 : Int32} {h : fSt} {r : (Int32 × fSt)} (hf : f_X6_at o p0 h = some r) : fMet l yX6_at (wsC yX6_at cX6_at 4 (some (.int))) (1) (29) D cA [.ref o, .int p0] h r.2 (some (.int r.1)) := by
  exact fMet.of (own := RX6) (by decide +kernel) rfl (lva1 rfl (lva1 rfl lva0)) (lgl1 rfl (lgl1 rfl lgl0)) (Nat.le_of_ble_eq_true rfl) (fun p e s m args below meth c ls hnm _ M hC hl => by
    have hl : lv_has ls 4 [(0, va_rf (some o)), (1, .int p0)] := hl
    exact w_X6_at_L0 M hfl _ _ _ hf _ _ _ _ _ hC (lv_sub hl [0, 1] rfl))
