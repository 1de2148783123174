theorem dX0_init_0 : decode cX0_init 0 = .ok (.aload_n 0, 1) := by decide +kernel
theorem dX0_init_1 : decode cX0_init 1 = .ok (.invokespecial 1, 3) := by decide +kernel
theorem dX0_init_4 : decode cX0_init 4 = .ok (.return_, 1) := by decide +kernel
theorem dX0_anger_0 : decode cX0_anger 0 = .ok (.iconst 0, 1) := by decide +kernel
theorem dX0_anger_1 : decode cX0_anger 1 = .ok (.ireturn, 1) := by decide +kernel
theorem dX1_init_0 : decode cX1_init 0 = .ok (.aload_n 0, 1) := by decide +kernel
theorem dX1_init_1 : decode cX1_init 1 = .ok (.invokespecial 1, 3) := by decide +kernel
theorem dX1_init_4 : decode cX1_init 4 = .ok (.return_, 1) := by decide +kernel
theorem dX1_forgiveness_0 : decode cX1_forgiveness 0 = .ok (.iconst 2, 1) := by decide +kernel
theorem dX1_forgiveness_1 : decode cX1_forgiveness 1 = .ok (.ireturn, 1) := by decide +kernel
theorem dX2_init_0 : decode cX2_init 0 = .ok (.aload_n 0, 1) := by decide +kernel
theorem dX2_init_1 : decode cX2_init 1 = .ok (.invokespecial 3, 3) := by decide +kernel
theorem dX2_init_4 : decode cX2_init 4 = .ok (.return_, 1) := by decide +kernel
theorem dX2_seenAs_0 : decode cX2_seenAs 0 = .ok (.iload_n 1, 1) := by decide +kernel
theorem dX2_seenAs_1 : decode cX2_seenAs 1 = .ok (.ireturn, 1) := by decide +kernel
theorem dX2_forgivesAll_0 : decode cX2_forgivesAll 0 = .ok (.iconst 0, 1) := by decide +kernel
theorem dX2_forgivesAll_1 : decode cX2_forgivesAll 1 = .ok (.ireturn, 1) := by decide +kernel
theorem dX2_forgiveness_0 : decode cX2_forgiveness 0 = .ok (.iconst 1, 1) := by decide +kernel
theorem dX2_forgiveness_1 : decode cX2_forgiveness 1 = .ok (.ireturn, 1) := by decide +kernel
theorem dX2_anger_0 : decode cX2_anger 0 = .ok (.iconst 1, 1) := by decide +kernel
theorem dX2_anger_1 : decode cX2_anger 1 = .ok (.ireturn, 1) := by decide +kernel
theorem dX2_grudgeBehind_0 : decode cX2_grudgeBehind 0 = .ok (.iload_n 2, 1) := by decide +kernel
theorem dX2_grudgeBehind_1 : decode cX2_grudgeBehind 1 = .ok (.iconst 1, 1) := by decide +kernel
theorem dX2_grudgeBehind_2 : decode cX2_grudgeBehind 2 = .ok (.if_icmp .ne 15, 3) := by decide +kernel
theorem dX2_grudgeBehind_5 : decode cX2_grudgeBehind 5 = .ok (.iconst 0, 1) := by decide +kernel
theorem dX2_grudgeBehind_6 : decode cX2_grudgeBehind 6 = .ok (.iload_n 1, 1) := by decide +kernel
theorem dX2_grudgeBehind_7 : decode cX2_grudgeBehind 7 = .ok (.aload_n 0, 1) := by decide +kernel
theorem dX2_grudgeBehind_8 : decode cX2_grudgeBehind 8 = .ok (.iload_n 3, 1) := by decide +kernel
theorem dX2_grudgeBehind_9 : decode cX2_grudgeBehind 9 = .ok (.invokevirtual 9, 3) := by decide +kernel
theorem dX2_grudgeBehind_12 : decode cX2_grudgeBehind 12 = .ok (.isub, 1) := by decide +kernel
theorem dX2_grudgeBehind_13 : decode cX2_grudgeBehind 13 = .ok (.invokestatic 15, 3) := by decide +kernel
theorem dX2_grudgeBehind_16 : decode cX2_grudgeBehind 16 = .ok (.ireturn, 1) := by decide +kernel
theorem dX2_grudgeBehind_17 : decode cX2_grudgeBehind 17 = .ok (.iload_n 2, 1) := by decide +kernel
theorem dX2_grudgeBehind_18 : decode cX2_grudgeBehind 18 = .ok (.iconst 2, 1) := by decide +kernel
theorem dX2_grudgeBehind_19 : decode cX2_grudgeBehind 19 = .ok (.if_icmp .ne 15, 3) := by decide +kernel
theorem dX2_grudgeBehind_22 : decode cX2_grudgeBehind 22 = .ok (.bipush 9, 2) := by decide +kernel
theorem dX2_grudgeBehind_24 : decode cX2_grudgeBehind 24 = .ok (.iload_n 1, 1) := by decide +kernel
theorem dX2_grudgeBehind_25 : decode cX2_grudgeBehind 25 = .ok (.aload_n 0, 1) := by decide +kernel
theorem dX2_grudgeBehind_26 : decode cX2_grudgeBehind 26 = .ok (.invokevirtual 21, 3) := by decide +kernel
theorem dX2_grudgeBehind_29 : decode cX2_grudgeBehind 29 = .ok (.iadd, 1) := by decide +kernel
theorem dX2_grudgeBehind_30 : decode cX2_grudgeBehind 30 = .ok (.invokestatic 25, 3) := by decide +kernel
theorem dX2_grudgeBehind_33 : decode cX2_grudgeBehind 33 = .ok (.ireturn, 1) := by decide +kernel
theorem dX2_grudgeBehind_34 : decode cX2_grudgeBehind 34 = .ok (.iload_n 1, 1) := by decide +kernel
theorem dX2_grudgeBehind_35 : decode cX2_grudgeBehind 35 = .ok (.ireturn, 1) := by decide +kernel
theorem dX4_init_0 : decode cX4_init 0 = .ok (.aload_n 0, 1) := by decide +kernel
theorem dX4_init_1 : decode cX4_init 1 = .ok (.invokespecial 1, 3) := by decide +kernel
theorem dX4_init_4 : decode cX4_init 4 = .ok (.return_, 1) := by decide +kernel
theorem dX4_forgivesAll_0 : decode cX4_forgivesAll 0 = .ok (.iconst 1, 1) := by decide +kernel
theorem dX4_forgivesAll_1 : decode cX4_forgivesAll 1 = .ok (.ireturn, 1) := by decide +kernel
theorem dX5_init_0 : decode cX5_init 0 = .ok (.aload_n 0, 1) := by decide +kernel
theorem dX5_init_1 : decode cX5_init 1 = .ok (.invokespecial 3, 3) := by decide +kernel
theorem dX5_init_4 : decode cX5_init 4 = .ok (.aload_n 0, 1) := by decide +kernel
theorem dX5_init_5 : decode cX5_init 5 = .ok (.bipush 40, 2) := by decide +kernel
theorem dX5_init_7 : decode cX5_init 7 = .ok (.newarray .int, 2) := by decide +kernel
theorem dX5_init_9 : decode cX5_init 9 = .ok (.putfield 9, 3) := by decide +kernel
theorem dX5_init_12 : decode cX5_init 12 = .ok (.return_, 1) := by decide +kernel
theorem dX5_faultOf_0 : decode cX5_faultOf 0 = .ok (.aload_n 0, 1) := by decide +kernel
theorem dX5_faultOf_1 : decode cX5_faultOf 1 = .ok (.iconst 0, 1) := by decide +kernel
theorem dX5_faultOf_2 : decode cX5_faultOf 2 = .ok (.putfield 15, 3) := by decide +kernel
theorem dX5_faultOf_5 : decode cX5_faultOf 5 = .ok (.iconst 0, 1) := by decide +kernel
theorem dX5_faultOf_6 : decode cX5_faultOf 6 = .ok (.istore_n 2, 1) := by decide +kernel
theorem dX5_faultOf_7 : decode cX5_faultOf 7 = .ok (.iload_n 2, 1) := by decide +kernel
theorem dX5_faultOf_8 : decode cX5_faultOf 8 = .ok (.aload_n 1, 1) := by decide +kernel
theorem dX5_faultOf_9 : decode cX5_faultOf 9 = .ok (.getfield 19, 3) := by decide +kernel
theorem dX5_faultOf_12 : decode cX5_faultOf 12 = .ok (.if_icmp .ge 69, 3) := by decide +kernel
theorem dX5_faultOf_15 : decode cX5_faultOf 15 = .ok (.aload_n 1, 1) := by decide +kernel
theorem dX5_faultOf_16 : decode cX5_faultOf 16 = .ok (.getfield 24, 3) := by decide +kernel
theorem dX5_faultOf_19 : decode cX5_faultOf 19 = .ok (.iload_n 2, 1) := by decide +kernel
theorem dX5_faultOf_20 : decode cX5_faultOf 20 = .ok (.iaload, 1) := by decide +kernel
theorem dX5_faultOf_21 : decode cX5_faultOf 21 = .ok (.istore_n 3, 1) := by decide +kernel
theorem dX5_faultOf_22 : decode cX5_faultOf 22 = .ok (.iload_n 3, 1) := by decide +kernel
theorem dX5_faultOf_23 : decode cX5_faultOf 23 = .ok (.bipush 32, 2) := by decide +kernel
theorem dX5_faultOf_25 : decode cX5_faultOf 25 = .ok (.if_icmp .ne 15, 3) := by decide +kernel
theorem dX5_faultOf_28 : decode cX5_faultOf 28 = .ok (.aload_n 0, 1) := by decide +kernel
theorem dX5_faultOf_29 : decode cX5_faultOf 29 = .ok (.getfield 15, 3) := by decide +kernel
theorem dX5_faultOf_32 : decode cX5_faultOf 32 = .ok (.iconst 5, 1) := by decide +kernel
theorem dX5_faultOf_33 : decode cX5_faultOf 33 = .ok (.irem, 1) := by decide +kernel
theorem dX5_faultOf_34 : decode cX5_faultOf 34 = .ok (.ifCond .ne 6, 3) := by decide +kernel
theorem dX5_faultOf_37 : decode cX5_faultOf 37 = .ok (.goto 38, 3) := by decide +kernel
theorem dX5_faultOf_40 : decode cX5_faultOf 40 = .ok (.aload_n 0, 1) := by decide +kernel
theorem dX5_faultOf_41 : decode cX5_faultOf 41 = .ok (.iload_n 3, 1) := by decide +kernel
theorem dX5_faultOf_42 : decode cX5_faultOf 42 = .ok (.invokevirtual 27, 3) := by decide +kernel
theorem dX5_faultOf_45 : decode cX5_faultOf 45 = .ok (.istore 4, 2) := by decide +kernel
theorem dX5_faultOf_47 : decode cX5_faultOf 47 = .ok (.iload 4, 2) := by decide +kernel
theorem dX5_faultOf_49 : decode cX5_faultOf 49 = .ok (.ifCond .ge 5, 3) := by decide +kernel
theorem dX5_faultOf_52 : decode cX5_faultOf 52 = .ok (.iload_n 2, 1) := by decide +kernel
theorem dX5_faultOf_53 : decode cX5_faultOf 53 = .ok (.ireturn, 1) := by decide +kernel
theorem dX5_faultOf_54 : decode cX5_faultOf 54 = .ok (.aload_n 0, 1) := by decide +kernel
theorem dX5_faultOf_55 : decode cX5_faultOf 55 = .ok (.getfield 9, 3) := by decide +kernel
theorem dX5_faultOf_58 : decode cX5_faultOf 58 = .ok (.aload_n 0, 1) := by decide +kernel
theorem dX5_faultOf_59 : decode cX5_faultOf 59 = .ok (.getfield 15, 3) := by decide +kernel
theorem dX5_faultOf_62 : decode cX5_faultOf 62 = .ok (.iload 4, 2) := by decide +kernel
theorem dX5_faultOf_64 : decode cX5_faultOf 64 = .ok (.iastore, 1) := by decide +kernel
theorem dX5_faultOf_65 : decode cX5_faultOf 65 = .ok (.aload_n 0, 1) := by decide +kernel
theorem dX5_faultOf_66 : decode cX5_faultOf 66 = .ok (.dup, 1) := by decide +kernel
theorem dX5_faultOf_67 : decode cX5_faultOf 67 = .ok (.getfield 15, 3) := by decide +kernel
theorem dX5_faultOf_70 : decode cX5_faultOf 70 = .ok (.iconst 1, 1) := by decide +kernel
theorem dX5_faultOf_71 : decode cX5_faultOf 71 = .ok (.iadd, 1) := by decide +kernel
theorem dX5_faultOf_72 : decode cX5_faultOf 72 = .ok (.putfield 15, 3) := by decide +kernel
theorem dX5_faultOf_75 : decode cX5_faultOf 75 = .ok (.iinc 2 1, 3) := by decide +kernel
theorem dX5_faultOf_78 : decode cX5_faultOf 78 = .ok (.goto (-71), 3) := by decide +kernel
theorem dX5_faultOf_81 : decode cX5_faultOf 81 = .ok (.aload_n 0, 1) := by decide +kernel
theorem dX5_faultOf_82 : decode cX5_faultOf 82 = .ok (.getfield 15, 3) := by decide +kernel
theorem dX5_faultOf_85 : decode cX5_faultOf 85 = .ok (.iconst 5, 1) := by decide +kernel
theorem dX5_faultOf_86 : decode cX5_faultOf 86 = .ok (.irem, 1) := by decide +kernel
theorem dX5_faultOf_87 : decode cX5_faultOf 87 = .ok (.ifCond .ne 15, 3) := by decide +kernel
theorem dX5_faultOf_90 : decode cX5_faultOf 90 = .ok (.aload_n 0, 1) := by decide +kernel
theorem dX5_faultOf_91 : decode cX5_faultOf 91 = .ok (.invokevirtual 31, 3) := by decide +kernel
theorem dX5_faultOf_94 : decode cX5_faultOf 94 = .ok (.iconst 2, 1) := by decide +kernel
theorem dX5_faultOf_95 : decode cX5_faultOf 95 = .ok (.if_icmp .lt 7, 3) := by decide +kernel
theorem dX5_faultOf_98 : decode cX5_faultOf 98 = .ok (.iconst 1, 1) := by decide +kernel
theorem dX5_faultOf_99 : decode cX5_faultOf 99 = .ok (.goto 4, 3) := by decide +kernel
theorem dX5_faultOf_102 : decode cX5_faultOf 102 = .ok (.iconst 0, 1) := by decide +kernel
theorem dX5_faultOf_103 : decode cX5_faultOf 103 = .ok (.istore_n 2, 1) := by decide +kernel
theorem dX5_faultOf_104 : decode cX5_faultOf 104 = .ok (.iload_n 2, 1) := by decide +kernel
theorem dX5_faultOf_105 : decode cX5_faultOf 105 = .ok (.ifCond .eq 8, 3) := by decide +kernel
theorem dX5_faultOf_108 : decode cX5_faultOf 108 = .ok (.bipush (-9), 2) := by decide +kernel
theorem dX5_faultOf_110 : decode cX5_faultOf 110 = .ok (.goto 7, 3) := by decide +kernel
theorem dX5_faultOf_113 : decode cX5_faultOf 113 = .ok (.aload_n 1, 1) := by decide +kernel
theorem dX5_faultOf_114 : decode cX5_faultOf 114 = .ok (.getfield 19, 3) := by decide +kernel
theorem dX5_faultOf_117 : decode cX5_faultOf 117 = .ok (.ireturn, 1) := by decide +kernel
theorem dX5_howManyPeople_0 : decode cX5_howManyPeople 0 = .ok (.aload_n 0, 1) := by decide +kernel
theorem dX5_howManyPeople_1 : decode cX5_howManyPeople 1 = .ok (.getfield 15, 3) := by decide +kernel
theorem dX5_howManyPeople_4 : decode cX5_howManyPeople 4 = .ok (.iconst 5, 1) := by decide +kernel
theorem dX5_howManyPeople_5 : decode cX5_howManyPeople 5 = .ok (.idiv, 1) := by decide +kernel
theorem dX5_howManyPeople_6 : decode cX5_howManyPeople 6 = .ok (.iconst 1, 1) := by decide +kernel
theorem dX5_howManyPeople_7 : decode cX5_howManyPeople 7 = .ok (.isub, 1) := by decide +kernel
theorem dX5_howManyPeople_8 : decode cX5_howManyPeople 8 = .ok (.ireturn, 1) := by decide +kernel
theorem dX5_valueOf_0 : decode cX5_valueOf 0 = .ok (.aload_n 0, 1) := by decide +kernel
theorem dX5_valueOf_1 : decode cX5_valueOf 1 = .ok (.getfield 15, 3) := by decide +kernel
theorem dX5_valueOf_4 : decode cX5_valueOf 4 = .ok (.aload_n 0, 1) := by decide +kernel
theorem dX5_valueOf_5 : decode cX5_valueOf 5 = .ok (.getfield 9, 3) := by decide +kernel
theorem dX5_valueOf_8 : decode cX5_valueOf 8 = .ok (.arraylength, 1) := by decide +kernel
theorem dX5_valueOf_9 : decode cX5_valueOf 9 = .ok (.if_icmp .lt 5, 3) := by decide +kernel
theorem dX5_valueOf_12 : decode cX5_valueOf 12 = .ok (.iconst (-1), 1) := by decide +kernel
theorem dX5_valueOf_13 : decode cX5_valueOf 13 = .ok (.ireturn, 1) := by decide +kernel
theorem dX5_valueOf_14 : decode cX5_valueOf 14 = .ok (.aload_n 0, 1) := by decide +kernel
theorem dX5_valueOf_15 : decode cX5_valueOf 15 = .ok (.getfield 15, 3) := by decide +kernel
theorem dX5_valueOf_18 : decode cX5_valueOf 18 = .ok (.iconst 5, 1) := by decide +kernel
theorem dX5_valueOf_19 : decode cX5_valueOf 19 = .ok (.if_icmp .ge 10, 3) := by decide +kernel
theorem dX5_valueOf_22 : decode cX5_valueOf 22 = .ok (.iload_n 1, 1) := by decide +kernel
theorem dX5_valueOf_23 : decode cX5_valueOf 23 = .ok (.bipush 9, 2) := by decide +kernel
theorem dX5_valueOf_25 : decode cX5_valueOf 25 = .ok (.invokestatic 35, 3) := by decide +kernel
theorem dX5_valueOf_28 : decode cX5_valueOf 28 = .ok (.ireturn, 1) := by decide +kernel
theorem dX5_valueOf_29 : decode cX5_valueOf 29 = .ok (.aload_n 0, 1) := by decide +kernel
theorem dX5_valueOf_30 : decode cX5_valueOf 30 = .ok (.getfield 15, 3) := by decide +kernel
theorem dX5_valueOf_33 : decode cX5_valueOf 33 = .ok (.iconst 5, 1) := by decide +kernel
theorem dX5_valueOf_34 : decode cX5_valueOf 34 = .ok (.irem, 1) := by decide +kernel
theorem dX5_valueOf_35 : decode cX5_valueOf 35 = .ok (.istore_n 2, 1) := by decide +kernel
theorem dX5_valueOf_36 : decode cX5_valueOf 36 = .ok (.iload_n 2, 1) := by decide +kernel
theorem dX5_valueOf_37 : decode cX5_valueOf 37 = .ok (.ifCond .ne 8, 3) := by decide +kernel
theorem dX5_valueOf_40 : decode cX5_valueOf 40 = .ok (.iload_n 1, 1) := by decide +kernel
theorem dX5_valueOf_41 : decode cX5_valueOf 41 = .ok (.invokestatic 39, 3) := by decide +kernel
theorem dX5_valueOf_44 : decode cX5_valueOf 44 = .ok (.ireturn, 1) := by decide +kernel
theorem dX5_valueOf_45 : decode cX5_valueOf 45 = .ok (.iload_n 1, 1) := by decide +kernel
theorem dX5_valueOf_46 : decode cX5_valueOf 46 = .ok (.iload_n 2, 1) := by decide +kernel
theorem dX5_valueOf_47 : decode cX5_valueOf 47 = .ok (.iconst 4, 1) := by decide +kernel
theorem dX5_valueOf_48 : decode cX5_valueOf 48 = .ok (.if_icmp .ne 7, 3) := by decide +kernel
theorem dX5_valueOf_51 : decode cX5_valueOf 51 = .ok (.iconst 4, 1) := by decide +kernel
theorem dX5_valueOf_52 : decode cX5_valueOf 52 = .ok (.goto 5, 3) := by decide +kernel
theorem dX5_valueOf_55 : decode cX5_valueOf 55 = .ok (.bipush 9, 2) := by decide +kernel
theorem dX5_valueOf_57 : decode cX5_valueOf 57 = .ok (.invokestatic 35, 3) := by decide +kernel
theorem dX5_valueOf_60 : decode cX5_valueOf 60 = .ok (.ireturn, 1) := by decide +kernel
theorem dX5_figure_0 : decode cX5_figure 0 = .ok (.iload_n 0, 1) := by decide +kernel
theorem dX5_figure_1 : decode cX5_figure 1 = .ok (.bipush 48, 2) := by decide +kernel
theorem dX5_figure_3 : decode cX5_figure 3 = .ok (.isub, 1) := by decide +kernel
theorem dX5_figure_4 : decode cX5_figure 4 = .ok (.istore_n 2, 1) := by decide +kernel
theorem dX5_figure_5 : decode cX5_figure 5 = .ok (.iload_n 2, 1) := by decide +kernel
theorem dX5_figure_6 : decode cX5_figure 6 = .ok (.ifCond .lt 12, 3) := by decide +kernel
theorem dX5_figure_9 : decode cX5_figure 9 = .ok (.iload_n 2, 1) := by decide +kernel
theorem dX5_figure_10 : decode cX5_figure 10 = .ok (.iload_n 1, 1) := by decide +kernel
theorem dX5_figure_11 : decode cX5_figure 11 = .ok (.if_icmp .gt 7, 3) := by decide +kernel
theorem dX5_figure_14 : decode cX5_figure 14 = .ok (.iload_n 2, 1) := by decide +kernel
theorem dX5_figure_15 : decode cX5_figure 15 = .ok (.goto 4, 3) := by decide +kernel
theorem dX5_figure_18 : decode cX5_figure 18 = .ok (.iconst (-1), 1) := by decide +kernel
theorem dX5_figure_19 : decode cX5_figure 19 = .ok (.ireturn, 1) := by decide +kernel
theorem dX5_kindOf_0 : decode cX5_kindOf 0 = .ok (.iconst 0, 1) := by decide +kernel
theorem dX5_kindOf_1 : decode cX5_kindOf 1 = .ok (.istore_n 1, 1) := by decide +kernel
theorem dX5_kindOf_2 : decode cX5_kindOf 2 = .ok (.iload_n 1, 1) := by decide +kernel
theorem dX5_kindOf_3 : decode cX5_kindOf 3 = .ok (.getstatic 42, 3) := by decide +kernel
theorem dX5_kindOf_6 : decode cX5_kindOf 6 = .ok (.arraylength, 1) := by decide +kernel
theorem dX5_kindOf_7 : decode cX5_kindOf 7 = .ok (.if_icmp .ge 20, 3) := by decide +kernel
theorem dX5_kindOf_10 : decode cX5_kindOf 10 = .ok (.getstatic 42, 3) := by decide +kernel
theorem dX5_kindOf_13 : decode cX5_kindOf 13 = .ok (.iload_n 1, 1) := by decide +kernel
theorem dX5_kindOf_14 : decode cX5_kindOf 14 = .ok (.caload, 1) := by decide +kernel
theorem dX5_kindOf_15 : decode cX5_kindOf 15 = .ok (.iload_n 0, 1) := by decide +kernel
theorem dX5_kindOf_16 : decode cX5_kindOf 16 = .ok (.if_icmp .ne 5, 3) := by decide +kernel
theorem dX5_kindOf_19 : decode cX5_kindOf 19 = .ok (.iload_n 1, 1) := by decide +kernel
theorem dX5_kindOf_20 : decode cX5_kindOf 20 = .ok (.ireturn, 1) := by decide +kernel
theorem dX5_kindOf_21 : decode cX5_kindOf 21 = .ok (.iinc 1 1, 3) := by decide +kernel
theorem dX5_kindOf_24 : decode cX5_kindOf 24 = .ok (.goto (-22), 3) := by decide +kernel
theorem dX5_kindOf_27 : decode cX5_kindOf 27 = .ok (.iconst (-1), 1) := by decide +kernel
theorem dX5_kindOf_28 : decode cX5_kindOf 28 = .ok (.ireturn, 1) := by decide +kernel
theorem dX6_init_0 : decode cX6_init 0 = .ok (.aload_n 0, 1) := by decide +kernel
theorem dX6_init_1 : decode cX6_init 1 = .ok (.invokespecial 1, 3) := by decide +kernel
theorem dX6_init_4 : decode cX6_init 4 = .ok (.return_, 1) := by decide +kernel
theorem dX6_seenAs_0 : decode cX6_seenAs 0 = .ok (.iload_n 1, 1) := by decide +kernel
theorem dX6_seenAs_1 : decode cX6_seenAs 1 = .ok (.iconst 2, 1) := by decide +kernel
theorem dX6_seenAs_2 : decode cX6_seenAs 2 = .ok (.if_icmp .le 9, 3) := by decide +kernel
theorem dX6_seenAs_5 : decode cX6_seenAs 5 = .ok (.iload_n 1, 1) := by decide +kernel
theorem dX6_seenAs_6 : decode cX6_seenAs 6 = .ok (.iconst 2, 1) := by decide +kernel
theorem dX6_seenAs_7 : decode cX6_seenAs 7 = .ok (.isub, 1) := by decide +kernel
theorem dX6_seenAs_8 : decode cX6_seenAs 8 = .ok (.goto 4, 3) := by decide +kernel
theorem dX6_seenAs_11 : decode cX6_seenAs 11 = .ok (.iconst 0, 1) := by decide +kernel
theorem dX6_seenAs_12 : decode cX6_seenAs 12 = .ok (.ireturn, 1) := by decide +kernel
theorem dX7_init_0 : decode cX7_init 0 = .ok (.aload_n 0, 1) := by decide +kernel
theorem dX7_init_1 : decode cX7_init 1 = .ok (.invokespecial 1, 3) := by decide +kernel
theorem dX7_init_4 : decode cX7_init 4 = .ok (.aload_n 0, 1) := by decide +kernel
theorem dX7_init_5 : decode cX7_init 5 = .ok (.iconst (-1), 1) := by decide +kernel
theorem dX7_init_6 : decode cX7_init 6 = .ok (.putfield 7, 3) := by decide +kernel
theorem dX7_init_9 : decode cX7_init 9 = .ok (.aload_n 0, 1) := by decide +kernel
theorem dX7_init_10 : decode cX7_init 10 = .ok (.iconst 0, 1) := by decide +kernel
theorem dX7_init_11 : decode cX7_init 11 = .ok (.iload_n 1, 1) := by decide +kernel
theorem dX7_init_12 : decode cX7_init 12 = .ok (.invokestatic 13, 3) := by decide +kernel
theorem dX7_init_15 : decode cX7_init 15 = .ok (.newarray .int, 2) := by decide +kernel
theorem dX7_init_17 : decode cX7_init 17 = .ok (.putfield 19, 3) := by decide +kernel
theorem dX7_init_20 : decode cX7_init 20 = .ok (.return_, 1) := by decide +kernel
theorem dX7_isThere_0 : decode cX7_isThere 0 = .ok (.aload_n 0, 1) := by decide +kernel
theorem dX7_isThere_1 : decode cX7_isThere 1 = .ok (.getfield 7, 3) := by decide +kernel
theorem dX7_isThere_4 : decode cX7_isThere 4 = .ok (.ifCond .lt 7, 3) := by decide +kernel
theorem dX7_isThere_7 : decode cX7_isThere 7 = .ok (.iconst 1, 1) := by decide +kernel
theorem dX7_isThere_8 : decode cX7_isThere 8 = .ok (.goto 4, 3) := by decide +kernel
theorem dX7_isThere_11 : decode cX7_isThere 11 = .ok (.iconst 0, 1) := by decide +kernel
theorem dX7_isThere_12 : decode cX7_isThere 12 = .ok (.ireturn, 1) := by decide +kernel
theorem dX7_has_0 : decode cX7_has 0 = .ok (.iload_n 1, 1) := by decide +kernel
theorem dX7_has_1 : decode cX7_has 1 = .ok (.ifCond .lt 15, 3) := by decide +kernel
theorem dX7_has_4 : decode cX7_has 4 = .ok (.iload_n 1, 1) := by decide +kernel
theorem dX7_has_5 : decode cX7_has 5 = .ok (.aload_n 0, 1) := by decide +kernel
theorem dX7_has_6 : decode cX7_has 6 = .ok (.getfield 7, 3) := by decide +kernel
theorem dX7_has_9 : decode cX7_has 9 = .ok (.if_icmp .ge 7, 3) := by decide +kernel
theorem dX7_has_12 : decode cX7_has 12 = .ok (.iconst 1, 1) := by decide +kernel
theorem dX7_has_13 : decode cX7_has 13 = .ok (.goto 4, 3) := by decide +kernel
theorem dX7_has_16 : decode cX7_has 16 = .ok (.iconst 0, 1) := by decide +kernel
theorem dX7_has_17 : decode cX7_has 17 = .ok (.ireturn, 1) := by decide +kernel
theorem dX7_hasRun_0 : decode cX7_hasRun 0 = .ok (.iload_n 1, 1) := by decide +kernel
theorem dX7_hasRun_1 : decode cX7_hasRun 1 = .ok (.ifCond .lt 29, 3) := by decide +kernel
theorem dX7_hasRun_4 : decode cX7_hasRun 4 = .ok (.iload_n 2, 1) := by decide +kernel
theorem dX7_hasRun_5 : decode cX7_hasRun 5 = .ok (.ifCond .lt 25, 3) := by decide +kernel
theorem dX7_hasRun_8 : decode cX7_hasRun 8 = .ok (.iload_n 2, 1) := by decide +kernel
theorem dX7_hasRun_9 : decode cX7_hasRun 9 = .ok (.aload_n 0, 1) := by decide +kernel
theorem dX7_hasRun_10 : decode cX7_hasRun 10 = .ok (.getfield 7, 3) := by decide +kernel
theorem dX7_hasRun_13 : decode cX7_hasRun 13 = .ok (.if_icmp .gt 17, 3) := by decide +kernel
theorem dX7_hasRun_16 : decode cX7_hasRun 16 = .ok (.iload_n 1, 1) := by decide +kernel
theorem dX7_hasRun_17 : decode cX7_hasRun 17 = .ok (.aload_n 0, 1) := by decide +kernel
theorem dX7_hasRun_18 : decode cX7_hasRun 18 = .ok (.getfield 7, 3) := by decide +kernel
theorem dX7_hasRun_21 : decode cX7_hasRun 21 = .ok (.iload_n 2, 1) := by decide +kernel
theorem dX7_hasRun_22 : decode cX7_hasRun 22 = .ok (.isub, 1) := by decide +kernel
theorem dX7_hasRun_23 : decode cX7_hasRun 23 = .ok (.if_icmp .gt 7, 3) := by decide +kernel
theorem dX7_hasRun_26 : decode cX7_hasRun 26 = .ok (.iconst 1, 1) := by decide +kernel
theorem dX7_hasRun_27 : decode cX7_hasRun 27 = .ok (.goto 4, 3) := by decide +kernel
theorem dX7_hasRun_30 : decode cX7_hasRun 30 = .ok (.iconst 0, 1) := by decide +kernel
theorem dX7_hasRun_31 : decode cX7_hasRun 31 = .ok (.ireturn, 1) := by decide +kernel
theorem dX7_open_0 : decode cX7_open 0 = .ok (.aload_n 0, 1) := by decide +kernel
theorem dX7_open_1 : decode cX7_open 1 = .ok (.iload_n 1, 1) := by decide +kernel
theorem dX7_open_2 : decode cX7_open 2 = .ok (.aload_n 0, 1) := by decide +kernel
theorem dX7_open_3 : decode cX7_open 3 = .ok (.getfield 19, 3) := by decide +kernel
theorem dX7_open_6 : decode cX7_open 6 = .ok (.arraylength, 1) := by decide +kernel
theorem dX7_open_7 : decode cX7_open 7 = .ok (.invokestatic 23, 3) := by decide +kernel
theorem dX7_open_10 : decode cX7_open 10 = .ok (.putfield 7, 3) := by decide +kernel
theorem dX7_open_13 : decode cX7_open 13 = .ok (.aload_n 0, 1) := by decide +kernel
theorem dX7_open_14 : decode cX7_open 14 = .ok (.getfield 19, 3) := by decide +kernel
theorem dX7_open_17 : decode cX7_open 17 = .ok (.iload_n 2, 1) := by decide +kernel
theorem dX7_open_18 : decode cX7_open 18 = .ok (.invokestatic 26, 3) := by decide +kernel
theorem dX7_open_21 : decode cX7_open 21 = .ok (.return_, 1) := by decide +kernel
theorem dX7_close_0 : decode cX7_close 0 = .ok (.aload_n 0, 1) := by decide +kernel
theorem dX7_close_1 : decode cX7_close 1 = .ok (.iconst (-1), 1) := by decide +kernel
theorem dX7_close_2 : decode cX7_close 2 = .ok (.putfield 7, 3) := by decide +kernel
theorem dX7_close_5 : decode cX7_close 5 = .ok (.return_, 1) := by decide +kernel
theorem dX7_total_0 : decode cX7_total 0 = .ok (.lconst 0, 1) := by decide +kernel
theorem dX7_total_1 : decode cX7_total 1 = .ok (.lstore_n 1, 1) := by decide +kernel
theorem dX7_total_2 : decode cX7_total 2 = .ok (.iconst 0, 1) := by decide +kernel
theorem dX7_total_3 : decode cX7_total 3 = .ok (.istore_n 3, 1) := by decide +kernel
theorem dX7_total_4 : decode cX7_total 4 = .ok (.iload_n 3, 1) := by decide +kernel
theorem dX7_total_5 : decode cX7_total 5 = .ok (.aload_n 0, 1) := by decide +kernel
theorem dX7_total_6 : decode cX7_total 6 = .ok (.getfield 7, 3) := by decide +kernel
theorem dX7_total_9 : decode cX7_total 9 = .ok (.if_icmp .ge 19, 3) := by decide +kernel
theorem dX7_total_12 : decode cX7_total 12 = .ok (.lload_n 1, 1) := by decide +kernel
theorem dX7_total_13 : decode cX7_total 13 = .ok (.aload_n 0, 1) := by decide +kernel
theorem dX7_total_14 : decode cX7_total 14 = .ok (.getfield 19, 3) := by decide +kernel
theorem dX7_total_17 : decode cX7_total 17 = .ok (.iload_n 3, 1) := by decide +kernel
theorem dX7_total_18 : decode cX7_total 18 = .ok (.iaload, 1) := by decide +kernel
theorem dX7_total_19 : decode cX7_total 19 = .ok (.i2l, 1) := by decide +kernel
theorem dX7_total_20 : decode cX7_total 20 = .ok (.ladd, 1) := by decide +kernel
theorem dX7_total_21 : decode cX7_total 21 = .ok (.lstore_n 1, 1) := by decide +kernel
theorem dX7_total_22 : decode cX7_total 22 = .ok (.iinc 3 1, 3) := by decide +kernel
theorem dX7_total_25 : decode cX7_total 25 = .ok (.goto (-21), 3) := by decide +kernel
theorem dX7_total_28 : decode cX7_total 28 = .ok (.lload_n 1, 1) := by decide +kernel
theorem dX7_total_29 : decode cX7_total 29 = .ok (.lreturn, 1) := by decide +kernel
theorem dX7_digestedInto_0 : decode cX7_digestedInto 0 = .ok (.ldc2_w 32, 3) := by decide +kernel
theorem dX7_digestedInto_3 : decode cX7_digestedInto 3 = .ok (.lload_n 1, 1) := by decide +kernel
theorem dX7_digestedInto_4 : decode cX7_digestedInto 4 = .ok (.lmul, 1) := by decide +kernel
theorem dX7_digestedInto_5 : decode cX7_digestedInto 5 = .ok (.aload_n 0, 1) := by decide +kernel
theorem dX7_digestedInto_6 : decode cX7_digestedInto 6 = .ok (.getfield 7, 3) := by decide +kernel
theorem dX7_digestedInto_9 : decode cX7_digestedInto 9 = .ok (.i2l, 1) := by decide +kernel
theorem dX7_digestedInto_10 : decode cX7_digestedInto 10 = .ok (.ladd, 1) := by decide +kernel
theorem dX7_digestedInto_11 : decode cX7_digestedInto 11 = .ok (.lstore_n 3, 1) := by decide +kernel
theorem dX7_digestedInto_12 : decode cX7_digestedInto 12 = .ok (.iconst 0, 1) := by decide +kernel
theorem dX7_digestedInto_13 : decode cX7_digestedInto 13 = .ok (.istore 5, 2) := by decide +kernel
theorem dX7_digestedInto_15 : decode cX7_digestedInto 15 = .ok (.iload 5, 2) := by decide +kernel
theorem dX7_digestedInto_17 : decode cX7_digestedInto 17 = .ok (.aload_n 0, 1) := by decide +kernel
theorem dX7_digestedInto_18 : decode cX7_digestedInto 18 = .ok (.getfield 7, 3) := by decide +kernel
theorem dX7_digestedInto_21 : decode cX7_digestedInto 21 = .ok (.if_icmp .ge 24, 3) := by decide +kernel
theorem dX7_digestedInto_24 : decode cX7_digestedInto 24 = .ok (.ldc2_w 32, 3) := by decide +kernel
theorem dX7_digestedInto_27 : decode cX7_digestedInto 27 = .ok (.lload_n 3, 1) := by decide +kernel
theorem dX7_digestedInto_28 : decode cX7_digestedInto 28 = .ok (.lmul, 1) := by decide +kernel
theorem dX7_digestedInto_29 : decode cX7_digestedInto 29 = .ok (.aload_n 0, 1) := by decide +kernel
theorem dX7_digestedInto_30 : decode cX7_digestedInto 30 = .ok (.getfield 19, 3) := by decide +kernel
theorem dX7_digestedInto_33 : decode cX7_digestedInto 33 = .ok (.iload 5, 2) := by decide +kernel
theorem dX7_digestedInto_35 : decode cX7_digestedInto 35 = .ok (.iaload, 1) := by decide +kernel
theorem dX7_digestedInto_36 : decode cX7_digestedInto 36 = .ok (.i2l, 1) := by decide +kernel
theorem dX7_digestedInto_37 : decode cX7_digestedInto 37 = .ok (.ladd, 1) := by decide +kernel
theorem dX7_digestedInto_38 : decode cX7_digestedInto 38 = .ok (.lstore_n 3, 1) := by decide +kernel
theorem dX7_digestedInto_39 : decode cX7_digestedInto 39 = .ok (.iinc 5 1, 3) := by decide +kernel
theorem dX7_digestedInto_42 : decode cX7_digestedInto 42 = .ok (.goto (-27), 3) := by decide +kernel
theorem dX7_digestedInto_45 : decode cX7_digestedInto 45 = .ok (.lload_n 3, 1) := by decide +kernel
theorem dX7_digestedInto_46 : decode cX7_digestedInto 46 = .ok (.lreturn, 1) := by decide +kernel
theorem dX8_init_0 : decode cX8_init 0 = .ok (.aload_n 0, 1) := by decide +kernel
theorem dX8_init_1 : decode cX8_init 1 = .ok (.invokespecial 1, 3) := by decide +kernel
theorem dX8_init_4 : decode cX8_init 4 = .ok (.return_, 1) := by decide +kernel
theorem dX8_forgiveness_0 : decode cX8_forgiveness 0 = .ok (.iload_n 1, 1) := by decide +kernel
theorem dX8_forgiveness_1 : decode cX8_forgiveness 1 = .ok (.iconst 2, 1) := by decide +kernel
theorem dX8_forgiveness_2 : decode cX8_forgiveness 2 = .ok (.irem, 1) := by decide +kernel
theorem dX8_forgiveness_3 : decode cX8_forgiveness 3 = .ok (.ifCond .ne 7, 3) := by decide +kernel
theorem dX8_forgiveness_6 : decode cX8_forgiveness 6 = .ok (.iconst 1, 1) := by decide +kernel
theorem dX8_forgiveness_7 : decode cX8_forgiveness 7 = .ok (.goto 4, 3) := by decide +kernel
theorem dX8_forgiveness_10 : decode cX8_forgiveness 10 = .ok (.iconst 0, 1) := by decide +kernel
theorem dX8_forgiveness_11 : decode cX8_forgiveness 11 = .ok (.ireturn, 1) := by decide +kernel
theorem dJ9_max_7cf53_0 : decode cJ9_max_7cf53 0 = .ok (.iload_n 0, 1) := by decide +kernel
theorem dJ9_max_7cf53_1 : decode cJ9_max_7cf53 1 = .ok (.iload_n 1, 1) := by decide +kernel
theorem dJ9_max_7cf53_2 : decode cJ9_max_7cf53 2 = .ok (.if_icmp .lt 7, 3) := by decide +kernel
theorem dJ9_max_7cf53_5 : decode cJ9_max_7cf53 5 = .ok (.iload_n 0, 1) := by decide +kernel
theorem dJ9_max_7cf53_6 : decode cJ9_max_7cf53 6 = .ok (.goto 4, 3) := by decide +kernel
theorem dJ9_max_7cf53_9 : decode cJ9_max_7cf53 9 = .ok (.iload_n 1, 1) := by decide +kernel
theorem dJ9_max_7cf53_10 : decode cJ9_max_7cf53 10 = .ok (.ireturn, 1) := by decide +kernel
theorem dJ9_min_7cf53_0 : decode cJ9_min_7cf53 0 = .ok (.iload_n 0, 1) := by decide +kernel
theorem dJ9_min_7cf53_1 : decode cJ9_min_7cf53 1 = .ok (.iload_n 1, 1) := by decide +kernel
theorem dJ9_min_7cf53_2 : decode cJ9_min_7cf53 2 = .ok (.if_icmp .gt 7, 3) := by decide +kernel
theorem dJ9_min_7cf53_5 : decode cJ9_min_7cf53 5 = .ok (.iload_n 0, 1) := by decide +kernel
theorem dJ9_min_7cf53_6 : decode cJ9_min_7cf53 6 = .ok (.goto 4, 3) := by decide +kernel
theorem dJ9_min_7cf53_9 : decode cJ9_min_7cf53 9 = .ok (.iload_n 1, 1) := by decide +kernel
theorem dJ9_min_7cf53_10 : decode cJ9_min_7cf53 10 = .ok (.ireturn, 1) := by decide +kernel
theorem dJ7_fill_53178_0 : decode cJ7_fill_53178 0 = .ok (.iconst 0, 1) := by decide +kernel
theorem dJ7_fill_53178_1 : decode cJ7_fill_53178 1 = .ok (.istore_n 2, 1) := by decide +kernel
theorem dJ7_fill_53178_2 : decode cJ7_fill_53178 2 = .ok (.aload_n 0, 1) := by decide +kernel
theorem dJ7_fill_53178_3 : decode cJ7_fill_53178 3 = .ok (.arraylength, 1) := by decide +kernel
theorem dJ7_fill_53178_4 : decode cJ7_fill_53178 4 = .ok (.istore_n 3, 1) := by decide +kernel
theorem dJ7_fill_53178_5 : decode cJ7_fill_53178 5 = .ok (.iload_n 2, 1) := by decide +kernel
theorem dJ7_fill_53178_6 : decode cJ7_fill_53178 6 = .ok (.iload_n 3, 1) := by decide +kernel
theorem dJ7_fill_53178_7 : decode cJ7_fill_53178 7 = .ok (.if_icmp .ge 13, 3) := by decide +kernel
theorem dJ7_fill_53178_10 : decode cJ7_fill_53178 10 = .ok (.aload_n 0, 1) := by decide +kernel
theorem dJ7_fill_53178_11 : decode cJ7_fill_53178 11 = .ok (.iload_n 2, 1) := by decide +kernel
theorem dJ7_fill_53178_12 : decode cJ7_fill_53178 12 = .ok (.iload_n 1, 1) := by decide +kernel
theorem dJ7_fill_53178_13 : decode cJ7_fill_53178 13 = .ok (.iastore, 1) := by decide +kernel
theorem dJ7_fill_53178_14 : decode cJ7_fill_53178 14 = .ok (.iinc 2 1, 3) := by decide +kernel
theorem dJ7_fill_53178_17 : decode cJ7_fill_53178 17 = .ok (.goto (-12), 3) := by decide +kernel
theorem dJ7_fill_53178_20 : decode cJ7_fill_53178 20 = .ok (.return_, 1) := by decide +kernel
theorem dX3_init_0 : decode cX3_init 0 = .ok (.aload_n 0, 1) := by decide +kernel
theorem dX3_init_1 : decode cX3_init 1 = .ok (.invokespecial 3, 3) := by decide +kernel
theorem dX3_init_4 : decode cX3_init 4 = .ok (.aload_n 0, 1) := by decide +kernel
theorem dX3_init_5 : decode cX3_init 5 = .ok (.new 9, 3) := by decide +kernel
theorem dX3_init_8 : decode cX3_init 8 = .ok (.dup, 1) := by decide +kernel
theorem dX3_init_9 : decode cX3_init 9 = .ok (.invokespecial 11, 3) := by decide +kernel
theorem dX3_init_12 : decode cX3_init 12 = .ok (.putfield 12, 3) := by decide +kernel
theorem dX3_init_15 : decode cX3_init 15 = .ok (.aload_n 0, 1) := by decide +kernel
theorem dX3_init_16 : decode cX3_init 16 = .ok (.bipush 7, 2) := by decide +kernel
theorem dX3_init_18 : decode cX3_init 18 = .ok (.newarray .int, 2) := by decide +kernel
theorem dX3_init_20 : decode cX3_init 20 = .ok (.putfield 18, 3) := by decide +kernel
theorem dX3_init_23 : decode cX3_init 23 = .ok (.aload_n 0, 1) := by decide +kernel
theorem dX3_init_24 : decode cX3_init 24 = .ok (.iconst 5, 1) := by decide +kernel
theorem dX3_init_25 : decode cX3_init 25 = .ok (.newarray .int, 2) := by decide +kernel
theorem dX3_init_27 : decode cX3_init 27 = .ok (.putfield 22, 3) := by decide +kernel
theorem dX3_init_30 : decode cX3_init 30 = .ok (.aload_n 0, 1) := by decide +kernel
theorem dX3_init_31 : decode cX3_init 31 = .ok (.bipush 6, 2) := by decide +kernel
theorem dX3_init_33 : decode cX3_init 33 = .ok (.bipush 21, 2) := by decide +kernel
theorem dX3_init_35 : decode cX3_init 35 = .ok (.multianewarray 25 2, 4) := by decide +kernel
theorem dX3_init_39 : decode cX3_init 39 = .ok (.putfield 27, 3) := by decide +kernel
theorem dX3_init_42 : decode cX3_init 42 = .ok (.aload_n 0, 1) := by decide +kernel
theorem dX3_init_43 : decode cX3_init 43 = .ok (.bipush 7, 2) := by decide +kernel
theorem dX3_init_45 : decode cX3_init 45 = .ok (.newarray .int, 2) := by decide +kernel
theorem dX3_init_47 : decode cX3_init 47 = .ok (.putfield 30, 3) := by decide +kernel
theorem dX3_init_50 : decode cX3_init 50 = .ok (.aload_n 0, 1) := by decide +kernel
theorem dX3_init_51 : decode cX3_init 51 = .ok (.iconst 0, 1) := by decide +kernel
theorem dX3_init_52 : decode cX3_init 52 = .ok (.putfield 33, 3) := by decide +kernel
theorem dX3_init_55 : decode cX3_init 55 = .ok (.aload_n 0, 1) := by decide +kernel
theorem dX3_init_56 : decode cX3_init 56 = .ok (.iconst 0, 1) := by decide +kernel
theorem dX3_init_57 : decode cX3_init 57 = .ok (.putfield 37, 3) := by decide +kernel
theorem dX3_init_60 : decode cX3_init 60 = .ok (.aload_n 0, 1) := by decide +kernel
theorem dX3_init_61 : decode cX3_init 61 = .ok (.lconst 0, 1) := by decide +kernel
theorem dX3_init_62 : decode cX3_init 62 = .ok (.putfield 40, 3) := by decide +kernel
theorem dX3_init_65 : decode cX3_init 65 = .ok (.aload_n 0, 1) := by decide +kernel
theorem dX3_init_66 : decode cX3_init 66 = .ok (.lconst 0, 1) := by decide +kernel
theorem dX3_init_67 : decode cX3_init 67 = .ok (.putfield 44, 3) := by decide +kernel
theorem dX3_init_70 : decode cX3_init 70 = .ok (.aload_n 0, 1) := by decide +kernel
theorem dX3_init_71 : decode cX3_init 71 = .ok (.lconst 1, 1) := by decide +kernel
theorem dX3_init_72 : decode cX3_init 72 = .ok (.putfield 47, 3) := by decide +kernel
theorem dX3_init_75 : decode cX3_init 75 = .ok (.return_, 1) := by decide +kernel
theorem dX3_lookAt_0 : decode cX3_lookAt 0 = .ok (.aload_n 0, 1) := by decide +kernel
theorem dX3_lookAt_1 : decode cX3_lookAt 1 = .ok (.getfield 12, 3) := by decide +kernel
theorem dX3_lookAt_4 : decode cX3_lookAt 4 = .ok (.aload_n 1, 1) := by decide +kernel
theorem dX3_lookAt_5 : decode cX3_lookAt 5 = .ok (.invokevirtual 50, 3) := by decide +kernel
theorem dX3_lookAt_8 : decode cX3_lookAt 8 = .ok (.return_, 1) := by decide +kernel
theorem dX3_startFromNow_0 : decode cX3_startFromNow 0 = .ok (.aload_n 0, 1) := by decide +kernel
theorem dX3_startFromNow_1 : decode cX3_startFromNow 1 = .ok (.aload_n 0, 1) := by decide +kernel
theorem dX3_startFromNow_2 : decode cX3_startFromNow 2 = .ok (.getfield 12, 3) := by decide +kernel
theorem dX3_startFromNow_5 : decode cX3_startFromNow 5 = .ok (.getfield 54, 3) := by decide +kernel
theorem dX3_startFromNow_8 : decode cX3_startFromNow 8 = .ok (.putfield 33, 3) := by decide +kernel
theorem dX3_startFromNow_11 : decode cX3_startFromNow 11 = .ok (.iconst 0, 1) := by decide +kernel
theorem dX3_startFromNow_12 : decode cX3_startFromNow 12 = .ok (.istore_n 1, 1) := by decide +kernel
theorem dX3_startFromNow_13 : decode cX3_startFromNow 13 = .ok (.iload_n 1, 1) := by decide +kernel
theorem dX3_startFromNow_14 : decode cX3_startFromNow 14 = .ok (.aload_n 0, 1) := by decide +kernel
theorem dX3_startFromNow_15 : decode cX3_startFromNow 15 = .ok (.getfield 12, 3) := by decide +kernel
theorem dX3_startFromNow_18 : decode cX3_startFromNow 18 = .ok (.getfield 55, 3) := by decide +kernel
theorem dX3_startFromNow_21 : decode cX3_startFromNow 21 = .ok (.if_icmp .ge 38, 3) := by decide +kernel
theorem dX3_startFromNow_24 : decode cX3_startFromNow 24 = .ok (.aload_n 0, 1) := by decide +kernel
theorem dX3_startFromNow_25 : decode cX3_startFromNow 25 = .ok (.getfield 18, 3) := by decide +kernel
theorem dX3_startFromNow_28 : decode cX3_startFromNow 28 = .ok (.iload_n 1, 1) := by decide +kernel
theorem dX3_startFromNow_29 : decode cX3_startFromNow 29 = .ok (.aload_n 0, 1) := by decide +kernel
theorem dX3_startFromNow_30 : decode cX3_startFromNow 30 = .ok (.getfield 12, 3) := by decide +kernel
theorem dX3_startFromNow_33 : decode cX3_startFromNow 33 = .ok (.iload_n 1, 1) := by decide +kernel
theorem dX3_startFromNow_34 : decode cX3_startFromNow 34 = .ok (.invokevirtual 58, 3) := by decide +kernel
theorem dX3_startFromNow_37 : decode cX3_startFromNow 37 = .ok (.iastore, 1) := by decide +kernel
theorem dX3_startFromNow_38 : decode cX3_startFromNow 38 = .ok (.aload_n 0, 1) := by decide +kernel
theorem dX3_startFromNow_39 : decode cX3_startFromNow 39 = .ok (.getfield 30, 3) := by decide +kernel
theorem dX3_startFromNow_42 : decode cX3_startFromNow 42 = .ok (.iload_n 1, 1) := by decide +kernel
theorem dX3_startFromNow_43 : decode cX3_startFromNow 43 = .ok (.aload_n 0, 1) := by decide +kernel
theorem dX3_startFromNow_44 : decode cX3_startFromNow 44 = .ok (.getfield 12, 3) := by decide +kernel
theorem dX3_startFromNow_47 : decode cX3_startFromNow 47 = .ok (.getfield 62, 3) := by decide +kernel
theorem dX3_startFromNow_50 : decode cX3_startFromNow 50 = .ok (.iload_n 1, 1) := by decide +kernel
theorem dX3_startFromNow_51 : decode cX3_startFromNow 51 = .ok (.iaload, 1) := by decide +kernel
theorem dX3_startFromNow_52 : decode cX3_startFromNow 52 = .ok (.iastore, 1) := by decide +kernel
theorem dX3_startFromNow_53 : decode cX3_startFromNow 53 = .ok (.iinc 1 1, 3) := by decide +kernel
theorem dX3_startFromNow_56 : decode cX3_startFromNow 56 = .ok (.goto (-43), 3) := by decide +kernel
theorem dX3_startFromNow_59 : decode cX3_startFromNow 59 = .ok (.return_, 1) := by decide +kernel
theorem dX3_foreseeDay_0 : decode cX3_foreseeDay 0 = .ok (.iconst 0, 1) := by decide +kernel
theorem dX3_foreseeDay_1 : decode cX3_foreseeDay 1 = .ok (.istore_n 1, 1) := by decide +kernel
theorem dX3_foreseeDay_2 : decode cX3_foreseeDay 2 = .ok (.iload_n 1, 1) := by decide +kernel
theorem dX3_foreseeDay_3 : decode cX3_foreseeDay 3 = .ok (.aload_n 0, 1) := by decide +kernel
theorem dX3_foreseeDay_4 : decode cX3_foreseeDay 4 = .ok (.getfield 12, 3) := by decide +kernel
theorem dX3_foreseeDay_7 : decode cX3_foreseeDay 7 = .ok (.getfield 55, 3) := by decide +kernel
theorem dX3_foreseeDay_10 : decode cX3_foreseeDay 10 = .ok (.if_icmp .ge 42, 3) := by decide +kernel
theorem dX3_foreseeDay_13 : decode cX3_foreseeDay 13 = .ok (.aload_n 0, 1) := by decide +kernel
theorem dX3_foreseeDay_14 : decode cX3_foreseeDay 14 = .ok (.getfield 30, 3) := by decide +kernel
theorem dX3_foreseeDay_17 : decode cX3_foreseeDay 17 = .ok (.iload_n 1, 1) := by decide +kernel
theorem dX3_foreseeDay_18 : decode cX3_foreseeDay 18 = .ok (.aload_n 0, 1) := by decide +kernel
theorem dX3_foreseeDay_19 : decode cX3_foreseeDay 19 = .ok (.getfield 12, 3) := by decide +kernel
theorem dX3_foreseeDay_22 : decode cX3_foreseeDay 22 = .ok (.iload_n 1, 1) := by decide +kernel
theorem dX3_foreseeDay_23 : decode cX3_foreseeDay 23 = .ok (.invokevirtual 63, 3) := by decide +kernel
theorem dX3_foreseeDay_26 : decode cX3_foreseeDay 26 = .ok (.aload_n 0, 1) := by decide +kernel
theorem dX3_foreseeDay_27 : decode cX3_foreseeDay 27 = .ok (.getfield 30, 3) := by decide +kernel
theorem dX3_foreseeDay_30 : decode cX3_foreseeDay 30 = .ok (.iload_n 1, 1) := by decide +kernel
theorem dX3_foreseeDay_31 : decode cX3_foreseeDay 31 = .ok (.iaload, 1) := by decide +kernel
theorem dX3_foreseeDay_32 : decode cX3_foreseeDay 32 = .ok (.aload_n 0, 1) := by decide +kernel
theorem dX3_foreseeDay_33 : decode cX3_foreseeDay 33 = .ok (.getfield 18, 3) := by decide +kernel
theorem dX3_foreseeDay_36 : decode cX3_foreseeDay 36 = .ok (.iload_n 1, 1) := by decide +kernel
theorem dX3_foreseeDay_37 : decode cX3_foreseeDay 37 = .ok (.iaload, 1) := by decide +kernel
theorem dX3_foreseeDay_38 : decode cX3_foreseeDay 38 = .ok (.aload_n 0, 1) := by decide +kernel
theorem dX3_foreseeDay_39 : decode cX3_foreseeDay 39 = .ok (.getfield 33, 3) := by decide +kernel
theorem dX3_foreseeDay_42 : decode cX3_foreseeDay 42 = .ok (.invokevirtual 67, 3) := by decide +kernel
theorem dX3_foreseeDay_45 : decode cX3_foreseeDay 45 = .ok (.iastore, 1) := by decide +kernel
theorem dX3_foreseeDay_46 : decode cX3_foreseeDay 46 = .ok (.iinc 1 1, 3) := by decide +kernel
theorem dX3_foreseeDay_49 : decode cX3_foreseeDay 49 = .ok (.goto (-47), 3) := by decide +kernel
theorem dX3_foreseeDay_52 : decode cX3_foreseeDay 52 = .ok (.aload_n 0, 1) := by decide +kernel
theorem dX3_foreseeDay_53 : decode cX3_foreseeDay 53 = .ok (.dup, 1) := by decide +kernel
theorem dX3_foreseeDay_54 : decode cX3_foreseeDay 54 = .ok (.getfield 33, 3) := by decide +kernel
theorem dX3_foreseeDay_57 : decode cX3_foreseeDay 57 = .ok (.iconst 1, 1) := by decide +kernel
theorem dX3_foreseeDay_58 : decode cX3_foreseeDay 58 = .ok (.iadd, 1) := by decide +kernel
theorem dX3_foreseeDay_59 : decode cX3_foreseeDay 59 = .ok (.putfield 33, 3) := by decide +kernel
theorem dX3_foreseeDay_62 : decode cX3_foreseeDay 62 = .ok (.return_, 1) := by decide +kernel
theorem dX3_total_0 : decode cX3_total 0 = .ok (.iconst 0, 1) := by decide +kernel
theorem dX3_total_1 : decode cX3_total 1 = .ok (.istore_n 1, 1) := by decide +kernel
theorem dX3_total_2 : decode cX3_total 2 = .ok (.iconst 0, 1) := by decide +kernel
theorem dX3_total_3 : decode cX3_total 3 = .ok (.istore_n 2, 1) := by decide +kernel
theorem dX3_total_4 : decode cX3_total 4 = .ok (.iload_n 2, 1) := by decide +kernel
theorem dX3_total_5 : decode cX3_total 5 = .ok (.aload_n 0, 1) := by decide +kernel
theorem dX3_total_6 : decode cX3_total 6 = .ok (.getfield 12, 3) := by decide +kernel
theorem dX3_total_9 : decode cX3_total 9 = .ok (.getfield 55, 3) := by decide +kernel
theorem dX3_total_12 : decode cX3_total 12 = .ok (.if_icmp .ge 18, 3) := by decide +kernel
theorem dX3_total_15 : decode cX3_total 15 = .ok (.iload_n 1, 1) := by decide +kernel
theorem dX3_total_16 : decode cX3_total 16 = .ok (.aload_n 0, 1) := by decide +kernel
theorem dX3_total_17 : decode cX3_total 17 = .ok (.getfield 30, 3) := by decide +kernel
theorem dX3_total_20 : decode cX3_total 20 = .ok (.iload_n 2, 1) := by decide +kernel
theorem dX3_total_21 : decode cX3_total 21 = .ok (.iaload, 1) := by decide +kernel
theorem dX3_total_22 : decode cX3_total 22 = .ok (.iadd, 1) := by decide +kernel
theorem dX3_total_23 : decode cX3_total 23 = .ok (.istore_n 1, 1) := by decide +kernel
theorem dX3_total_24 : decode cX3_total 24 = .ok (.iinc 2 1, 3) := by decide +kernel
theorem dX3_total_27 : decode cX3_total 27 = .ok (.goto (-23), 3) := by decide +kernel
theorem dX3_total_30 : decode cX3_total 30 = .ok (.iload_n 1, 1) := by decide +kernel
theorem dX3_total_31 : decode cX3_total 31 = .ok (.ireturn, 1) := by decide +kernel
theorem dX3_howManyAtPeace_0 : decode cX3_howManyAtPeace 0 = .ok (.iconst 0, 1) := by decide +kernel
theorem dX3_howManyAtPeace_1 : decode cX3_howManyAtPeace 1 = .ok (.istore_n 1, 1) := by decide +kernel
theorem dX3_howManyAtPeace_2 : decode cX3_howManyAtPeace 2 = .ok (.iconst 0, 1) := by decide +kernel
theorem dX3_howManyAtPeace_3 : decode cX3_howManyAtPeace 3 = .ok (.istore_n 2, 1) := by decide +kernel
theorem dX3_howManyAtPeace_4 : decode cX3_howManyAtPeace 4 = .ok (.iload_n 2, 1) := by decide +kernel
theorem dX3_howManyAtPeace_5 : decode cX3_howManyAtPeace 5 = .ok (.aload_n 0, 1) := by decide +kernel
theorem dX3_howManyAtPeace_6 : decode cX3_howManyAtPeace 6 = .ok (.getfield 12, 3) := by decide +kernel
theorem dX3_howManyAtPeace_9 : decode cX3_howManyAtPeace 9 = .ok (.getfield 55, 3) := by decide +kernel
theorem dX3_howManyAtPeace_12 : decode cX3_howManyAtPeace 12 = .ok (.if_icmp .ge 21, 3) := by decide +kernel
theorem dX3_howManyAtPeace_15 : decode cX3_howManyAtPeace 15 = .ok (.aload_n 0, 1) := by decide +kernel
theorem dX3_howManyAtPeace_16 : decode cX3_howManyAtPeace 16 = .ok (.getfield 30, 3) := by decide +kernel
theorem dX3_howManyAtPeace_19 : decode cX3_howManyAtPeace 19 = .ok (.iload_n 2, 1) := by decide +kernel
theorem dX3_howManyAtPeace_20 : decode cX3_howManyAtPeace 20 = .ok (.iaload, 1) := by decide +kernel
theorem dX3_howManyAtPeace_21 : decode cX3_howManyAtPeace 21 = .ok (.ifCond .ne 6, 3) := by decide +kernel
theorem dX3_howManyAtPeace_24 : decode cX3_howManyAtPeace 24 = .ok (.iinc 1 1, 3) := by decide +kernel
theorem dX3_howManyAtPeace_27 : decode cX3_howManyAtPeace 27 = .ok (.iinc 2 1, 3) := by decide +kernel
theorem dX3_howManyAtPeace_30 : decode cX3_howManyAtPeace 30 = .ok (.goto (-26), 3) := by decide +kernel
theorem dX3_howManyAtPeace_33 : decode cX3_howManyAtPeace 33 = .ok (.iload_n 1, 1) := by decide +kernel
theorem dX3_howManyAtPeace_34 : decode cX3_howManyAtPeace 34 = .ok (.ireturn, 1) := by decide +kernel
theorem dX3_totalBehind_0 : decode cX3_totalBehind 0 = .ok (.aload_n 0, 1) := by decide +kernel
theorem dX3_totalBehind_1 : decode cX3_totalBehind 1 = .ok (.invokevirtual 73, 3) := by decide +kernel
theorem dX3_totalBehind_4 : decode cX3_totalBehind 4 = .ok (.iconst 0, 1) := by decide +kernel
theorem dX3_totalBehind_5 : decode cX3_totalBehind 5 = .ok (.istore_n 2, 1) := by decide +kernel
theorem dX3_totalBehind_6 : decode cX3_totalBehind 6 = .ok (.iload_n 2, 1) := by decide +kernel
theorem dX3_totalBehind_7 : decode cX3_totalBehind 7 = .ok (.iload_n 1, 1) := by decide +kernel
theorem dX3_totalBehind_8 : decode cX3_totalBehind 8 = .ok (.if_icmp .ge 13, 3) := by decide +kernel
theorem dX3_totalBehind_11 : decode cX3_totalBehind 11 = .ok (.aload_n 0, 1) := by decide +kernel
theorem dX3_totalBehind_12 : decode cX3_totalBehind 12 = .ok (.invokevirtual 76, 3) := by decide +kernel
theorem dX3_totalBehind_15 : decode cX3_totalBehind 15 = .ok (.iinc 2 1, 3) := by decide +kernel
theorem dX3_totalBehind_18 : decode cX3_totalBehind 18 = .ok (.goto (-12), 3) := by decide +kernel
theorem dX3_totalBehind_21 : decode cX3_totalBehind 21 = .ok (.aload_n 0, 1) := by decide +kernel
theorem dX3_totalBehind_22 : decode cX3_totalBehind 22 = .ok (.invokevirtual 79, 3) := by decide +kernel
theorem dX3_totalBehind_25 : decode cX3_totalBehind 25 = .ok (.ireturn, 1) := by decide +kernel
theorem dX3_daysTillPeace_0 : decode cX3_daysTillPeace 0 = .ok (.iconst 0, 1) := by decide +kernel
theorem dX3_daysTillPeace_1 : decode cX3_daysTillPeace 1 = .ok (.istore_n 1, 1) := by decide +kernel
theorem dX3_daysTillPeace_2 : decode cX3_daysTillPeace 2 = .ok (.aload_n 0, 1) := by decide +kernel
theorem dX3_daysTillPeace_3 : decode cX3_daysTillPeace 3 = .ok (.invokevirtual 73, 3) := by decide +kernel
theorem dX3_daysTillPeace_6 : decode cX3_daysTillPeace 6 = .ok (.iconst 0, 1) := by decide +kernel
theorem dX3_daysTillPeace_7 : decode cX3_daysTillPeace 7 = .ok (.istore_n 2, 1) := by decide +kernel
theorem dX3_daysTillPeace_8 : decode cX3_daysTillPeace 8 = .ok (.iload_n 2, 1) := by decide +kernel
theorem dX3_daysTillPeace_9 : decode cX3_daysTillPeace 9 = .ok (.bipush 120, 2) := by decide +kernel
theorem dX3_daysTillPeace_11 : decode cX3_daysTillPeace 11 = .ok (.if_icmp .gt 35, 3) := by decide +kernel
theorem dX3_daysTillPeace_14 : decode cX3_daysTillPeace 14 = .ok (.aload_n 0, 1) := by decide +kernel
theorem dX3_daysTillPeace_15 : decode cX3_daysTillPeace 15 = .ok (.invokevirtual 79, 3) := by decide +kernel
theorem dX3_daysTillPeace_18 : decode cX3_daysTillPeace 18 = .ok (.istore_n 3, 1) := by decide +kernel
theorem dX3_daysTillPeace_19 : decode cX3_daysTillPeace 19 = .ok (.iload_n 1, 1) := by decide +kernel
theorem dX3_daysTillPeace_20 : decode cX3_daysTillPeace 20 = .ok (.iload_n 3, 1) := by decide +kernel
theorem dX3_daysTillPeace_21 : decode cX3_daysTillPeace 21 = .ok (.invokestatic 83, 3) := by decide +kernel
theorem dX3_daysTillPeace_24 : decode cX3_daysTillPeace 24 = .ok (.istore_n 1, 1) := by decide +kernel
theorem dX3_daysTillPeace_25 : decode cX3_daysTillPeace 25 = .ok (.iload_n 3, 1) := by decide +kernel
theorem dX3_daysTillPeace_26 : decode cX3_daysTillPeace 26 = .ok (.ifCond .ne 10, 3) := by decide +kernel
theorem dX3_daysTillPeace_29 : decode cX3_daysTillPeace 29 = .ok (.aload_n 0, 1) := by decide +kernel
theorem dX3_daysTillPeace_30 : decode cX3_daysTillPeace 30 = .ok (.iload_n 1, 1) := by decide +kernel
theorem dX3_daysTillPeace_31 : decode cX3_daysTillPeace 31 = .ok (.putfield 37, 3) := by decide +kernel
theorem dX3_daysTillPeace_34 : decode cX3_daysTillPeace 34 = .ok (.iload_n 2, 1) := by decide +kernel
theorem dX3_daysTillPeace_35 : decode cX3_daysTillPeace 35 = .ok (.ireturn, 1) := by decide +kernel
theorem dX3_daysTillPeace_36 : decode cX3_daysTillPeace 36 = .ok (.aload_n 0, 1) := by decide +kernel
theorem dX3_daysTillPeace_37 : decode cX3_daysTillPeace 37 = .ok (.invokevirtual 76, 3) := by decide +kernel
theorem dX3_daysTillPeace_40 : decode cX3_daysTillPeace 40 = .ok (.iinc 2 1, 3) := by decide +kernel
theorem dX3_daysTillPeace_43 : decode cX3_daysTillPeace 43 = .ok (.goto (-35), 3) := by decide +kernel
theorem dX3_daysTillPeace_46 : decode cX3_daysTillPeace 46 = .ok (.bipush (-9), 2) := by decide +kernel
theorem dX3_daysTillPeace_48 : decode cX3_daysTillPeace 48 = .ok (.ireturn, 1) := by decide +kernel
theorem dX3_bestDepth_0 : decode cX3_bestDepth 0 = .ok (.bipush (-9), 2) := by decide +kernel
theorem dX3_bestDepth_2 : decode cX3_bestDepth 2 = .ok (.istore_n 2, 1) := by decide +kernel
theorem dX3_bestDepth_3 : decode cX3_bestDepth 3 = .ok (.iconst 0, 1) := by decide +kernel
theorem dX3_bestDepth_4 : decode cX3_bestDepth 4 = .ok (.istore_n 3, 1) := by decide +kernel
theorem dX3_bestDepth_5 : decode cX3_bestDepth 5 = .ok (.iload_n 3, 1) := by decide +kernel
theorem dX3_bestDepth_6 : decode cX3_bestDepth 6 = .ok (.bipush 9, 2) := by decide +kernel
theorem dX3_bestDepth_8 : decode cX3_bestDepth 8 = .ok (.if_icmp .gt 50, 3) := by decide +kernel
theorem dX3_bestDepth_11 : decode cX3_bestDepth 11 = .ok (.aload_n 0, 1) := by decide +kernel
theorem dX3_bestDepth_12 : decode cX3_bestDepth 12 = .ok (.getfield 12, 3) := by decide +kernel
theorem dX3_bestDepth_15 : decode cX3_bestDepth 15 = .ok (.getfield 89, 3) := by decide +kernel
theorem dX3_bestDepth_18 : decode cX3_bestDepth 18 = .ok (.iload_n 3, 1) := by decide +kernel
theorem dX3_bestDepth_19 : decode cX3_bestDepth 19 = .ok (.invokestatic 92, 3) := by decide +kernel
theorem dX3_bestDepth_22 : decode cX3_bestDepth 22 = .ok (.aload_n 0, 1) := by decide +kernel
theorem dX3_bestDepth_23 : decode cX3_bestDepth 23 = .ok (.iload_n 1, 1) := by decide +kernel
theorem dX3_bestDepth_24 : decode cX3_bestDepth 24 = .ok (.invokevirtual 98, 3) := by decide +kernel
theorem dX3_bestDepth_27 : decode cX3_bestDepth 27 = .ok (.istore 4, 2) := by decide +kernel
theorem dX3_bestDepth_29 : decode cX3_bestDepth 29 = .ok (.iload_n 2, 1) := by decide +kernel
theorem dX3_bestDepth_30 : decode cX3_bestDepth 30 = .ok (.bipush (-9), 2) := by decide +kernel
theorem dX3_bestDepth_32 : decode cX3_bestDepth 32 = .ok (.if_icmp .eq 12, 3) := by decide +kernel
theorem dX3_bestDepth_35 : decode cX3_bestDepth 35 = .ok (.iload 4, 2) := by decide +kernel
theorem dX3_bestDepth_37 : decode cX3_bestDepth 37 = .ok (.aload_n 0, 1) := by decide +kernel
theorem dX3_bestDepth_38 : decode cX3_bestDepth 38 = .ok (.getfield 37, 3) := by decide +kernel
theorem dX3_bestDepth_41 : decode cX3_bestDepth 41 = .ok (.if_icmp .ge 11, 3) := by decide +kernel
theorem dX3_bestDepth_44 : decode cX3_bestDepth 44 = .ok (.iload_n 3, 1) := by decide +kernel
theorem dX3_bestDepth_45 : decode cX3_bestDepth 45 = .ok (.istore_n 2, 1) := by decide +kernel
theorem dX3_bestDepth_46 : decode cX3_bestDepth 46 = .ok (.aload_n 0, 1) := by decide +kernel
theorem dX3_bestDepth_47 : decode cX3_bestDepth 47 = .ok (.iload 4, 2) := by decide +kernel
theorem dX3_bestDepth_49 : decode cX3_bestDepth 49 = .ok (.putfield 37, 3) := by decide +kernel
theorem dX3_bestDepth_52 : decode cX3_bestDepth 52 = .ok (.iinc 3 1, 3) := by decide +kernel
theorem dX3_bestDepth_55 : decode cX3_bestDepth 55 = .ok (.goto (-50), 3) := by decide +kernel
theorem dX3_bestDepth_58 : decode cX3_bestDepth 58 = .ok (.iload_n 2, 1) := by decide +kernel
theorem dX3_bestDepth_59 : decode cX3_bestDepth 59 = .ok (.ireturn, 1) := by decide +kernel
theorem dX3_bestMove_0 : decode cX3_bestMove 0 = .ok (.bipush (-9), 2) := by decide +kernel
theorem dX3_bestMove_2 : decode cX3_bestMove 2 = .ok (.istore_n 2, 1) := by decide +kernel
theorem dX3_bestMove_3 : decode cX3_bestMove 3 = .ok (.aload_n 0, 1) := by decide +kernel
theorem dX3_bestMove_4 : decode cX3_bestMove 4 = .ok (.iload_n 1, 1) := by decide +kernel
theorem dX3_bestMove_5 : decode cX3_bestMove 5 = .ok (.invokevirtual 98, 3) := by decide +kernel
theorem dX3_bestMove_8 : decode cX3_bestMove 8 = .ok (.istore_n 3, 1) := by decide +kernel
theorem dX3_bestMove_9 : decode cX3_bestMove 9 = .ok (.iconst 0, 1) := by decide +kernel
theorem dX3_bestMove_10 : decode cX3_bestMove 10 = .ok (.istore 4, 2) := by decide +kernel
theorem dX3_bestMove_12 : decode cX3_bestMove 12 = .ok (.iload 4, 2) := by decide +kernel
theorem dX3_bestMove_14 : decode cX3_bestMove 14 = .ok (.aload_n 0, 1) := by decide +kernel
theorem dX3_bestMove_15 : decode cX3_bestMove 15 = .ok (.getfield 12, 3) := by decide +kernel
theorem dX3_bestMove_18 : decode cX3_bestMove 18 = .ok (.getfield 55, 3) := by decide +kernel
theorem dX3_bestMove_21 : decode cX3_bestMove 21 = .ok (.if_icmp .ge 85, 3) := by decide +kernel
theorem dX3_bestMove_24 : decode cX3_bestMove 24 = .ok (.aload_n 0, 1) := by decide +kernel
theorem dX3_bestMove_25 : decode cX3_bestMove 25 = .ok (.getfield 12, 3) := by decide +kernel
theorem dX3_bestMove_28 : decode cX3_bestMove 28 = .ok (.getfield 101, 3) := by decide +kernel
theorem dX3_bestMove_31 : decode cX3_bestMove 31 = .ok (.iload 4, 2) := by decide +kernel
theorem dX3_bestMove_33 : decode cX3_bestMove 33 = .ok (.iaload, 1) := by decide +kernel
theorem dX3_bestMove_34 : decode cX3_bestMove 34 = .ok (.istore 5, 2) := by decide +kernel
theorem dX3_bestMove_36 : decode cX3_bestMove 36 = .ok (.iconst 0, 1) := by decide +kernel
theorem dX3_bestMove_37 : decode cX3_bestMove 37 = .ok (.istore 6, 2) := by decide +kernel
theorem dX3_bestMove_39 : decode cX3_bestMove 39 = .ok (.iload 6, 2) := by decide +kernel
theorem dX3_bestMove_41 : decode cX3_bestMove 41 = .ok (.iconst 5, 1) := by decide +kernel
theorem dX3_bestMove_42 : decode cX3_bestMove 42 = .ok (.if_icmp .ge 46, 3) := by decide +kernel
theorem dX3_bestMove_45 : decode cX3_bestMove 45 = .ok (.aload_n 0, 1) := by decide +kernel
theorem dX3_bestMove_46 : decode cX3_bestMove 46 = .ok (.getfield 12, 3) := by decide +kernel
theorem dX3_bestMove_49 : decode cX3_bestMove 49 = .ok (.getfield 101, 3) := by decide +kernel
theorem dX3_bestMove_52 : decode cX3_bestMove 52 = .ok (.iload 4, 2) := by decide +kernel
theorem dX3_bestMove_54 : decode cX3_bestMove 54 = .ok (.iload 6, 2) := by decide +kernel
theorem dX3_bestMove_56 : decode cX3_bestMove 56 = .ok (.iastore, 1) := by decide +kernel
theorem dX3_bestMove_57 : decode cX3_bestMove 57 = .ok (.aload_n 0, 1) := by decide +kernel
theorem dX3_bestMove_58 : decode cX3_bestMove 58 = .ok (.iload_n 1, 1) := by decide +kernel
theorem dX3_bestMove_59 : decode cX3_bestMove 59 = .ok (.invokevirtual 98, 3) := by decide +kernel
theorem dX3_bestMove_62 : decode cX3_bestMove 62 = .ok (.istore 7, 2) := by decide +kernel
theorem dX3_bestMove_64 : decode cX3_bestMove 64 = .ok (.iload 7, 2) := by decide +kernel
theorem dX3_bestMove_66 : decode cX3_bestMove 66 = .ok (.iload_n 3, 1) := by decide +kernel
theorem dX3_bestMove_67 : decode cX3_bestMove 67 = .ok (.if_icmp .ge 15, 3) := by decide +kernel
theorem dX3_bestMove_70 : decode cX3_bestMove 70 = .ok (.iload 7, 2) := by decide +kernel
theorem dX3_bestMove_72 : decode cX3_bestMove 72 = .ok (.istore_n 3, 1) := by decide +kernel
theorem dX3_bestMove_73 : decode cX3_bestMove 73 = .ok (.bipush 10, 2) := by decide +kernel
theorem dX3_bestMove_75 : decode cX3_bestMove 75 = .ok (.iload 4, 2) := by decide +kernel
theorem dX3_bestMove_77 : decode cX3_bestMove 77 = .ok (.imul, 1) := by decide +kernel
theorem dX3_bestMove_78 : decode cX3_bestMove 78 = .ok (.iload 6, 2) := by decide +kernel
theorem dX3_bestMove_80 : decode cX3_bestMove 80 = .ok (.iadd, 1) := by decide +kernel
theorem dX3_bestMove_81 : decode cX3_bestMove 81 = .ok (.istore_n 2, 1) := by decide +kernel
theorem dX3_bestMove_82 : decode cX3_bestMove 82 = .ok (.iinc 6 1, 3) := by decide +kernel
theorem dX3_bestMove_85 : decode cX3_bestMove 85 = .ok (.goto (-46), 3) := by decide +kernel
theorem dX3_bestMove_88 : decode cX3_bestMove 88 = .ok (.aload_n 0, 1) := by decide +kernel
theorem dX3_bestMove_89 : decode cX3_bestMove 89 = .ok (.getfield 12, 3) := by decide +kernel
theorem dX3_bestMove_92 : decode cX3_bestMove 92 = .ok (.getfield 101, 3) := by decide +kernel
theorem dX3_bestMove_95 : decode cX3_bestMove 95 = .ok (.iload 4, 2) := by decide +kernel
theorem dX3_bestMove_97 : decode cX3_bestMove 97 = .ok (.iload 5, 2) := by decide +kernel
theorem dX3_bestMove_99 : decode cX3_bestMove 99 = .ok (.iastore, 1) := by decide +kernel
theorem dX3_bestMove_100 : decode cX3_bestMove 100 = .ok (.iinc 4 1, 3) := by decide +kernel
theorem dX3_bestMove_103 : decode cX3_bestMove 103 = .ok (.goto (-91), 3) := by decide +kernel
theorem dX3_bestMove_106 : decode cX3_bestMove 106 = .ok (.aload_n 0, 1) := by decide +kernel
theorem dX3_bestMove_107 : decode cX3_bestMove 107 = .ok (.iload_n 3, 1) := by decide +kernel
theorem dX3_bestMove_108 : decode cX3_bestMove 108 = .ok (.putfield 37, 3) := by decide +kernel
theorem dX3_bestMove_111 : decode cX3_bestMove 111 = .ok (.iload_n 2, 1) := by decide +kernel
theorem dX3_bestMove_112 : decode cX3_bestMove 112 = .ok (.ireturn, 1) := by decide +kernel
theorem dX3_kindsThatFit_0 : decode cX3_kindsThatFit 0 = .ok (.aload_n 0, 1) := by decide +kernel
theorem dX3_kindsThatFit_1 : decode cX3_kindsThatFit 1 = .ok (.getfield 12, 3) := by decide +kernel
theorem dX3_kindsThatFit_4 : decode cX3_kindsThatFit 4 = .ok (.getfield 104, 3) := by decide +kernel
theorem dX3_kindsThatFit_7 : decode cX3_kindsThatFit 7 = .ok (.iload_n 1, 1) := by decide +kernel
theorem dX3_kindsThatFit_8 : decode cX3_kindsThatFit 8 = .ok (.iaload, 1) := by decide +kernel
theorem dX3_kindsThatFit_9 : decode cX3_kindsThatFit 9 = .ok (.istore_n 3, 1) := by decide +kernel
theorem dX3_kindsThatFit_10 : decode cX3_kindsThatFit 10 = .ok (.iconst 0, 1) := by decide +kernel
theorem dX3_kindsThatFit_11 : decode cX3_kindsThatFit 11 = .ok (.istore 4, 2) := by decide +kernel
theorem dX3_kindsThatFit_13 : decode cX3_kindsThatFit 13 = .ok (.iconst 0, 1) := by decide +kernel
theorem dX3_kindsThatFit_14 : decode cX3_kindsThatFit 14 = .ok (.istore 5, 2) := by decide +kernel
theorem dX3_kindsThatFit_16 : decode cX3_kindsThatFit 16 = .ok (.iload 5, 2) := by decide +kernel
theorem dX3_kindsThatFit_18 : decode cX3_kindsThatFit 18 = .ok (.bipush 6, 2) := by decide +kernel
theorem dX3_kindsThatFit_20 : decode cX3_kindsThatFit 20 = .ok (.if_icmp .ge 37, 3) := by decide +kernel
theorem dX3_kindsThatFit_23 : decode cX3_kindsThatFit 23 = .ok (.aload_n 0, 1) := by decide +kernel
theorem dX3_kindsThatFit_24 : decode cX3_kindsThatFit 24 = .ok (.getfield 12, 3) := by decide +kernel
theorem dX3_kindsThatFit_27 : decode cX3_kindsThatFit 27 = .ok (.getfield 104, 3) := by decide +kernel
theorem dX3_kindsThatFit_30 : decode cX3_kindsThatFit 30 = .ok (.iload_n 1, 1) := by decide +kernel
theorem dX3_kindsThatFit_31 : decode cX3_kindsThatFit 31 = .ok (.iload 5, 2) := by decide +kernel
theorem dX3_kindsThatFit_33 : decode cX3_kindsThatFit 33 = .ok (.iastore, 1) := by decide +kernel
theorem dX3_kindsThatFit_34 : decode cX3_kindsThatFit 34 = .ok (.aload_n 0, 1) := by decide +kernel
theorem dX3_kindsThatFit_35 : decode cX3_kindsThatFit 35 = .ok (.aload_n 2, 1) := by decide +kernel
theorem dX3_kindsThatFit_36 : decode cX3_kindsThatFit 36 = .ok (.invokevirtual 107, 3) := by decide +kernel
theorem dX3_kindsThatFit_39 : decode cX3_kindsThatFit 39 = .ok (.ifCond .eq 12, 3) := by decide +kernel
theorem dX3_kindsThatFit_42 : decode cX3_kindsThatFit 42 = .ok (.iload 4, 2) := by decide +kernel
theorem dX3_kindsThatFit_44 : decode cX3_kindsThatFit 44 = .ok (.iconst 1, 1) := by decide +kernel
theorem dX3_kindsThatFit_45 : decode cX3_kindsThatFit 45 = .ok (.iload 5, 2) := by decide +kernel
theorem dX3_kindsThatFit_47 : decode cX3_kindsThatFit 47 = .ok (.ishl, 1) := by decide +kernel
theorem dX3_kindsThatFit_48 : decode cX3_kindsThatFit 48 = .ok (.ior, 1) := by decide +kernel
theorem dX3_kindsThatFit_49 : decode cX3_kindsThatFit 49 = .ok (.istore 4, 2) := by decide +kernel
theorem dX3_kindsThatFit_51 : decode cX3_kindsThatFit 51 = .ok (.iinc 5 1, 3) := by decide +kernel
theorem dX3_kindsThatFit_54 : decode cX3_kindsThatFit 54 = .ok (.goto (-38), 3) := by decide +kernel
theorem dX3_kindsThatFit_57 : decode cX3_kindsThatFit 57 = .ok (.aload_n 0, 1) := by decide +kernel
theorem dX3_kindsThatFit_58 : decode cX3_kindsThatFit 58 = .ok (.getfield 12, 3) := by decide +kernel
theorem dX3_kindsThatFit_61 : decode cX3_kindsThatFit 61 = .ok (.getfield 104, 3) := by decide +kernel
theorem dX3_kindsThatFit_64 : decode cX3_kindsThatFit 64 = .ok (.iload_n 1, 1) := by decide +kernel
theorem dX3_kindsThatFit_65 : decode cX3_kindsThatFit 65 = .ok (.iload_n 3, 1) := by decide +kernel
theorem dX3_kindsThatFit_66 : decode cX3_kindsThatFit 66 = .ok (.iastore, 1) := by decide +kernel
theorem dX3_kindsThatFit_67 : decode cX3_kindsThatFit 67 = .ok (.iload 4, 2) := by decide +kernel
theorem dX3_kindsThatFit_69 : decode cX3_kindsThatFit 69 = .ok (.ireturn, 1) := by decide +kernel
theorem dX3_heightsThatFit_0 : decode cX3_heightsThatFit 0 = .ok (.aload_n 0, 1) := by decide +kernel
theorem dX3_heightsThatFit_1 : decode cX3_heightsThatFit 1 = .ok (.getfield 12, 3) := by decide +kernel
theorem dX3_heightsThatFit_4 : decode cX3_heightsThatFit 4 = .ok (.getfield 111, 3) := by decide +kernel
theorem dX3_heightsThatFit_7 : decode cX3_heightsThatFit 7 = .ok (.iload_n 1, 1) := by decide +kernel
theorem dX3_heightsThatFit_8 : decode cX3_heightsThatFit 8 = .ok (.iaload, 1) := by decide +kernel
theorem dX3_heightsThatFit_9 : decode cX3_heightsThatFit 9 = .ok (.istore_n 3, 1) := by decide +kernel
theorem dX3_heightsThatFit_10 : decode cX3_heightsThatFit 10 = .ok (.iconst 0, 1) := by decide +kernel
theorem dX3_heightsThatFit_11 : decode cX3_heightsThatFit 11 = .ok (.istore 4, 2) := by decide +kernel
theorem dX3_heightsThatFit_13 : decode cX3_heightsThatFit 13 = .ok (.iconst 0, 1) := by decide +kernel
theorem dX3_heightsThatFit_14 : decode cX3_heightsThatFit 14 = .ok (.istore 5, 2) := by decide +kernel
theorem dX3_heightsThatFit_16 : decode cX3_heightsThatFit 16 = .ok (.iload 5, 2) := by decide +kernel
theorem dX3_heightsThatFit_18 : decode cX3_heightsThatFit 18 = .ok (.bipush 9, 2) := by decide +kernel
theorem dX3_heightsThatFit_20 : decode cX3_heightsThatFit 20 = .ok (.if_icmp .gt 37, 3) := by decide +kernel
theorem dX3_heightsThatFit_23 : decode cX3_heightsThatFit 23 = .ok (.aload_n 0, 1) := by decide +kernel
theorem dX3_heightsThatFit_24 : decode cX3_heightsThatFit 24 = .ok (.getfield 12, 3) := by decide +kernel
theorem dX3_heightsThatFit_27 : decode cX3_heightsThatFit 27 = .ok (.getfield 111, 3) := by decide +kernel
theorem dX3_heightsThatFit_30 : decode cX3_heightsThatFit 30 = .ok (.iload_n 1, 1) := by decide +kernel
theorem dX3_heightsThatFit_31 : decode cX3_heightsThatFit 31 = .ok (.iload 5, 2) := by decide +kernel
theorem dX3_heightsThatFit_33 : decode cX3_heightsThatFit 33 = .ok (.iastore, 1) := by decide +kernel
theorem dX3_heightsThatFit_34 : decode cX3_heightsThatFit 34 = .ok (.aload_n 0, 1) := by decide +kernel
theorem dX3_heightsThatFit_35 : decode cX3_heightsThatFit 35 = .ok (.aload_n 2, 1) := by decide +kernel
theorem dX3_heightsThatFit_36 : decode cX3_heightsThatFit 36 = .ok (.invokevirtual 107, 3) := by decide +kernel
theorem dX3_heightsThatFit_39 : decode cX3_heightsThatFit 39 = .ok (.ifCond .eq 12, 3) := by decide +kernel
theorem dX3_heightsThatFit_42 : decode cX3_heightsThatFit 42 = .ok (.iload 4, 2) := by decide +kernel
theorem dX3_heightsThatFit_44 : decode cX3_heightsThatFit 44 = .ok (.iconst 1, 1) := by decide +kernel
theorem dX3_heightsThatFit_45 : decode cX3_heightsThatFit 45 = .ok (.iload 5, 2) := by decide +kernel
theorem dX3_heightsThatFit_47 : decode cX3_heightsThatFit 47 = .ok (.ishl, 1) := by decide +kernel
theorem dX3_heightsThatFit_48 : decode cX3_heightsThatFit 48 = .ok (.ior, 1) := by decide +kernel
theorem dX3_heightsThatFit_49 : decode cX3_heightsThatFit 49 = .ok (.istore 4, 2) := by decide +kernel
theorem dX3_heightsThatFit_51 : decode cX3_heightsThatFit 51 = .ok (.iinc 5 1, 3) := by decide +kernel
theorem dX3_heightsThatFit_54 : decode cX3_heightsThatFit 54 = .ok (.goto (-38), 3) := by decide +kernel
theorem dX3_heightsThatFit_57 : decode cX3_heightsThatFit 57 = .ok (.aload_n 0, 1) := by decide +kernel
theorem dX3_heightsThatFit_58 : decode cX3_heightsThatFit 58 = .ok (.getfield 12, 3) := by decide +kernel
theorem dX3_heightsThatFit_61 : decode cX3_heightsThatFit 61 = .ok (.getfield 111, 3) := by decide +kernel
theorem dX3_heightsThatFit_64 : decode cX3_heightsThatFit 64 = .ok (.iload_n 1, 1) := by decide +kernel
theorem dX3_heightsThatFit_65 : decode cX3_heightsThatFit 65 = .ok (.iload_n 3, 1) := by decide +kernel
theorem dX3_heightsThatFit_66 : decode cX3_heightsThatFit 66 = .ok (.iastore, 1) := by decide +kernel
theorem dX3_heightsThatFit_67 : decode cX3_heightsThatFit 67 = .ok (.iload 4, 2) := by decide +kernel
theorem dX3_heightsThatFit_69 : decode cX3_heightsThatFit 69 = .ok (.ireturn, 1) := by decide +kernel
theorem dX3_fits_0 : decode cX3_fits 0 = .ok (.aload_n 0, 1) := by decide +kernel
theorem dX3_fits_1 : decode cX3_fits 1 = .ok (.invokevirtual 73, 3) := by decide +kernel
theorem dX3_fits_4 : decode cX3_fits 4 = .ok (.iconst 0, 1) := by decide +kernel
theorem dX3_fits_5 : decode cX3_fits 5 = .ok (.istore_n 2, 1) := by decide +kernel
theorem dX3_fits_6 : decode cX3_fits 6 = .ok (.iload_n 2, 1) := by decide +kernel
theorem dX3_fits_7 : decode cX3_fits 7 = .ok (.aload_n 1, 1) := by decide +kernel
theorem dX3_fits_8 : decode cX3_fits 8 = .ok (.getfield 114, 3) := by decide +kernel
theorem dX3_fits_11 : decode cX3_fits 11 = .ok (.if_icmp .ge 28, 3) := by decide +kernel
theorem dX3_fits_14 : decode cX3_fits 14 = .ok (.aload_n 0, 1) := by decide +kernel
theorem dX3_fits_15 : decode cX3_fits 15 = .ok (.invokevirtual 76, 3) := by decide +kernel
theorem dX3_fits_18 : decode cX3_fits 18 = .ok (.aload_n 0, 1) := by decide +kernel
theorem dX3_fits_19 : decode cX3_fits 19 = .ok (.invokevirtual 79, 3) := by decide +kernel
theorem dX3_fits_22 : decode cX3_fits 22 = .ok (.aload_n 1, 1) := by decide +kernel
theorem dX3_fits_23 : decode cX3_fits 23 = .ok (.getfield 119, 3) := by decide +kernel
theorem dX3_fits_26 : decode cX3_fits 26 = .ok (.iload_n 2, 1) := by decide +kernel
theorem dX3_fits_27 : decode cX3_fits 27 = .ok (.iaload, 1) := by decide +kernel
theorem dX3_fits_28 : decode cX3_fits 28 = .ok (.if_icmp .eq 5, 3) := by decide +kernel
theorem dX3_fits_31 : decode cX3_fits 31 = .ok (.iconst 0, 1) := by decide +kernel
theorem dX3_fits_32 : decode cX3_fits 32 = .ok (.ireturn, 1) := by decide +kernel
theorem dX3_fits_33 : decode cX3_fits 33 = .ok (.iinc 2 1, 3) := by decide +kernel
theorem dX3_fits_36 : decode cX3_fits 36 = .ok (.goto (-30), 3) := by decide +kernel
theorem dX3_fits_39 : decode cX3_fits 39 = .ok (.iconst 1, 1) := by decide +kernel
theorem dX3_fits_40 : decode cX3_fits 40 = .ok (.ireturn, 1) := by decide +kernel
theorem dX3_bestLook_0 : decode cX3_bestLook 0 = .ok (.aload_n 0, 1) := by decide +kernel
theorem dX3_bestLook_1 : decode cX3_bestLook 1 = .ok (.iload_n 1, 1) := by decide +kernel
theorem dX3_bestLook_2 : decode cX3_bestLook 2 = .ok (.aload_n 2, 1) := by decide +kernel
theorem dX3_bestLook_3 : decode cX3_bestLook 3 = .ok (.invokevirtual 122, 3) := by decide +kernel
theorem dX3_bestLook_6 : decode cX3_bestLook 6 = .ok (.istore_n 3, 1) := by decide +kernel
theorem dX3_bestLook_7 : decode cX3_bestLook 7 = .ok (.iload_n 3, 1) := by decide +kernel
theorem dX3_bestLook_8 : decode cX3_bestLook 8 = .ok (.ifCond .ne 6, 3) := by decide +kernel
theorem dX3_bestLook_11 : decode cX3_bestLook 11 = .ok (.bipush (-9), 2) := by decide +kernel
theorem dX3_bestLook_13 : decode cX3_bestLook 13 = .ok (.ireturn, 1) := by decide +kernel
theorem dX3_bestLook_14 : decode cX3_bestLook 14 = .ok (.aload_n 0, 1) := by decide +kernel
theorem dX3_bestLook_15 : decode cX3_bestLook 15 = .ok (.iload_n 1, 1) := by decide +kernel
theorem dX3_bestLook_16 : decode cX3_bestLook 16 = .ok (.invokevirtual 126, 3) := by decide +kernel
theorem dX3_bestLook_19 : decode cX3_bestLook 19 = .ok (.bipush (-9), 2) := by decide +kernel
theorem dX3_bestLook_21 : decode cX3_bestLook 21 = .ok (.istore 4, 2) := by decide +kernel
theorem dX3_bestLook_23 : decode cX3_bestLook 23 = .ok (.iconst 1, 1) := by decide +kernel
theorem dX3_bestLook_24 : decode cX3_bestLook 24 = .ok (.istore 5, 2) := by decide +kernel
theorem dX3_bestLook_26 : decode cX3_bestLook 26 = .ok (.iload 5, 2) := by decide +kernel
theorem dX3_bestLook_28 : decode cX3_bestLook 28 = .ok (.bipush 20, 2) := by decide +kernel
theorem dX3_bestLook_30 : decode cX3_bestLook 30 = .ok (.if_icmp .gt 44, 3) := by decide +kernel
theorem dX3_bestLook_33 : decode cX3_bestLook 33 = .ok (.aload_n 0, 1) := by decide +kernel
theorem dX3_bestLook_34 : decode cX3_bestLook 34 = .ok (.iload_n 3, 1) := by decide +kernel
theorem dX3_bestLook_35 : decode cX3_bestLook 35 = .ok (.iload 5, 2) := by decide +kernel
theorem dX3_bestLook_37 : decode cX3_bestLook 37 = .ok (.invokevirtual 130, 3) := by decide +kernel
theorem dX3_bestLook_40 : decode cX3_bestLook 40 = .ok (.istore 6, 2) := by decide +kernel
theorem dX3_bestLook_42 : decode cX3_bestLook 42 = .ok (.iload 4, 2) := by decide +kernel
theorem dX3_bestLook_44 : decode cX3_bestLook 44 = .ok (.bipush (-9), 2) := by decide +kernel
theorem dX3_bestLook_46 : decode cX3_bestLook 46 = .ok (.if_icmp .eq 12, 3) := by decide +kernel
theorem dX3_bestLook_49 : decode cX3_bestLook 49 = .ok (.iload 6, 2) := by decide +kernel
theorem dX3_bestLook_51 : decode cX3_bestLook 51 = .ok (.aload_n 0, 1) := by decide +kernel
theorem dX3_bestLook_52 : decode cX3_bestLook 52 = .ok (.getfield 37, 3) := by decide +kernel
theorem dX3_bestLook_55 : decode cX3_bestLook 55 = .ok (.if_icmp .ge 13, 3) := by decide +kernel
theorem dX3_bestLook_58 : decode cX3_bestLook 58 = .ok (.iload 5, 2) := by decide +kernel
theorem dX3_bestLook_60 : decode cX3_bestLook 60 = .ok (.istore 4, 2) := by decide +kernel
theorem dX3_bestLook_62 : decode cX3_bestLook 62 = .ok (.aload_n 0, 1) := by decide +kernel
theorem dX3_bestLook_63 : decode cX3_bestLook 63 = .ok (.iload 6, 2) := by decide +kernel
theorem dX3_bestLook_65 : decode cX3_bestLook 65 = .ok (.putfield 37, 3) := by decide +kernel
theorem dX3_bestLook_68 : decode cX3_bestLook 68 = .ok (.iinc 5 1, 3) := by decide +kernel
theorem dX3_bestLook_71 : decode cX3_bestLook 71 = .ok (.goto (-45), 3) := by decide +kernel
theorem dX3_bestLook_74 : decode cX3_bestLook 74 = .ok (.iload 4, 2) := by decide +kernel
theorem dX3_bestLook_76 : decode cX3_bestLook 76 = .ok (.ireturn, 1) := by decide +kernel
theorem dX3_foretellEach_0 : decode cX3_foretellEach 0 = .ok (.iconst 0, 1) := by decide +kernel
theorem dX3_foretellEach_1 : decode cX3_foretellEach 1 = .ok (.istore_n 2, 1) := by decide +kernel
theorem dX3_foretellEach_2 : decode cX3_foretellEach 2 = .ok (.iload_n 2, 1) := by decide +kernel
theorem dX3_foretellEach_3 : decode cX3_foretellEach 3 = .ok (.bipush 6, 2) := by decide +kernel
theorem dX3_foretellEach_5 : decode cX3_foretellEach 5 = .ok (.if_icmp .ge 53, 3) := by decide +kernel
theorem dX3_foretellEach_8 : decode cX3_foretellEach 8 = .ok (.aload_n 0, 1) := by decide +kernel
theorem dX3_foretellEach_9 : decode cX3_foretellEach 9 = .ok (.getfield 12, 3) := by decide +kernel
theorem dX3_foretellEach_12 : decode cX3_foretellEach 12 = .ok (.getfield 104, 3) := by decide +kernel
theorem dX3_foretellEach_15 : decode cX3_foretellEach 15 = .ok (.iload_n 1, 1) := by decide +kernel
theorem dX3_foretellEach_16 : decode cX3_foretellEach 16 = .ok (.iload_n 2, 1) := by decide +kernel
theorem dX3_foretellEach_17 : decode cX3_foretellEach 17 = .ok (.iastore, 1) := by decide +kernel
theorem dX3_foretellEach_18 : decode cX3_foretellEach 18 = .ok (.aload_n 0, 1) := by decide +kernel
theorem dX3_foretellEach_19 : decode cX3_foretellEach 19 = .ok (.invokevirtual 73, 3) := by decide +kernel
theorem dX3_foretellEach_22 : decode cX3_foretellEach 22 = .ok (.iconst 1, 1) := by decide +kernel
theorem dX3_foretellEach_23 : decode cX3_foretellEach 23 = .ok (.istore_n 3, 1) := by decide +kernel
theorem dX3_foretellEach_24 : decode cX3_foretellEach 24 = .ok (.iload_n 3, 1) := by decide +kernel
theorem dX3_foretellEach_25 : decode cX3_foretellEach 25 = .ok (.bipush 20, 2) := by decide +kernel
theorem dX3_foretellEach_27 : decode cX3_foretellEach 27 = .ok (.if_icmp .gt 25, 3) := by decide +kernel
theorem dX3_foretellEach_30 : decode cX3_foretellEach 30 = .ok (.aload_n 0, 1) := by decide +kernel
theorem dX3_foretellEach_31 : decode cX3_foretellEach 31 = .ok (.invokevirtual 76, 3) := by decide +kernel
theorem dX3_foretellEach_34 : decode cX3_foretellEach 34 = .ok (.aload_n 0, 1) := by decide +kernel
theorem dX3_foretellEach_35 : decode cX3_foretellEach 35 = .ok (.getfield 27, 3) := by decide +kernel
theorem dX3_foretellEach_38 : decode cX3_foretellEach 38 = .ok (.iload_n 2, 1) := by decide +kernel
theorem dX3_foretellEach_39 : decode cX3_foretellEach 39 = .ok (.aaload, 1) := by decide +kernel
theorem dX3_foretellEach_40 : decode cX3_foretellEach 40 = .ok (.iload_n 3, 1) := by decide +kernel
theorem dX3_foretellEach_41 : decode cX3_foretellEach 41 = .ok (.aload_n 0, 1) := by decide +kernel
theorem dX3_foretellEach_42 : decode cX3_foretellEach 42 = .ok (.invokevirtual 79, 3) := by decide +kernel
theorem dX3_foretellEach_45 : decode cX3_foretellEach 45 = .ok (.iastore, 1) := by decide +kernel
theorem dX3_foretellEach_46 : decode cX3_foretellEach 46 = .ok (.iinc 3 1, 3) := by decide +kernel
theorem dX3_foretellEach_49 : decode cX3_foretellEach 49 = .ok (.goto (-25), 3) := by decide +kernel
theorem dX3_foretellEach_52 : decode cX3_foretellEach 52 = .ok (.iinc 2 1, 3) := by decide +kernel
theorem dX3_foretellEach_55 : decode cX3_foretellEach 55 = .ok (.goto (-53), 3) := by decide +kernel
theorem dX3_foretellEach_58 : decode cX3_foretellEach 58 = .ok (.return_, 1) := by decide +kernel
theorem dX3_greatestPart_0 : decode cX3_greatestPart 0 = .ok (.iconst 0, 1) := by decide +kernel
theorem dX3_greatestPart_1 : decode cX3_greatestPart 1 = .ok (.istore_n 3, 1) := by decide +kernel
theorem dX3_greatestPart_2 : decode cX3_greatestPart 2 = .ok (.iconst 0, 1) := by decide +kernel
theorem dX3_greatestPart_3 : decode cX3_greatestPart 3 = .ok (.istore 4, 2) := by decide +kernel
theorem dX3_greatestPart_5 : decode cX3_greatestPart 5 = .ok (.iload 4, 2) := by decide +kernel
theorem dX3_greatestPart_7 : decode cX3_greatestPart 7 = .ok (.bipush 6, 2) := by decide +kernel
theorem dX3_greatestPart_9 : decode cX3_greatestPart 9 = .ok (.if_icmp .ge 86, 3) := by decide +kernel
theorem dX3_greatestPart_12 : decode cX3_greatestPart 12 = .ok (.iconst 0, 1) := by decide +kernel
theorem dX3_greatestPart_13 : decode cX3_greatestPart 13 = .ok (.istore 5, 2) := by decide +kernel
theorem dX3_greatestPart_15 : decode cX3_greatestPart 15 = .ok (.iconst 0, 1) := by decide +kernel
theorem dX3_greatestPart_16 : decode cX3_greatestPart 16 = .ok (.istore 6, 2) := by decide +kernel
theorem dX3_greatestPart_18 : decode cX3_greatestPart 18 = .ok (.iload 6, 2) := by decide +kernel
theorem dX3_greatestPart_20 : decode cX3_greatestPart 20 = .ok (.bipush 6, 2) := by decide +kernel
theorem dX3_greatestPart_22 : decode cX3_greatestPart 22 = .ok (.if_icmp .ge 60, 3) := by decide +kernel
theorem dX3_greatestPart_25 : decode cX3_greatestPart 25 = .ok (.iload_n 1, 1) := by decide +kernel
theorem dX3_greatestPart_26 : decode cX3_greatestPart 26 = .ok (.iload 4, 2) := by decide +kernel
theorem dX3_greatestPart_28 : decode cX3_greatestPart 28 = .ok (.ishr, 1) := by decide +kernel
theorem dX3_greatestPart_29 : decode cX3_greatestPart 29 = .ok (.iload_n 1, 1) := by decide +kernel
theorem dX3_greatestPart_30 : decode cX3_greatestPart 30 = .ok (.iload 6, 2) := by decide +kernel
theorem dX3_greatestPart_32 : decode cX3_greatestPart 32 = .ok (.ishr, 1) := by decide +kernel
theorem dX3_greatestPart_33 : decode cX3_greatestPart 33 = .ok (.iand, 1) := by decide +kernel
theorem dX3_greatestPart_34 : decode cX3_greatestPart 34 = .ok (.iconst 1, 1) := by decide +kernel
theorem dX3_greatestPart_35 : decode cX3_greatestPart 35 = .ok (.iand, 1) := by decide +kernel
theorem dX3_greatestPart_36 : decode cX3_greatestPart 36 = .ok (.iconst 1, 1) := by decide +kernel
theorem dX3_greatestPart_37 : decode cX3_greatestPart 37 = .ok (.if_icmp .ne 7, 3) := by decide +kernel
theorem dX3_greatestPart_40 : decode cX3_greatestPart 40 = .ok (.iconst 1, 1) := by decide +kernel
theorem dX3_greatestPart_41 : decode cX3_greatestPart 41 = .ok (.goto 4, 3) := by decide +kernel
theorem dX3_greatestPart_44 : decode cX3_greatestPart 44 = .ok (.iconst 0, 1) := by decide +kernel
theorem dX3_greatestPart_45 : decode cX3_greatestPart 45 = .ok (.istore 7, 2) := by decide +kernel
theorem dX3_greatestPart_47 : decode cX3_greatestPart 47 = .ok (.iload 7, 2) := by decide +kernel
theorem dX3_greatestPart_49 : decode cX3_greatestPart 49 = .ok (.ifCond .eq 27, 3) := by decide +kernel
theorem dX3_greatestPart_52 : decode cX3_greatestPart 52 = .ok (.aload_n 0, 1) := by decide +kernel
theorem dX3_greatestPart_53 : decode cX3_greatestPart 53 = .ok (.getfield 27, 3) := by decide +kernel
theorem dX3_greatestPart_56 : decode cX3_greatestPart 56 = .ok (.iload 4, 2) := by decide +kernel
theorem dX3_greatestPart_58 : decode cX3_greatestPart 58 = .ok (.aaload, 1) := by decide +kernel
theorem dX3_greatestPart_59 : decode cX3_greatestPart 59 = .ok (.iload_n 2, 1) := by decide +kernel
theorem dX3_greatestPart_60 : decode cX3_greatestPart 60 = .ok (.iaload, 1) := by decide +kernel
theorem dX3_greatestPart_61 : decode cX3_greatestPart 61 = .ok (.aload_n 0, 1) := by decide +kernel
theorem dX3_greatestPart_62 : decode cX3_greatestPart 62 = .ok (.getfield 27, 3) := by decide +kernel
theorem dX3_greatestPart_65 : decode cX3_greatestPart 65 = .ok (.iload 6, 2) := by decide +kernel
theorem dX3_greatestPart_67 : decode cX3_greatestPart 67 = .ok (.aaload, 1) := by decide +kernel
theorem dX3_greatestPart_68 : decode cX3_greatestPart 68 = .ok (.iload_n 2, 1) := by decide +kernel
theorem dX3_greatestPart_69 : decode cX3_greatestPart 69 = .ok (.iaload, 1) := by decide +kernel
theorem dX3_greatestPart_70 : decode cX3_greatestPart 70 = .ok (.if_icmp .ne 6, 3) := by decide +kernel
theorem dX3_greatestPart_73 : decode cX3_greatestPart 73 = .ok (.iinc 5 1, 3) := by decide +kernel
theorem dX3_greatestPart_76 : decode cX3_greatestPart 76 = .ok (.iinc 6 1, 3) := by decide +kernel
theorem dX3_greatestPart_79 : decode cX3_greatestPart 79 = .ok (.goto (-61), 3) := by decide +kernel
theorem dX3_greatestPart_82 : decode cX3_greatestPart 82 = .ok (.iload_n 3, 1) := by decide +kernel
theorem dX3_greatestPart_83 : decode cX3_greatestPart 83 = .ok (.iload 5, 2) := by decide +kernel
theorem dX3_greatestPart_85 : decode cX3_greatestPart 85 = .ok (.invokestatic 83, 3) := by decide +kernel
theorem dX3_greatestPart_88 : decode cX3_greatestPart 88 = .ok (.istore_n 3, 1) := by decide +kernel
theorem dX3_greatestPart_89 : decode cX3_greatestPart 89 = .ok (.iinc 4 1, 3) := by decide +kernel
theorem dX3_greatestPart_92 : decode cX3_greatestPart 92 = .ok (.goto (-87), 3) := by decide +kernel
theorem dX3_greatestPart_95 : decode cX3_greatestPart 95 = .ok (.iload_n 3, 1) := by decide +kernel
theorem dX3_greatestPart_96 : decode cX3_greatestPart 96 = .ok (.ireturn, 1) := by decide +kernel
theorem dX3_leastByAsh_0 : decode cX3_leastByAsh 0 = .ok (.iload_n 1, 1) := by decide +kernel
theorem dX3_leastByAsh_1 : decode cX3_leastByAsh 1 = .ok (.iconst 1, 1) := by decide +kernel
theorem dX3_leastByAsh_2 : decode cX3_leastByAsh 2 = .ok (.if_icmp .lt 8, 3) := by decide +kernel
theorem dX3_leastByAsh_5 : decode cX3_leastByAsh 5 = .ok (.iload_n 1, 1) := by decide +kernel
theorem dX3_leastByAsh_6 : decode cX3_leastByAsh 6 = .ok (.iconst 3, 1) := by decide +kernel
theorem dX3_leastByAsh_7 : decode cX3_leastByAsh 7 = .ok (.if_icmp .le 10, 3) := by decide +kernel
theorem dX3_leastByAsh_10 : decode cX3_leastByAsh 10 = .ok (.aload_n 0, 1) := by decide +kernel
theorem dX3_leastByAsh_11 : decode cX3_leastByAsh 11 = .ok (.bipush 6, 2) := by decide +kernel
theorem dX3_leastByAsh_13 : decode cX3_leastByAsh 13 = .ok (.invokevirtual 98, 3) := by decide +kernel
theorem dX3_leastByAsh_16 : decode cX3_leastByAsh 16 = .ok (.ireturn, 1) := by decide +kernel
theorem dX3_leastByAsh_17 : decode cX3_leastByAsh 17 = .ok (.aload_n 0, 1) := by decide +kernel
theorem dX3_leastByAsh_18 : decode cX3_leastByAsh 18 = .ok (.iload_n 1, 1) := by decide +kernel
theorem dX3_leastByAsh_19 : decode cX3_leastByAsh 19 = .ok (.iconst 1, 1) := by decide +kernel
theorem dX3_leastByAsh_20 : decode cX3_leastByAsh 20 = .ok (.isub, 1) := by decide +kernel
theorem dX3_leastByAsh_21 : decode cX3_leastByAsh 21 = .ok (.invokevirtual 133, 3) := by decide +kernel
theorem dX3_leastByAsh_24 : decode cX3_leastByAsh 24 = .ok (.istore_n 2, 1) := by decide +kernel
theorem dX3_leastByAsh_25 : decode cX3_leastByAsh 25 = .ok (.iconst 0, 1) := by decide +kernel
theorem dX3_leastByAsh_26 : decode cX3_leastByAsh 26 = .ok (.istore_n 3, 1) := by decide +kernel
theorem dX3_leastByAsh_27 : decode cX3_leastByAsh 27 = .ok (.iload_n 3, 1) := by decide +kernel
theorem dX3_leastByAsh_28 : decode cX3_leastByAsh 28 = .ok (.iconst 5, 1) := by decide +kernel
theorem dX3_leastByAsh_29 : decode cX3_leastByAsh 29 = .ok (.if_icmp .ge 63, 3) := by decide +kernel
theorem dX3_leastByAsh_32 : decode cX3_leastByAsh 32 = .ok (.aload_n 0, 1) := by decide +kernel
theorem dX3_leastByAsh_33 : decode cX3_leastByAsh 33 = .ok (.getfield 12, 3) := by decide +kernel
theorem dX3_leastByAsh_36 : decode cX3_leastByAsh 36 = .ok (.getfield 89, 3) := by decide +kernel
theorem dX3_leastByAsh_39 : decode cX3_leastByAsh 39 = .ok (.iload_n 3, 1) := by decide +kernel
theorem dX3_leastByAsh_40 : decode cX3_leastByAsh 40 = .ok (.iaload, 1) := by decide +kernel
theorem dX3_leastByAsh_41 : decode cX3_leastByAsh 41 = .ok (.istore 4, 2) := by decide +kernel
theorem dX3_leastByAsh_43 : decode cX3_leastByAsh 43 = .ok (.iload 4, 2) := by decide +kernel
theorem dX3_leastByAsh_45 : decode cX3_leastByAsh 45 = .ok (.bipush 9, 2) := by decide +kernel
theorem dX3_leastByAsh_47 : decode cX3_leastByAsh 47 = .ok (.if_icmp .ge 39, 3) := by decide +kernel
theorem dX3_leastByAsh_50 : decode cX3_leastByAsh 50 = .ok (.aload_n 0, 1) := by decide +kernel
theorem dX3_leastByAsh_51 : decode cX3_leastByAsh 51 = .ok (.getfield 12, 3) := by decide +kernel
theorem dX3_leastByAsh_54 : decode cX3_leastByAsh 54 = .ok (.getfield 89, 3) := by decide +kernel
theorem dX3_leastByAsh_57 : decode cX3_leastByAsh 57 = .ok (.iload_n 3, 1) := by decide +kernel
theorem dX3_leastByAsh_58 : decode cX3_leastByAsh 58 = .ok (.iload 4, 2) := by decide +kernel
theorem dX3_leastByAsh_60 : decode cX3_leastByAsh 60 = .ok (.iconst 1, 1) := by decide +kernel
theorem dX3_leastByAsh_61 : decode cX3_leastByAsh 61 = .ok (.iadd, 1) := by decide +kernel
theorem dX3_leastByAsh_62 : decode cX3_leastByAsh 62 = .ok (.iastore, 1) := by decide +kernel
theorem dX3_leastByAsh_63 : decode cX3_leastByAsh 63 = .ok (.iload_n 2, 1) := by decide +kernel
theorem dX3_leastByAsh_64 : decode cX3_leastByAsh 64 = .ok (.aload_n 0, 1) := by decide +kernel
theorem dX3_leastByAsh_65 : decode cX3_leastByAsh 65 = .ok (.iload_n 1, 1) := by decide +kernel
theorem dX3_leastByAsh_66 : decode cX3_leastByAsh 66 = .ok (.iconst 1, 1) := by decide +kernel
theorem dX3_leastByAsh_67 : decode cX3_leastByAsh 67 = .ok (.isub, 1) := by decide +kernel
theorem dX3_leastByAsh_68 : decode cX3_leastByAsh 68 = .ok (.invokevirtual 133, 3) := by decide +kernel
theorem dX3_leastByAsh_71 : decode cX3_leastByAsh 71 = .ok (.invokestatic 136, 3) := by decide +kernel
theorem dX3_leastByAsh_74 : decode cX3_leastByAsh 74 = .ok (.istore_n 2, 1) := by decide +kernel
theorem dX3_leastByAsh_75 : decode cX3_leastByAsh 75 = .ok (.aload_n 0, 1) := by decide +kernel
theorem dX3_leastByAsh_76 : decode cX3_leastByAsh 76 = .ok (.getfield 12, 3) := by decide +kernel
theorem dX3_leastByAsh_79 : decode cX3_leastByAsh 79 = .ok (.getfield 89, 3) := by decide +kernel
theorem dX3_leastByAsh_82 : decode cX3_leastByAsh 82 = .ok (.iload_n 3, 1) := by decide +kernel
theorem dX3_leastByAsh_83 : decode cX3_leastByAsh 83 = .ok (.iload 4, 2) := by decide +kernel
theorem dX3_leastByAsh_85 : decode cX3_leastByAsh 85 = .ok (.iastore, 1) := by decide +kernel
theorem dX3_leastByAsh_86 : decode cX3_leastByAsh 86 = .ok (.iinc 3 1, 3) := by decide +kernel
theorem dX3_leastByAsh_89 : decode cX3_leastByAsh 89 = .ok (.goto (-62), 3) := by decide +kernel
theorem dX3_leastByAsh_92 : decode cX3_leastByAsh 92 = .ok (.iload_n 2, 1) := by decide +kernel
theorem dX3_leastByAsh_93 : decode cX3_leastByAsh 93 = .ok (.ireturn, 1) := by decide +kernel
theorem dX3_mostByWind_0 : decode cX3_mostByWind 0 = .ok (.iload_n 1, 1) := by decide +kernel
theorem dX3_mostByWind_1 : decode cX3_mostByWind 1 = .ok (.iconst 1, 1) := by decide +kernel
theorem dX3_mostByWind_2 : decode cX3_mostByWind 2 = .ok (.if_icmp .lt 8, 3) := by decide +kernel
theorem dX3_mostByWind_5 : decode cX3_mostByWind 5 = .ok (.iload_n 1, 1) := by decide +kernel
theorem dX3_mostByWind_6 : decode cX3_mostByWind 6 = .ok (.iconst 3, 1) := by decide +kernel
theorem dX3_mostByWind_7 : decode cX3_mostByWind 7 = .ok (.if_icmp .le 10, 3) := by decide +kernel
theorem dX3_mostByWind_10 : decode cX3_mostByWind 10 = .ok (.aload_n 0, 1) := by decide +kernel
theorem dX3_mostByWind_11 : decode cX3_mostByWind 11 = .ok (.bipush 6, 2) := by decide +kernel
theorem dX3_mostByWind_13 : decode cX3_mostByWind 13 = .ok (.invokevirtual 98, 3) := by decide +kernel
theorem dX3_mostByWind_16 : decode cX3_mostByWind 16 = .ok (.ireturn, 1) := by decide +kernel
theorem dX3_mostByWind_17 : decode cX3_mostByWind 17 = .ok (.aload_n 0, 1) := by decide +kernel
theorem dX3_mostByWind_18 : decode cX3_mostByWind 18 = .ok (.iload_n 1, 1) := by decide +kernel
theorem dX3_mostByWind_19 : decode cX3_mostByWind 19 = .ok (.iconst 1, 1) := by decide +kernel
theorem dX3_mostByWind_20 : decode cX3_mostByWind 20 = .ok (.isub, 1) := by decide +kernel
theorem dX3_mostByWind_21 : decode cX3_mostByWind 21 = .ok (.invokevirtual 139, 3) := by decide +kernel
theorem dX3_mostByWind_24 : decode cX3_mostByWind 24 = .ok (.istore_n 2, 1) := by decide +kernel
theorem dX3_mostByWind_25 : decode cX3_mostByWind 25 = .ok (.iconst 0, 1) := by decide +kernel
theorem dX3_mostByWind_26 : decode cX3_mostByWind 26 = .ok (.istore_n 3, 1) := by decide +kernel
theorem dX3_mostByWind_27 : decode cX3_mostByWind 27 = .ok (.iload_n 3, 1) := by decide +kernel
theorem dX3_mostByWind_28 : decode cX3_mostByWind 28 = .ok (.iconst 5, 1) := by decide +kernel
theorem dX3_mostByWind_29 : decode cX3_mostByWind 29 = .ok (.if_icmp .ge 58, 3) := by decide +kernel
theorem dX3_mostByWind_32 : decode cX3_mostByWind 32 = .ok (.aload_n 0, 1) := by decide +kernel
theorem dX3_mostByWind_33 : decode cX3_mostByWind 33 = .ok (.getfield 12, 3) := by decide +kernel
theorem dX3_mostByWind_36 : decode cX3_mostByWind 36 = .ok (.getfield 89, 3) := by decide +kernel
theorem dX3_mostByWind_39 : decode cX3_mostByWind 39 = .ok (.iload_n 3, 1) := by decide +kernel
theorem dX3_mostByWind_40 : decode cX3_mostByWind 40 = .ok (.iaload, 1) := by decide +kernel
theorem dX3_mostByWind_41 : decode cX3_mostByWind 41 = .ok (.istore 4, 2) := by decide +kernel
theorem dX3_mostByWind_43 : decode cX3_mostByWind 43 = .ok (.iload 4, 2) := by decide +kernel
theorem dX3_mostByWind_45 : decode cX3_mostByWind 45 = .ok (.ifCond .le 36, 3) := by decide +kernel
theorem dX3_mostByWind_48 : decode cX3_mostByWind 48 = .ok (.aload_n 0, 1) := by decide +kernel
theorem dX3_mostByWind_49 : decode cX3_mostByWind 49 = .ok (.getfield 12, 3) := by decide +kernel
theorem dX3_mostByWind_52 : decode cX3_mostByWind 52 = .ok (.getfield 89, 3) := by decide +kernel
theorem dX3_mostByWind_55 : decode cX3_mostByWind 55 = .ok (.iload_n 3, 1) := by decide +kernel
theorem dX3_mostByWind_56 : decode cX3_mostByWind 56 = .ok (.iconst 0, 1) := by decide +kernel
theorem dX3_mostByWind_57 : decode cX3_mostByWind 57 = .ok (.iastore, 1) := by decide +kernel
theorem dX3_mostByWind_58 : decode cX3_mostByWind 58 = .ok (.iload_n 2, 1) := by decide +kernel
theorem dX3_mostByWind_59 : decode cX3_mostByWind 59 = .ok (.aload_n 0, 1) := by decide +kernel
theorem dX3_mostByWind_60 : decode cX3_mostByWind 60 = .ok (.iload_n 1, 1) := by decide +kernel
theorem dX3_mostByWind_61 : decode cX3_mostByWind 61 = .ok (.iconst 1, 1) := by decide +kernel
theorem dX3_mostByWind_62 : decode cX3_mostByWind 62 = .ok (.isub, 1) := by decide +kernel
theorem dX3_mostByWind_63 : decode cX3_mostByWind 63 = .ok (.invokevirtual 139, 3) := by decide +kernel
theorem dX3_mostByWind_66 : decode cX3_mostByWind 66 = .ok (.invokestatic 83, 3) := by decide +kernel
theorem dX3_mostByWind_69 : decode cX3_mostByWind 69 = .ok (.istore_n 2, 1) := by decide +kernel
theorem dX3_mostByWind_70 : decode cX3_mostByWind 70 = .ok (.aload_n 0, 1) := by decide +kernel
theorem dX3_mostByWind_71 : decode cX3_mostByWind 71 = .ok (.getfield 12, 3) := by decide +kernel
theorem dX3_mostByWind_74 : decode cX3_mostByWind 74 = .ok (.getfield 89, 3) := by decide +kernel
theorem dX3_mostByWind_77 : decode cX3_mostByWind 77 = .ok (.iload_n 3, 1) := by decide +kernel
theorem dX3_mostByWind_78 : decode cX3_mostByWind 78 = .ok (.iload 4, 2) := by decide +kernel
theorem dX3_mostByWind_80 : decode cX3_mostByWind 80 = .ok (.iastore, 1) := by decide +kernel
theorem dX3_mostByWind_81 : decode cX3_mostByWind 81 = .ok (.iinc 3 1, 3) := by decide +kernel
theorem dX3_mostByWind_84 : decode cX3_mostByWind 84 = .ok (.goto (-57), 3) := by decide +kernel
theorem dX3_mostByWind_87 : decode cX3_mostByWind 87 = .ok (.iload_n 2, 1) := by decide +kernel
theorem dX3_mostByWind_88 : decode cX3_mostByWind 88 = .ok (.ireturn, 1) := by decide +kernel
theorem dX3_weighWinds_0 : decode cX3_weighWinds 0 = .ok (.aload_n 0, 1) := by decide +kernel
theorem dX3_weighWinds_1 : decode cX3_weighWinds 1 = .ok (.getfield 12, 3) := by decide +kernel
theorem dX3_weighWinds_4 : decode cX3_weighWinds 4 = .ok (.getfield 89, 3) := by decide +kernel
theorem dX3_weighWinds_7 : decode cX3_weighWinds 7 = .ok (.iconst 0, 1) := by decide +kernel
theorem dX3_weighWinds_8 : decode cX3_weighWinds 8 = .ok (.aload_n 0, 1) := by decide +kernel
theorem dX3_weighWinds_9 : decode cX3_weighWinds 9 = .ok (.getfield 22, 3) := by decide +kernel
theorem dX3_weighWinds_12 : decode cX3_weighWinds 12 = .ok (.iconst 0, 1) := by decide +kernel
theorem dX3_weighWinds_13 : decode cX3_weighWinds 13 = .ok (.iconst 5, 1) := by decide +kernel
theorem dX3_weighWinds_14 : decode cX3_weighWinds 14 = .ok (.invokestatic 142, 3) := by decide +kernel
theorem dX3_weighWinds_17 : decode cX3_weighWinds 17 = .ok (.aload_n 0, 1) := by decide +kernel
theorem dX3_weighWinds_18 : decode cX3_weighWinds 18 = .ok (.lconst 0, 1) := by decide +kernel
theorem dX3_weighWinds_19 : decode cX3_weighWinds 19 = .ok (.putfield 40, 3) := by decide +kernel
theorem dX3_weighWinds_22 : decode cX3_weighWinds 22 = .ok (.aload_n 0, 1) := by decide +kernel
theorem dX3_weighWinds_23 : decode cX3_weighWinds 23 = .ok (.lconst 0, 1) := by decide +kernel
theorem dX3_weighWinds_24 : decode cX3_weighWinds 24 = .ok (.putfield 44, 3) := by decide +kernel
theorem dX3_weighWinds_27 : decode cX3_weighWinds 27 = .ok (.aload_n 0, 1) := by decide +kernel
theorem dX3_weighWinds_28 : decode cX3_weighWinds 28 = .ok (.lconst 0, 1) := by decide +kernel
theorem dX3_weighWinds_29 : decode cX3_weighWinds 29 = .ok (.putfield 47, 3) := by decide +kernel
theorem dX3_weighWinds_32 : decode cX3_weighWinds 32 = .ok (.iconst 0, 1) := by decide +kernel
theorem dX3_weighWinds_33 : decode cX3_weighWinds 33 = .ok (.istore 4, 2) := by decide +kernel
theorem dX3_weighWinds_35 : decode cX3_weighWinds 35 = .ok (.iload 4, 2) := by decide +kernel
theorem dX3_weighWinds_37 : decode cX3_weighWinds 37 = .ok (.bipush 32, 2) := by decide +kernel
theorem dX3_weighWinds_39 : decode cX3_weighWinds 39 = .ok (.if_icmp .ge 152, 3) := by decide +kernel
theorem dX3_weighWinds_42 : decode cX3_weighWinds 42 = .ok (.lconst 1, 1) := by decide +kernel
theorem dX3_weighWinds_43 : decode cX3_weighWinds 43 = .ok (.lstore 5, 2) := by decide +kernel
theorem dX3_weighWinds_45 : decode cX3_weighWinds 45 = .ok (.iconst 0, 1) := by decide +kernel
theorem dX3_weighWinds_46 : decode cX3_weighWinds 46 = .ok (.istore 7, 2) := by decide +kernel
theorem dX3_weighWinds_48 : decode cX3_weighWinds 48 = .ok (.iload 7, 2) := by decide +kernel
theorem dX3_weighWinds_50 : decode cX3_weighWinds 50 = .ok (.iconst 5, 1) := by decide +kernel
theorem dX3_weighWinds_51 : decode cX3_weighWinds 51 = .ok (.if_icmp .ge 73, 3) := by decide +kernel
theorem dX3_weighWinds_54 : decode cX3_weighWinds 54 = .ok (.iload 4, 2) := by decide +kernel
theorem dX3_weighWinds_56 : decode cX3_weighWinds 56 = .ok (.iload 7, 2) := by decide +kernel
theorem dX3_weighWinds_58 : decode cX3_weighWinds 58 = .ok (.ishr, 1) := by decide +kernel
theorem dX3_weighWinds_59 : decode cX3_weighWinds 59 = .ok (.iconst 1, 1) := by decide +kernel
theorem dX3_weighWinds_60 : decode cX3_weighWinds 60 = .ok (.iand, 1) := by decide +kernel
theorem dX3_weighWinds_61 : decode cX3_weighWinds 61 = .ok (.iconst 1, 1) := by decide +kernel
theorem dX3_weighWinds_62 : decode cX3_weighWinds 62 = .ok (.if_icmp .ne 7, 3) := by decide +kernel
theorem dX3_weighWinds_65 : decode cX3_weighWinds 65 = .ok (.iconst 1, 1) := by decide +kernel
theorem dX3_weighWinds_66 : decode cX3_weighWinds 66 = .ok (.goto 4, 3) := by decide +kernel
theorem dX3_weighWinds_69 : decode cX3_weighWinds 69 = .ok (.iconst 0, 1) := by decide +kernel
theorem dX3_weighWinds_70 : decode cX3_weighWinds 70 = .ok (.istore 8, 2) := by decide +kernel
theorem dX3_weighWinds_72 : decode cX3_weighWinds 72 = .ok (.lload 5, 2) := by decide +kernel
theorem dX3_weighWinds_74 : decode cX3_weighWinds 74 = .ok (.iload 8, 2) := by decide +kernel
theorem dX3_weighWinds_76 : decode cX3_weighWinds 76 = .ok (.ifCond .eq 8, 3) := by decide +kernel
theorem dX3_weighWinds_79 : decode cX3_weighWinds 79 = .ok (.iload_n 3, 1) := by decide +kernel
theorem dX3_weighWinds_80 : decode cX3_weighWinds 80 = .ok (.i2l, 1) := by decide +kernel
theorem dX3_weighWinds_81 : decode cX3_weighWinds 81 = .ok (.goto 8, 3) := by decide +kernel
theorem dX3_weighWinds_84 : decode cX3_weighWinds 84 = .ok (.bipush 12, 2) := by decide +kernel
theorem dX3_weighWinds_86 : decode cX3_weighWinds 86 = .ok (.iload_n 3, 1) := by decide +kernel
theorem dX3_weighWinds_87 : decode cX3_weighWinds 87 = .ok (.isub, 1) := by decide +kernel
theorem dX3_weighWinds_88 : decode cX3_weighWinds 88 = .ok (.i2l, 1) := by decide +kernel
theorem dX3_weighWinds_89 : decode cX3_weighWinds 89 = .ok (.lmul, 1) := by decide +kernel
theorem dX3_weighWinds_90 : decode cX3_weighWinds 90 = .ok (.lstore 5, 2) := by decide +kernel
theorem dX3_weighWinds_92 : decode cX3_weighWinds 92 = .ok (.aload_n 0, 1) := by decide +kernel
theorem dX3_weighWinds_93 : decode cX3_weighWinds 93 = .ok (.getfield 12, 3) := by decide +kernel
theorem dX3_weighWinds_96 : decode cX3_weighWinds 96 = .ok (.getfield 89, 3) := by decide +kernel
theorem dX3_weighWinds_99 : decode cX3_weighWinds 99 = .ok (.iload 7, 2) := by decide +kernel
theorem dX3_weighWinds_101 : decode cX3_weighWinds 101 = .ok (.iload 8, 2) := by decide +kernel
theorem dX3_weighWinds_103 : decode cX3_weighWinds 103 = .ok (.ifCond .eq 7, 3) := by decide +kernel
theorem dX3_weighWinds_106 : decode cX3_weighWinds 106 = .ok (.iconst 0, 1) := by decide +kernel
theorem dX3_weighWinds_107 : decode cX3_weighWinds 107 = .ok (.goto 10, 3) := by decide +kernel
theorem dX3_weighWinds_110 : decode cX3_weighWinds 110 = .ok (.aload_n 0, 1) := by decide +kernel
theorem dX3_weighWinds_111 : decode cX3_weighWinds 111 = .ok (.getfield 22, 3) := by decide +kernel
theorem dX3_weighWinds_114 : decode cX3_weighWinds 114 = .ok (.iload 7, 2) := by decide +kernel
theorem dX3_weighWinds_116 : decode cX3_weighWinds 116 = .ok (.iaload, 1) := by decide +kernel
theorem dX3_weighWinds_117 : decode cX3_weighWinds 117 = .ok (.iastore, 1) := by decide +kernel
theorem dX3_weighWinds_118 : decode cX3_weighWinds 118 = .ok (.iinc 7 1, 3) := by decide +kernel
theorem dX3_weighWinds_121 : decode cX3_weighWinds 121 = .ok (.goto (-73), 3) := by decide +kernel
theorem dX3_weighWinds_124 : decode cX3_weighWinds 124 = .ok (.lload 5, 2) := by decide +kernel
theorem dX3_weighWinds_126 : decode cX3_weighWinds 126 = .ok (.lconst 0, 1) := by decide +kernel
theorem dX3_weighWinds_127 : decode cX3_weighWinds 127 = .ok (.lcmp, 1) := by decide +kernel
theorem dX3_weighWinds_128 : decode cX3_weighWinds 128 = .ok (.ifCond .le 57, 3) := by decide +kernel
theorem dX3_weighWinds_131 : decode cX3_weighWinds 131 = .ok (.aload_n 0, 1) := by decide +kernel
theorem dX3_weighWinds_132 : decode cX3_weighWinds 132 = .ok (.iload_n 2, 1) := by decide +kernel
theorem dX3_weighWinds_133 : decode cX3_weighWinds 133 = .ok (.invokevirtual 98, 3) := by decide +kernel
theorem dX3_weighWinds_136 : decode cX3_weighWinds 136 = .ok (.istore 7, 2) := by decide +kernel
theorem dX3_weighWinds_138 : decode cX3_weighWinds 138 = .ok (.aload_n 0, 1) := by decide +kernel
theorem dX3_weighWinds_139 : decode cX3_weighWinds 139 = .ok (.dup, 1) := by decide +kernel
theorem dX3_weighWinds_140 : decode cX3_weighWinds 140 = .ok (.getfield 47, 3) := by decide +kernel
theorem dX3_weighWinds_143 : decode cX3_weighWinds 143 = .ok (.lload 5, 2) := by decide +kernel
theorem dX3_weighWinds_145 : decode cX3_weighWinds 145 = .ok (.ladd, 1) := by decide +kernel
theorem dX3_weighWinds_146 : decode cX3_weighWinds 146 = .ok (.putfield 47, 3) := by decide +kernel
theorem dX3_weighWinds_149 : decode cX3_weighWinds 149 = .ok (.aload_n 0, 1) := by decide +kernel
theorem dX3_weighWinds_150 : decode cX3_weighWinds 150 = .ok (.dup, 1) := by decide +kernel
theorem dX3_weighWinds_151 : decode cX3_weighWinds 151 = .ok (.getfield 44, 3) := by decide +kernel
theorem dX3_weighWinds_154 : decode cX3_weighWinds 154 = .ok (.lload 5, 2) := by decide +kernel
theorem dX3_weighWinds_156 : decode cX3_weighWinds 156 = .ok (.iload 7, 2) := by decide +kernel
theorem dX3_weighWinds_158 : decode cX3_weighWinds 158 = .ok (.i2l, 1) := by decide +kernel
theorem dX3_weighWinds_159 : decode cX3_weighWinds 159 = .ok (.lmul, 1) := by decide +kernel
theorem dX3_weighWinds_160 : decode cX3_weighWinds 160 = .ok (.ladd, 1) := by decide +kernel
theorem dX3_weighWinds_161 : decode cX3_weighWinds 161 = .ok (.putfield 44, 3) := by decide +kernel
theorem dX3_weighWinds_164 : decode cX3_weighWinds 164 = .ok (.aload_n 0, 1) := by decide +kernel
theorem dX3_weighWinds_165 : decode cX3_weighWinds 165 = .ok (.dup, 1) := by decide +kernel
theorem dX3_weighWinds_166 : decode cX3_weighWinds 166 = .ok (.getfield 40, 3) := by decide +kernel
theorem dX3_weighWinds_169 : decode cX3_weighWinds 169 = .ok (.iload 7, 2) := by decide +kernel
theorem dX3_weighWinds_171 : decode cX3_weighWinds 171 = .ok (.iload_n 1, 1) := by decide +kernel
theorem dX3_weighWinds_172 : decode cX3_weighWinds 172 = .ok (.if_icmp .gt 8, 3) := by decide +kernel
theorem dX3_weighWinds_175 : decode cX3_weighWinds 175 = .ok (.lload 5, 2) := by decide +kernel
theorem dX3_weighWinds_177 : decode cX3_weighWinds 177 = .ok (.goto 4, 3) := by decide +kernel
theorem dX3_weighWinds_180 : decode cX3_weighWinds 180 = .ok (.lconst 0, 1) := by decide +kernel
theorem dX3_weighWinds_181 : decode cX3_weighWinds 181 = .ok (.ladd, 1) := by decide +kernel
theorem dX3_weighWinds_182 : decode cX3_weighWinds 182 = .ok (.putfield 40, 3) := by decide +kernel
theorem dX3_weighWinds_185 : decode cX3_weighWinds 185 = .ok (.iinc 4 1, 3) := by decide +kernel
theorem dX3_weighWinds_188 : decode cX3_weighWinds 188 = .ok (.goto (-153), 3) := by decide +kernel
theorem dX3_weighWinds_191 : decode cX3_weighWinds 191 = .ok (.return_, 1) := by decide +kernel
