theorem dX11_on_0 : decode cX11_on 0 = .ok (.iload_n 1, 1) := by decide +kernel
theorem dX11_on_1 : decode cX11_on 1 = .ok (.iconst 0, 1) := by decide +kernel
theorem dX11_on_2 : decode cX11_on 2 = .ok (.iconst 2, 1) := by decide +kernel
theorem dX11_on_3 : decode cX11_on 3 = .ok (.invokestatic 76, 3) := by decide +kernel
theorem dX11_on_6 : decode cX11_on 6 = .ok (.ifCond .ne 5, 3) := by decide +kernel
theorem dX11_on_9 : decode cX11_on 9 = .ok (.iconst (-1), 1) := by decide +kernel
theorem dX11_on_10 : decode cX11_on 10 = .ok (.ireturn, 1) := by decide +kernel
theorem dX11_on_11 : decode cX11_on 11 = .ok (.aload_n 0, 1) := by decide +kernel
theorem dX11_on_12 : decode cX11_on 12 = .ok (.getfield 57, 3) := by decide +kernel
theorem dX11_on_15 : decode cX11_on 15 = .ok (.iload_n 1, 1) := by decide +kernel
theorem dX11_on_16 : decode cX11_on 16 = .ok (.iaload, 1) := by decide +kernel
theorem dX11_on_17 : decode cX11_on 17 = .ok (.ifCond .ge 9, 3) := by decide +kernel
theorem dX11_on_20 : decode cX11_on 20 = .ok (.aload_n 0, 1) := by decide +kernel
theorem dX11_on_21 : decode cX11_on 21 = .ok (.iconst 1, 1) := by decide +kernel
theorem dX11_on_22 : decode cX11_on 22 = .ok (.invokevirtual 84, 3) := by decide +kernel
theorem dX11_on_25 : decode cX11_on 25 = .ok (.ireturn, 1) := by decide +kernel
theorem dX11_on_26 : decode cX11_on 26 = .ok (.aload_n 0, 1) := by decide +kernel
theorem dX11_on_27 : decode cX11_on 27 = .ok (.aload_n 0, 1) := by decide +kernel
theorem dX11_on_28 : decode cX11_on 28 = .ok (.getfield 57, 3) := by decide +kernel
theorem dX11_on_31 : decode cX11_on 31 = .ok (.iload_n 1, 1) := by decide +kernel
theorem dX11_on_32 : decode cX11_on 32 = .ok (.iaload, 1) := by decide +kernel
theorem dX11_on_33 : decode cX11_on 33 = .ok (.putfield 129, 3) := by decide +kernel
theorem dX11_on_36 : decode cX11_on 36 = .ok (.iconst 0, 1) := by decide +kernel
theorem dX11_on_37 : decode cX11_on 37 = .ok (.istore_n 2, 1) := by decide +kernel
theorem dX11_on_38 : decode cX11_on 38 = .ok (.iload_n 2, 1) := by decide +kernel
theorem dX11_on_39 : decode cX11_on 39 = .ok (.bipush 20, 2) := by decide +kernel
theorem dX11_on_41 : decode cX11_on 41 = .ok (.if_icmp .ge 27, 3) := by decide +kernel
theorem dX11_on_44 : decode cX11_on 44 = .ok (.aload_n 0, 1) := by decide +kernel
theorem dX11_on_45 : decode cX11_on 45 = .ok (.getfield 48, 3) := by decide +kernel
theorem dX11_on_48 : decode cX11_on 48 = .ok (.iload_n 2, 1) := by decide +kernel
theorem dX11_on_49 : decode cX11_on 49 = .ok (.aload_n 0, 1) := by decide +kernel
theorem dX11_on_50 : decode cX11_on 50 = .ok (.getfield 60, 3) := by decide +kernel
theorem dX11_on_53 : decode cX11_on 53 = .ok (.sipush 820, 3) := by decide +kernel
theorem dX11_on_56 : decode cX11_on 56 = .ok (.iload_n 1, 1) := by decide +kernel
theorem dX11_on_57 : decode cX11_on 57 = .ok (.imul, 1) := by decide +kernel
theorem dX11_on_58 : decode cX11_on 58 = .ok (.iload_n 2, 1) := by decide +kernel
theorem dX11_on_59 : decode cX11_on 59 = .ok (.iadd, 1) := by decide +kernel
theorem dX11_on_60 : decode cX11_on 60 = .ok (.iaload, 1) := by decide +kernel
theorem dX11_on_61 : decode cX11_on 61 = .ok (.iastore, 1) := by decide +kernel
theorem dX11_on_62 : decode cX11_on 62 = .ok (.iinc 2 1, 3) := by decide +kernel
theorem dX11_on_65 : decode cX11_on 65 = .ok (.goto (-27), 3) := by decide +kernel
theorem dX11_on_68 : decode cX11_on 68 = .ok (.iconst 0, 1) := by decide +kernel
theorem dX11_on_69 : decode cX11_on 69 = .ok (.istore_n 2, 1) := by decide +kernel
theorem dX11_on_70 : decode cX11_on 70 = .ok (.iload_n 2, 1) := by decide +kernel
theorem dX11_on_71 : decode cX11_on 71 = .ok (.bipush 20, 2) := by decide +kernel
theorem dX11_on_73 : decode cX11_on 73 = .ok (.aload_n 0, 1) := by decide +kernel
theorem dX11_on_74 : decode cX11_on 74 = .ok (.getfield 129, 3) := by decide +kernel
theorem dX11_on_77 : decode cX11_on 77 = .ok (.imul, 1) := by decide +kernel
theorem dX11_on_78 : decode cX11_on 78 = .ok (.if_icmp .ge 30, 3) := by decide +kernel
theorem dX11_on_81 : decode cX11_on 81 = .ok (.aload_n 0, 1) := by decide +kernel
theorem dX11_on_82 : decode cX11_on 82 = .ok (.getfield 54, 3) := by decide +kernel
theorem dX11_on_85 : decode cX11_on 85 = .ok (.iload_n 2, 1) := by decide +kernel
theorem dX11_on_86 : decode cX11_on 86 = .ok (.aload_n 0, 1) := by decide +kernel
theorem dX11_on_87 : decode cX11_on 87 = .ok (.getfield 60, 3) := by decide +kernel
theorem dX11_on_90 : decode cX11_on 90 = .ok (.sipush 820, 3) := by decide +kernel
theorem dX11_on_93 : decode cX11_on 93 = .ok (.iload_n 1, 1) := by decide +kernel
theorem dX11_on_94 : decode cX11_on 94 = .ok (.imul, 1) := by decide +kernel
theorem dX11_on_95 : decode cX11_on 95 = .ok (.bipush 20, 2) := by decide +kernel
theorem dX11_on_97 : decode cX11_on 97 = .ok (.iadd, 1) := by decide +kernel
theorem dX11_on_98 : decode cX11_on 98 = .ok (.iload_n 2, 1) := by decide +kernel
theorem dX11_on_99 : decode cX11_on 99 = .ok (.iadd, 1) := by decide +kernel
theorem dX11_on_100 : decode cX11_on 100 = .ok (.iaload, 1) := by decide +kernel
theorem dX11_on_101 : decode cX11_on 101 = .ok (.iastore, 1) := by decide +kernel
theorem dX11_on_102 : decode cX11_on 102 = .ok (.iinc 2 1, 3) := by decide +kernel
theorem dX11_on_105 : decode cX11_on 105 = .ok (.goto (-35), 3) := by decide +kernel
theorem dX11_on_108 : decode cX11_on 108 = .ok (.aload_n 0, 1) := by decide +kernel
theorem dX11_on_109 : decode cX11_on 109 = .ok (.getfield 129, 3) := by decide +kernel
theorem dX11_on_112 : decode cX11_on 112 = .ok (.ireturn, 1) := by decide +kernel
theorem dX11_day_0 : decode cX11_day 0 = .ok (.aload_n 0, 1) := by decide +kernel
theorem dX11_day_1 : decode cX11_day 1 = .ok (.getfield 126, 3) := by decide +kernel
theorem dX11_day_4 : decode cX11_day 4 = .ok (.ifCond .eq 14, 3) := by decide +kernel
theorem dX11_day_7 : decode cX11_day 7 = .ok (.aload_n 0, 1) := by decide +kernel
theorem dX11_day_8 : decode cX11_day 8 = .ok (.getfield 48, 3) := by decide +kernel
theorem dX11_day_11 : decode cX11_day 11 = .ok (.iconst 0, 1) := by decide +kernel
theorem dX11_day_12 : decode cX11_day 12 = .ok (.iaload, 1) := by decide +kernel
theorem dX11_day_13 : decode cX11_day 13 = .ok (.bipush 99, 2) := by decide +kernel
theorem dX11_day_15 : decode cX11_day 15 = .ok (.if_icmp .ne 6, 3) := by decide +kernel
theorem dX11_day_18 : decode cX11_day 18 = .ok (.bipush (-4), 2) := by decide +kernel
theorem dX11_day_20 : decode cX11_day 20 = .ok (.ireturn, 1) := by decide +kernel
theorem dX11_day_21 : decode cX11_day 21 = .ok (.aload_n 0, 1) := by decide +kernel
theorem dX11_day_22 : decode cX11_day 22 = .ok (.getfield 129, 3) := by decide +kernel
theorem dX11_day_25 : decode cX11_day 25 = .ok (.bipush 40, 2) := by decide +kernel
theorem dX11_day_27 : decode cX11_day 27 = .ok (.if_icmp .ne 6, 3) := by decide +kernel
theorem dX11_day_30 : decode cX11_day 30 = .ok (.bipush (-2), 2) := by decide +kernel
theorem dX11_day_32 : decode cX11_day 32 = .ok (.ireturn, 1) := by decide +kernel
theorem dX11_day_33 : decode cX11_day 33 = .ok (.aload_n 0, 1) := by decide +kernel
theorem dX11_day_34 : decode cX11_day 34 = .ok (.invokevirtual 179, 3) := by decide +kernel
theorem dX11_day_37 : decode cX11_day 37 = .ok (.aload_n 0, 1) := by decide +kernel
theorem dX11_day_38 : decode cX11_day 38 = .ok (.aload_n 0, 1) := by decide +kernel
theorem dX11_day_39 : decode cX11_day 39 = .ok (.getfield 48, 3) := by decide +kernel
theorem dX11_day_42 : decode cX11_day 42 = .ok (.invokevirtual 159, 3) := by decide +kernel
theorem dX11_day_45 : decode cX11_day 45 = .ok (.aload_n 0, 1) := by decide +kernel
theorem dX11_day_46 : decode cX11_day 46 = .ok (.aload_n 0, 1) := by decide +kernel
theorem dX11_day_47 : decode cX11_day 47 = .ok (.getfield 48, 3) := by decide +kernel
theorem dX11_day_50 : decode cX11_day 50 = .ok (.invokevirtual 163, 3) := by decide +kernel
theorem dX11_day_53 : decode cX11_day 53 = .ok (.ireturn, 1) := by decide +kernel
theorem dX11_becomes_0 : decode cX11_becomes 0 = .ok (.aload_n 0, 1) := by decide +kernel
theorem dX11_becomes_1 : decode cX11_becomes 1 = .ok (.getfield 129, 3) := by decide +kernel
theorem dX11_becomes_4 : decode cX11_becomes 4 = .ok (.bipush 40, 2) := by decide +kernel
theorem dX11_becomes_6 : decode cX11_becomes 6 = .ok (.if_icmp .ne 6, 3) := by decide +kernel
theorem dX11_becomes_9 : decode cX11_becomes 9 = .ok (.bipush (-2), 2) := by decide +kernel
theorem dX11_becomes_11 : decode cX11_becomes 11 = .ok (.ireturn, 1) := by decide +kernel
theorem dX11_becomes_12 : decode cX11_becomes 12 = .ok (.aload_n 0, 1) := by decide +kernel
theorem dX11_becomes_13 : decode cX11_becomes 13 = .ok (.invokevirtual 179, 3) := by decide +kernel
theorem dX11_becomes_16 : decode cX11_becomes 16 = .ok (.aload_n 0, 1) := by decide +kernel
theorem dX11_becomes_17 : decode cX11_becomes 17 = .ok (.getfield 48, 3) := by decide +kernel
theorem dX11_becomes_20 : decode cX11_becomes 20 = .ok (.iload_n 1, 1) := by decide +kernel
theorem dX11_becomes_21 : decode cX11_becomes 21 = .ok (.iload_n 2, 1) := by decide +kernel
theorem dX11_becomes_22 : decode cX11_becomes 22 = .ok (.iastore, 1) := by decide +kernel
theorem dX11_becomes_23 : decode cX11_becomes 23 = .ok (.iload_n 3, 1) := by decide +kernel
theorem dX11_becomes_24 : decode cX11_becomes 24 = .ok (.ireturn, 1) := by decide +kernel
theorem dX11_deeper_0 : decode cX11_deeper 0 = .ok (.iload_n 0, 1) := by decide +kernel
theorem dX11_deeper_1 : decode cX11_deeper 1 = .ok (.iload_n 1, 1) := by decide +kernel
theorem dX11_deeper_2 : decode cX11_deeper 2 = .ok (.iadd, 1) := by decide +kernel
theorem dX11_deeper_3 : decode cX11_deeper 3 = .ok (.bipush 9, 2) := by decide +kernel
theorem dX11_deeper_5 : decode cX11_deeper 5 = .ok (.if_icmp .le 8, 3) := by decide +kernel
theorem dX11_deeper_8 : decode cX11_deeper 8 = .ok (.bipush 9, 2) := by decide +kernel
theorem dX11_deeper_10 : decode cX11_deeper 10 = .ok (.goto 6, 3) := by decide +kernel
theorem dX11_deeper_13 : decode cX11_deeper 13 = .ok (.iload_n 0, 1) := by decide +kernel
theorem dX11_deeper_14 : decode cX11_deeper 14 = .ok (.iload_n 1, 1) := by decide +kernel
theorem dX11_deeper_15 : decode cX11_deeper 15 = .ok (.iadd, 1) := by decide +kernel
theorem dX11_deeper_16 : decode cX11_deeper 16 = .ok (.ireturn, 1) := by decide +kernel
theorem dX11_fall_0 : decode cX11_fall 0 = .ok (.iload_n 1, 1) := by decide +kernel
theorem dX11_fall_1 : decode cX11_fall 1 = .ok (.invokestatic 173, 3) := by decide +kernel
theorem dX11_fall_4 : decode cX11_fall 4 = .ok (.ifCond .eq 13, 3) := by decide +kernel
theorem dX11_fall_7 : decode cX11_fall 7 = .ok (.iload_n 2, 1) := by decide +kernel
theorem dX11_fall_8 : decode cX11_fall 8 = .ok (.iconst 1, 1) := by decide +kernel
theorem dX11_fall_9 : decode cX11_fall 9 = .ok (.bipush 9, 2) := by decide +kernel
theorem dX11_fall_11 : decode cX11_fall 11 = .ok (.invokestatic 76, 3) := by decide +kernel
theorem dX11_fall_14 : decode cX11_fall 14 = .ok (.ifCond .ne 5, 3) := by decide +kernel
theorem dX11_fall_17 : decode cX11_fall 17 = .ok (.iconst (-1), 1) := by decide +kernel
theorem dX11_fall_18 : decode cX11_fall 18 = .ok (.ireturn, 1) := by decide +kernel
theorem dX11_fall_19 : decode cX11_fall 19 = .ok (.aload_n 0, 1) := by decide +kernel
theorem dX11_fall_20 : decode cX11_fall 20 = .ok (.getfield 48, 3) := by decide +kernel
theorem dX11_fall_23 : decode cX11_fall 23 = .ok (.iconst 1, 1) := by decide +kernel
theorem dX11_fall_24 : decode cX11_fall 24 = .ok (.iload_n 1, 1) := by decide +kernel
theorem dX11_fall_25 : decode cX11_fall 25 = .ok (.iadd, 1) := by decide +kernel
theorem dX11_fall_26 : decode cX11_fall 26 = .ok (.iaload, 1) := by decide +kernel
theorem dX11_fall_27 : decode cX11_fall 27 = .ok (.istore_n 3, 1) := by decide +kernel
theorem dX11_fall_28 : decode cX11_fall 28 = .ok (.aload_n 0, 1) := by decide +kernel
theorem dX11_fall_29 : decode cX11_fall 29 = .ok (.getfield 126, 3) := by decide +kernel
theorem dX11_fall_32 : decode cX11_fall 32 = .ok (.ifCond .eq 9, 3) := by decide +kernel
theorem dX11_fall_35 : decode cX11_fall 35 = .ok (.iload_n 3, 1) := by decide +kernel
theorem dX11_fall_36 : decode cX11_fall 36 = .ok (.bipush 9, 2) := by decide +kernel
theorem dX11_fall_38 : decode cX11_fall 38 = .ok (.if_icmp .ne 8, 3) := by decide +kernel
theorem dX11_fall_41 : decode cX11_fall 41 = .ok (.bipush (-4), 2) := by decide +kernel
theorem dX11_fall_43 : decode cX11_fall 43 = .ok (.goto 20, 3) := by decide +kernel
theorem dX11_fall_46 : decode cX11_fall 46 = .ok (.aload_n 0, 1) := by decide +kernel
theorem dX11_fall_47 : decode cX11_fall 47 = .ok (.iconst 1, 1) := by decide +kernel
theorem dX11_fall_48 : decode cX11_fall 48 = .ok (.iload_n 1, 1) := by decide +kernel
theorem dX11_fall_49 : decode cX11_fall 49 = .ok (.iadd, 1) := by decide +kernel
theorem dX11_fall_50 : decode cX11_fall 50 = .ok (.iload_n 3, 1) := by decide +kernel
theorem dX11_fall_51 : decode cX11_fall 51 = .ok (.iload_n 2, 1) := by decide +kernel
theorem dX11_fall_52 : decode cX11_fall 52 = .ok (.invokestatic 182, 3) := by decide +kernel
theorem dX11_fall_55 : decode cX11_fall 55 = .ok (.iload_n 3, 1) := by decide +kernel
theorem dX11_fall_56 : decode cX11_fall 56 = .ok (.iload_n 2, 1) := by decide +kernel
theorem dX11_fall_57 : decode cX11_fall 57 = .ok (.invokestatic 182, 3) := by decide +kernel
theorem dX11_fall_60 : decode cX11_fall 60 = .ok (.invokevirtual 185, 3) := by decide +kernel
theorem dX11_fall_63 : decode cX11_fall 63 = .ok (.ireturn, 1) := by decide +kernel
theorem dX11_wind_0 : decode cX11_wind 0 = .ok (.iload_n 1, 1) := by decide +kernel
theorem dX11_wind_1 : decode cX11_wind 1 = .ok (.invokestatic 173, 3) := by decide +kernel
theorem dX11_wind_4 : decode cX11_wind 4 = .ok (.ifCond .ne 5, 3) := by decide +kernel
theorem dX11_wind_7 : decode cX11_wind 7 = .ok (.iconst (-1), 1) := by decide +kernel
theorem dX11_wind_8 : decode cX11_wind 8 = .ok (.ireturn, 1) := by decide +kernel
theorem dX11_wind_9 : decode cX11_wind 9 = .ok (.aload_n 0, 1) := by decide +kernel
theorem dX11_wind_10 : decode cX11_wind 10 = .ok (.getfield 126, 3) := by decide +kernel
theorem dX11_wind_13 : decode cX11_wind 13 = .ok (.ifCond .eq 14, 3) := by decide +kernel
theorem dX11_wind_16 : decode cX11_wind 16 = .ok (.aload_n 0, 1) := by decide +kernel
theorem dX11_wind_17 : decode cX11_wind 17 = .ok (.getfield 48, 3) := by decide +kernel
theorem dX11_wind_20 : decode cX11_wind 20 = .ok (.iconst 1, 1) := by decide +kernel
theorem dX11_wind_21 : decode cX11_wind 21 = .ok (.iload_n 1, 1) := by decide +kernel
theorem dX11_wind_22 : decode cX11_wind 22 = .ok (.iadd, 1) := by decide +kernel
theorem dX11_wind_23 : decode cX11_wind 23 = .ok (.iaload, 1) := by decide +kernel
theorem dX11_wind_24 : decode cX11_wind 24 = .ok (.ifCond .ne 8, 3) := by decide +kernel
theorem dX11_wind_27 : decode cX11_wind 27 = .ok (.bipush (-4), 2) := by decide +kernel
theorem dX11_wind_29 : decode cX11_wind 29 = .ok (.goto 19, 3) := by decide +kernel
theorem dX11_wind_32 : decode cX11_wind 32 = .ok (.aload_n 0, 1) := by decide +kernel
theorem dX11_wind_33 : decode cX11_wind 33 = .ok (.iconst 1, 1) := by decide +kernel
theorem dX11_wind_34 : decode cX11_wind 34 = .ok (.iload_n 1, 1) := by decide +kernel
theorem dX11_wind_35 : decode cX11_wind 35 = .ok (.iadd, 1) := by decide +kernel
theorem dX11_wind_36 : decode cX11_wind 36 = .ok (.iconst 0, 1) := by decide +kernel
theorem dX11_wind_37 : decode cX11_wind 37 = .ok (.aload_n 0, 1) := by decide +kernel
theorem dX11_wind_38 : decode cX11_wind 38 = .ok (.getfield 48, 3) := by decide +kernel
theorem dX11_wind_41 : decode cX11_wind 41 = .ok (.iconst 1, 1) := by decide +kernel
theorem dX11_wind_42 : decode cX11_wind 42 = .ok (.iload_n 1, 1) := by decide +kernel
theorem dX11_wind_43 : decode cX11_wind 43 = .ok (.iadd, 1) := by decide +kernel
theorem dX11_wind_44 : decode cX11_wind 44 = .ok (.iaload, 1) := by decide +kernel
theorem dX11_wind_45 : decode cX11_wind 45 = .ok (.invokevirtual 185, 3) := by decide +kernel
theorem dX11_wind_48 : decode cX11_wind 48 = .ok (.ireturn, 1) := by decide +kernel
theorem dX11_go_0 : decode cX11_go 0 = .ok (.aload_n 0, 1) := by decide +kernel
theorem dX11_go_1 : decode cX11_go 1 = .ok (.iload_n 1, 1) := by decide +kernel
theorem dX11_go_2 : decode cX11_go 2 = .ok (.invokevirtual 167, 3) := by decide +kernel
theorem dX11_go_5 : decode cX11_go 5 = .ok (.ifCond .eq 10, 3) := by decide +kernel
theorem dX11_go_8 : decode cX11_go 8 = .ok (.iload_n 2, 1) := by decide +kernel
theorem dX11_go_9 : decode cX11_go 9 = .ok (.invokestatic 173, 3) := by decide +kernel
theorem dX11_go_12 : decode cX11_go 12 = .ok (.ifCond .ne 5, 3) := by decide +kernel
theorem dX11_go_15 : decode cX11_go 15 = .ok (.iconst (-1), 1) := by decide +kernel
theorem dX11_go_16 : decode cX11_go 16 = .ok (.ireturn, 1) := by decide +kernel
theorem dX11_go_17 : decode cX11_go 17 = .ok (.aload_n 0, 1) := by decide +kernel
theorem dX11_go_18 : decode cX11_go 18 = .ok (.getfield 48, 3) := by decide +kernel
theorem dX11_go_21 : decode cX11_go 21 = .ok (.bipush 13, 2) := by decide +kernel
theorem dX11_go_23 : decode cX11_go 23 = .ok (.iload_n 1, 1) := by decide +kernel
theorem dX11_go_24 : decode cX11_go 24 = .ok (.iadd, 1) := by decide +kernel
theorem dX11_go_25 : decode cX11_go 25 = .ok (.iaload, 1) := by decide +kernel
theorem dX11_go_26 : decode cX11_go 26 = .ok (.istore_n 3, 1) := by decide +kernel
theorem dX11_go_27 : decode cX11_go 27 = .ok (.iload_n 3, 1) := by decide +kernel
theorem dX11_go_28 : decode cX11_go 28 = .ok (.iload_n 2, 1) := by decide +kernel
theorem dX11_go_29 : decode cX11_go 29 = .ok (.if_icmp .ne 8, 3) := by decide +kernel
theorem dX11_go_32 : decode cX11_go 32 = .ok (.bipush (-4), 2) := by decide +kernel
theorem dX11_go_34 : decode cX11_go 34 = .ok (.goto 13, 3) := by decide +kernel
theorem dX11_go_37 : decode cX11_go 37 = .ok (.aload_n 0, 1) := by decide +kernel
theorem dX11_go_38 : decode cX11_go 38 = .ok (.bipush 13, 2) := by decide +kernel
theorem dX11_go_40 : decode cX11_go 40 = .ok (.iload_n 1, 1) := by decide +kernel
theorem dX11_go_41 : decode cX11_go 41 = .ok (.iadd, 1) := by decide +kernel
theorem dX11_go_42 : decode cX11_go 42 = .ok (.iload_n 2, 1) := by decide +kernel
theorem dX11_go_43 : decode cX11_go 43 = .ok (.iload_n 3, 1) := by decide +kernel
theorem dX11_go_44 : decode cX11_go 44 = .ok (.invokevirtual 185, 3) := by decide +kernel
theorem dX11_go_47 : decode cX11_go 47 = .ok (.ireturn, 1) := by decide +kernel
theorem dX11_meets_0 : decode cX11_meets 0 = .ok (.iconst 0, 1) := by decide +kernel
theorem dX11_meets_1 : decode cX11_meets 1 = .ok (.istore_n 1, 1) := by decide +kernel
theorem dX11_meets_2 : decode cX11_meets 2 = .ok (.iconst 0, 1) := by decide +kernel
theorem dX11_meets_3 : decode cX11_meets 3 = .ok (.istore_n 2, 1) := by decide +kernel
theorem dX11_meets_4 : decode cX11_meets 4 = .ok (.iconst 0, 1) := by decide +kernel
theorem dX11_meets_5 : decode cX11_meets 5 = .ok (.istore_n 3, 1) := by decide +kernel
theorem dX11_meets_6 : decode cX11_meets 6 = .ok (.iload_n 3, 1) := by decide +kernel
theorem dX11_meets_7 : decode cX11_meets 7 = .ok (.aload_n 0, 1) := by decide +kernel
theorem dX11_meets_8 : decode cX11_meets 8 = .ok (.getfield 126, 3) := by decide +kernel
theorem dX11_meets_11 : decode cX11_meets 11 = .ok (.if_icmp .ge 60, 3) := by decide +kernel
theorem dX11_meets_14 : decode cX11_meets 14 = .ok (.aload_n 0, 1) := by decide +kernel
theorem dX11_meets_15 : decode cX11_meets 15 = .ok (.aload_n 0, 1) := by decide +kernel
theorem dX11_meets_16 : decode cX11_meets 16 = .ok (.getfield 48, 3) := by decide +kernel
theorem dX11_meets_19 : decode cX11_meets 19 = .ok (.iload_n 3, 1) := by decide +kernel
theorem dX11_meets_20 : decode cX11_meets 20 = .ok (.invokevirtual 147, 3) := by decide +kernel
theorem dX11_meets_23 : decode cX11_meets 23 = .ok (.istore 4, 2) := by decide +kernel
theorem dX11_meets_25 : decode cX11_meets 25 = .ok (.iload_n 1, 1) := by decide +kernel
theorem dX11_meets_26 : decode cX11_meets 26 = .ok (.iload 4, 2) := by decide +kernel
theorem dX11_meets_28 : decode cX11_meets 28 = .ok (.ifCond .eq 9, 3) := by decide +kernel
theorem dX11_meets_31 : decode cX11_meets 31 = .ok (.iconst 1, 1) := by decide +kernel
theorem dX11_meets_32 : decode cX11_meets 32 = .ok (.iload_n 3, 1) := by decide +kernel
theorem dX11_meets_33 : decode cX11_meets 33 = .ok (.ishl, 1) := by decide +kernel
theorem dX11_meets_34 : decode cX11_meets 34 = .ok (.goto 4, 3) := by decide +kernel
theorem dX11_meets_37 : decode cX11_meets 37 = .ok (.iconst 0, 1) := by decide +kernel
theorem dX11_meets_38 : decode cX11_meets 38 = .ok (.ior, 1) := by decide +kernel
theorem dX11_meets_39 : decode cX11_meets 39 = .ok (.istore_n 1, 1) := by decide +kernel
theorem dX11_meets_40 : decode cX11_meets 40 = .ok (.iload_n 2, 1) := by decide +kernel
theorem dX11_meets_41 : decode cX11_meets 41 = .ok (.iload 4, 2) := by decide +kernel
theorem dX11_meets_43 : decode cX11_meets 43 = .ok (.ifCond .eq 19, 3) := by decide +kernel
theorem dX11_meets_46 : decode cX11_meets 46 = .ok (.aload_n 0, 1) := by decide +kernel
theorem dX11_meets_47 : decode cX11_meets 47 = .ok (.aload_n 0, 1) := by decide +kernel
theorem dX11_meets_48 : decode cX11_meets 48 = .ok (.getfield 48, 3) := by decide +kernel
theorem dX11_meets_51 : decode cX11_meets 51 = .ok (.iload_n 3, 1) := by decide +kernel
theorem dX11_meets_52 : decode cX11_meets 52 = .ok (.invokevirtual 150, 3) := by decide +kernel
theorem dX11_meets_55 : decode cX11_meets 55 = .ok (.ifCond .eq 7, 3) := by decide +kernel
theorem dX11_meets_58 : decode cX11_meets 58 = .ok (.iconst 1, 1) := by decide +kernel
theorem dX11_meets_59 : decode cX11_meets 59 = .ok (.goto 4, 3) := by decide +kernel
theorem dX11_meets_62 : decode cX11_meets 62 = .ok (.iconst 0, 1) := by decide +kernel
theorem dX11_meets_63 : decode cX11_meets 63 = .ok (.iadd, 1) := by decide +kernel
theorem dX11_meets_64 : decode cX11_meets 64 = .ok (.istore_n 2, 1) := by decide +kernel
theorem dX11_meets_65 : decode cX11_meets 65 = .ok (.iinc 3 1, 3) := by decide +kernel
theorem dX11_meets_68 : decode cX11_meets 68 = .ok (.goto (-62), 3) := by decide +kernel
theorem dX11_meets_71 : decode cX11_meets 71 = .ok (.aload_n 0, 1) := by decide +kernel
theorem dX11_meets_72 : decode cX11_meets 72 = .ok (.iload_n 2, 1) := by decide +kernel
theorem dX11_meets_73 : decode cX11_meets 73 = .ok (.iload_n 1, 1) := by decide +kernel
theorem dX11_meets_74 : decode cX11_meets 74 = .ok (.invokevirtual 92, 3) := by decide +kernel
theorem dX11_meets_77 : decode cX11_meets 77 = .ok (.ireturn, 1) := by decide +kernel
theorem dX11_later_0 : decode cX11_later 0 = .ok (.aload_n 0, 1) := by decide +kernel
theorem dX11_later_1 : decode cX11_later 1 = .ok (.iload_n 1, 1) := by decide +kernel
theorem dX11_later_2 : decode cX11_later 2 = .ok (.invokevirtual 167, 3) := by decide +kernel
theorem dX11_later_5 : decode cX11_later 5 = .ok (.ifCond .eq 13, 3) := by decide +kernel
theorem dX11_later_8 : decode cX11_later 8 = .ok (.iload_n 2, 1) := by decide +kernel
theorem dX11_later_9 : decode cX11_later 9 = .ok (.iconst 0, 1) := by decide +kernel
theorem dX11_later_10 : decode cX11_later 10 = .ok (.bipush 60, 2) := by decide +kernel
theorem dX11_later_12 : decode cX11_later 12 = .ok (.invokestatic 76, 3) := by decide +kernel
theorem dX11_later_15 : decode cX11_later 15 = .ok (.ifCond .ne 5, 3) := by decide +kernel
theorem dX11_later_18 : decode cX11_later 18 = .ok (.iconst (-1), 1) := by decide +kernel
theorem dX11_later_19 : decode cX11_later 19 = .ok (.ireturn, 1) := by decide +kernel
theorem dX11_later_20 : decode cX11_later 20 = .ok (.aload_n 0, 1) := by decide +kernel
theorem dX11_later_21 : decode cX11_later 21 = .ok (.invokevirtual 189, 3) := by decide +kernel
theorem dX11_later_24 : decode cX11_later 24 = .ok (.aload_n 0, 1) := by decide +kernel
theorem dX11_later_25 : decode cX11_later 25 = .ok (.iload_n 2, 1) := by decide +kernel
theorem dX11_later_26 : decode cX11_later 26 = .ok (.invokevirtual 192, 3) := by decide +kernel
theorem dX11_later_29 : decode cX11_later 29 = .ok (.istore_n 3, 1) := by decide +kernel
theorem dX11_later_30 : decode cX11_later 30 = .ok (.aload_n 0, 1) := by decide +kernel
theorem dX11_later_31 : decode cX11_later 31 = .ok (.iload_n 3, 1) := by decide +kernel
theorem dX11_later_32 : decode cX11_later 32 = .ok (.aload_n 0, 1) := by decide +kernel
theorem dX11_later_33 : decode cX11_later 33 = .ok (.getfield 51, 3) := by decide +kernel
theorem dX11_later_36 : decode cX11_later 36 = .ok (.bipush 6, 2) := by decide +kernel
theorem dX11_later_38 : decode cX11_later 38 = .ok (.iload_n 1, 1) := by decide +kernel
theorem dX11_later_39 : decode cX11_later 39 = .ok (.iadd, 1) := by decide +kernel
theorem dX11_later_40 : decode cX11_later 40 = .ok (.iaload, 1) := by decide +kernel
theorem dX11_later_41 : decode cX11_later 41 = .ok (.invokevirtual 92, 3) := by decide +kernel
theorem dX11_later_44 : decode cX11_later 44 = .ok (.ireturn, 1) := by decide +kernel
theorem dX11_peace_0 : decode cX11_peace 0 = .ok (.aload_n 0, 1) := by decide +kernel
theorem dX11_peace_1 : decode cX11_peace 1 = .ok (.getfield 126, 3) := by decide +kernel
theorem dX11_peace_4 : decode cX11_peace 4 = .ok (.ifCond .ne 6, 3) := by decide +kernel
theorem dX11_peace_7 : decode cX11_peace 7 = .ok (.bipush (-4), 2) := by decide +kernel
theorem dX11_peace_9 : decode cX11_peace 9 = .ok (.ireturn, 1) := by decide +kernel
theorem dX11_peace_10 : decode cX11_peace 10 = .ok (.aload_n 0, 1) := by decide +kernel
theorem dX11_peace_11 : decode cX11_peace 11 = .ok (.invokevirtual 189, 3) := by decide +kernel
theorem dX11_peace_14 : decode cX11_peace 14 = .ok (.iconst 0, 1) := by decide +kernel
theorem dX11_peace_15 : decode cX11_peace 15 = .ok (.istore_n 1, 1) := by decide +kernel
theorem dX11_peace_16 : decode cX11_peace 16 = .ok (.iconst 0, 1) := by decide +kernel
theorem dX11_peace_17 : decode cX11_peace 17 = .ok (.istore_n 2, 1) := by decide +kernel
theorem dX11_peace_18 : decode cX11_peace 18 = .ok (.iload_n 2, 1) := by decide +kernel
theorem dX11_peace_19 : decode cX11_peace 19 = .ok (.bipush 120, 2) := by decide +kernel
theorem dX11_peace_21 : decode cX11_peace 21 = .ok (.if_icmp .gt 48, 3) := by decide +kernel
theorem dX11_peace_24 : decode cX11_peace 24 = .ok (.aload_n 0, 1) := by decide +kernel
theorem dX11_peace_25 : decode cX11_peace 25 = .ok (.aload_n 0, 1) := by decide +kernel
theorem dX11_peace_26 : decode cX11_peace 26 = .ok (.getfield 51, 3) := by decide +kernel
theorem dX11_peace_29 : decode cX11_peace 29 = .ok (.invokevirtual 163, 3) := by decide +kernel
theorem dX11_peace_32 : decode cX11_peace 32 = .ok (.istore_n 3, 1) := by decide +kernel
theorem dX11_peace_33 : decode cX11_peace 33 = .ok (.iload_n 3, 1) := by decide +kernel
theorem dX11_peace_34 : decode cX11_peace 34 = .ok (.iload_n 1, 1) := by decide +kernel
theorem dX11_peace_35 : decode cX11_peace 35 = .ok (.if_icmp .le 7, 3) := by decide +kernel
theorem dX11_peace_38 : decode cX11_peace 38 = .ok (.iload_n 3, 1) := by decide +kernel
theorem dX11_peace_39 : decode cX11_peace 39 = .ok (.goto 4, 3) := by decide +kernel
theorem dX11_peace_42 : decode cX11_peace 42 = .ok (.iload_n 1, 1) := by decide +kernel
theorem dX11_peace_43 : decode cX11_peace 43 = .ok (.istore_n 1, 1) := by decide +kernel
theorem dX11_peace_44 : decode cX11_peace 44 = .ok (.iload_n 3, 1) := by decide +kernel
theorem dX11_peace_45 : decode cX11_peace 45 = .ok (.ifCond .ne 10, 3) := by decide +kernel
theorem dX11_peace_48 : decode cX11_peace 48 = .ok (.aload_n 0, 1) := by decide +kernel
theorem dX11_peace_49 : decode cX11_peace 49 = .ok (.iload_n 1, 1) := by decide +kernel
theorem dX11_peace_50 : decode cX11_peace 50 = .ok (.iload_n 2, 1) := by decide +kernel
theorem dX11_peace_51 : decode cX11_peace 51 = .ok (.invokevirtual 92, 3) := by decide +kernel
theorem dX11_peace_54 : decode cX11_peace 54 = .ok (.ireturn, 1) := by decide +kernel
theorem dX11_peace_55 : decode cX11_peace 55 = .ok (.aload_n 0, 1) := by decide +kernel
theorem dX11_peace_56 : decode cX11_peace 56 = .ok (.aload_n 0, 1) := by decide +kernel
theorem dX11_peace_57 : decode cX11_peace 57 = .ok (.getfield 51, 3) := by decide +kernel
theorem dX11_peace_60 : decode cX11_peace 60 = .ok (.invokevirtual 159, 3) := by decide +kernel
theorem dX11_peace_63 : decode cX11_peace 63 = .ok (.iinc 2 1, 3) := by decide +kernel
theorem dX11_peace_66 : decode cX11_peace 66 = .ok (.goto (-48), 3) := by decide +kernel
theorem dX11_peace_69 : decode cX11_peace 69 = .ok (.bipush (-9), 2) := by decide +kernel
theorem dX11_peace_71 : decode cX11_peace 71 = .ok (.ireturn, 1) := by decide +kernel
theorem dX11_need_0 : decode cX11_need 0 = .ok (.iload_n 1, 1) := by decide +kernel
theorem dX11_need_1 : decode cX11_need 1 = .ok (.ifCond .ne 7, 3) := by decide +kernel
theorem dX11_need_4 : decode cX11_need 4 = .ok (.iconst (-1), 1) := by decide +kernel
theorem dX11_need_5 : decode cX11_need 5 = .ok (.goto 16, 3) := by decide +kernel
theorem dX11_need_8 : decode cX11_need 8 = .ok (.aload_n 0, 1) := by decide +kernel
theorem dX11_need_9 : decode cX11_need 9 = .ok (.getfield 126, 3) := by decide +kernel
theorem dX11_need_12 : decode cX11_need 12 = .ok (.ifCond .ne 8, 3) := by decide +kernel
theorem dX11_need_15 : decode cX11_need 15 = .ok (.bipush (-4), 2) := by decide +kernel
theorem dX11_need_17 : decode cX11_need 17 = .ok (.goto 4, 3) := by decide +kernel
theorem dX11_need_20 : decode cX11_need 20 = .ok (.iconst 0, 1) := by decide +kernel
theorem dX11_need_21 : decode cX11_need 21 = .ok (.ireturn, 1) := by decide +kernel
theorem dX11_left_0 : decode cX11_left 0 = .ok (.aload_n 0, 1) := by decide +kernel
theorem dX11_left_1 : decode cX11_left 1 = .ok (.iload_n 1, 1) := by decide +kernel
theorem dX11_left_2 : decode cX11_left 2 = .ok (.iconst 0, 1) := by decide +kernel
theorem dX11_left_3 : decode cX11_left 3 = .ok (.bipush 60, 2) := by decide +kernel
theorem dX11_left_5 : decode cX11_left 5 = .ok (.invokestatic 76, 3) := by decide +kernel
theorem dX11_left_8 : decode cX11_left 8 = .ok (.invokevirtual 195, 3) := by decide +kernel
theorem dX11_left_11 : decode cX11_left 11 = .ok (.istore_n 2, 1) := by decide +kernel
theorem dX11_left_12 : decode cX11_left 12 = .ok (.iload_n 2, 1) := by decide +kernel
theorem dX11_left_13 : decode cX11_left 13 = .ok (.ifCond .ge 5, 3) := by decide +kernel
theorem dX11_left_16 : decode cX11_left 16 = .ok (.iload_n 2, 1) := by decide +kernel
theorem dX11_left_17 : decode cX11_left 17 = .ok (.ireturn, 1) := by decide +kernel
theorem dX11_left_18 : decode cX11_left 18 = .ok (.aload_n 0, 1) := by decide +kernel
theorem dX11_left_19 : decode cX11_left 19 = .ok (.invokevirtual 189, 3) := by decide +kernel
theorem dX11_left_22 : decode cX11_left 22 = .ok (.aload_n 0, 1) := by decide +kernel
theorem dX11_left_23 : decode cX11_left 23 = .ok (.iload_n 1, 1) := by decide +kernel
theorem dX11_left_24 : decode cX11_left 24 = .ok (.invokevirtual 192, 3) := by decide +kernel
theorem dX11_left_27 : decode cX11_left 27 = .ok (.istore_n 3, 1) := by decide +kernel
theorem dX11_left_28 : decode cX11_left 28 = .ok (.aload_n 0, 1) := by decide +kernel
theorem dX11_left_29 : decode cX11_left 29 = .ok (.aload_n 0, 1) := by decide +kernel
theorem dX11_left_30 : decode cX11_left 30 = .ok (.aload_n 0, 1) := by decide +kernel
theorem dX11_left_31 : decode cX11_left 31 = .ok (.getfield 51, 3) := by decide +kernel
theorem dX11_left_34 : decode cX11_left 34 = .ok (.invokevirtual 199, 3) := by decide +kernel
theorem dX11_left_37 : decode cX11_left 37 = .ok (.invokestatic 202, 3) := by decide +kernel
theorem dX11_left_40 : decode cX11_left 40 = .ok (.iload_n 3, 1) := by decide +kernel
theorem dX11_left_41 : decode cX11_left 41 = .ok (.invokevirtual 92, 3) := by decide +kernel
theorem dX11_left_44 : decode cX11_left 44 = .ok (.ireturn, 1) := by decide +kernel
theorem dX11_ash_0 : decode cX11_ash 0 = .ok (.aload_n 0, 1) := by decide +kernel
theorem dX11_ash_1 : decode cX11_ash 1 = .ok (.iload_n 1, 1) := by decide +kernel
theorem dX11_ash_2 : decode cX11_ash 2 = .ok (.iconst 1, 1) := by decide +kernel
theorem dX11_ash_3 : decode cX11_ash 3 = .ok (.bipush 40, 2) := by decide +kernel
theorem dX11_ash_5 : decode cX11_ash 5 = .ok (.invokestatic 76, 3) := by decide +kernel
theorem dX11_ash_8 : decode cX11_ash 8 = .ok (.invokevirtual 195, 3) := by decide +kernel
theorem dX11_ash_11 : decode cX11_ash 11 = .ok (.istore_n 2, 1) := by decide +kernel
theorem dX11_ash_12 : decode cX11_ash 12 = .ok (.iload_n 2, 1) := by decide +kernel
theorem dX11_ash_13 : decode cX11_ash 13 = .ok (.ifCond .ge 5, 3) := by decide +kernel
theorem dX11_ash_16 : decode cX11_ash 16 = .ok (.iload_n 2, 1) := by decide +kernel
theorem dX11_ash_17 : decode cX11_ash 17 = .ok (.ireturn, 1) := by decide +kernel
theorem dX11_ash_18 : decode cX11_ash 18 = .ok (.iconst 0, 1) := by decide +kernel
theorem dX11_ash_19 : decode cX11_ash 19 = .ok (.istore_n 3, 1) := by decide +kernel
theorem dX11_ash_20 : decode cX11_ash 20 = .ok (.ldc 205, 2) := by decide +kernel
theorem dX11_ash_22 : decode cX11_ash 22 = .ok (.istore 4, 2) := by decide +kernel
theorem dX11_ash_24 : decode cX11_ash 24 = .ok (.iconst 0, 1) := by decide +kernel
theorem dX11_ash_25 : decode cX11_ash 25 = .ok (.istore 5, 2) := by decide +kernel
theorem dX11_ash_27 : decode cX11_ash 27 = .ok (.iload 5, 2) := by decide +kernel
theorem dX11_ash_29 : decode cX11_ash 29 = .ok (.bipush 9, 2) := by decide +kernel
theorem dX11_ash_31 : decode cX11_ash 31 = .ok (.if_icmp .gt 76, 3) := by decide +kernel
theorem dX11_ash_34 : decode cX11_ash 34 = .ok (.aload_n 0, 1) := by decide +kernel
theorem dX11_ash_35 : decode cX11_ash 35 = .ok (.invokevirtual 189, 3) := by decide +kernel
theorem dX11_ash_38 : decode cX11_ash 38 = .ok (.iconst 0, 1) := by decide +kernel
theorem dX11_ash_39 : decode cX11_ash 39 = .ok (.istore 6, 2) := by decide +kernel
theorem dX11_ash_41 : decode cX11_ash 41 = .ok (.iload 6, 2) := by decide +kernel
theorem dX11_ash_43 : decode cX11_ash 43 = .ok (.iconst 5, 1) := by decide +kernel
theorem dX11_ash_44 : decode cX11_ash 44 = .ok (.if_icmp .ge 20, 3) := by decide +kernel
theorem dX11_ash_47 : decode cX11_ash 47 = .ok (.aload_n 0, 1) := by decide +kernel
theorem dX11_ash_48 : decode cX11_ash 48 = .ok (.getfield 51, 3) := by decide +kernel
theorem dX11_ash_51 : decode cX11_ash 51 = .ok (.iconst 1, 1) := by decide +kernel
theorem dX11_ash_52 : decode cX11_ash 52 = .ok (.iload 6, 2) := by decide +kernel
theorem dX11_ash_54 : decode cX11_ash 54 = .ok (.iadd, 1) := by decide +kernel
theorem dX11_ash_55 : decode cX11_ash 55 = .ok (.iload 5, 2) := by decide +kernel
theorem dX11_ash_57 : decode cX11_ash 57 = .ok (.iastore, 1) := by decide +kernel
theorem dX11_ash_58 : decode cX11_ash 58 = .ok (.iinc 6 1, 3) := by decide +kernel
theorem dX11_ash_61 : decode cX11_ash 61 = .ok (.goto (-20), 3) := by decide +kernel
theorem dX11_ash_64 : decode cX11_ash 64 = .ok (.aload_n 0, 1) := by decide +kernel
theorem dX11_ash_65 : decode cX11_ash 65 = .ok (.iload_n 1, 1) := by decide +kernel
theorem dX11_ash_66 : decode cX11_ash 66 = .ok (.invokevirtual 192, 3) := by decide +kernel
theorem dX11_ash_69 : decode cX11_ash 69 = .ok (.istore 6, 2) := by decide +kernel
theorem dX11_ash_71 : decode cX11_ash 71 = .ok (.iload 6, 2) := by decide +kernel
theorem dX11_ash_73 : decode cX11_ash 73 = .ok (.iload 4, 2) := by decide +kernel
theorem dX11_ash_75 : decode cX11_ash 75 = .ok (.if_icmp .ge 8, 3) := by decide +kernel
theorem dX11_ash_78 : decode cX11_ash 78 = .ok (.iload 5, 2) := by decide +kernel
theorem dX11_ash_80 : decode cX11_ash 80 = .ok (.goto 4, 3) := by decide +kernel
theorem dX11_ash_83 : decode cX11_ash 83 = .ok (.iload_n 3, 1) := by decide +kernel
theorem dX11_ash_84 : decode cX11_ash 84 = .ok (.istore_n 3, 1) := by decide +kernel
theorem dX11_ash_85 : decode cX11_ash 85 = .ok (.iload 6, 2) := by decide +kernel
theorem dX11_ash_87 : decode cX11_ash 87 = .ok (.iload 4, 2) := by decide +kernel
theorem dX11_ash_89 : decode cX11_ash 89 = .ok (.if_icmp .ge 8, 3) := by decide +kernel
theorem dX11_ash_92 : decode cX11_ash 92 = .ok (.iload 6, 2) := by decide +kernel
theorem dX11_ash_94 : decode cX11_ash 94 = .ok (.goto 5, 3) := by decide +kernel
theorem dX11_ash_97 : decode cX11_ash 97 = .ok (.iload 4, 2) := by decide +kernel
theorem dX11_ash_99 : decode cX11_ash 99 = .ok (.istore 4, 2) := by decide +kernel
theorem dX11_ash_101 : decode cX11_ash 101 = .ok (.iinc 5 1, 3) := by decide +kernel
theorem dX11_ash_104 : decode cX11_ash 104 = .ok (.goto (-77), 3) := by decide +kernel
theorem dX11_ash_107 : decode cX11_ash 107 = .ok (.aload_n 0, 1) := by decide +kernel
theorem dX11_ash_108 : decode cX11_ash 108 = .ok (.iload 4, 2) := by decide +kernel
theorem dX11_ash_110 : decode cX11_ash 110 = .ok (.iload_n 3, 1) := by decide +kernel
theorem dX11_ash_111 : decode cX11_ash 111 = .ok (.invokevirtual 92, 3) := by decide +kernel
theorem dX11_ash_114 : decode cX11_ash 114 = .ok (.ireturn, 1) := by decide +kernel
theorem dX11_best_0 : decode cX11_best 0 = .ok (.aload_n 0, 1) := by decide +kernel
theorem dX11_best_1 : decode cX11_best 1 = .ok (.iload_n 1, 1) := by decide +kernel
theorem dX11_best_2 : decode cX11_best 2 = .ok (.iconst 1, 1) := by decide +kernel
theorem dX11_best_3 : decode cX11_best 3 = .ok (.bipush 40, 2) := by decide +kernel
theorem dX11_best_5 : decode cX11_best 5 = .ok (.invokestatic 76, 3) := by decide +kernel
theorem dX11_best_8 : decode cX11_best 8 = .ok (.invokevirtual 195, 3) := by decide +kernel
theorem dX11_best_11 : decode cX11_best 11 = .ok (.istore_n 2, 1) := by decide +kernel
theorem dX11_best_12 : decode cX11_best 12 = .ok (.iload_n 2, 1) := by decide +kernel
theorem dX11_best_13 : decode cX11_best 13 = .ok (.ifCond .ge 5, 3) := by decide +kernel
theorem dX11_best_16 : decode cX11_best 16 = .ok (.iload_n 2, 1) := by decide +kernel
theorem dX11_best_17 : decode cX11_best 17 = .ok (.ireturn, 1) := by decide +kernel
theorem dX11_best_18 : decode cX11_best 18 = .ok (.aload_n 0, 1) := by decide +kernel
theorem dX11_best_19 : decode cX11_best 19 = .ok (.invokevirtual 189, 3) := by decide +kernel
theorem dX11_best_22 : decode cX11_best 22 = .ok (.aload_n 0, 1) := by decide +kernel
theorem dX11_best_23 : decode cX11_best 23 = .ok (.iload_n 1, 1) := by decide +kernel
theorem dX11_best_24 : decode cX11_best 24 = .ok (.invokevirtual 192, 3) := by decide +kernel
theorem dX11_best_27 : decode cX11_best 27 = .ok (.istore_n 3, 1) := by decide +kernel
theorem dX11_best_28 : decode cX11_best 28 = .ok (.bipush (-9), 2) := by decide +kernel
theorem dX11_best_30 : decode cX11_best 30 = .ok (.istore 4, 2) := by decide +kernel
theorem dX11_best_32 : decode cX11_best 32 = .ok (.iconst 0, 1) := by decide +kernel
theorem dX11_best_33 : decode cX11_best 33 = .ok (.istore 5, 2) := by decide +kernel
theorem dX11_best_35 : decode cX11_best 35 = .ok (.iload 5, 2) := by decide +kernel
theorem dX11_best_37 : decode cX11_best 37 = .ok (.iconst 5, 1) := by decide +kernel
theorem dX11_best_38 : decode cX11_best 38 = .ok (.aload_n 0, 1) := by decide +kernel
theorem dX11_best_39 : decode cX11_best 39 = .ok (.getfield 126, 3) := by decide +kernel
theorem dX11_best_42 : decode cX11_best 42 = .ok (.imul, 1) := by decide +kernel
theorem dX11_best_43 : decode cX11_best 43 = .ok (.if_icmp .ge 74, 3) := by decide +kernel
theorem dX11_best_46 : decode cX11_best 46 = .ok (.aload_n 0, 1) := by decide +kernel
theorem dX11_best_47 : decode cX11_best 47 = .ok (.invokevirtual 189, 3) := by decide +kernel
theorem dX11_best_50 : decode cX11_best 50 = .ok (.aload_n 0, 1) := by decide +kernel
theorem dX11_best_51 : decode cX11_best 51 = .ok (.getfield 51, 3) := by decide +kernel
theorem dX11_best_54 : decode cX11_best 54 = .ok (.bipush 13, 2) := by decide +kernel
theorem dX11_best_56 : decode cX11_best 56 = .ok (.iload 5, 2) := by decide +kernel
theorem dX11_best_58 : decode cX11_best 58 = .ok (.iconst 5, 1) := by decide +kernel
theorem dX11_best_59 : decode cX11_best 59 = .ok (.idiv, 1) := by decide +kernel
theorem dX11_best_60 : decode cX11_best 60 = .ok (.iadd, 1) := by decide +kernel
theorem dX11_best_61 : decode cX11_best 61 = .ok (.iload 5, 2) := by decide +kernel
theorem dX11_best_63 : decode cX11_best 63 = .ok (.iconst 5, 1) := by decide +kernel
theorem dX11_best_64 : decode cX11_best 64 = .ok (.irem, 1) := by decide +kernel
theorem dX11_best_65 : decode cX11_best 65 = .ok (.iastore, 1) := by decide +kernel
theorem dX11_best_66 : decode cX11_best 66 = .ok (.aload_n 0, 1) := by decide +kernel
theorem dX11_best_67 : decode cX11_best 67 = .ok (.iload_n 1, 1) := by decide +kernel
theorem dX11_best_68 : decode cX11_best 68 = .ok (.invokevirtual 192, 3) := by decide +kernel
theorem dX11_best_71 : decode cX11_best 71 = .ok (.istore 6, 2) := by decide +kernel
theorem dX11_best_73 : decode cX11_best 73 = .ok (.iload 6, 2) := by decide +kernel
theorem dX11_best_75 : decode cX11_best 75 = .ok (.iload_n 3, 1) := by decide +kernel
theorem dX11_best_76 : decode cX11_best 76 = .ok (.if_icmp .ge 18, 3) := by decide +kernel
theorem dX11_best_79 : decode cX11_best 79 = .ok (.bipush 10, 2) := by decide +kernel
theorem dX11_best_81 : decode cX11_best 81 = .ok (.iload 5, 2) := by decide +kernel
theorem dX11_best_83 : decode cX11_best 83 = .ok (.iconst 5, 1) := by decide +kernel
theorem dX11_best_84 : decode cX11_best 84 = .ok (.idiv, 1) := by decide +kernel
theorem dX11_best_85 : decode cX11_best 85 = .ok (.imul, 1) := by decide +kernel
theorem dX11_best_86 : decode cX11_best 86 = .ok (.iload 5, 2) := by decide +kernel
theorem dX11_best_88 : decode cX11_best 88 = .ok (.iconst 5, 1) := by decide +kernel
theorem dX11_best_89 : decode cX11_best 89 = .ok (.irem, 1) := by decide +kernel
theorem dX11_best_90 : decode cX11_best 90 = .ok (.iadd, 1) := by decide +kernel
theorem dX11_best_91 : decode cX11_best 91 = .ok (.goto 5, 3) := by decide +kernel
theorem dX11_best_94 : decode cX11_best 94 = .ok (.iload 4, 2) := by decide +kernel
theorem dX11_best_96 : decode cX11_best 96 = .ok (.istore 4, 2) := by decide +kernel
theorem dX11_best_98 : decode cX11_best 98 = .ok (.iload 6, 2) := by decide +kernel
theorem dX11_best_100 : decode cX11_best 100 = .ok (.iload_n 3, 1) := by decide +kernel
theorem dX11_best_101 : decode cX11_best 101 = .ok (.if_icmp .ge 8, 3) := by decide +kernel
theorem dX11_best_104 : decode cX11_best 104 = .ok (.iload 6, 2) := by decide +kernel
theorem dX11_best_106 : decode cX11_best 106 = .ok (.goto 4, 3) := by decide +kernel
theorem dX11_best_109 : decode cX11_best 109 = .ok (.iload_n 3, 1) := by decide +kernel
theorem dX11_best_110 : decode cX11_best 110 = .ok (.istore_n 3, 1) := by decide +kernel
theorem dX11_best_111 : decode cX11_best 111 = .ok (.iinc 5 1, 3) := by decide +kernel
theorem dX11_best_114 : decode cX11_best 114 = .ok (.goto (-79), 3) := by decide +kernel
theorem dX11_best_117 : decode cX11_best 117 = .ok (.iload 4, 2) := by decide +kernel
theorem dX11_best_119 : decode cX11_best 119 = .ok (.bipush (-9), 2) := by decide +kernel
theorem dX11_best_121 : decode cX11_best 121 = .ok (.if_icmp .ne 8, 3) := by decide +kernel
theorem dX11_best_124 : decode cX11_best 124 = .ok (.bipush (-9), 2) := by decide +kernel
theorem dX11_best_126 : decode cX11_best 126 = .ok (.goto 10, 3) := by decide +kernel
theorem dX11_best_129 : decode cX11_best 129 = .ok (.aload_n 0, 1) := by decide +kernel
theorem dX11_best_130 : decode cX11_best 130 = .ok (.iload_n 3, 1) := by decide +kernel
theorem dX11_best_131 : decode cX11_best 131 = .ok (.iload 4, 2) := by decide +kernel
theorem dX11_best_133 : decode cX11_best 133 = .ok (.invokevirtual 92, 3) := by decide +kernel
theorem dX11_best_136 : decode cX11_best 136 = .ok (.ireturn, 1) := by decide +kernel
theorem dX11_needTotals_0 : decode cX11_needTotals 0 = .ok (.aload_n 0, 1) := by decide +kernel
theorem dX11_needTotals_1 : decode cX11_needTotals 1 = .ok (.iload_n 1, 1) := by decide +kernel
theorem dX11_needTotals_2 : decode cX11_needTotals 2 = .ok (.invokevirtual 167, 3) := by decide +kernel
theorem dX11_needTotals_5 : decode cX11_needTotals 5 = .ok (.ifCond .eq 10, 3) := by decide +kernel
theorem dX11_needTotals_8 : decode cX11_needTotals 8 = .ok (.iload_n 2, 1) := by decide +kernel
theorem dX11_needTotals_9 : decode cX11_needTotals 9 = .ok (.invokestatic 80, 3) := by decide +kernel
theorem dX11_needTotals_12 : decode cX11_needTotals 12 = .ok (.ifCond .ne 5, 3) := by decide +kernel
theorem dX11_needTotals_15 : decode cX11_needTotals 15 = .ok (.iconst (-1), 1) := by decide +kernel
theorem dX11_needTotals_16 : decode cX11_needTotals 16 = .ok (.ireturn, 1) := by decide +kernel
theorem dX11_needTotals_17 : decode cX11_needTotals 17 = .ok (.aload_n 0, 1) := by decide +kernel
theorem dX11_needTotals_18 : decode cX11_needTotals 18 = .ok (.getfield 17, 3) := by decide +kernel
theorem dX11_needTotals_21 : decode cX11_needTotals 21 = .ok (.iload_n 2, 1) := by decide +kernel
theorem dX11_needTotals_22 : decode cX11_needTotals 22 = .ok (.iaload, 1) := by decide +kernel
theorem dX11_needTotals_23 : decode cX11_needTotals 23 = .ok (.ifCond .ge 9, 3) := by decide +kernel
theorem dX11_needTotals_26 : decode cX11_needTotals 26 = .ok (.aload_n 0, 1) := by decide +kernel
theorem dX11_needTotals_27 : decode cX11_needTotals 27 = .ok (.iconst 1, 1) := by decide +kernel
theorem dX11_needTotals_28 : decode cX11_needTotals 28 = .ok (.invokevirtual 84, 3) := by decide +kernel
theorem dX11_needTotals_31 : decode cX11_needTotals 31 = .ok (.ireturn, 1) := by decide +kernel
theorem dX11_needTotals_32 : decode cX11_needTotals 32 = .ok (.aload_n 0, 1) := by decide +kernel
theorem dX11_needTotals_33 : decode cX11_needTotals 33 = .ok (.getfield 17, 3) := by decide +kernel
theorem dX11_needTotals_36 : decode cX11_needTotals 36 = .ok (.iload_n 2, 1) := by decide +kernel
theorem dX11_needTotals_37 : decode cX11_needTotals 37 = .ok (.iaload, 1) := by decide +kernel
theorem dX11_needTotals_38 : decode cX11_needTotals 38 = .ok (.iconst 1, 1) := by decide +kernel
theorem dX11_needTotals_39 : decode cX11_needTotals 39 = .ok (.bipush 20, 2) := by decide +kernel
theorem dX11_needTotals_41 : decode cX11_needTotals 41 = .ok (.invokestatic 76, 3) := by decide +kernel
theorem dX11_needTotals_44 : decode cX11_needTotals 44 = .ok (.ifCond .ne 9, 3) := by decide +kernel
theorem dX11_needTotals_47 : decode cX11_needTotals 47 = .ok (.aload_n 0, 1) := by decide +kernel
theorem dX11_needTotals_48 : decode cX11_needTotals 48 = .ok (.iconst 5, 1) := by decide +kernel
theorem dX11_needTotals_49 : decode cX11_needTotals 49 = .ok (.invokevirtual 84, 3) := by decide +kernel
theorem dX11_needTotals_52 : decode cX11_needTotals 52 = .ok (.ireturn, 1) := by decide +kernel
theorem dX11_needTotals_53 : decode cX11_needTotals 53 = .ok (.iconst 1, 1) := by decide +kernel
theorem dX11_needTotals_54 : decode cX11_needTotals 54 = .ok (.istore_n 3, 1) := by decide +kernel
theorem dX11_needTotals_55 : decode cX11_needTotals 55 = .ok (.iconst 0, 1) := by decide +kernel
theorem dX11_needTotals_56 : decode cX11_needTotals 56 = .ok (.istore 4, 2) := by decide +kernel
theorem dX11_needTotals_58 : decode cX11_needTotals 58 = .ok (.iload 4, 2) := by decide +kernel
theorem dX11_needTotals_60 : decode cX11_needTotals 60 = .ok (.aload_n 0, 1) := by decide +kernel
theorem dX11_needTotals_61 : decode cX11_needTotals 61 = .ok (.getfield 17, 3) := by decide +kernel
theorem dX11_needTotals_64 : decode cX11_needTotals 64 = .ok (.iload_n 2, 1) := by decide +kernel
theorem dX11_needTotals_65 : decode cX11_needTotals 65 = .ok (.iaload, 1) := by decide +kernel
theorem dX11_needTotals_66 : decode cX11_needTotals 66 = .ok (.if_icmp .ge 35, 3) := by decide +kernel
theorem dX11_needTotals_69 : decode cX11_needTotals 69 = .ok (.iload_n 3, 1) := by decide +kernel
theorem dX11_needTotals_70 : decode cX11_needTotals 70 = .ok (.ifCond .eq 23, 3) := by decide +kernel
theorem dX11_needTotals_73 : decode cX11_needTotals 73 = .ok (.aload_n 0, 1) := by decide +kernel
theorem dX11_needTotals_74 : decode cX11_needTotals 74 = .ok (.iload_n 2, 1) := by decide +kernel
theorem dX11_needTotals_75 : decode cX11_needTotals 75 = .ok (.iload 4, 2) := by decide +kernel
theorem dX11_needTotals_77 : decode cX11_needTotals 77 = .ok (.invokevirtual 88, 3) := by decide +kernel
theorem dX11_needTotals_80 : decode cX11_needTotals 80 = .ok (.iconst 0, 1) := by decide +kernel
theorem dX11_needTotals_81 : decode cX11_needTotals 81 = .ok (.bipush 63, 2) := by decide +kernel
theorem dX11_needTotals_83 : decode cX11_needTotals 83 = .ok (.invokestatic 76, 3) := by decide +kernel
theorem dX11_needTotals_86 : decode cX11_needTotals 86 = .ok (.ifCond .eq 7, 3) := by decide +kernel
theorem dX11_needTotals_89 : decode cX11_needTotals 89 = .ok (.iconst 1, 1) := by decide +kernel
theorem dX11_needTotals_90 : decode cX11_needTotals 90 = .ok (.goto 4, 3) := by decide +kernel
theorem dX11_needTotals_93 : decode cX11_needTotals 93 = .ok (.iconst 0, 1) := by decide +kernel
theorem dX11_needTotals_94 : decode cX11_needTotals 94 = .ok (.istore_n 3, 1) := by decide +kernel
theorem dX11_needTotals_95 : decode cX11_needTotals 95 = .ok (.iinc 4 1, 3) := by decide +kernel
theorem dX11_needTotals_98 : decode cX11_needTotals 98 = .ok (.goto (-40), 3) := by decide +kernel
theorem dX11_needTotals_101 : decode cX11_needTotals 101 = .ok (.iload_n 3, 1) := by decide +kernel
theorem dX11_needTotals_102 : decode cX11_needTotals 102 = .ok (.ifCond .eq 7, 3) := by decide +kernel
theorem dX11_needTotals_105 : decode cX11_needTotals 105 = .ok (.iconst 0, 1) := by decide +kernel
theorem dX11_needTotals_106 : decode cX11_needTotals 106 = .ok (.goto 8, 3) := by decide +kernel
theorem dX11_needTotals_109 : decode cX11_needTotals 109 = .ok (.aload_n 0, 1) := by decide +kernel
theorem dX11_needTotals_110 : decode cX11_needTotals 110 = .ok (.iconst 3, 1) := by decide +kernel
theorem dX11_needTotals_111 : decode cX11_needTotals 111 = .ok (.invokevirtual 84, 3) := by decide +kernel
theorem dX11_needTotals_114 : decode cX11_needTotals 114 = .ok (.ireturn, 1) := by decide +kernel
theorem dX11_isSo_0 : decode cX11_isSo 0 = .ok (.aload_n 0, 1) := by decide +kernel
theorem dX11_isSo_1 : decode cX11_isSo 1 = .ok (.invokevirtual 189, 3) := by decide +kernel
theorem dX11_isSo_4 : decode cX11_isSo 4 = .ok (.iconst 1, 1) := by decide +kernel
theorem dX11_isSo_5 : decode cX11_isSo 5 = .ok (.istore_n 2, 1) := by decide +kernel
theorem dX11_isSo_6 : decode cX11_isSo 6 = .ok (.iconst 0, 1) := by decide +kernel
theorem dX11_isSo_7 : decode cX11_isSo 7 = .ok (.istore_n 3, 1) := by decide +kernel
theorem dX11_isSo_8 : decode cX11_isSo 8 = .ok (.iload_n 3, 1) := by decide +kernel
theorem dX11_isSo_9 : decode cX11_isSo 9 = .ok (.aload_n 0, 1) := by decide +kernel
theorem dX11_isSo_10 : decode cX11_isSo 10 = .ok (.getfield 17, 3) := by decide +kernel
theorem dX11_isSo_13 : decode cX11_isSo 13 = .ok (.iload_n 1, 1) := by decide +kernel
theorem dX11_isSo_14 : decode cX11_isSo 14 = .ok (.iaload, 1) := by decide +kernel
theorem dX11_isSo_15 : decode cX11_isSo 15 = .ok (.if_icmp .ge 44, 3) := by decide +kernel
theorem dX11_isSo_18 : decode cX11_isSo 18 = .ok (.aload_n 0, 1) := by decide +kernel
theorem dX11_isSo_19 : decode cX11_isSo 19 = .ok (.aload_n 0, 1) := by decide +kernel
theorem dX11_isSo_20 : decode cX11_isSo 20 = .ok (.getfield 51, 3) := by decide +kernel
theorem dX11_isSo_23 : decode cX11_isSo 23 = .ok (.invokevirtual 159, 3) := by decide +kernel
theorem dX11_isSo_26 : decode cX11_isSo 26 = .ok (.iload_n 2, 1) := by decide +kernel
theorem dX11_isSo_27 : decode cX11_isSo 27 = .ok (.ifCond .eq 24, 3) := by decide +kernel
theorem dX11_isSo_30 : decode cX11_isSo 30 = .ok (.aload_n 0, 1) := by decide +kernel
theorem dX11_isSo_31 : decode cX11_isSo 31 = .ok (.aload_n 0, 1) := by decide +kernel
theorem dX11_isSo_32 : decode cX11_isSo 32 = .ok (.getfield 51, 3) := by decide +kernel
theorem dX11_isSo_35 : decode cX11_isSo 35 = .ok (.invokevirtual 163, 3) := by decide +kernel
theorem dX11_isSo_38 : decode cX11_isSo 38 = .ok (.aload_n 0, 1) := by decide +kernel
theorem dX11_isSo_39 : decode cX11_isSo 39 = .ok (.iload_n 1, 1) := by decide +kernel
theorem dX11_isSo_40 : decode cX11_isSo 40 = .ok (.iload_n 3, 1) := by decide +kernel
theorem dX11_isSo_41 : decode cX11_isSo 41 = .ok (.invokevirtual 88, 3) := by decide +kernel
theorem dX11_isSo_44 : decode cX11_isSo 44 = .ok (.if_icmp .ne 7, 3) := by decide +kernel
theorem dX11_isSo_47 : decode cX11_isSo 47 = .ok (.iconst 1, 1) := by decide +kernel
theorem dX11_isSo_48 : decode cX11_isSo 48 = .ok (.goto 4, 3) := by decide +kernel
theorem dX11_isSo_51 : decode cX11_isSo 51 = .ok (.iconst 0, 1) := by decide +kernel
theorem dX11_isSo_52 : decode cX11_isSo 52 = .ok (.istore_n 2, 1) := by decide +kernel
theorem dX11_isSo_53 : decode cX11_isSo 53 = .ok (.iinc 3 1, 3) := by decide +kernel
theorem dX11_isSo_56 : decode cX11_isSo 56 = .ok (.goto (-48), 3) := by decide +kernel
theorem dX11_isSo_59 : decode cX11_isSo 59 = .ok (.iload_n 2, 1) := by decide +kernel
theorem dX11_isSo_60 : decode cX11_isSo 60 = .ok (.ireturn, 1) := by decide +kernel
theorem dX11_kindsBy_0 : decode cX11_kindsBy 0 = .ok (.aload_n 0, 1) := by decide +kernel
theorem dX11_kindsBy_1 : decode cX11_kindsBy 1 = .ok (.getfield 39, 3) := by decide +kernel
theorem dX11_kindsBy_4 : decode cX11_kindsBy 4 = .ok (.iload_n 1, 1) := by decide +kernel
theorem dX11_kindsBy_5 : decode cX11_kindsBy 5 = .ok (.iaload, 1) := by decide +kernel
theorem dX11_kindsBy_6 : decode cX11_kindsBy 6 = .ok (.istore_n 3, 1) := by decide +kernel
theorem dX11_kindsBy_7 : decode cX11_kindsBy 7 = .ok (.iconst 0, 1) := by decide +kernel
theorem dX11_kindsBy_8 : decode cX11_kindsBy 8 = .ok (.istore 4, 2) := by decide +kernel
theorem dX11_kindsBy_10 : decode cX11_kindsBy 10 = .ok (.iconst 0, 1) := by decide +kernel
theorem dX11_kindsBy_11 : decode cX11_kindsBy 11 = .ok (.istore 5, 2) := by decide +kernel
theorem dX11_kindsBy_13 : decode cX11_kindsBy 13 = .ok (.iload 5, 2) := by decide +kernel
theorem dX11_kindsBy_15 : decode cX11_kindsBy 15 = .ok (.bipush 6, 2) := by decide +kernel
theorem dX11_kindsBy_17 : decode cX11_kindsBy 17 = .ok (.if_icmp .ge 38, 3) := by decide +kernel
theorem dX11_kindsBy_20 : decode cX11_kindsBy 20 = .ok (.aload_n 0, 1) := by decide +kernel
theorem dX11_kindsBy_21 : decode cX11_kindsBy 21 = .ok (.getfield 39, 3) := by decide +kernel
theorem dX11_kindsBy_24 : decode cX11_kindsBy 24 = .ok (.iload_n 1, 1) := by decide +kernel
theorem dX11_kindsBy_25 : decode cX11_kindsBy 25 = .ok (.iload 5, 2) := by decide +kernel
theorem dX11_kindsBy_27 : decode cX11_kindsBy 27 = .ok (.iastore, 1) := by decide +kernel
theorem dX11_kindsBy_28 : decode cX11_kindsBy 28 = .ok (.iload 4, 2) := by decide +kernel
theorem dX11_kindsBy_30 : decode cX11_kindsBy 30 = .ok (.aload_n 0, 1) := by decide +kernel
theorem dX11_kindsBy_31 : decode cX11_kindsBy 31 = .ok (.iload_n 2, 1) := by decide +kernel
theorem dX11_kindsBy_32 : decode cX11_kindsBy 32 = .ok (.invokevirtual 206, 3) := by decide +kernel
theorem dX11_kindsBy_35 : decode cX11_kindsBy 35 = .ok (.ifCond .eq 10, 3) := by decide +kernel
theorem dX11_kindsBy_38 : decode cX11_kindsBy 38 = .ok (.iconst 1, 1) := by decide +kernel
theorem dX11_kindsBy_39 : decode cX11_kindsBy 39 = .ok (.iload 5, 2) := by decide +kernel
theorem dX11_kindsBy_41 : decode cX11_kindsBy 41 = .ok (.ishl, 1) := by decide +kernel
theorem dX11_kindsBy_42 : decode cX11_kindsBy 42 = .ok (.goto 4, 3) := by decide +kernel
theorem dX11_kindsBy_45 : decode cX11_kindsBy 45 = .ok (.iconst 0, 1) := by decide +kernel
theorem dX11_kindsBy_46 : decode cX11_kindsBy 46 = .ok (.ior, 1) := by decide +kernel
theorem dX11_kindsBy_47 : decode cX11_kindsBy 47 = .ok (.istore 4, 2) := by decide +kernel
theorem dX11_kindsBy_49 : decode cX11_kindsBy 49 = .ok (.iinc 5 1, 3) := by decide +kernel
theorem dX11_kindsBy_52 : decode cX11_kindsBy 52 = .ok (.goto (-39), 3) := by decide +kernel
theorem dX11_kindsBy_55 : decode cX11_kindsBy 55 = .ok (.aload_n 0, 1) := by decide +kernel
theorem dX11_kindsBy_56 : decode cX11_kindsBy 56 = .ok (.getfield 39, 3) := by decide +kernel
theorem dX11_kindsBy_59 : decode cX11_kindsBy 59 = .ok (.iload_n 1, 1) := by decide +kernel
theorem dX11_kindsBy_60 : decode cX11_kindsBy 60 = .ok (.iload_n 3, 1) := by decide +kernel
theorem dX11_kindsBy_61 : decode cX11_kindsBy 61 = .ok (.iastore, 1) := by decide +kernel
theorem dX11_kindsBy_62 : decode cX11_kindsBy 62 = .ok (.iload 4, 2) := by decide +kernel
theorem dX11_kindsBy_64 : decode cX11_kindsBy 64 = .ok (.ireturn, 1) := by decide +kernel
theorem dX11_kinds_0 : decode cX11_kinds 0 = .ok (.aload_n 0, 1) := by decide +kernel
theorem dX11_kinds_1 : decode cX11_kinds 1 = .ok (.iload_n 1, 1) := by decide +kernel
theorem dX11_kinds_2 : decode cX11_kinds 2 = .ok (.iload_n 2, 1) := by decide +kernel
theorem dX11_kinds_3 : decode cX11_kinds 3 = .ok (.invokevirtual 209, 3) := by decide +kernel
theorem dX11_kinds_6 : decode cX11_kinds 6 = .ok (.istore_n 3, 1) := by decide +kernel
theorem dX11_kinds_7 : decode cX11_kinds 7 = .ok (.iload_n 3, 1) := by decide +kernel
theorem dX11_kinds_8 : decode cX11_kinds 8 = .ok (.ifCond .ge 7, 3) := by decide +kernel
theorem dX11_kinds_11 : decode cX11_kinds 11 = .ok (.iload_n 3, 1) := by decide +kernel
theorem dX11_kinds_12 : decode cX11_kinds 12 = .ok (.goto 9, 3) := by decide +kernel
theorem dX11_kinds_15 : decode cX11_kinds 15 = .ok (.aload_n 0, 1) := by decide +kernel
theorem dX11_kinds_16 : decode cX11_kinds 16 = .ok (.iload_n 1, 1) := by decide +kernel
theorem dX11_kinds_17 : decode cX11_kinds 17 = .ok (.iload_n 2, 1) := by decide +kernel
theorem dX11_kinds_18 : decode cX11_kinds 18 = .ok (.invokevirtual 212, 3) := by decide +kernel
theorem dX11_kinds_21 : decode cX11_kinds 21 = .ok (.ireturn, 1) := by decide +kernel
theorem dX11_highs_0 : decode cX11_highs 0 = .ok (.aload_n 0, 1) := by decide +kernel
theorem dX11_highs_1 : decode cX11_highs 1 = .ok (.iload_n 1, 1) := by decide +kernel
theorem dX11_highs_2 : decode cX11_highs 2 = .ok (.iload_n 2, 1) := by decide +kernel
theorem dX11_highs_3 : decode cX11_highs 3 = .ok (.invokevirtual 209, 3) := by decide +kernel
theorem dX11_highs_6 : decode cX11_highs 6 = .ok (.istore_n 3, 1) := by decide +kernel
theorem dX11_highs_7 : decode cX11_highs 7 = .ok (.iload_n 3, 1) := by decide +kernel
theorem dX11_highs_8 : decode cX11_highs 8 = .ok (.ifCond .ge 5, 3) := by decide +kernel
theorem dX11_highs_11 : decode cX11_highs 11 = .ok (.iload_n 3, 1) := by decide +kernel
theorem dX11_highs_12 : decode cX11_highs 12 = .ok (.ireturn, 1) := by decide +kernel
theorem dX11_highs_13 : decode cX11_highs 13 = .ok (.aload_n 0, 1) := by decide +kernel
theorem dX11_highs_14 : decode cX11_highs 14 = .ok (.getfield 42, 3) := by decide +kernel
theorem dX11_highs_17 : decode cX11_highs 17 = .ok (.iload_n 1, 1) := by decide +kernel
theorem dX11_highs_18 : decode cX11_highs 18 = .ok (.iaload, 1) := by decide +kernel
theorem dX11_highs_19 : decode cX11_highs 19 = .ok (.istore 4, 2) := by decide +kernel
theorem dX11_highs_21 : decode cX11_highs 21 = .ok (.iconst 0, 1) := by decide +kernel
theorem dX11_highs_22 : decode cX11_highs 22 = .ok (.istore 5, 2) := by decide +kernel
theorem dX11_highs_24 : decode cX11_highs 24 = .ok (.iconst 0, 1) := by decide +kernel
theorem dX11_highs_25 : decode cX11_highs 25 = .ok (.istore 6, 2) := by decide +kernel
theorem dX11_highs_27 : decode cX11_highs 27 = .ok (.iload 6, 2) := by decide +kernel
theorem dX11_highs_29 : decode cX11_highs 29 = .ok (.bipush 9, 2) := by decide +kernel
theorem dX11_highs_31 : decode cX11_highs 31 = .ok (.if_icmp .gt 38, 3) := by decide +kernel
theorem dX11_highs_34 : decode cX11_highs 34 = .ok (.aload_n 0, 1) := by decide +kernel
theorem dX11_highs_35 : decode cX11_highs 35 = .ok (.getfield 42, 3) := by decide +kernel
theorem dX11_highs_38 : decode cX11_highs 38 = .ok (.iload_n 1, 1) := by decide +kernel
theorem dX11_highs_39 : decode cX11_highs 39 = .ok (.iload 6, 2) := by decide +kernel
theorem dX11_highs_41 : decode cX11_highs 41 = .ok (.iastore, 1) := by decide +kernel
theorem dX11_highs_42 : decode cX11_highs 42 = .ok (.iload 5, 2) := by decide +kernel
theorem dX11_highs_44 : decode cX11_highs 44 = .ok (.aload_n 0, 1) := by decide +kernel
theorem dX11_highs_45 : decode cX11_highs 45 = .ok (.iload_n 2, 1) := by decide +kernel
theorem dX11_highs_46 : decode cX11_highs 46 = .ok (.invokevirtual 206, 3) := by decide +kernel
theorem dX11_highs_49 : decode cX11_highs 49 = .ok (.ifCond .eq 10, 3) := by decide +kernel
theorem dX11_highs_52 : decode cX11_highs 52 = .ok (.iconst 1, 1) := by decide +kernel
theorem dX11_highs_53 : decode cX11_highs 53 = .ok (.iload 6, 2) := by decide +kernel
theorem dX11_highs_55 : decode cX11_highs 55 = .ok (.ishl, 1) := by decide +kernel
theorem dX11_highs_56 : decode cX11_highs 56 = .ok (.goto 4, 3) := by decide +kernel
theorem dX11_highs_59 : decode cX11_highs 59 = .ok (.iconst 0, 1) := by decide +kernel
theorem dX11_highs_60 : decode cX11_highs 60 = .ok (.ior, 1) := by decide +kernel
theorem dX11_highs_61 : decode cX11_highs 61 = .ok (.istore 5, 2) := by decide +kernel
theorem dX11_highs_63 : decode cX11_highs 63 = .ok (.iinc 6 1, 3) := by decide +kernel
theorem dX11_highs_66 : decode cX11_highs 66 = .ok (.goto (-39), 3) := by decide +kernel
theorem dX11_highs_69 : decode cX11_highs 69 = .ok (.aload_n 0, 1) := by decide +kernel
theorem dX11_highs_70 : decode cX11_highs 70 = .ok (.getfield 42, 3) := by decide +kernel
theorem dX11_highs_73 : decode cX11_highs 73 = .ok (.iload_n 1, 1) := by decide +kernel
theorem dX11_highs_74 : decode cX11_highs 74 = .ok (.iload 4, 2) := by decide +kernel
theorem dX11_highs_76 : decode cX11_highs 76 = .ok (.iastore, 1) := by decide +kernel
theorem dX11_highs_77 : decode cX11_highs 77 = .ok (.iload 5, 2) := by decide +kernel
theorem dX11_highs_79 : decode cX11_highs 79 = .ok (.ireturn, 1) := by decide +kernel
theorem dX11_allAs_0 : decode cX11_allAs 0 = .ok (.aload_n 0, 1) := by decide +kernel
theorem dX11_allAs_1 : decode cX11_allAs 1 = .ok (.getfield 39, 3) := by decide +kernel
theorem dX11_allAs_4 : decode cX11_allAs 4 = .ok (.iload_n 1, 1) := by decide +kernel
theorem dX11_allAs_5 : decode cX11_allAs 5 = .ok (.iaload, 1) := by decide +kernel
theorem dX11_allAs_6 : decode cX11_allAs 6 = .ok (.istore 4, 2) := by decide +kernel
theorem dX11_allAs_8 : decode cX11_allAs 8 = .ok (.aload_n 0, 1) := by decide +kernel
theorem dX11_allAs_9 : decode cX11_allAs 9 = .ok (.getfield 39, 3) := by decide +kernel
theorem dX11_allAs_12 : decode cX11_allAs 12 = .ok (.iload_n 1, 1) := by decide +kernel
theorem dX11_allAs_13 : decode cX11_allAs 13 = .ok (.iload_n 2, 1) := by decide +kernel
theorem dX11_allAs_14 : decode cX11_allAs 14 = .ok (.iastore, 1) := by decide +kernel
theorem dX11_allAs_15 : decode cX11_allAs 15 = .ok (.aload_n 0, 1) := by decide +kernel
theorem dX11_allAs_16 : decode cX11_allAs 16 = .ok (.invokevirtual 189, 3) := by decide +kernel
theorem dX11_allAs_19 : decode cX11_allAs 19 = .ok (.aload_n 0, 1) := by decide +kernel
theorem dX11_allAs_20 : decode cX11_allAs 20 = .ok (.iload_n 3, 1) := by decide +kernel
theorem dX11_allAs_21 : decode cX11_allAs 21 = .ok (.invokevirtual 192, 3) := by decide +kernel
theorem dX11_allAs_24 : decode cX11_allAs 24 = .ok (.istore 5, 2) := by decide +kernel
theorem dX11_allAs_26 : decode cX11_allAs 26 = .ok (.aload_n 0, 1) := by decide +kernel
theorem dX11_allAs_27 : decode cX11_allAs 27 = .ok (.getfield 39, 3) := by decide +kernel
theorem dX11_allAs_30 : decode cX11_allAs 30 = .ok (.iload_n 1, 1) := by decide +kernel
theorem dX11_allAs_31 : decode cX11_allAs 31 = .ok (.iload 4, 2) := by decide +kernel
theorem dX11_allAs_33 : decode cX11_allAs 33 = .ok (.iastore, 1) := by decide +kernel
theorem dX11_allAs_34 : decode cX11_allAs 34 = .ok (.iload 5, 2) := by decide +kernel
theorem dX11_allAs_36 : decode cX11_allAs 36 = .ok (.ireturn, 1) := by decide +kernel
theorem dX11_test_0 : decode cX11_test 0 = .ok (.aload_n 0, 1) := by decide +kernel
theorem dX11_test_1 : decode cX11_test 1 = .ok (.iload_n 1, 1) := by decide +kernel
theorem dX11_test_2 : decode cX11_test 2 = .ok (.iload_n 2, 1) := by decide +kernel
theorem dX11_test_3 : decode cX11_test 3 = .ok (.invokevirtual 209, 3) := by decide +kernel
theorem dX11_test_6 : decode cX11_test 6 = .ok (.istore_n 3, 1) := by decide +kernel
theorem dX11_test_7 : decode cX11_test 7 = .ok (.iload_n 3, 1) := by decide +kernel
theorem dX11_test_8 : decode cX11_test 8 = .ok (.ifCond .ge 5, 3) := by decide +kernel
theorem dX11_test_11 : decode cX11_test 11 = .ok (.iload_n 3, 1) := by decide +kernel
theorem dX11_test_12 : decode cX11_test 12 = .ok (.ireturn, 1) := by decide +kernel
theorem dX11_test_13 : decode cX11_test 13 = .ok (.aload_n 0, 1) := by decide +kernel
theorem dX11_test_14 : decode cX11_test 14 = .ok (.iload_n 1, 1) := by decide +kernel
theorem dX11_test_15 : decode cX11_test 15 = .ok (.iload_n 2, 1) := by decide +kernel
theorem dX11_test_16 : decode cX11_test 16 = .ok (.invokevirtual 212, 3) := by decide +kernel
theorem dX11_test_19 : decode cX11_test 19 = .ok (.istore 4, 2) := by decide +kernel
theorem dX11_test_21 : decode cX11_test 21 = .ok (.bipush (-9), 2) := by decide +kernel
theorem dX11_test_23 : decode cX11_test 23 = .ok (.istore 5, 2) := by decide +kernel
theorem dX11_test_25 : decode cX11_test 25 = .ok (.bipush 7, 2) := by decide +kernel
theorem dX11_test_27 : decode cX11_test 27 = .ok (.istore 6, 2) := by decide +kernel
theorem dX11_test_29 : decode cX11_test 29 = .ok (.iconst 1, 1) := by decide +kernel
theorem dX11_test_30 : decode cX11_test 30 = .ok (.istore 7, 2) := by decide +kernel
theorem dX11_test_32 : decode cX11_test 32 = .ok (.iload 7, 2) := by decide +kernel
theorem dX11_test_34 : decode cX11_test 34 = .ok (.bipush 20, 2) := by decide +kernel
theorem dX11_test_36 : decode cX11_test 36 = .ok (.if_icmp .gt 151, 3) := by decide +kernel
theorem dX11_test_39 : decode cX11_test 39 = .ok (.iload 4, 2) := by decide +kernel
theorem dX11_test_41 : decode cX11_test 41 = .ok (.ifCond .eq 146, 3) := by decide +kernel
theorem dX11_test_44 : decode cX11_test 44 = .ok (.iconst 0, 1) := by decide +kernel
theorem dX11_test_45 : decode cX11_test 45 = .ok (.istore 8, 2) := by decide +kernel
theorem dX11_test_47 : decode cX11_test 47 = .ok (.iconst 0, 1) := by decide +kernel
theorem dX11_test_48 : decode cX11_test 48 = .ok (.istore 9, 2) := by decide +kernel
theorem dX11_test_50 : decode cX11_test 50 = .ok (.iload 9, 2) := by decide +kernel
theorem dX11_test_52 : decode cX11_test 52 = .ok (.bipush 6, 2) := by decide +kernel
theorem dX11_test_54 : decode cX11_test 54 = .ok (.if_icmp .ge 95, 3) := by decide +kernel
theorem dX11_test_57 : decode cX11_test 57 = .ok (.iconst 0, 1) := by decide +kernel
theorem dX11_test_58 : decode cX11_test 58 = .ok (.istore 10, 2) := by decide +kernel
theorem dX11_test_60 : decode cX11_test 60 = .ok (.iconst 0, 1) := by decide +kernel
theorem dX11_test_61 : decode cX11_test 61 = .ok (.istore 11, 2) := by decide +kernel
theorem dX11_test_63 : decode cX11_test 63 = .ok (.iload 11, 2) := by decide +kernel
theorem dX11_test_65 : decode cX11_test 65 = .ok (.bipush 6, 2) := by decide +kernel
theorem dX11_test_67 : decode cX11_test 67 = .ok (.if_icmp .ge 60, 3) := by decide +kernel
theorem dX11_test_70 : decode cX11_test 70 = .ok (.iload 4, 2) := by decide +kernel
theorem dX11_test_72 : decode cX11_test 72 = .ok (.iload 9, 2) := by decide +kernel
theorem dX11_test_74 : decode cX11_test 74 = .ok (.invokestatic 215, 3) := by decide +kernel
theorem dX11_test_77 : decode cX11_test 77 = .ok (.ifCond .eq 50, 3) := by decide +kernel
theorem dX11_test_80 : decode cX11_test 80 = .ok (.iload 10, 2) := by decide +kernel
theorem dX11_test_82 : decode cX11_test 82 = .ok (.iload 4, 2) := by decide +kernel
theorem dX11_test_84 : decode cX11_test 84 = .ok (.iload 11, 2) := by decide +kernel
theorem dX11_test_86 : decode cX11_test 86 = .ok (.invokestatic 215, 3) := by decide +kernel
theorem dX11_test_89 : decode cX11_test 89 = .ok (.ifCond .eq 28, 3) := by decide +kernel
theorem dX11_test_92 : decode cX11_test 92 = .ok (.aload_n 0, 1) := by decide +kernel
theorem dX11_test_93 : decode cX11_test 93 = .ok (.iload_n 1, 1) := by decide +kernel
theorem dX11_test_94 : decode cX11_test 94 = .ok (.iload 9, 2) := by decide +kernel
theorem dX11_test_96 : decode cX11_test 96 = .ok (.iload 7, 2) := by decide +kernel
theorem dX11_test_98 : decode cX11_test 98 = .ok (.invokevirtual 218, 3) := by decide +kernel
theorem dX11_test_101 : decode cX11_test 101 = .ok (.aload_n 0, 1) := by decide +kernel
theorem dX11_test_102 : decode cX11_test 102 = .ok (.iload_n 1, 1) := by decide +kernel
theorem dX11_test_103 : decode cX11_test 103 = .ok (.iload 11, 2) := by decide +kernel
theorem dX11_test_105 : decode cX11_test 105 = .ok (.iload 7, 2) := by decide +kernel
theorem dX11_test_107 : decode cX11_test 107 = .ok (.invokevirtual 218, 3) := by decide +kernel
theorem dX11_test_110 : decode cX11_test 110 = .ok (.if_icmp .ne 7, 3) := by decide +kernel
theorem dX11_test_113 : decode cX11_test 113 = .ok (.iconst 1, 1) := by decide +kernel
theorem dX11_test_114 : decode cX11_test 114 = .ok (.goto 4, 3) := by decide +kernel
theorem dX11_test_117 : decode cX11_test 117 = .ok (.iconst 0, 1) := by decide +kernel
theorem dX11_test_118 : decode cX11_test 118 = .ok (.iadd, 1) := by decide +kernel
theorem dX11_test_119 : decode cX11_test 119 = .ok (.istore 10, 2) := by decide +kernel
theorem dX11_test_121 : decode cX11_test 121 = .ok (.iinc 11 1, 3) := by decide +kernel
theorem dX11_test_124 : decode cX11_test 124 = .ok (.goto (-61), 3) := by decide +kernel
theorem dX11_test_127 : decode cX11_test 127 = .ok (.iload 10, 2) := by decide +kernel
theorem dX11_test_129 : decode cX11_test 129 = .ok (.iload 8, 2) := by decide +kernel
theorem dX11_test_131 : decode cX11_test 131 = .ok (.if_icmp .le 8, 3) := by decide +kernel
theorem dX11_test_134 : decode cX11_test 134 = .ok (.iload 10, 2) := by decide +kernel
theorem dX11_test_136 : decode cX11_test 136 = .ok (.goto 5, 3) := by decide +kernel
theorem dX11_test_139 : decode cX11_test 139 = .ok (.iload 8, 2) := by decide +kernel
theorem dX11_test_141 : decode cX11_test 141 = .ok (.istore 8, 2) := by decide +kernel
theorem dX11_test_143 : decode cX11_test 143 = .ok (.iinc 9 1, 3) := by decide +kernel
theorem dX11_test_146 : decode cX11_test 146 = .ok (.goto (-96), 3) := by decide +kernel
theorem dX11_test_149 : decode cX11_test 149 = .ok (.iload 8, 2) := by decide +kernel
theorem dX11_test_151 : decode cX11_test 151 = .ok (.iload 6, 2) := by decide +kernel
theorem dX11_test_153 : decode cX11_test 153 = .ok (.if_icmp .ge 8, 3) := by decide +kernel
theorem dX11_test_156 : decode cX11_test 156 = .ok (.iload 7, 2) := by decide +kernel
theorem dX11_test_158 : decode cX11_test 158 = .ok (.goto 5, 3) := by decide +kernel
theorem dX11_test_161 : decode cX11_test 161 = .ok (.iload 5, 2) := by decide +kernel
theorem dX11_test_163 : decode cX11_test 163 = .ok (.istore 5, 2) := by decide +kernel
theorem dX11_test_165 : decode cX11_test 165 = .ok (.iload 8, 2) := by decide +kernel
theorem dX11_test_167 : decode cX11_test 167 = .ok (.iload 6, 2) := by decide +kernel
theorem dX11_test_169 : decode cX11_test 169 = .ok (.if_icmp .ge 8, 3) := by decide +kernel
theorem dX11_test_172 : decode cX11_test 172 = .ok (.iload 8, 2) := by decide +kernel
theorem dX11_test_174 : decode cX11_test 174 = .ok (.goto 5, 3) := by decide +kernel
theorem dX11_test_177 : decode cX11_test 177 = .ok (.iload 6, 2) := by decide +kernel
theorem dX11_test_179 : decode cX11_test 179 = .ok (.istore 6, 2) := by decide +kernel
theorem dX11_test_181 : decode cX11_test 181 = .ok (.iinc 7 1, 3) := by decide +kernel
theorem dX11_test_184 : decode cX11_test 184 = .ok (.goto (-152), 3) := by decide +kernel
theorem dX11_test_187 : decode cX11_test 187 = .ok (.iload 5, 2) := by decide +kernel
theorem dX11_test_189 : decode cX11_test 189 = .ok (.bipush (-9), 2) := by decide +kernel
theorem dX11_test_191 : decode cX11_test 191 = .ok (.if_icmp .ne 8, 3) := by decide +kernel
theorem dX11_test_194 : decode cX11_test 194 = .ok (.bipush (-9), 2) := by decide +kernel
theorem dX11_test_196 : decode cX11_test 196 = .ok (.goto 11, 3) := by decide +kernel
theorem dX11_test_199 : decode cX11_test 199 = .ok (.aload_n 0, 1) := by decide +kernel
theorem dX11_test_200 : decode cX11_test 200 = .ok (.iload 6, 2) := by decide +kernel
theorem dX11_test_202 : decode cX11_test 202 = .ok (.iload 5, 2) := by decide +kernel
theorem dX11_test_204 : decode cX11_test 204 = .ok (.invokevirtual 92, 3) := by decide +kernel
theorem dX11_test_207 : decode cX11_test 207 = .ok (.ireturn, 1) := by decide +kernel
theorem dX11_moves_0 : decode cX11_moves 0 = .ok (.iload_n 1, 1) := by decide +kernel
theorem dX11_moves_1 : decode cX11_moves 1 = .ok (.iconst 5, 1) := by decide +kernel
theorem dX11_moves_2 : decode cX11_moves 2 = .ok (.if_icmp .ge 31, 3) := by decide +kernel
theorem dX11_moves_5 : decode cX11_moves 5 = .ok (.aload_n 0, 1) := by decide +kernel
theorem dX11_moves_6 : decode cX11_moves 6 = .ok (.getfield 51, 3) := by decide +kernel
theorem dX11_moves_9 : decode cX11_moves 9 = .ok (.iconst 1, 1) := by decide +kernel
theorem dX11_moves_10 : decode cX11_moves 10 = .ok (.iload_n 1, 1) := by decide +kernel
theorem dX11_moves_11 : decode cX11_moves 11 = .ok (.iadd, 1) := by decide +kernel
theorem dX11_moves_12 : decode cX11_moves 12 = .ok (.iload_n 2, 1) := by decide +kernel
theorem dX11_moves_13 : decode cX11_moves 13 = .ok (.ifCond .eq 18, 3) := by decide +kernel
theorem dX11_moves_16 : decode cX11_moves 16 = .ok (.aload_n 0, 1) := by decide +kernel
theorem dX11_moves_17 : decode cX11_moves 17 = .ok (.getfield 51, 3) := by decide +kernel
theorem dX11_moves_20 : decode cX11_moves 20 = .ok (.iconst 1, 1) := by decide +kernel
theorem dX11_moves_21 : decode cX11_moves 21 = .ok (.iload_n 1, 1) := by decide +kernel
theorem dX11_moves_22 : decode cX11_moves 22 = .ok (.iadd, 1) := by decide +kernel
theorem dX11_moves_23 : decode cX11_moves 23 = .ok (.iaload, 1) := by decide +kernel
theorem dX11_moves_24 : decode cX11_moves 24 = .ok (.iconst 1, 1) := by decide +kernel
theorem dX11_moves_25 : decode cX11_moves 25 = .ok (.invokestatic 182, 3) := by decide +kernel
theorem dX11_moves_28 : decode cX11_moves 28 = .ok (.goto 4, 3) := by decide +kernel
theorem dX11_moves_31 : decode cX11_moves 31 = .ok (.iconst 0, 1) := by decide +kernel
theorem dX11_moves_32 : decode cX11_moves 32 = .ok (.iastore, 1) := by decide +kernel
theorem dX11_moves_33 : decode cX11_moves 33 = .ok (.return_, 1) := by decide +kernel
theorem dX11_behindTurns_0 : decode cX11_behindTurns 0 = .ok (.aload_n 0, 1) := by decide +kernel
theorem dX11_behindTurns_1 : decode cX11_behindTurns 1 = .ok (.invokevirtual 189, 3) := by decide +kernel
theorem dX11_behindTurns_4 : decode cX11_behindTurns 4 = .ok (.iload_n 2, 1) := by decide +kernel
theorem dX11_behindTurns_5 : decode cX11_behindTurns 5 = .ok (.istore_n 3, 1) := by decide +kernel
theorem dX11_behindTurns_6 : decode cX11_behindTurns 6 = .ok (.iconst 0, 1) := by decide +kernel
theorem dX11_behindTurns_7 : decode cX11_behindTurns 7 = .ok (.istore 4, 2) := by decide +kernel
theorem dX11_behindTurns_9 : decode cX11_behindTurns 9 = .ok (.iload 4, 2) := by decide +kernel
theorem dX11_behindTurns_11 : decode cX11_behindTurns 11 = .ok (.iload_n 1, 1) := by decide +kernel
theorem dX11_behindTurns_12 : decode cX11_behindTurns 12 = .ok (.if_icmp .ge 34, 3) := by decide +kernel
theorem dX11_behindTurns_15 : decode cX11_behindTurns 15 = .ok (.aload_n 0, 1) := by decide +kernel
theorem dX11_behindTurns_16 : decode cX11_behindTurns 16 = .ok (.iload_n 3, 1) := by decide +kernel
theorem dX11_behindTurns_17 : decode cX11_behindTurns 17 = .ok (.bipush 6, 2) := by decide +kernel
theorem dX11_behindTurns_19 : decode cX11_behindTurns 19 = .ok (.irem, 1) := by decide +kernel
theorem dX11_behindTurns_20 : decode cX11_behindTurns 20 = .ok (.iload 4, 2) := by decide +kernel
theorem dX11_behindTurns_22 : decode cX11_behindTurns 22 = .ok (.iconst 2, 1) := by decide +kernel
theorem dX11_behindTurns_23 : decode cX11_behindTurns 23 = .ok (.irem, 1) := by decide +kernel
theorem dX11_behindTurns_24 : decode cX11_behindTurns 24 = .ok (.ifCond .ne 7, 3) := by decide +kernel
theorem dX11_behindTurns_27 : decode cX11_behindTurns 27 = .ok (.iconst 1, 1) := by decide +kernel
theorem dX11_behindTurns_28 : decode cX11_behindTurns 28 = .ok (.goto 4, 3) := by decide +kernel
theorem dX11_behindTurns_31 : decode cX11_behindTurns 31 = .ok (.iconst 0, 1) := by decide +kernel
theorem dX11_behindTurns_32 : decode cX11_behindTurns 32 = .ok (.invokevirtual 221, 3) := by decide +kernel
theorem dX11_behindTurns_35 : decode cX11_behindTurns 35 = .ok (.iload_n 3, 1) := by decide +kernel
theorem dX11_behindTurns_36 : decode cX11_behindTurns 36 = .ok (.bipush 6, 2) := by decide +kernel
theorem dX11_behindTurns_38 : decode cX11_behindTurns 38 = .ok (.idiv, 1) := by decide +kernel
theorem dX11_behindTurns_39 : decode cX11_behindTurns 39 = .ok (.istore_n 3, 1) := by decide +kernel
theorem dX11_behindTurns_40 : decode cX11_behindTurns 40 = .ok (.iinc 4 1, 3) := by decide +kernel
theorem dX11_behindTurns_43 : decode cX11_behindTurns 43 = .ok (.goto (-34), 3) := by decide +kernel
theorem dX11_behindTurns_46 : decode cX11_behindTurns 46 = .ok (.aload_n 0, 1) := by decide +kernel
theorem dX11_behindTurns_47 : decode cX11_behindTurns 47 = .ok (.bipush 6, 2) := by decide +kernel
theorem dX11_behindTurns_49 : decode cX11_behindTurns 49 = .ok (.invokevirtual 192, 3) := by decide +kernel
theorem dX11_behindTurns_52 : decode cX11_behindTurns 52 = .ok (.ireturn, 1) := by decide +kernel
theorem dX11_duel_0 : decode cX11_duel 0 = .ok (.aload_n 0, 1) := by decide +kernel
theorem dX11_duel_1 : decode cX11_duel 1 = .ok (.iload_n 1, 1) := by decide +kernel
theorem dX11_duel_2 : decode cX11_duel 2 = .ok (.iconst 0, 1) := by decide +kernel
theorem dX11_duel_3 : decode cX11_duel 3 = .ok (.iconst 3, 1) := by decide +kernel
theorem dX11_duel_4 : decode cX11_duel 4 = .ok (.invokestatic 76, 3) := by decide +kernel
theorem dX11_duel_7 : decode cX11_duel 7 = .ok (.invokevirtual 195, 3) := by decide +kernel
theorem dX11_duel_10 : decode cX11_duel 10 = .ok (.istore_n 2, 1) := by decide +kernel
theorem dX11_duel_11 : decode cX11_duel 11 = .ok (.iload_n 2, 1) := by decide +kernel
theorem dX11_duel_12 : decode cX11_duel 12 = .ok (.ifCond .ge 5, 3) := by decide +kernel
theorem dX11_duel_15 : decode cX11_duel 15 = .ok (.iload_n 2, 1) := by decide +kernel
theorem dX11_duel_16 : decode cX11_duel 16 = .ok (.ireturn, 1) := by decide +kernel
theorem dX11_duel_17 : decode cX11_duel 17 = .ok (.iconst 1, 1) := by decide +kernel
theorem dX11_duel_18 : decode cX11_duel 18 = .ok (.istore_n 3, 1) := by decide +kernel
theorem dX11_duel_19 : decode cX11_duel 19 = .ok (.iconst 0, 1) := by decide +kernel
theorem dX11_duel_20 : decode cX11_duel 20 = .ok (.istore 4, 2) := by decide +kernel
theorem dX11_duel_22 : decode cX11_duel 22 = .ok (.iload 4, 2) := by decide +kernel
theorem dX11_duel_24 : decode cX11_duel 24 = .ok (.iload_n 1, 1) := by decide +kernel
theorem dX11_duel_25 : decode cX11_duel 25 = .ok (.if_icmp .ge 14, 3) := by decide +kernel
theorem dX11_duel_28 : decode cX11_duel 28 = .ok (.iload_n 3, 1) := by decide +kernel
theorem dX11_duel_29 : decode cX11_duel 29 = .ok (.bipush 6, 2) := by decide +kernel
theorem dX11_duel_31 : decode cX11_duel 31 = .ok (.imul, 1) := by decide +kernel
theorem dX11_duel_32 : decode cX11_duel 32 = .ok (.istore_n 3, 1) := by decide +kernel
theorem dX11_duel_33 : decode cX11_duel 33 = .ok (.iinc 4 1, 3) := by decide +kernel
theorem dX11_duel_36 : decode cX11_duel 36 = .ok (.goto (-14), 3) := by decide +kernel
theorem dX11_duel_39 : decode cX11_duel 39 = .ok (.iconst 0, 1) := by decide +kernel
theorem dX11_duel_40 : decode cX11_duel 40 = .ok (.istore 4, 2) := by decide +kernel
theorem dX11_duel_42 : decode cX11_duel 42 = .ok (.iload 4, 2) := by decide +kernel
theorem dX11_duel_44 : decode cX11_duel 44 = .ok (.iload_n 3, 1) := by decide +kernel
theorem dX11_duel_45 : decode cX11_duel 45 = .ok (.if_icmp .ge 23, 3) := by decide +kernel
theorem dX11_duel_48 : decode cX11_duel 48 = .ok (.aload_n 0, 1) := by decide +kernel
theorem dX11_duel_49 : decode cX11_duel 49 = .ok (.getfield 63, 3) := by decide +kernel
theorem dX11_duel_52 : decode cX11_duel 52 = .ok (.iload 4, 2) := by decide +kernel
theorem dX11_duel_54 : decode cX11_duel 54 = .ok (.aload_n 0, 1) := by decide +kernel
theorem dX11_duel_55 : decode cX11_duel 55 = .ok (.iload_n 1, 1) := by decide +kernel
theorem dX11_duel_56 : decode cX11_duel 56 = .ok (.iload 4, 2) := by decide +kernel
theorem dX11_duel_58 : decode cX11_duel 58 = .ok (.invokevirtual 225, 3) := by decide +kernel
theorem dX11_duel_61 : decode cX11_duel 61 = .ok (.iastore, 1) := by decide +kernel
theorem dX11_duel_62 : decode cX11_duel 62 = .ok (.iinc 4 1, 3) := by decide +kernel
theorem dX11_duel_65 : decode cX11_duel 65 = .ok (.goto (-23), 3) := by decide +kernel
theorem dX11_duel_68 : decode cX11_duel 68 = .ok (.iload_n 1, 1) := by decide +kernel
theorem dX11_duel_69 : decode cX11_duel 69 = .ok (.iconst 1, 1) := by decide +kernel
theorem dX11_duel_70 : decode cX11_duel 70 = .ok (.isub, 1) := by decide +kernel
theorem dX11_duel_71 : decode cX11_duel 71 = .ok (.istore 4, 2) := by decide +kernel
theorem dX11_duel_73 : decode cX11_duel 73 = .ok (.iload 4, 2) := by decide +kernel
theorem dX11_duel_75 : decode cX11_duel 75 = .ok (.ifCond .lt 117, 3) := by decide +kernel
theorem dX11_duel_78 : decode cX11_duel 78 = .ok (.iload_n 3, 1) := by decide +kernel
theorem dX11_duel_79 : decode cX11_duel 79 = .ok (.bipush 6, 2) := by decide +kernel
theorem dX11_duel_81 : decode cX11_duel 81 = .ok (.idiv, 1) := by decide +kernel
theorem dX11_duel_82 : decode cX11_duel 82 = .ok (.istore_n 3, 1) := by decide +kernel
theorem dX11_duel_83 : decode cX11_duel 83 = .ok (.iconst 0, 1) := by decide +kernel
theorem dX11_duel_84 : decode cX11_duel 84 = .ok (.istore 5, 2) := by decide +kernel
theorem dX11_duel_86 : decode cX11_duel 86 = .ok (.iload 5, 2) := by decide +kernel
theorem dX11_duel_88 : decode cX11_duel 88 = .ok (.iload_n 3, 1) := by decide +kernel
theorem dX11_duel_89 : decode cX11_duel 89 = .ok (.if_icmp .ge 97, 3) := by decide +kernel
theorem dX11_duel_92 : decode cX11_duel 92 = .ok (.aload_n 0, 1) := by decide +kernel
theorem dX11_duel_93 : decode cX11_duel 93 = .ok (.getfield 63, 3) := by decide +kernel
theorem dX11_duel_96 : decode cX11_duel 96 = .ok (.iload 5, 2) := by decide +kernel
theorem dX11_duel_98 : decode cX11_duel 98 = .ok (.iaload, 1) := by decide +kernel
theorem dX11_duel_99 : decode cX11_duel 99 = .ok (.istore 6, 2) := by decide +kernel
theorem dX11_duel_101 : decode cX11_duel 101 = .ok (.iconst 1, 1) := by decide +kernel
theorem dX11_duel_102 : decode cX11_duel 102 = .ok (.istore 7, 2) := by decide +kernel
theorem dX11_duel_104 : decode cX11_duel 104 = .ok (.iload 7, 2) := by decide +kernel
theorem dX11_duel_106 : decode cX11_duel 106 = .ok (.bipush 6, 2) := by decide +kernel
theorem dX11_duel_108 : decode cX11_duel 108 = .ok (.if_icmp .ge 63, 3) := by decide +kernel
theorem dX11_duel_111 : decode cX11_duel 111 = .ok (.aload_n 0, 1) := by decide +kernel
theorem dX11_duel_112 : decode cX11_duel 112 = .ok (.getfield 63, 3) := by decide +kernel
theorem dX11_duel_115 : decode cX11_duel 115 = .ok (.iload 5, 2) := by decide +kernel
theorem dX11_duel_117 : decode cX11_duel 117 = .ok (.iload_n 3, 1) := by decide +kernel
theorem dX11_duel_118 : decode cX11_duel 118 = .ok (.iload 7, 2) := by decide +kernel
theorem dX11_duel_120 : decode cX11_duel 120 = .ok (.imul, 1) := by decide +kernel
theorem dX11_duel_121 : decode cX11_duel 121 = .ok (.iadd, 1) := by decide +kernel
theorem dX11_duel_122 : decode cX11_duel 122 = .ok (.iaload, 1) := by decide +kernel
theorem dX11_duel_123 : decode cX11_duel 123 = .ok (.istore 8, 2) := by decide +kernel
theorem dX11_duel_125 : decode cX11_duel 125 = .ok (.iload 4, 2) := by decide +kernel
theorem dX11_duel_127 : decode cX11_duel 127 = .ok (.iconst 2, 1) := by decide +kernel
theorem dX11_duel_128 : decode cX11_duel 128 = .ok (.irem, 1) := by decide +kernel
theorem dX11_duel_129 : decode cX11_duel 129 = .ok (.ifCond .ne 20, 3) := by decide +kernel
theorem dX11_duel_132 : decode cX11_duel 132 = .ok (.iload 8, 2) := by decide +kernel
theorem dX11_duel_134 : decode cX11_duel 134 = .ok (.iload 6, 2) := by decide +kernel
theorem dX11_duel_136 : decode cX11_duel 136 = .ok (.if_icmp .ge 8, 3) := by decide +kernel
theorem dX11_duel_139 : decode cX11_duel 139 = .ok (.iload 8, 2) := by decide +kernel
theorem dX11_duel_141 : decode cX11_duel 141 = .ok (.goto 22, 3) := by decide +kernel
theorem dX11_duel_144 : decode cX11_duel 144 = .ok (.iload 6, 2) := by decide +kernel
theorem dX11_duel_146 : decode cX11_duel 146 = .ok (.goto 17, 3) := by decide +kernel
theorem dX11_duel_149 : decode cX11_duel 149 = .ok (.iload 8, 2) := by decide +kernel
theorem dX11_duel_151 : decode cX11_duel 151 = .ok (.iload 6, 2) := by decide +kernel
theorem dX11_duel_153 : decode cX11_duel 153 = .ok (.if_icmp .le 8, 3) := by decide +kernel
theorem dX11_duel_156 : decode cX11_duel 156 = .ok (.iload 8, 2) := by decide +kernel
theorem dX11_duel_158 : decode cX11_duel 158 = .ok (.goto 5, 3) := by decide +kernel
theorem dX11_duel_161 : decode cX11_duel 161 = .ok (.iload 6, 2) := by decide +kernel
theorem dX11_duel_163 : decode cX11_duel 163 = .ok (.istore 6, 2) := by decide +kernel
theorem dX11_duel_165 : decode cX11_duel 165 = .ok (.iinc 7 1, 3) := by decide +kernel
theorem dX11_duel_168 : decode cX11_duel 168 = .ok (.goto (-64), 3) := by decide +kernel
theorem dX11_duel_171 : decode cX11_duel 171 = .ok (.aload_n 0, 1) := by decide +kernel
theorem dX11_duel_172 : decode cX11_duel 172 = .ok (.getfield 63, 3) := by decide +kernel
theorem dX11_duel_175 : decode cX11_duel 175 = .ok (.iload 5, 2) := by decide +kernel
theorem dX11_duel_177 : decode cX11_duel 177 = .ok (.iload 6, 2) := by decide +kernel
theorem dX11_duel_179 : decode cX11_duel 179 = .ok (.iastore, 1) := by decide +kernel
theorem dX11_duel_180 : decode cX11_duel 180 = .ok (.iinc 5 1, 3) := by decide +kernel
theorem dX11_duel_183 : decode cX11_duel 183 = .ok (.goto (-97), 3) := by decide +kernel
theorem dX11_duel_186 : decode cX11_duel 186 = .ok (.iinc 4 (-1), 3) := by decide +kernel
theorem dX11_duel_189 : decode cX11_duel 189 = .ok (.goto (-116), 3) := by decide +kernel
theorem dX11_duel_192 : decode cX11_duel 192 = .ok (.aload_n 0, 1) := by decide +kernel
theorem dX11_duel_193 : decode cX11_duel 193 = .ok (.getfield 63, 3) := by decide +kernel
theorem dX11_duel_196 : decode cX11_duel 196 = .ok (.iconst 0, 1) := by decide +kernel
theorem dX11_duel_197 : decode cX11_duel 197 = .ok (.iaload, 1) := by decide +kernel
theorem dX11_duel_198 : decode cX11_duel 198 = .ok (.ireturn, 1) := by decide +kernel
theorem dX11_layWinds_0 : decode cX11_layWinds 0 = .ok (.aload_n 0, 1) := by decide +kernel
theorem dX11_layWinds_1 : decode cX11_layWinds 1 = .ok (.lconst 1, 1) := by decide +kernel
theorem dX11_layWinds_2 : decode cX11_layWinds 2 = .ok (.putfield 228, 3) := by decide +kernel
theorem dX11_layWinds_5 : decode cX11_layWinds 5 = .ok (.iconst 0, 1) := by decide +kernel
theorem dX11_layWinds_6 : decode cX11_layWinds 6 = .ok (.istore 4, 2) := by decide +kernel
theorem dX11_layWinds_8 : decode cX11_layWinds 8 = .ok (.iload 4, 2) := by decide +kernel
theorem dX11_layWinds_10 : decode cX11_layWinds 10 = .ok (.iconst 5, 1) := by decide +kernel
theorem dX11_layWinds_11 : decode cX11_layWinds 11 = .ok (.if_icmp .ge 21, 3) := by decide +kernel
theorem dX11_layWinds_14 : decode cX11_layWinds 14 = .ok (.aload_n 0, 1) := by decide +kernel
theorem dX11_layWinds_15 : decode cX11_layWinds 15 = .ok (.dup, 1) := by decide +kernel
theorem dX11_layWinds_16 : decode cX11_layWinds 16 = .ok (.getfield 228, 3) := by decide +kernel
theorem dX11_layWinds_19 : decode cX11_layWinds 19 = .ok (.ldc2_w 231, 3) := by decide +kernel
theorem dX11_layWinds_22 : decode cX11_layWinds 22 = .ok (.lmul, 1) := by decide +kernel
theorem dX11_layWinds_23 : decode cX11_layWinds 23 = .ok (.putfield 228, 3) := by decide +kernel
theorem dX11_layWinds_26 : decode cX11_layWinds 26 = .ok (.iinc 4 1, 3) := by decide +kernel
theorem dX11_layWinds_29 : decode cX11_layWinds 29 = .ok (.goto (-21), 3) := by decide +kernel
theorem dX11_layWinds_32 : decode cX11_layWinds 32 = .ok (.aload_n 0, 1) := by decide +kernel
theorem dX11_layWinds_33 : decode cX11_layWinds 33 = .ok (.lconst 0, 1) := by decide +kernel
theorem dX11_layWinds_34 : decode cX11_layWinds 34 = .ok (.putfield 233, 3) := by decide +kernel
theorem dX11_layWinds_37 : decode cX11_layWinds 37 = .ok (.aload_n 0, 1) := by decide +kernel
theorem dX11_layWinds_38 : decode cX11_layWinds 38 = .ok (.lconst 0, 1) := by decide +kernel
theorem dX11_layWinds_39 : decode cX11_layWinds 39 = .ok (.putfield 236, 3) := by decide +kernel
theorem dX11_layWinds_42 : decode cX11_layWinds 42 = .ok (.iconst 0, 1) := by decide +kernel
theorem dX11_layWinds_43 : decode cX11_layWinds 43 = .ok (.istore 4, 2) := by decide +kernel
theorem dX11_layWinds_45 : decode cX11_layWinds 45 = .ok (.iload 4, 2) := by decide +kernel
theorem dX11_layWinds_47 : decode cX11_layWinds 47 = .ok (.bipush 32, 2) := by decide +kernel
theorem dX11_layWinds_49 : decode cX11_layWinds 49 = .ok (.if_icmp .ge 131, 3) := by decide +kernel
theorem dX11_layWinds_52 : decode cX11_layWinds 52 = .ok (.lconst 1, 1) := by decide +kernel
theorem dX11_layWinds_53 : decode cX11_layWinds 53 = .ok (.lstore 5, 2) := by decide +kernel
theorem dX11_layWinds_55 : decode cX11_layWinds 55 = .ok (.aload_n 0, 1) := by decide +kernel
theorem dX11_layWinds_56 : decode cX11_layWinds 56 = .ok (.invokevirtual 189, 3) := by decide +kernel
theorem dX11_layWinds_59 : decode cX11_layWinds 59 = .ok (.iconst 0, 1) := by decide +kernel
theorem dX11_layWinds_60 : decode cX11_layWinds 60 = .ok (.istore 7, 2) := by decide +kernel
theorem dX11_layWinds_62 : decode cX11_layWinds 62 = .ok (.iload 7, 2) := by decide +kernel
theorem dX11_layWinds_64 : decode cX11_layWinds 64 = .ok (.iconst 5, 1) := by decide +kernel
theorem dX11_layWinds_65 : decode cX11_layWinds 65 = .ok (.if_icmp .ge 66, 3) := by decide +kernel
theorem dX11_layWinds_68 : decode cX11_layWinds 68 = .ok (.lload 5, 2) := by decide +kernel
theorem dX11_layWinds_70 : decode cX11_layWinds 70 = .ok (.iload 4, 2) := by decide +kernel
theorem dX11_layWinds_72 : decode cX11_layWinds 72 = .ok (.iload 7, 2) := by decide +kernel
theorem dX11_layWinds_74 : decode cX11_layWinds 74 = .ok (.invokestatic 215, 3) := by decide +kernel
theorem dX11_layWinds_77 : decode cX11_layWinds 77 = .ok (.ifCond .eq 8, 3) := by decide +kernel
theorem dX11_layWinds_80 : decode cX11_layWinds 80 = .ok (.iload_n 3, 1) := by decide +kernel
theorem dX11_layWinds_81 : decode cX11_layWinds 81 = .ok (.i2l, 1) := by decide +kernel
theorem dX11_layWinds_82 : decode cX11_layWinds 82 = .ok (.goto 8, 3) := by decide +kernel
theorem dX11_layWinds_85 : decode cX11_layWinds 85 = .ok (.bipush 12, 2) := by decide +kernel
theorem dX11_layWinds_87 : decode cX11_layWinds 87 = .ok (.iload_n 3, 1) := by decide +kernel
theorem dX11_layWinds_88 : decode cX11_layWinds 88 = .ok (.isub, 1) := by decide +kernel
theorem dX11_layWinds_89 : decode cX11_layWinds 89 = .ok (.i2l, 1) := by decide +kernel
theorem dX11_layWinds_90 : decode cX11_layWinds 90 = .ok (.lmul, 1) := by decide +kernel
theorem dX11_layWinds_91 : decode cX11_layWinds 91 = .ok (.lstore 5, 2) := by decide +kernel
theorem dX11_layWinds_93 : decode cX11_layWinds 93 = .ok (.aload_n 0, 1) := by decide +kernel
theorem dX11_layWinds_94 : decode cX11_layWinds 94 = .ok (.getfield 51, 3) := by decide +kernel
theorem dX11_layWinds_97 : decode cX11_layWinds 97 = .ok (.iconst 1, 1) := by decide +kernel
theorem dX11_layWinds_98 : decode cX11_layWinds 98 = .ok (.iload 7, 2) := by decide +kernel
theorem dX11_layWinds_100 : decode cX11_layWinds 100 = .ok (.iadd, 1) := by decide +kernel
theorem dX11_layWinds_101 : decode cX11_layWinds 101 = .ok (.iload 4, 2) := by decide +kernel
theorem dX11_layWinds_103 : decode cX11_layWinds 103 = .ok (.iload 7, 2) := by decide +kernel
theorem dX11_layWinds_105 : decode cX11_layWinds 105 = .ok (.invokestatic 215, 3) := by decide +kernel
theorem dX11_layWinds_108 : decode cX11_layWinds 108 = .ok (.ifCond .eq 7, 3) := by decide +kernel
theorem dX11_layWinds_111 : decode cX11_layWinds 111 = .ok (.iconst 0, 1) := by decide +kernel
theorem dX11_layWinds_112 : decode cX11_layWinds 112 = .ok (.goto 12, 3) := by decide +kernel
theorem dX11_layWinds_115 : decode cX11_layWinds 115 = .ok (.aload_n 0, 1) := by decide +kernel
theorem dX11_layWinds_116 : decode cX11_layWinds 116 = .ok (.getfield 51, 3) := by decide +kernel
theorem dX11_layWinds_119 : decode cX11_layWinds 119 = .ok (.iconst 1, 1) := by decide +kernel
theorem dX11_layWinds_120 : decode cX11_layWinds 120 = .ok (.iload 7, 2) := by decide +kernel
theorem dX11_layWinds_122 : decode cX11_layWinds 122 = .ok (.iadd, 1) := by decide +kernel
theorem dX11_layWinds_123 : decode cX11_layWinds 123 = .ok (.iaload, 1) := by decide +kernel
theorem dX11_layWinds_124 : decode cX11_layWinds 124 = .ok (.iastore, 1) := by decide +kernel
theorem dX11_layWinds_125 : decode cX11_layWinds 125 = .ok (.iinc 7 1, 3) := by decide +kernel
theorem dX11_layWinds_128 : decode cX11_layWinds 128 = .ok (.goto (-66), 3) := by decide +kernel
theorem dX11_layWinds_131 : decode cX11_layWinds 131 = .ok (.aload_n 0, 1) := by decide +kernel
theorem dX11_layWinds_132 : decode cX11_layWinds 132 = .ok (.iload_n 2, 1) := by decide +kernel
theorem dX11_layWinds_133 : decode cX11_layWinds 133 = .ok (.invokevirtual 192, 3) := by decide +kernel
theorem dX11_layWinds_136 : decode cX11_layWinds 136 = .ok (.istore 7, 2) := by decide +kernel
theorem dX11_layWinds_138 : decode cX11_layWinds 138 = .ok (.aload_n 0, 1) := by decide +kernel
theorem dX11_layWinds_139 : decode cX11_layWinds 139 = .ok (.dup, 1) := by decide +kernel
theorem dX11_layWinds_140 : decode cX11_layWinds 140 = .ok (.getfield 233, 3) := by decide +kernel
theorem dX11_layWinds_143 : decode cX11_layWinds 143 = .ok (.iload 7, 2) := by decide +kernel
theorem dX11_layWinds_145 : decode cX11_layWinds 145 = .ok (.iload_n 1, 1) := by decide +kernel
theorem dX11_layWinds_146 : decode cX11_layWinds 146 = .ok (.if_icmp .gt 8, 3) := by decide +kernel
theorem dX11_layWinds_149 : decode cX11_layWinds 149 = .ok (.lload 5, 2) := by decide +kernel
theorem dX11_layWinds_151 : decode cX11_layWinds 151 = .ok (.goto 4, 3) := by decide +kernel
theorem dX11_layWinds_154 : decode cX11_layWinds 154 = .ok (.lconst 0, 1) := by decide +kernel
theorem dX11_layWinds_155 : decode cX11_layWinds 155 = .ok (.ladd, 1) := by decide +kernel
theorem dX11_layWinds_156 : decode cX11_layWinds 156 = .ok (.putfield 233, 3) := by decide +kernel
theorem dX11_layWinds_159 : decode cX11_layWinds 159 = .ok (.aload_n 0, 1) := by decide +kernel
theorem dX11_layWinds_160 : decode cX11_layWinds 160 = .ok (.dup, 1) := by decide +kernel
theorem dX11_layWinds_161 : decode cX11_layWinds 161 = .ok (.getfield 236, 3) := by decide +kernel
theorem dX11_layWinds_164 : decode cX11_layWinds 164 = .ok (.lload 5, 2) := by decide +kernel
theorem dX11_layWinds_166 : decode cX11_layWinds 166 = .ok (.iload 7, 2) := by decide +kernel
theorem dX11_layWinds_168 : decode cX11_layWinds 168 = .ok (.i2l, 1) := by decide +kernel
theorem dX11_layWinds_169 : decode cX11_layWinds 169 = .ok (.lmul, 1) := by decide +kernel
theorem dX11_layWinds_170 : decode cX11_layWinds 170 = .ok (.ladd, 1) := by decide +kernel
theorem dX11_layWinds_171 : decode cX11_layWinds 171 = .ok (.putfield 236, 3) := by decide +kernel
theorem dX11_layWinds_174 : decode cX11_layWinds 174 = .ok (.iinc 4 1, 3) := by decide +kernel
theorem dX11_layWinds_177 : decode cX11_layWinds 177 = .ok (.goto (-132), 3) := by decide +kernel
theorem dX11_layWinds_180 : decode cX11_layWinds 180 = .ok (.return_, 1) := by decide +kernel
theorem dX11_odds_0 : decode cX11_odds 0 = .ok (.aload_n 0, 1) := by decide +kernel
theorem dX11_odds_1 : decode cX11_odds 1 = .ok (.iload_n 1, 1) := by decide +kernel
theorem dX11_odds_2 : decode cX11_odds 2 = .ok (.iconst 0, 1) := by decide +kernel
theorem dX11_odds_3 : decode cX11_odds 3 = .ok (.bipush 63, 2) := by decide +kernel
theorem dX11_odds_5 : decode cX11_odds 5 = .ok (.invokestatic 76, 3) := by decide +kernel
theorem dX11_odds_8 : decode cX11_odds 8 = .ok (.ifCond .eq 27, 3) := by decide +kernel
theorem dX11_odds_11 : decode cX11_odds 11 = .ok (.iload_n 2, 1) := by decide +kernel
theorem dX11_odds_12 : decode cX11_odds 12 = .ok (.iconst 0, 1) := by decide +kernel
theorem dX11_odds_13 : decode cX11_odds 13 = .ok (.bipush 20, 2) := by decide +kernel
theorem dX11_odds_15 : decode cX11_odds 15 = .ok (.invokestatic 76, 3) := by decide +kernel
theorem dX11_odds_18 : decode cX11_odds 18 = .ok (.ifCond .eq 17, 3) := by decide +kernel
theorem dX11_odds_21 : decode cX11_odds 21 = .ok (.iload_n 3, 1) := by decide +kernel
theorem dX11_odds_22 : decode cX11_odds 22 = .ok (.iconst 0, 1) := by decide +kernel
theorem dX11_odds_23 : decode cX11_odds 23 = .ok (.bipush 12, 2) := by decide +kernel
theorem dX11_odds_25 : decode cX11_odds 25 = .ok (.invokestatic 76, 3) := by decide +kernel
theorem dX11_odds_28 : decode cX11_odds 28 = .ok (.ifCond .eq 7, 3) := by decide +kernel
theorem dX11_odds_31 : decode cX11_odds 31 = .ok (.iconst 1, 1) := by decide +kernel
theorem dX11_odds_32 : decode cX11_odds 32 = .ok (.goto 4, 3) := by decide +kernel
theorem dX11_odds_35 : decode cX11_odds 35 = .ok (.iconst 0, 1) := by decide +kernel
theorem dX11_odds_36 : decode cX11_odds 36 = .ok (.invokevirtual 195, 3) := by decide +kernel
theorem dX11_odds_39 : decode cX11_odds 39 = .ok (.istore 4, 2) := by decide +kernel
theorem dX11_odds_41 : decode cX11_odds 41 = .ok (.iload 4, 2) := by decide +kernel
theorem dX11_odds_43 : decode cX11_odds 43 = .ok (.ifCond .ge 6, 3) := by decide +kernel
theorem dX11_odds_46 : decode cX11_odds 46 = .ok (.iload 4, 2) := by decide +kernel
theorem dX11_odds_48 : decode cX11_odds 48 = .ok (.ireturn, 1) := by decide +kernel
theorem dX11_odds_49 : decode cX11_odds 49 = .ok (.aload_n 0, 1) := by decide +kernel
theorem dX11_odds_50 : decode cX11_odds 50 = .ok (.iload_n 1, 1) := by decide +kernel
theorem dX11_odds_51 : decode cX11_odds 51 = .ok (.iload_n 2, 1) := by decide +kernel
theorem dX11_odds_52 : decode cX11_odds 52 = .ok (.iload_n 3, 1) := by decide +kernel
theorem dX11_odds_53 : decode cX11_odds 53 = .ok (.invokevirtual 239, 3) := by decide +kernel
theorem dX11_odds_56 : decode cX11_odds 56 = .ok (.aload_n 0, 1) := by decide +kernel
theorem dX11_odds_57 : decode cX11_odds 57 = .ok (.aload_n 0, 1) := by decide +kernel
theorem dX11_odds_58 : decode cX11_odds 58 = .ok (.getfield 233, 3) := by decide +kernel
theorem dX11_odds_61 : decode cX11_odds 61 = .ok (.aload_n 0, 1) := by decide +kernel
theorem dX11_odds_62 : decode cX11_odds 62 = .ok (.getfield 228, 3) := by decide +kernel
theorem dX11_odds_65 : decode cX11_odds 65 = .ok (.iconst 1, 1) := by decide +kernel
theorem dX11_odds_66 : decode cX11_odds 66 = .ok (.invokevirtual 243, 3) := by decide +kernel
theorem dX11_odds_69 : decode cX11_odds 69 = .ok (.ireturn, 1) := by decide +kernel
theorem dX11_mid_0 : decode cX11_mid 0 = .ok (.aload_n 0, 1) := by decide +kernel
theorem dX11_mid_1 : decode cX11_mid 1 = .ok (.iload_n 1, 1) := by decide +kernel
theorem dX11_mid_2 : decode cX11_mid 2 = .ok (.iconst 0, 1) := by decide +kernel
theorem dX11_mid_3 : decode cX11_mid 3 = .ok (.bipush 20, 2) := by decide +kernel
theorem dX11_mid_5 : decode cX11_mid 5 = .ok (.invokestatic 76, 3) := by decide +kernel
theorem dX11_mid_8 : decode cX11_mid 8 = .ok (.ifCond .eq 17, 3) := by decide +kernel
theorem dX11_mid_11 : decode cX11_mid 11 = .ok (.iload_n 2, 1) := by decide +kernel
theorem dX11_mid_12 : decode cX11_mid 12 = .ok (.iconst 0, 1) := by decide +kernel
theorem dX11_mid_13 : decode cX11_mid 13 = .ok (.bipush 12, 2) := by decide +kernel
theorem dX11_mid_15 : decode cX11_mid 15 = .ok (.invokestatic 76, 3) := by decide +kernel
theorem dX11_mid_18 : decode cX11_mid 18 = .ok (.ifCond .eq 7, 3) := by decide +kernel
theorem dX11_mid_21 : decode cX11_mid 21 = .ok (.iconst 1, 1) := by decide +kernel
theorem dX11_mid_22 : decode cX11_mid 22 = .ok (.goto 4, 3) := by decide +kernel
theorem dX11_mid_25 : decode cX11_mid 25 = .ok (.iconst 0, 1) := by decide +kernel
theorem dX11_mid_26 : decode cX11_mid 26 = .ok (.invokevirtual 195, 3) := by decide +kernel
theorem dX11_mid_29 : decode cX11_mid 29 = .ok (.istore_n 3, 1) := by decide +kernel
theorem dX11_mid_30 : decode cX11_mid 30 = .ok (.iload_n 3, 1) := by decide +kernel
theorem dX11_mid_31 : decode cX11_mid 31 = .ok (.ifCond .ge 5, 3) := by decide +kernel
theorem dX11_mid_34 : decode cX11_mid 34 = .ok (.iload_n 3, 1) := by decide +kernel
theorem dX11_mid_35 : decode cX11_mid 35 = .ok (.ireturn, 1) := by decide +kernel
theorem dX11_mid_36 : decode cX11_mid 36 = .ok (.aload_n 0, 1) := by decide +kernel
theorem dX11_mid_37 : decode cX11_mid 37 = .ok (.iconst 0, 1) := by decide +kernel
theorem dX11_mid_38 : decode cX11_mid 38 = .ok (.iload_n 1, 1) := by decide +kernel
theorem dX11_mid_39 : decode cX11_mid 39 = .ok (.iload_n 2, 1) := by decide +kernel
theorem dX11_mid_40 : decode cX11_mid 40 = .ok (.invokevirtual 239, 3) := by decide +kernel
theorem dX11_mid_43 : decode cX11_mid 43 = .ok (.aload_n 0, 1) := by decide +kernel
theorem dX11_mid_44 : decode cX11_mid 44 = .ok (.aload_n 0, 1) := by decide +kernel
theorem dX11_mid_45 : decode cX11_mid 45 = .ok (.getfield 236, 3) := by decide +kernel
theorem dX11_mid_48 : decode cX11_mid 48 = .ok (.aload_n 0, 1) := by decide +kernel
theorem dX11_mid_49 : decode cX11_mid 49 = .ok (.getfield 228, 3) := by decide +kernel
theorem dX11_mid_52 : decode cX11_mid 52 = .ok (.iconst 1, 1) := by decide +kernel
theorem dX11_mid_53 : decode cX11_mid 53 = .ok (.invokevirtual 243, 3) := by decide +kernel
theorem dX11_mid_56 : decode cX11_mid 56 = .ok (.ireturn, 1) := by decide +kernel
theorem dX11_lots_0 : decode cX11_lots 0 = .ok (.aload_n 0, 1) := by decide +kernel
theorem dX11_lots_1 : decode cX11_lots 1 = .ok (.iload_n 1, 1) := by decide +kernel
theorem dX11_lots_2 : decode cX11_lots 2 = .ok (.iconst 1, 1) := by decide +kernel
theorem dX11_lots_3 : decode cX11_lots 3 = .ok (.bipush 20, 2) := by decide +kernel
theorem dX11_lots_5 : decode cX11_lots 5 = .ok (.invokestatic 76, 3) := by decide +kernel
theorem dX11_lots_8 : decode cX11_lots 8 = .ok (.ifCond .eq 17, 3) := by decide +kernel
theorem dX11_lots_11 : decode cX11_lots 11 = .ok (.iload_n 2, 1) := by decide +kernel
theorem dX11_lots_12 : decode cX11_lots 12 = .ok (.iconst 1, 1) := by decide +kernel
theorem dX11_lots_13 : decode cX11_lots 13 = .ok (.ldc 247, 2) := by decide +kernel
theorem dX11_lots_15 : decode cX11_lots 15 = .ok (.invokestatic 76, 3) := by decide +kernel
theorem dX11_lots_18 : decode cX11_lots 18 = .ok (.ifCond .eq 7, 3) := by decide +kernel
theorem dX11_lots_21 : decode cX11_lots 21 = .ok (.iconst 1, 1) := by decide +kernel
theorem dX11_lots_22 : decode cX11_lots 22 = .ok (.goto 4, 3) := by decide +kernel
theorem dX11_lots_25 : decode cX11_lots 25 = .ok (.iconst 0, 1) := by decide +kernel
theorem dX11_lots_26 : decode cX11_lots 26 = .ok (.invokevirtual 195, 3) := by decide +kernel
theorem dX11_lots_29 : decode cX11_lots 29 = .ok (.istore_n 3, 1) := by decide +kernel
theorem dX11_lots_30 : decode cX11_lots 30 = .ok (.iload_n 3, 1) := by decide +kernel
theorem dX11_lots_31 : decode cX11_lots 31 = .ok (.ifCond .ge 5, 3) := by decide +kernel
theorem dX11_lots_34 : decode cX11_lots 34 = .ok (.iload_n 3, 1) := by decide +kernel
theorem dX11_lots_35 : decode cX11_lots 35 = .ok (.ireturn, 1) := by decide +kernel
theorem dX11_lots_36 : decode cX11_lots 36 = .ok (.aload_n 0, 1) := by decide +kernel
theorem dX11_lots_37 : decode cX11_lots 37 = .ok (.getfield 129, 3) := by decide +kernel
theorem dX11_lots_40 : decode cX11_lots 40 = .ok (.iload_n 1, 1) := by decide +kernel
theorem dX11_lots_41 : decode cX11_lots 41 = .ok (.iadd, 1) := by decide +kernel
theorem dX11_lots_42 : decode cX11_lots 42 = .ok (.bipush 40, 2) := by decide +kernel
theorem dX11_lots_44 : decode cX11_lots 44 = .ok (.if_icmp .le 6, 3) := by decide +kernel
theorem dX11_lots_47 : decode cX11_lots 47 = .ok (.bipush (-2), 2) := by decide +kernel
theorem dX11_lots_49 : decode cX11_lots 49 = .ok (.ireturn, 1) := by decide +kernel
theorem dX11_lots_50 : decode cX11_lots 50 = .ok (.iload_n 2, 1) := by decide +kernel
theorem dX11_lots_51 : decode cX11_lots 51 = .ok (.i2l, 1) := by decide +kernel
theorem dX11_lots_52 : decode cX11_lots 52 = .ok (.lstore 4, 2) := by decide +kernel
theorem dX11_lots_54 : decode cX11_lots 54 = .ok (.iconst 0, 1) := by decide +kernel
theorem dX11_lots_55 : decode cX11_lots 55 = .ok (.istore 6, 2) := by decide +kernel
theorem dX11_lots_57 : decode cX11_lots 57 = .ok (.iload 6, 2) := by decide +kernel
theorem dX11_lots_59 : decode cX11_lots 59 = .ok (.iload_n 1, 1) := by decide +kernel
theorem dX11_lots_60 : decode cX11_lots 60 = .ok (.if_icmp .ge 147, 3) := by decide +kernel
theorem dX11_lots_63 : decode cX11_lots 63 = .ok (.lload 4, 2) := by decide +kernel
theorem dX11_lots_65 : decode cX11_lots 65 = .ok (.ldc2_w 248, 3) := by decide +kernel
theorem dX11_lots_68 : decode cX11_lots 68 = .ok (.lmul, 1) := by decide +kernel
theorem dX11_lots_69 : decode cX11_lots 69 = .ok (.ldc2_w 250, 3) := by decide +kernel
theorem dX11_lots_72 : decode cX11_lots 72 = .ok (.lrem, 1) := by decide +kernel
theorem dX11_lots_73 : decode cX11_lots 73 = .ok (.lstore 4, 2) := by decide +kernel
theorem dX11_lots_75 : decode cX11_lots 75 = .ok (.lload 4, 2) := by decide +kernel
theorem dX11_lots_77 : decode cX11_lots 77 = .ok (.ldc2_w 252, 3) := by decide +kernel
theorem dX11_lots_80 : decode cX11_lots 80 = .ok (.ldiv, 1) := by decide +kernel
theorem dX11_lots_81 : decode cX11_lots 81 = .ok (.ldc2_w 254, 3) := by decide +kernel
theorem dX11_lots_84 : decode cX11_lots 84 = .ok (.lrem, 1) := by decide +kernel
theorem dX11_lots_85 : decode cX11_lots 85 = .ok (.l2i, 1) := by decide +kernel
theorem dX11_lots_86 : decode cX11_lots 86 = .ok (.istore 7, 2) := by decide +kernel
theorem dX11_lots_88 : decode cX11_lots 88 = .ok (.lload 4, 2) := by decide +kernel
theorem dX11_lots_90 : decode cX11_lots 90 = .ok (.ldc2_w 252, 3) := by decide +kernel
theorem dX11_lots_93 : decode cX11_lots 93 = .ok (.lrem, 1) := by decide +kernel
theorem dX11_lots_94 : decode cX11_lots 94 = .ok (.l2i, 1) := by decide +kernel
theorem dX11_lots_95 : decode cX11_lots 95 = .ok (.istore 8, 2) := by decide +kernel
theorem dX11_lots_97 : decode cX11_lots 97 = .ok (.aload_n 0, 1) := by decide +kernel
theorem dX11_lots_98 : decode cX11_lots 98 = .ok (.invokevirtual 179, 3) := by decide +kernel
theorem dX11_lots_101 : decode cX11_lots 101 = .ok (.iload 8, 2) := by decide +kernel
theorem dX11_lots_103 : decode cX11_lots 103 = .ok (.ifCond .ne 16, 3) := by decide +kernel
theorem dX11_lots_106 : decode cX11_lots 106 = .ok (.aload_n 0, 1) := by decide +kernel
theorem dX11_lots_107 : decode cX11_lots 107 = .ok (.getfield 48, 3) := by decide +kernel
theorem dX11_lots_110 : decode cX11_lots 110 = .ok (.iconst 1, 1) := by decide +kernel
theorem dX11_lots_111 : decode cX11_lots 111 = .ok (.iload 7, 2) := by decide +kernel
theorem dX11_lots_113 : decode cX11_lots 113 = .ok (.iadd, 1) := by decide +kernel
theorem dX11_lots_114 : decode cX11_lots 114 = .ok (.iconst 0, 1) := by decide +kernel
theorem dX11_lots_115 : decode cX11_lots 115 = .ok (.iastore, 1) := by decide +kernel
theorem dX11_lots_116 : decode cX11_lots 116 = .ok (.goto 85, 3) := by decide +kernel
theorem dX11_lots_119 : decode cX11_lots 119 = .ok (.iload 8, 2) := by decide +kernel
theorem dX11_lots_121 : decode cX11_lots 121 = .ok (.iconst 3, 1) := by decide +kernel
theorem dX11_lots_122 : decode cX11_lots 122 = .ok (.if_icmp .ge 28, 3) := by decide +kernel
theorem dX11_lots_125 : decode cX11_lots 125 = .ok (.aload_n 0, 1) := by decide +kernel
theorem dX11_lots_126 : decode cX11_lots 126 = .ok (.getfield 48, 3) := by decide +kernel
theorem dX11_lots_129 : decode cX11_lots 129 = .ok (.iconst 1, 1) := by decide +kernel
theorem dX11_lots_130 : decode cX11_lots 130 = .ok (.iload 7, 2) := by decide +kernel
theorem dX11_lots_132 : decode cX11_lots 132 = .ok (.iadd, 1) := by decide +kernel
theorem dX11_lots_133 : decode cX11_lots 133 = .ok (.aload_n 0, 1) := by decide +kernel
theorem dX11_lots_134 : decode cX11_lots 134 = .ok (.getfield 48, 3) := by decide +kernel
theorem dX11_lots_137 : decode cX11_lots 137 = .ok (.iconst 1, 1) := by decide +kernel
theorem dX11_lots_138 : decode cX11_lots 138 = .ok (.iload 7, 2) := by decide +kernel
theorem dX11_lots_140 : decode cX11_lots 140 = .ok (.iadd, 1) := by decide +kernel
theorem dX11_lots_141 : decode cX11_lots 141 = .ok (.iaload, 1) := by decide +kernel
theorem dX11_lots_142 : decode cX11_lots 142 = .ok (.iconst 1, 1) := by decide +kernel
theorem dX11_lots_143 : decode cX11_lots 143 = .ok (.invokestatic 182, 3) := by decide +kernel
theorem dX11_lots_146 : decode cX11_lots 146 = .ok (.iastore, 1) := by decide +kernel
theorem dX11_lots_147 : decode cX11_lots 147 = .ok (.goto 54, 3) := by decide +kernel
theorem dX11_lots_150 : decode cX11_lots 150 = .ok (.iload 8, 2) := by decide +kernel
theorem dX11_lots_152 : decode cX11_lots 152 = .ok (.iconst 3, 1) := by decide +kernel
theorem dX11_lots_153 : decode cX11_lots 153 = .ok (.if_icmp .ne 29, 3) := by decide +kernel
theorem dX11_lots_156 : decode cX11_lots 156 = .ok (.aload_n 0, 1) := by decide +kernel
theorem dX11_lots_157 : decode cX11_lots 157 = .ok (.getfield 48, 3) := by decide +kernel
theorem dX11_lots_160 : decode cX11_lots 160 = .ok (.bipush 13, 2) := by decide +kernel
theorem dX11_lots_162 : decode cX11_lots 162 = .ok (.lload 4, 2) := by decide +kernel
theorem dX11_lots_164 : decode cX11_lots 164 = .ok (.ldc2_w 256, 3) := by decide +kernel
theorem dX11_lots_167 : decode cX11_lots 167 = .ok (.ldiv, 1) := by decide +kernel
theorem dX11_lots_168 : decode cX11_lots 168 = .ok (.aload_n 0, 1) := by decide +kernel
theorem dX11_lots_169 : decode cX11_lots 169 = .ok (.getfield 126, 3) := by decide +kernel
theorem dX11_lots_172 : decode cX11_lots 172 = .ok (.i2l, 1) := by decide +kernel
theorem dX11_lots_173 : decode cX11_lots 173 = .ok (.lrem, 1) := by decide +kernel
theorem dX11_lots_174 : decode cX11_lots 174 = .ok (.l2i, 1) := by decide +kernel
theorem dX11_lots_175 : decode cX11_lots 175 = .ok (.iadd, 1) := by decide +kernel
theorem dX11_lots_176 : decode cX11_lots 176 = .ok (.iload 7, 2) := by decide +kernel
theorem dX11_lots_178 : decode cX11_lots 178 = .ok (.iastore, 1) := by decide +kernel
theorem dX11_lots_179 : decode cX11_lots 179 = .ok (.goto 22, 3) := by decide +kernel
theorem dX11_lots_182 : decode cX11_lots 182 = .ok (.aload_n 0, 1) := by decide +kernel
theorem dX11_lots_183 : decode cX11_lots 183 = .ok (.getfield 48, 3) := by decide +kernel
theorem dX11_lots_186 : decode cX11_lots 186 = .ok (.iconst 0, 1) := by decide +kernel
theorem dX11_lots_187 : decode cX11_lots 187 = .ok (.iaload, 1) := by decide +kernel
theorem dX11_lots_188 : decode cX11_lots 188 = .ok (.bipush 99, 2) := by decide +kernel
theorem dX11_lots_190 : decode cX11_lots 190 = .ok (.if_icmp .ge 11, 3) := by decide +kernel
theorem dX11_lots_193 : decode cX11_lots 193 = .ok (.aload_n 0, 1) := by decide +kernel
theorem dX11_lots_194 : decode cX11_lots 194 = .ok (.aload_n 0, 1) := by decide +kernel
theorem dX11_lots_195 : decode cX11_lots 195 = .ok (.getfield 48, 3) := by decide +kernel
theorem dX11_lots_198 : decode cX11_lots 198 = .ok (.invokevirtual 159, 3) := by decide +kernel
theorem dX11_lots_201 : decode cX11_lots 201 = .ok (.iinc 6 1, 3) := by decide +kernel
theorem dX11_lots_204 : decode cX11_lots 204 = .ok (.goto (-147), 3) := by decide +kernel
theorem dX11_lots_207 : decode cX11_lots 207 = .ok (.aload_n 0, 1) := by decide +kernel
theorem dX11_lots_208 : decode cX11_lots 208 = .ok (.aload_n 0, 1) := by decide +kernel
theorem dX11_lots_209 : decode cX11_lots 209 = .ok (.getfield 48, 3) := by decide +kernel
theorem dX11_lots_212 : decode cX11_lots 212 = .ok (.invokevirtual 163, 3) := by decide +kernel
theorem dX11_lots_215 : decode cX11_lots 215 = .ok (.ireturn, 1) := by decide +kernel
theorem dX11_counted_0 : decode cX11_counted 0 = .ok (.iconst 0, 1) := by decide +kernel
theorem dX11_counted_1 : decode cX11_counted 1 = .ok (.istore_n 2, 1) := by decide +kernel
theorem dX11_counted_2 : decode cX11_counted 2 = .ok (.iload_n 1, 1) := by decide +kernel
theorem dX11_counted_3 : decode cX11_counted 3 = .ok (.tableswitch 251 0 9 #[53, 58, 65, 70, 79, 119, 128, 154, 187, 219], 53) := by decide +kernel
theorem dX11_counted_56 : decode cX11_counted 56 = .ok (.aload_n 0, 1) := by decide +kernel
theorem dX11_counted_57 : decode cX11_counted 57 = .ok (.getfield 126, 3) := by decide +kernel
theorem dX11_counted_60 : decode cX11_counted 60 = .ok (.ireturn, 1) := by decide +kernel
theorem dX11_counted_61 : decode cX11_counted 61 = .ok (.aload_n 0, 1) := by decide +kernel
theorem dX11_counted_62 : decode cX11_counted 62 = .ok (.getfield 48, 3) := by decide +kernel
theorem dX11_counted_65 : decode cX11_counted 65 = .ok (.iconst 0, 1) := by decide +kernel
theorem dX11_counted_66 : decode cX11_counted 66 = .ok (.iaload, 1) := by decide +kernel
theorem dX11_counted_67 : decode cX11_counted 67 = .ok (.ireturn, 1) := by decide +kernel
theorem dX11_counted_68 : decode cX11_counted 68 = .ok (.aload_n 0, 1) := by decide +kernel
theorem dX11_counted_69 : decode cX11_counted 69 = .ok (.getfield 129, 3) := by decide +kernel
theorem dX11_counted_72 : decode cX11_counted 72 = .ok (.ireturn, 1) := by decide +kernel
theorem dX11_counted_73 : decode cX11_counted 73 = .ok (.aload_n 0, 1) := by decide +kernel
theorem dX11_counted_74 : decode cX11_counted 74 = .ok (.aload_n 0, 1) := by decide +kernel
theorem dX11_counted_75 : decode cX11_counted 75 = .ok (.getfield 48, 3) := by decide +kernel
theorem dX11_counted_78 : decode cX11_counted 78 = .ok (.invokevirtual 163, 3) := by decide +kernel
theorem dX11_counted_81 : decode cX11_counted 81 = .ok (.ireturn, 1) := by decide +kernel
theorem dX11_counted_82 : decode cX11_counted 82 = .ok (.iconst 0, 1) := by decide +kernel
theorem dX11_counted_83 : decode cX11_counted 83 = .ok (.istore_n 3, 1) := by decide +kernel
theorem dX11_counted_84 : decode cX11_counted 84 = .ok (.iload_n 3, 1) := by decide +kernel
theorem dX11_counted_85 : decode cX11_counted 85 = .ok (.aload_n 0, 1) := by decide +kernel
theorem dX11_counted_86 : decode cX11_counted 86 = .ok (.getfield 126, 3) := by decide +kernel
theorem dX11_counted_89 : decode cX11_counted 89 = .ok (.if_icmp .ge 31, 3) := by decide +kernel
theorem dX11_counted_92 : decode cX11_counted 92 = .ok (.iload_n 2, 1) := by decide +kernel
theorem dX11_counted_93 : decode cX11_counted 93 = .ok (.aload_n 0, 1) := by decide +kernel
theorem dX11_counted_94 : decode cX11_counted 94 = .ok (.aload_n 0, 1) := by decide +kernel
theorem dX11_counted_95 : decode cX11_counted 95 = .ok (.getfield 48, 3) := by decide +kernel
theorem dX11_counted_98 : decode cX11_counted 98 = .ok (.iload_n 3, 1) := by decide +kernel
theorem dX11_counted_99 : decode cX11_counted 99 = .ok (.invokevirtual 139, 3) := by decide +kernel
theorem dX11_counted_102 : decode cX11_counted 102 = .ok (.ifCond .eq 9, 3) := by decide +kernel
theorem dX11_counted_105 : decode cX11_counted 105 = .ok (.iconst 1, 1) := by decide +kernel
theorem dX11_counted_106 : decode cX11_counted 106 = .ok (.iload_n 3, 1) := by decide +kernel
theorem dX11_counted_107 : decode cX11_counted 107 = .ok (.ishl, 1) := by decide +kernel
theorem dX11_counted_108 : decode cX11_counted 108 = .ok (.goto 4, 3) := by decide +kernel
theorem dX11_counted_111 : decode cX11_counted 111 = .ok (.iconst 0, 1) := by decide +kernel
theorem dX11_counted_112 : decode cX11_counted 112 = .ok (.ior, 1) := by decide +kernel
theorem dX11_counted_113 : decode cX11_counted 113 = .ok (.istore_n 2, 1) := by decide +kernel
theorem dX11_counted_114 : decode cX11_counted 114 = .ok (.iinc 3 1, 3) := by decide +kernel
theorem dX11_counted_117 : decode cX11_counted 117 = .ok (.goto (-33), 3) := by decide +kernel
theorem dX11_counted_120 : decode cX11_counted 120 = .ok (.iload_n 2, 1) := by decide +kernel
theorem dX11_counted_121 : decode cX11_counted 121 = .ok (.ireturn, 1) := by decide +kernel
theorem dX11_counted_122 : decode cX11_counted 122 = .ok (.aload_n 0, 1) := by decide +kernel
theorem dX11_counted_123 : decode cX11_counted 123 = .ok (.aload_n 0, 1) := by decide +kernel
theorem dX11_counted_124 : decode cX11_counted 124 = .ok (.getfield 48, 3) := by decide +kernel
theorem dX11_counted_127 : decode cX11_counted 127 = .ok (.invokevirtual 199, 3) := by decide +kernel
theorem dX11_counted_130 : decode cX11_counted 130 = .ok (.ireturn, 1) := by decide +kernel
theorem dX11_counted_131 : decode cX11_counted 131 = .ok (.iconst 0, 1) := by decide +kernel
theorem dX11_counted_132 : decode cX11_counted 132 = .ok (.istore_n 3, 1) := by decide +kernel
theorem dX11_counted_133 : decode cX11_counted 133 = .ok (.iload_n 3, 1) := by decide +kernel
theorem dX11_counted_134 : decode cX11_counted 134 = .ok (.iconst 5, 1) := by decide +kernel
theorem dX11_counted_135 : decode cX11_counted 135 = .ok (.if_icmp .ge 20, 3) := by decide +kernel
theorem dX11_counted_138 : decode cX11_counted 138 = .ok (.iload_n 2, 1) := by decide +kernel
theorem dX11_counted_139 : decode cX11_counted 139 = .ok (.aload_n 0, 1) := by decide +kernel
theorem dX11_counted_140 : decode cX11_counted 140 = .ok (.getfield 48, 3) := by decide +kernel
theorem dX11_counted_143 : decode cX11_counted 143 = .ok (.iconst 1, 1) := by decide +kernel
theorem dX11_counted_144 : decode cX11_counted 144 = .ok (.iload_n 3, 1) := by decide +kernel
theorem dX11_counted_145 : decode cX11_counted 145 = .ok (.iadd, 1) := by decide +kernel
theorem dX11_counted_146 : decode cX11_counted 146 = .ok (.iaload, 1) := by decide +kernel
theorem dX11_counted_147 : decode cX11_counted 147 = .ok (.iadd, 1) := by decide +kernel
theorem dX11_counted_148 : decode cX11_counted 148 = .ok (.istore_n 2, 1) := by decide +kernel
theorem dX11_counted_149 : decode cX11_counted 149 = .ok (.iinc 3 1, 3) := by decide +kernel
theorem dX11_counted_152 : decode cX11_counted 152 = .ok (.goto (-19), 3) := by decide +kernel
theorem dX11_counted_155 : decode cX11_counted 155 = .ok (.iload_n 2, 1) := by decide +kernel
theorem dX11_counted_156 : decode cX11_counted 156 = .ok (.ireturn, 1) := by decide +kernel
theorem dX11_counted_157 : decode cX11_counted 157 = .ok (.iconst 0, 1) := by decide +kernel
theorem dX11_counted_158 : decode cX11_counted 158 = .ok (.istore_n 3, 1) := by decide +kernel
theorem dX11_counted_159 : decode cX11_counted 159 = .ok (.iload_n 3, 1) := by decide +kernel
theorem dX11_counted_160 : decode cX11_counted 160 = .ok (.bipush 6, 2) := by decide +kernel
theorem dX11_counted_162 : decode cX11_counted 162 = .ok (.if_icmp .ge 26, 3) := by decide +kernel
theorem dX11_counted_165 : decode cX11_counted 165 = .ok (.iload_n 2, 1) := by decide +kernel
theorem dX11_counted_166 : decode cX11_counted 166 = .ok (.aload_n 0, 1) := by decide +kernel
theorem dX11_counted_167 : decode cX11_counted 167 = .ok (.getfield 17, 3) := by decide +kernel
theorem dX11_counted_170 : decode cX11_counted 170 = .ok (.iload_n 3, 1) := by decide +kernel
theorem dX11_counted_171 : decode cX11_counted 171 = .ok (.iaload, 1) := by decide +kernel
theorem dX11_counted_172 : decode cX11_counted 172 = .ok (.ifCond .lt 7, 3) := by decide +kernel
theorem dX11_counted_175 : decode cX11_counted 175 = .ok (.iconst 1, 1) := by decide +kernel
theorem dX11_counted_176 : decode cX11_counted 176 = .ok (.goto 4, 3) := by decide +kernel
theorem dX11_counted_179 : decode cX11_counted 179 = .ok (.iconst 0, 1) := by decide +kernel
theorem dX11_counted_180 : decode cX11_counted 180 = .ok (.iadd, 1) := by decide +kernel
theorem dX11_counted_181 : decode cX11_counted 181 = .ok (.istore_n 2, 1) := by decide +kernel
theorem dX11_counted_182 : decode cX11_counted 182 = .ok (.iinc 3 1, 3) := by decide +kernel
theorem dX11_counted_185 : decode cX11_counted 185 = .ok (.goto (-26), 3) := by decide +kernel
theorem dX11_counted_188 : decode cX11_counted 188 = .ok (.iload_n 2, 1) := by decide +kernel
theorem dX11_counted_189 : decode cX11_counted 189 = .ok (.ireturn, 1) := by decide +kernel
theorem dX11_counted_190 : decode cX11_counted 190 = .ok (.iconst 0, 1) := by decide +kernel
theorem dX11_counted_191 : decode cX11_counted 191 = .ok (.istore_n 3, 1) := by decide +kernel
theorem dX11_counted_192 : decode cX11_counted 192 = .ok (.iload_n 3, 1) := by decide +kernel
theorem dX11_counted_193 : decode cX11_counted 193 = .ok (.iconst 4, 1) := by decide +kernel
theorem dX11_counted_194 : decode cX11_counted 194 = .ok (.if_icmp .ge 26, 3) := by decide +kernel
theorem dX11_counted_197 : decode cX11_counted 197 = .ok (.iload_n 2, 1) := by decide +kernel
theorem dX11_counted_198 : decode cX11_counted 198 = .ok (.aload_n 0, 1) := by decide +kernel
theorem dX11_counted_199 : decode cX11_counted 199 = .ok (.getfield 26, 3) := by decide +kernel
theorem dX11_counted_202 : decode cX11_counted 202 = .ok (.iload_n 3, 1) := by decide +kernel
theorem dX11_counted_203 : decode cX11_counted 203 = .ok (.iaload, 1) := by decide +kernel
theorem dX11_counted_204 : decode cX11_counted 204 = .ok (.ifCond .lt 7, 3) := by decide +kernel
theorem dX11_counted_207 : decode cX11_counted 207 = .ok (.iconst 1, 1) := by decide +kernel
theorem dX11_counted_208 : decode cX11_counted 208 = .ok (.goto 4, 3) := by decide +kernel
theorem dX11_counted_211 : decode cX11_counted 211 = .ok (.iconst 0, 1) := by decide +kernel
theorem dX11_counted_212 : decode cX11_counted 212 = .ok (.iadd, 1) := by decide +kernel
theorem dX11_counted_213 : decode cX11_counted 213 = .ok (.istore_n 2, 1) := by decide +kernel
theorem dX11_counted_214 : decode cX11_counted 214 = .ok (.iinc 3 1, 3) := by decide +kernel
theorem dX11_counted_217 : decode cX11_counted 217 = .ok (.goto (-25), 3) := by decide +kernel
theorem dX11_counted_220 : decode cX11_counted 220 = .ok (.iload_n 2, 1) := by decide +kernel
theorem dX11_counted_221 : decode cX11_counted 221 = .ok (.ireturn, 1) := by decide +kernel
theorem dX11_counted_222 : decode cX11_counted 222 = .ok (.iconst 0, 1) := by decide +kernel
theorem dX11_counted_223 : decode cX11_counted 223 = .ok (.istore_n 3, 1) := by decide +kernel
theorem dX11_counted_224 : decode cX11_counted 224 = .ok (.iload_n 3, 1) := by decide +kernel
theorem dX11_counted_225 : decode cX11_counted 225 = .ok (.iconst 3, 1) := by decide +kernel
theorem dX11_counted_226 : decode cX11_counted 226 = .ok (.if_icmp .ge 26, 3) := by decide +kernel
theorem dX11_counted_229 : decode cX11_counted 229 = .ok (.iload_n 2, 1) := by decide +kernel
theorem dX11_counted_230 : decode cX11_counted 230 = .ok (.aload_n 0, 1) := by decide +kernel
theorem dX11_counted_231 : decode cX11_counted 231 = .ok (.getfield 57, 3) := by decide +kernel
theorem dX11_counted_234 : decode cX11_counted 234 = .ok (.iload_n 3, 1) := by decide +kernel
theorem dX11_counted_235 : decode cX11_counted 235 = .ok (.iaload, 1) := by decide +kernel
theorem dX11_counted_236 : decode cX11_counted 236 = .ok (.ifCond .lt 7, 3) := by decide +kernel
theorem dX11_counted_239 : decode cX11_counted 239 = .ok (.iconst 1, 1) := by decide +kernel
theorem dX11_counted_240 : decode cX11_counted 240 = .ok (.goto 4, 3) := by decide +kernel
theorem dX11_counted_243 : decode cX11_counted 243 = .ok (.iconst 0, 1) := by decide +kernel
theorem dX11_counted_244 : decode cX11_counted 244 = .ok (.iadd, 1) := by decide +kernel
theorem dX11_counted_245 : decode cX11_counted 245 = .ok (.istore_n 2, 1) := by decide +kernel
theorem dX11_counted_246 : decode cX11_counted 246 = .ok (.iinc 3 1, 3) := by decide +kernel
theorem dX11_counted_249 : decode cX11_counted 249 = .ok (.goto (-25), 3) := by decide +kernel
theorem dX11_counted_252 : decode cX11_counted 252 = .ok (.iload_n 2, 1) := by decide +kernel
theorem dX11_counted_253 : decode cX11_counted 253 = .ok (.ireturn, 1) := by decide +kernel
theorem dX11_counted_254 : decode cX11_counted 254 = .ok (.iconst 0, 1) := by decide +kernel
theorem dX11_counted_255 : decode cX11_counted 255 = .ok (.istore_n 3, 1) := by decide +kernel
theorem dX11_counted_256 : decode cX11_counted 256 = .ok (.iload_n 3, 1) := by decide +kernel
theorem dX11_counted_257 : decode cX11_counted 257 = .ok (.aload_n 0, 1) := by decide +kernel
theorem dX11_counted_258 : decode cX11_counted 258 = .ok (.getfield 126, 3) := by decide +kernel
theorem dX11_counted_261 : decode cX11_counted 261 = .ok (.if_icmp .ge 40, 3) := by decide +kernel
theorem dX11_counted_264 : decode cX11_counted 264 = .ok (.iload_n 2, 1) := by decide +kernel
theorem dX11_counted_265 : decode cX11_counted 265 = .ok (.aload_n 0, 1) := by decide +kernel
theorem dX11_counted_266 : decode cX11_counted 266 = .ok (.getfield 39, 3) := by decide +kernel
theorem dX11_counted_269 : decode cX11_counted 269 = .ok (.iload_n 3, 1) := by decide +kernel
theorem dX11_counted_270 : decode cX11_counted 270 = .ok (.iaload, 1) := by decide +kernel
theorem dX11_counted_271 : decode cX11_counted 271 = .ok (.iload_n 1, 1) := by decide +kernel
theorem dX11_counted_272 : decode cX11_counted 272 = .ok (.bipush 10, 2) := by decide +kernel
theorem dX11_counted_274 : decode cX11_counted 274 = .ok (.if_icmp .ne 7, 3) := by decide +kernel
theorem dX11_counted_277 : decode cX11_counted 277 = .ok (.iconst 1, 1) := by decide +kernel
theorem dX11_counted_278 : decode cX11_counted 278 = .ok (.goto 4, 3) := by decide +kernel
theorem dX11_counted_281 : decode cX11_counted 281 = .ok (.iconst 2, 1) := by decide +kernel
theorem dX11_counted_282 : decode cX11_counted 282 = .ok (.invokestatic 143, 3) := by decide +kernel
theorem dX11_counted_285 : decode cX11_counted 285 = .ok (.ifCond .eq 7, 3) := by decide +kernel
theorem dX11_counted_288 : decode cX11_counted 288 = .ok (.iconst 1, 1) := by decide +kernel
theorem dX11_counted_289 : decode cX11_counted 289 = .ok (.goto 4, 3) := by decide +kernel
theorem dX11_counted_292 : decode cX11_counted 292 = .ok (.iconst 0, 1) := by decide +kernel
theorem dX11_counted_293 : decode cX11_counted 293 = .ok (.iadd, 1) := by decide +kernel
theorem dX11_counted_294 : decode cX11_counted 294 = .ok (.istore_n 2, 1) := by decide +kernel
theorem dX11_counted_295 : decode cX11_counted 295 = .ok (.iinc 3 1, 3) := by decide +kernel
theorem dX11_counted_298 : decode cX11_counted 298 = .ok (.goto (-42), 3) := by decide +kernel
theorem dX11_counted_301 : decode cX11_counted 301 = .ok (.iload_n 2, 1) := by decide +kernel
theorem dX11_counted_302 : decode cX11_counted 302 = .ok (.ireturn, 1) := by decide +kernel
theorem dX11_count_0 : decode cX11_count 0 = .ok (.iload_n 1, 1) := by decide +kernel
theorem dX11_count_1 : decode cX11_count 1 = .ok (.iconst 0, 1) := by decide +kernel
theorem dX11_count_2 : decode cX11_count 2 = .ok (.bipush 11, 2) := by decide +kernel
theorem dX11_count_4 : decode cX11_count 4 = .ok (.invokestatic 76, 3) := by decide +kernel
theorem dX11_count_7 : decode cX11_count 7 = .ok (.ifCond .eq 11, 3) := by decide +kernel
theorem dX11_count_10 : decode cX11_count 10 = .ok (.aload_n 0, 1) := by decide +kernel
theorem dX11_count_11 : decode cX11_count 11 = .ok (.iload_n 1, 1) := by decide +kernel
theorem dX11_count_12 : decode cX11_count 12 = .ok (.invokevirtual 258, 3) := by decide +kernel
theorem dX11_count_15 : decode cX11_count 15 = .ok (.goto 4, 3) := by decide +kernel
theorem dX11_count_18 : decode cX11_count 18 = .ok (.iconst (-1), 1) := by decide +kernel
theorem dX11_count_19 : decode cX11_count 19 = .ok (.ireturn, 1) := by decide +kernel
theorem dX11_adds_0 : decode cX11_adds 0 = .ok (.aload_n 0, 1) := by decide +kernel
theorem dX11_adds_1 : decode cX11_adds 1 = .ok (.ldc2_w 261, 3) := by decide +kernel
theorem dX11_adds_4 : decode cX11_adds 4 = .ok (.aload_n 0, 1) := by decide +kernel
theorem dX11_adds_5 : decode cX11_adds 5 = .ok (.getfield 263, 3) := by decide +kernel
theorem dX11_adds_8 : decode cX11_adds 8 = .ok (.lmul, 1) := by decide +kernel
theorem dX11_adds_9 : decode cX11_adds 9 = .ok (.lload_n 1, 1) := by decide +kernel
theorem dX11_adds_10 : decode cX11_adds 10 = .ok (.ladd, 1) := by decide +kernel
theorem dX11_adds_11 : decode cX11_adds 11 = .ok (.putfield 263, 3) := by decide +kernel
theorem dX11_adds_14 : decode cX11_adds 14 = .ok (.return_, 1) := by decide +kernel
theorem dX11_digest_0 : decode cX11_digest 0 = .ok (.aload_n 0, 1) := by decide +kernel
theorem dX11_digest_1 : decode cX11_digest 1 = .ok (.ldc2_w 266, 3) := by decide +kernel
theorem dX11_digest_4 : decode cX11_digest 4 = .ok (.putfield 263, 3) := by decide +kernel
theorem dX11_digest_7 : decode cX11_digest 7 = .ok (.iconst 0, 1) := by decide +kernel
theorem dX11_digest_8 : decode cX11_digest 8 = .ok (.istore_n 1, 1) := by decide +kernel
theorem dX11_digest_9 : decode cX11_digest 9 = .ok (.iload_n 1, 1) := by decide +kernel
theorem dX11_digest_10 : decode cX11_digest 10 = .ok (.bipush 12, 2) := by decide +kernel
theorem dX11_digest_12 : decode cX11_digest 12 = .ok (.if_icmp .ge 19, 3) := by decide +kernel
theorem dX11_digest_15 : decode cX11_digest 15 = .ok (.aload_n 0, 1) := by decide +kernel
theorem dX11_digest_16 : decode cX11_digest 16 = .ok (.aload_n 0, 1) := by decide +kernel
theorem dX11_digest_17 : decode cX11_digest 17 = .ok (.iload_n 1, 1) := by decide +kernel
theorem dX11_digest_18 : decode cX11_digest 18 = .ok (.invokevirtual 258, 3) := by decide +kernel
theorem dX11_digest_21 : decode cX11_digest 21 = .ok (.i2l, 1) := by decide +kernel
theorem dX11_digest_22 : decode cX11_digest 22 = .ok (.invokevirtual 268, 3) := by decide +kernel
theorem dX11_digest_25 : decode cX11_digest 25 = .ok (.iinc 1 1, 3) := by decide +kernel
theorem dX11_digest_28 : decode cX11_digest 28 = .ok (.goto (-19), 3) := by decide +kernel
theorem dX11_digest_31 : decode cX11_digest 31 = .ok (.iconst 0, 1) := by decide +kernel
theorem dX11_digest_32 : decode cX11_digest 32 = .ok (.istore_n 1, 1) := by decide +kernel
theorem dX11_digest_33 : decode cX11_digest 33 = .ok (.iload_n 1, 1) := by decide +kernel
theorem dX11_digest_34 : decode cX11_digest 34 = .ok (.aload_n 0, 1) := by decide +kernel
theorem dX11_digest_35 : decode cX11_digest 35 = .ok (.getfield 126, 3) := by decide +kernel
theorem dX11_digest_38 : decode cX11_digest 38 = .ok (.if_icmp .ge 34, 3) := by decide +kernel
theorem dX11_digest_41 : decode cX11_digest 41 = .ok (.iconst 0, 1) := by decide +kernel
theorem dX11_digest_42 : decode cX11_digest 42 = .ok (.istore_n 2, 1) := by decide +kernel
theorem dX11_digest_43 : decode cX11_digest 43 = .ok (.iload_n 2, 1) := by decide +kernel
theorem dX11_digest_44 : decode cX11_digest 44 = .ok (.bipush 6, 2) := by decide +kernel
theorem dX11_digest_46 : decode cX11_digest 46 = .ok (.if_icmp .gt 20, 3) := by decide +kernel
theorem dX11_digest_49 : decode cX11_digest 49 = .ok (.aload_n 0, 1) := by decide +kernel
theorem dX11_digest_50 : decode cX11_digest 50 = .ok (.aload_n 0, 1) := by decide +kernel
theorem dX11_digest_51 : decode cX11_digest 51 = .ok (.iload_n 1, 1) := by decide +kernel
theorem dX11_digest_52 : decode cX11_digest 52 = .ok (.iload_n 2, 1) := by decide +kernel
theorem dX11_digest_53 : decode cX11_digest 53 = .ok (.invokevirtual 170, 3) := by decide +kernel
theorem dX11_digest_56 : decode cX11_digest 56 = .ok (.i2l, 1) := by decide +kernel
theorem dX11_digest_57 : decode cX11_digest 57 = .ok (.invokevirtual 268, 3) := by decide +kernel
theorem dX11_digest_60 : decode cX11_digest 60 = .ok (.iinc 2 1, 3) := by decide +kernel
theorem dX11_digest_63 : decode cX11_digest 63 = .ok (.goto (-20), 3) := by decide +kernel
theorem dX11_digest_66 : decode cX11_digest 66 = .ok (.iinc 1 1, 3) := by decide +kernel
theorem dX11_digest_69 : decode cX11_digest 69 = .ok (.goto (-36), 3) := by decide +kernel
theorem dX11_digest_72 : decode cX11_digest 72 = .ok (.iconst 0, 1) := by decide +kernel
theorem dX11_digest_73 : decode cX11_digest 73 = .ok (.istore_n 1, 1) := by decide +kernel
theorem dX11_digest_74 : decode cX11_digest 74 = .ok (.iload_n 1, 1) := by decide +kernel
theorem dX11_digest_75 : decode cX11_digest 75 = .ok (.iconst 5, 1) := by decide +kernel
theorem dX11_digest_76 : decode cX11_digest 76 = .ok (.if_icmp .ge 22, 3) := by decide +kernel
theorem dX11_digest_79 : decode cX11_digest 79 = .ok (.aload_n 0, 1) := by decide +kernel
theorem dX11_digest_80 : decode cX11_digest 80 = .ok (.aload_n 0, 1) := by decide +kernel
theorem dX11_digest_81 : decode cX11_digest 81 = .ok (.getfield 48, 3) := by decide +kernel
theorem dX11_digest_84 : decode cX11_digest 84 = .ok (.iconst 1, 1) := by decide +kernel
theorem dX11_digest_85 : decode cX11_digest 85 = .ok (.iload_n 1, 1) := by decide +kernel
theorem dX11_digest_86 : decode cX11_digest 86 = .ok (.iadd, 1) := by decide +kernel
theorem dX11_digest_87 : decode cX11_digest 87 = .ok (.iaload, 1) := by decide +kernel
theorem dX11_digest_88 : decode cX11_digest 88 = .ok (.i2l, 1) := by decide +kernel
theorem dX11_digest_89 : decode cX11_digest 89 = .ok (.invokevirtual 268, 3) := by decide +kernel
theorem dX11_digest_92 : decode cX11_digest 92 = .ok (.iinc 1 1, 3) := by decide +kernel
theorem dX11_digest_95 : decode cX11_digest 95 = .ok (.goto (-21), 3) := by decide +kernel
theorem dX11_digest_98 : decode cX11_digest 98 = .ok (.iconst 0, 1) := by decide +kernel
theorem dX11_digest_99 : decode cX11_digest 99 = .ok (.istore_n 1, 1) := by decide +kernel
theorem dX11_digest_100 : decode cX11_digest 100 = .ok (.iload_n 1, 1) := by decide +kernel
theorem dX11_digest_101 : decode cX11_digest 101 = .ok (.iconst 3, 1) := by decide +kernel
theorem dX11_digest_102 : decode cX11_digest 102 = .ok (.if_icmp .ge 20, 3) := by decide +kernel
theorem dX11_digest_105 : decode cX11_digest 105 = .ok (.aload_n 0, 1) := by decide +kernel
theorem dX11_digest_106 : decode cX11_digest 106 = .ok (.aload_n 0, 1) := by decide +kernel
theorem dX11_digest_107 : decode cX11_digest 107 = .ok (.getfield 57, 3) := by decide +kernel
theorem dX11_digest_110 : decode cX11_digest 110 = .ok (.iload_n 1, 1) := by decide +kernel
theorem dX11_digest_111 : decode cX11_digest 111 = .ok (.iaload, 1) := by decide +kernel
theorem dX11_digest_112 : decode cX11_digest 112 = .ok (.i2l, 1) := by decide +kernel
theorem dX11_digest_113 : decode cX11_digest 113 = .ok (.invokevirtual 268, 3) := by decide +kernel
theorem dX11_digest_116 : decode cX11_digest 116 = .ok (.iinc 1 1, 3) := by decide +kernel
theorem dX11_digest_119 : decode cX11_digest 119 = .ok (.goto (-19), 3) := by decide +kernel
theorem dX11_digest_122 : decode cX11_digest 122 = .ok (.iconst 0, 1) := by decide +kernel
theorem dX11_digest_123 : decode cX11_digest 123 = .ok (.istore_n 1, 1) := by decide +kernel
theorem dX11_digest_124 : decode cX11_digest 124 = .ok (.iload_n 1, 1) := by decide +kernel
theorem dX11_digest_125 : decode cX11_digest 125 = .ok (.bipush 6, 2) := by decide +kernel
theorem dX11_digest_127 : decode cX11_digest 127 = .ok (.if_icmp .ge 49, 3) := by decide +kernel
theorem dX11_digest_130 : decode cX11_digest 130 = .ok (.aload_n 0, 1) := by decide +kernel
theorem dX11_digest_131 : decode cX11_digest 131 = .ok (.aload_n 0, 1) := by decide +kernel
theorem dX11_digest_132 : decode cX11_digest 132 = .ok (.getfield 17, 3) := by decide +kernel
theorem dX11_digest_135 : decode cX11_digest 135 = .ok (.iload_n 1, 1) := by decide +kernel
theorem dX11_digest_136 : decode cX11_digest 136 = .ok (.iaload, 1) := by decide +kernel
theorem dX11_digest_137 : decode cX11_digest 137 = .ok (.i2l, 1) := by decide +kernel
theorem dX11_digest_138 : decode cX11_digest 138 = .ok (.invokevirtual 268, 3) := by decide +kernel
theorem dX11_digest_141 : decode cX11_digest 141 = .ok (.iconst 0, 1) := by decide +kernel
theorem dX11_digest_142 : decode cX11_digest 142 = .ok (.istore_n 2, 1) := by decide +kernel
theorem dX11_digest_143 : decode cX11_digest 143 = .ok (.iload_n 2, 1) := by decide +kernel
theorem dX11_digest_144 : decode cX11_digest 144 = .ok (.aload_n 0, 1) := by decide +kernel
theorem dX11_digest_145 : decode cX11_digest 145 = .ok (.getfield 17, 3) := by decide +kernel
theorem dX11_digest_148 : decode cX11_digest 148 = .ok (.iload_n 1, 1) := by decide +kernel
theorem dX11_digest_149 : decode cX11_digest 149 = .ok (.iaload, 1) := by decide +kernel
theorem dX11_digest_150 : decode cX11_digest 150 = .ok (.if_icmp .ge 20, 3) := by decide +kernel
theorem dX11_digest_153 : decode cX11_digest 153 = .ok (.aload_n 0, 1) := by decide +kernel
theorem dX11_digest_154 : decode cX11_digest 154 = .ok (.aload_n 0, 1) := by decide +kernel
theorem dX11_digest_155 : decode cX11_digest 155 = .ok (.iload_n 1, 1) := by decide +kernel
theorem dX11_digest_156 : decode cX11_digest 156 = .ok (.iload_n 2, 1) := by decide +kernel
theorem dX11_digest_157 : decode cX11_digest 157 = .ok (.invokevirtual 88, 3) := by decide +kernel
theorem dX11_digest_160 : decode cX11_digest 160 = .ok (.i2l, 1) := by decide +kernel
theorem dX11_digest_161 : decode cX11_digest 161 = .ok (.invokevirtual 268, 3) := by decide +kernel
theorem dX11_digest_164 : decode cX11_digest 164 = .ok (.iinc 2 1, 3) := by decide +kernel
theorem dX11_digest_167 : decode cX11_digest 167 = .ok (.goto (-24), 3) := by decide +kernel
theorem dX11_digest_170 : decode cX11_digest 170 = .ok (.iinc 1 1, 3) := by decide +kernel
theorem dX11_digest_173 : decode cX11_digest 173 = .ok (.goto (-49), 3) := by decide +kernel
theorem dX11_digest_176 : decode cX11_digest 176 = .ok (.iconst 0, 1) := by decide +kernel
theorem dX11_digest_177 : decode cX11_digest 177 = .ok (.istore_n 1, 1) := by decide +kernel
theorem dX11_digest_178 : decode cX11_digest 178 = .ok (.iload_n 1, 1) := by decide +kernel
theorem dX11_digest_179 : decode cX11_digest 179 = .ok (.iconst 4, 1) := by decide +kernel
theorem dX11_digest_180 : decode cX11_digest 180 = .ok (.if_icmp .ge 54, 3) := by decide +kernel
theorem dX11_digest_183 : decode cX11_digest 183 = .ok (.aload_n 0, 1) := by decide +kernel
theorem dX11_digest_184 : decode cX11_digest 184 = .ok (.aload_n 0, 1) := by decide +kernel
theorem dX11_digest_185 : decode cX11_digest 185 = .ok (.getfield 26, 3) := by decide +kernel
theorem dX11_digest_188 : decode cX11_digest 188 = .ok (.iload_n 1, 1) := by decide +kernel
theorem dX11_digest_189 : decode cX11_digest 189 = .ok (.iaload, 1) := by decide +kernel
theorem dX11_digest_190 : decode cX11_digest 190 = .ok (.i2l, 1) := by decide +kernel
theorem dX11_digest_191 : decode cX11_digest 191 = .ok (.invokevirtual 268, 3) := by decide +kernel
theorem dX11_digest_194 : decode cX11_digest 194 = .ok (.iconst 0, 1) := by decide +kernel
theorem dX11_digest_195 : decode cX11_digest 195 = .ok (.istore_n 2, 1) := by decide +kernel
theorem dX11_digest_196 : decode cX11_digest 196 = .ok (.iload_n 2, 1) := by decide +kernel
theorem dX11_digest_197 : decode cX11_digest 197 = .ok (.aload_n 0, 1) := by decide +kernel
theorem dX11_digest_198 : decode cX11_digest 198 = .ok (.getfield 26, 3) := by decide +kernel
theorem dX11_digest_201 : decode cX11_digest 201 = .ok (.iload_n 1, 1) := by decide +kernel
theorem dX11_digest_202 : decode cX11_digest 202 = .ok (.iaload, 1) := by decide +kernel
theorem dX11_digest_203 : decode cX11_digest 203 = .ok (.if_icmp .ge 25, 3) := by decide +kernel
theorem dX11_digest_206 : decode cX11_digest 206 = .ok (.aload_n 0, 1) := by decide +kernel
theorem dX11_digest_207 : decode cX11_digest 207 = .ok (.aload_n 0, 1) := by decide +kernel
theorem dX11_digest_208 : decode cX11_digest 208 = .ok (.getfield 29, 3) := by decide +kernel
theorem dX11_digest_211 : decode cX11_digest 211 = .ok (.bipush 60, 2) := by decide +kernel
theorem dX11_digest_213 : decode cX11_digest 213 = .ok (.iload_n 1, 1) := by decide +kernel
theorem dX11_digest_214 : decode cX11_digest 214 = .ok (.imul, 1) := by decide +kernel
theorem dX11_digest_215 : decode cX11_digest 215 = .ok (.iload_n 2, 1) := by decide +kernel
theorem dX11_digest_216 : decode cX11_digest 216 = .ok (.iadd, 1) := by decide +kernel
theorem dX11_digest_217 : decode cX11_digest 217 = .ok (.baload, 1) := by decide +kernel
theorem dX11_digest_218 : decode cX11_digest 218 = .ok (.i2l, 1) := by decide +kernel
theorem dX11_digest_219 : decode cX11_digest 219 = .ok (.invokevirtual 268, 3) := by decide +kernel
theorem dX11_digest_222 : decode cX11_digest 222 = .ok (.iinc 2 1, 3) := by decide +kernel
theorem dX11_digest_225 : decode cX11_digest 225 = .ok (.goto (-29), 3) := by decide +kernel
theorem dX11_digest_228 : decode cX11_digest 228 = .ok (.iinc 1 1, 3) := by decide +kernel
theorem dX11_digest_231 : decode cX11_digest 231 = .ok (.goto (-53), 3) := by decide +kernel
theorem dX11_digest_234 : decode cX11_digest 234 = .ok (.aload_n 0, 1) := by decide +kernel
theorem dX11_digest_235 : decode cX11_digest 235 = .ok (.getfield 263, 3) := by decide +kernel
theorem dX11_digest_238 : decode cX11_digest 238 = .ok (.lreturn, 1) := by decide +kernel
