theorem dX6_ages_15 : decode cX6_ages 15 = .ok (.iconst 1, 1) := by decide +kernel
theorem dX6_ages_16 : decode cX6_ages 16 = .ok (.iadd, 1) := by decide +kernel
theorem dX6_ages_17 : decode cX6_ages 17 = .ok (.sipush 999, 3) := by decide +kernel
theorem dX6_ages_20 : decode cX6_ages 20 = .ok (.invokestatic 126, 3) := by decide +kernel
theorem dX6_ages_23 : decode cX6_ages 23 = .ok (.iastore, 1) := by decide +kernel
theorem dX6_ages_24 : decode cX6_ages 24 = .ok (.aload_n 0, 1) := by decide +kernel
theorem dX6_ages_25 : decode cX6_ages 25 = .ok (.iload_n 1, 1) := by decide +kernel
theorem dX6_ages_26 : decode cX6_ages 26 = .ok (.iconst 4, 1) := by decide +kernel
theorem dX6_ages_27 : decode cX6_ages 27 = .ok (.invokevirtual 74, 3) := by decide +kernel
theorem dX6_ages_30 : decode cX6_ages 30 = .ok (.aload_n 0, 1) := by decide +kernel
theorem dX6_ages_31 : decode cX6_ages 31 = .ok (.iload_n 1, 1) := by decide +kernel
theorem dX6_ages_32 : decode cX6_ages 32 = .ok (.aload_n 0, 1) := by decide +kernel
theorem dX6_ages_33 : decode cX6_ages 33 = .ok (.iload_n 1, 1) := by decide +kernel
theorem dX6_ages_34 : decode cX6_ages 34 = .ok (.iconst 3, 1) := by decide +kernel
theorem dX6_ages_35 : decode cX6_ages 35 = .ok (.invokevirtual 74, 3) := by decide +kernel
theorem dX6_ages_38 : decode cX6_ages 38 = .ok (.iconst 2, 1) := by decide +kernel
theorem dX6_ages_39 : decode cX6_ages 39 = .ok (.if_icmp .ne 7, 3) := by decide +kernel
theorem dX6_ages_42 : decode cX6_ages 42 = .ok (.iconst 1, 1) := by decide +kernel
theorem dX6_ages_43 : decode cX6_ages 43 = .ok (.goto 4, 3) := by decide +kernel
theorem dX6_ages_46 : decode cX6_ages 46 = .ok (.iconst 0, 1) := by decide +kernel
theorem dX6_ages_47 : decode cX6_ages 47 = .ok (.invokevirtual 106, 3) := by decide +kernel
theorem dX6_ages_50 : decode cX6_ages 50 = .ok (.if_icmp .le 14, 3) := by decide +kernel
theorem dX6_ages_53 : decode cX6_ages 53 = .ok (.aload_n 0, 1) := by decide +kernel
theorem dX6_ages_54 : decode cX6_ages 54 = .ok (.getfield 7, 3) := by decide +kernel
theorem dX6_ages_57 : decode cX6_ages 57 = .ok (.iload_n 1, 1) := by decide +kernel
theorem dX6_ages_58 : decode cX6_ages 58 = .ok (.iconst 3, 1) := by decide +kernel
theorem dX6_ages_59 : decode cX6_ages 59 = .ok (.invokestatic 52, 3) := by decide +kernel
theorem dX6_ages_62 : decode cX6_ages 62 = .ok (.iconst 0, 1) := by decide +kernel
theorem dX6_ages_63 : decode cX6_ages 63 = .ok (.iastore, 1) := by decide +kernel
theorem dX6_ages_64 : decode cX6_ages 64 = .ok (.return_, 1) := by decide +kernel
theorem dX6_week_0 : decode cX6_week 0 = .ok (.aload_n 0, 1) := by decide +kernel
theorem dX6_week_1 : decode cX6_week 1 = .ok (.invokevirtual 139, 3) := by decide +kernel
theorem dX6_week_4 : decode cX6_week 4 = .ok (.istore_n 1, 1) := by decide +kernel
theorem dX6_week_5 : decode cX6_week 5 = .ok (.iconst 0, 1) := by decide +kernel
theorem dX6_week_6 : decode cX6_week 6 = .ok (.istore_n 2, 1) := by decide +kernel
theorem dX6_week_7 : decode cX6_week 7 = .ok (.iload_n 2, 1) := by decide +kernel
theorem dX6_week_8 : decode cX6_week 8 = .ok (.aload_n 0, 1) := by decide +kernel
theorem dX6_week_9 : decode cX6_week 9 = .ok (.getfield 7, 3) := by decide +kernel
theorem dX6_week_12 : decode cX6_week 12 = .ok (.iconst 4, 1) := by decide +kernel
theorem dX6_week_13 : decode cX6_week 13 = .ok (.iaload, 1) := by decide +kernel
theorem dX6_week_14 : decode cX6_week 14 = .ok (.if_icmp .ge 30, 3) := by decide +kernel
theorem dX6_week_17 : decode cX6_week 17 = .ok (.iload_n 1, 1) := by decide +kernel
theorem dX6_week_18 : decode cX6_week 18 = .ok (.ifCond .lt 26, 3) := by decide +kernel
theorem dX6_week_21 : decode cX6_week 21 = .ok (.aload_n 0, 1) := by decide +kernel
theorem dX6_week_22 : decode cX6_week 22 = .ok (.iload_n 1, 1) := by decide +kernel
theorem dX6_week_23 : decode cX6_week 23 = .ok (.aload_n 0, 1) := by decide +kernel
theorem dX6_week_24 : decode cX6_week 24 = .ok (.getfield 7, 3) := by decide +kernel
theorem dX6_week_27 : decode cX6_week 27 = .ok (.iconst 5, 1) := by decide +kernel
theorem dX6_week_28 : decode cX6_week 28 = .ok (.iaload, 1) := by decide +kernel
theorem dX6_week_29 : decode cX6_week 29 = .ok (.invokevirtual 132, 3) := by decide +kernel
theorem dX6_week_32 : decode cX6_week 32 = .ok (.istore_n 3, 1) := by decide +kernel
theorem dX6_week_33 : decode cX6_week 33 = .ok (.aload_n 0, 1) := by decide +kernel
theorem dX6_week_34 : decode cX6_week 34 = .ok (.invokevirtual 139, 3) := by decide +kernel
theorem dX6_week_37 : decode cX6_week 37 = .ok (.istore_n 1, 1) := by decide +kernel
theorem dX6_week_38 : decode cX6_week 38 = .ok (.iinc 2 1, 3) := by decide +kernel
theorem dX6_week_41 : decode cX6_week 41 = .ok (.goto (-34), 3) := by decide +kernel
theorem dX6_week_44 : decode cX6_week 44 = .ok (.iconst 0, 1) := by decide +kernel
theorem dX6_week_45 : decode cX6_week 45 = .ok (.istore_n 2, 1) := by decide +kernel
theorem dX6_week_46 : decode cX6_week 46 = .ok (.iload_n 2, 1) := by decide +kernel
theorem dX6_week_47 : decode cX6_week 47 = .ok (.aload_n 0, 1) := by decide +kernel
theorem dX6_week_48 : decode cX6_week 48 = .ok (.getfield 7, 3) := by decide +kernel
theorem dX6_week_51 : decode cX6_week 51 = .ok (.iconst 0, 1) := by decide +kernel
theorem dX6_week_52 : decode cX6_week 52 = .ok (.iaload, 1) := by decide +kernel
theorem dX6_week_53 : decode cX6_week 53 = .ok (.if_icmp .ge 53, 3) := by decide +kernel
theorem dX6_week_56 : decode cX6_week 56 = .ok (.aload_n 0, 1) := by decide +kernel
theorem dX6_week_57 : decode cX6_week 57 = .ok (.iload_n 2, 1) := by decide +kernel
theorem dX6_week_58 : decode cX6_week 58 = .ok (.iconst 3, 1) := by decide +kernel
theorem dX6_week_59 : decode cX6_week 59 = .ok (.invokevirtual 74, 3) := by decide +kernel
theorem dX6_week_62 : decode cX6_week 62 = .ok (.ifCond .le 11, 3) := by decide +kernel
theorem dX6_week_65 : decode cX6_week 65 = .ok (.aload_n 0, 1) := by decide +kernel
theorem dX6_week_66 : decode cX6_week 66 = .ok (.iload_n 2, 1) := by decide +kernel
theorem dX6_week_67 : decode cX6_week 67 = .ok (.invokevirtual 143, 3) := by decide +kernel
theorem dX6_week_70 : decode cX6_week 70 = .ok (.goto 30, 3) := by decide +kernel
theorem dX6_week_73 : decode cX6_week 73 = .ok (.aload_n 0, 1) := by decide +kernel
theorem dX6_week_74 : decode cX6_week 74 = .ok (.getfield 7, 3) := by decide +kernel
theorem dX6_week_77 : decode cX6_week 77 = .ok (.iload_n 2, 1) := by decide +kernel
theorem dX6_week_78 : decode cX6_week 78 = .ok (.iconst 2, 1) := by decide +kernel
theorem dX6_week_79 : decode cX6_week 79 = .ok (.invokestatic 52, 3) := by decide +kernel
theorem dX6_week_82 : decode cX6_week 82 = .ok (.aload_n 0, 1) := by decide +kernel
theorem dX6_week_83 : decode cX6_week 83 = .ok (.iload_n 2, 1) := by decide +kernel
theorem dX6_week_84 : decode cX6_week 84 = .ok (.iconst 2, 1) := by decide +kernel
theorem dX6_week_85 : decode cX6_week 85 = .ok (.invokevirtual 74, 3) := by decide +kernel
theorem dX6_week_88 : decode cX6_week 88 = .ok (.aload_n 0, 1) := by decide +kernel
theorem dX6_week_89 : decode cX6_week 89 = .ok (.iload_n 2, 1) := by decide +kernel
theorem dX6_week_90 : decode cX6_week 90 = .ok (.invokevirtual 103, 3) := by decide +kernel
theorem dX6_week_93 : decode cX6_week 93 = .ok (.iadd, 1) := by decide +kernel
theorem dX6_week_94 : decode cX6_week 94 = .ok (.bipush 99, 2) := by decide +kernel
theorem dX6_week_96 : decode cX6_week 96 = .ok (.invokestatic 126, 3) := by decide +kernel
theorem dX6_week_99 : decode cX6_week 99 = .ok (.iastore, 1) := by decide +kernel
theorem dX6_week_100 : decode cX6_week 100 = .ok (.iinc 2 1, 3) := by decide +kernel
theorem dX6_week_103 : decode cX6_week 103 = .ok (.goto (-57), 3) := by decide +kernel
theorem dX6_week_106 : decode cX6_week 106 = .ok (.aload_n 0, 1) := by decide +kernel
theorem dX6_week_107 : decode cX6_week 107 = .ok (.getfield 7, 3) := by decide +kernel
theorem dX6_week_110 : decode cX6_week 110 = .ok (.iconst 1, 1) := by decide +kernel
theorem dX6_week_111 : decode cX6_week 111 = .ok (.dup2, 1) := by decide +kernel
theorem dX6_week_112 : decode cX6_week 112 = .ok (.iaload, 1) := by decide +kernel
theorem dX6_week_113 : decode cX6_week 113 = .ok (.iconst 1, 1) := by decide +kernel
theorem dX6_week_114 : decode cX6_week 114 = .ok (.iadd, 1) := by decide +kernel
theorem dX6_week_115 : decode cX6_week 115 = .ok (.iastore, 1) := by decide +kernel
theorem dX6_week_116 : decode cX6_week 116 = .ok (.aload_n 0, 1) := by decide +kernel
theorem dX6_week_117 : decode cX6_week 117 = .ok (.getfield 7, 3) := by decide +kernel
theorem dX6_week_120 : decode cX6_week 120 = .ok (.iconst 2, 1) := by decide +kernel
theorem dX6_week_121 : decode cX6_week 121 = .ok (.aload_n 0, 1) := by decide +kernel
theorem dX6_week_122 : decode cX6_week 122 = .ok (.invokevirtual 87, 3) := by decide +kernel
theorem dX6_week_125 : decode cX6_week 125 = .ok (.bipush 12, 2) := by decide +kernel
theorem dX6_week_127 : decode cX6_week 127 = .ok (.if_icmp .ne 12, 3) := by decide +kernel
theorem dX6_week_130 : decode cX6_week 130 = .ok (.aload_n 0, 1) := by decide +kernel
theorem dX6_week_131 : decode cX6_week 131 = .ok (.getfield 7, 3) := by decide +kernel
theorem dX6_week_134 : decode cX6_week 134 = .ok (.iconst 3, 1) := by decide +kernel
theorem dX6_week_135 : decode cX6_week 135 = .ok (.iaload, 1) := by decide +kernel
theorem dX6_week_136 : decode cX6_week 136 = .ok (.goto 9, 3) := by decide +kernel
theorem dX6_week_139 : decode cX6_week 139 = .ok (.aload_n 0, 1) := by decide +kernel
theorem dX6_week_140 : decode cX6_week 140 = .ok (.getfield 7, 3) := by decide +kernel
theorem dX6_week_143 : decode cX6_week 143 = .ok (.iconst 2, 1) := by decide +kernel
theorem dX6_week_144 : decode cX6_week 144 = .ok (.iaload, 1) := by decide +kernel
theorem dX6_week_145 : decode cX6_week 145 = .ok (.iastore, 1) := by decide +kernel
theorem dX6_week_146 : decode cX6_week 146 = .ok (.return_, 1) := by decide +kernel
theorem dX6_weeksGo_0 : decode cX6_weeksGo 0 = .ok (.iconst 0, 1) := by decide +kernel
theorem dX6_weeksGo_1 : decode cX6_weeksGo 1 = .ok (.istore_n 2, 1) := by decide +kernel
theorem dX6_weeksGo_2 : decode cX6_weeksGo 2 = .ok (.iload_n 2, 1) := by decide +kernel
theorem dX6_weeksGo_3 : decode cX6_weeksGo 3 = .ok (.iload_n 1, 1) := by decide +kernel
theorem dX6_weeksGo_4 : decode cX6_weeksGo 4 = .ok (.if_icmp .ge 13, 3) := by decide +kernel
theorem dX6_weeksGo_7 : decode cX6_weeksGo 7 = .ok (.aload_n 0, 1) := by decide +kernel
theorem dX6_weeksGo_8 : decode cX6_weeksGo 8 = .ok (.invokevirtual 147, 3) := by decide +kernel
theorem dX6_weeksGo_11 : decode cX6_weeksGo 11 = .ok (.iinc 2 1, 3) := by decide +kernel
theorem dX6_weeksGo_14 : decode cX6_weeksGo 14 = .ok (.goto (-12), 3) := by decide +kernel
theorem dX6_weeksGo_17 : decode cX6_weeksGo 17 = .ok (.return_, 1) := by decide +kernel
theorem dX6_weeks_0 : decode cX6_weeks 0 = .ok (.iload_n 1, 1) := by decide +kernel
theorem dX6_weeks_1 : decode cX6_weeks 1 = .ok (.i2l, 1) := by decide +kernel
theorem dX6_weeks_2 : decode cX6_weeks 2 = .ok (.lconst 1, 1) := by decide +kernel
theorem dX6_weeks_3 : decode cX6_weeks 3 = .ok (.ldc2_w 150, 3) := by decide +kernel
theorem dX6_weeks_6 : decode cX6_weeks 6 = .ok (.invokestatic 48, 3) := by decide +kernel
theorem dX6_weeks_9 : decode cX6_weeks 9 = .ok (.ifCond .ne 10, 3) := by decide +kernel
theorem dX6_weeks_12 : decode cX6_weeks 12 = .ok (.aload_n 0, 1) := by decide +kernel
theorem dX6_weeks_13 : decode cX6_weeks 13 = .ok (.ldc 45, 2) := by decide +kernel
theorem dX6_weeks_15 : decode cX6_weeks 15 = .ok (.invokevirtual 64, 3) := by decide +kernel
theorem dX6_weeks_18 : decode cX6_weeks 18 = .ok (.ireturn, 1) := by decide +kernel
theorem dX6_weeks_19 : decode cX6_weeks 19 = .ok (.aload_n 0, 1) := by decide +kernel
theorem dX6_weeks_20 : decode cX6_weeks 20 = .ok (.getfield 7, 3) := by decide +kernel
theorem dX6_weeks_23 : decode cX6_weeks 23 = .ok (.iconst 1, 1) := by decide +kernel
theorem dX6_weeks_24 : decode cX6_weeks 24 = .ok (.iaload, 1) := by decide +kernel
theorem dX6_weeks_25 : decode cX6_weeks 25 = .ok (.iload_n 1, 1) := by decide +kernel
theorem dX6_weeks_26 : decode cX6_weeks 26 = .ok (.iadd, 1) := by decide +kernel
theorem dX6_weeks_27 : decode cX6_weeks 27 = .ok (.sipush 9999, 3) := by decide +kernel
theorem dX6_weeks_30 : decode cX6_weeks 30 = .ok (.if_icmp .le 10, 3) := by decide +kernel
theorem dX6_weeks_33 : decode cX6_weeks 33 = .ok (.aload_n 0, 1) := by decide +kernel
theorem dX6_weeks_34 : decode cX6_weeks 34 = .ok (.ldc 135, 2) := by decide +kernel
theorem dX6_weeks_36 : decode cX6_weeks 36 = .ok (.invokevirtual 64, 3) := by decide +kernel
theorem dX6_weeks_39 : decode cX6_weeks 39 = .ok (.ireturn, 1) := by decide +kernel
theorem dX6_weeks_40 : decode cX6_weeks 40 = .ok (.aload_n 0, 1) := by decide +kernel
theorem dX6_weeks_41 : decode cX6_weeks 41 = .ok (.iload_n 1, 1) := by decide +kernel
theorem dX6_weeks_42 : decode cX6_weeks 42 = .ok (.invokevirtual 152, 3) := by decide +kernel
theorem dX6_weeks_45 : decode cX6_weeks 45 = .ok (.aload_n 0, 1) := by decide +kernel
theorem dX6_weeks_46 : decode cX6_weeks 46 = .ok (.iconst 3, 1) := by decide +kernel
theorem dX6_weeks_47 : decode cX6_weeks 47 = .ok (.iconst 0, 1) := by decide +kernel
theorem dX6_weeks_48 : decode cX6_weeks 48 = .ok (.invokevirtual 77, 3) := by decide +kernel
theorem dX6_weeks_51 : decode cX6_weeks 51 = .ok (.ireturn, 1) := by decide +kernel
theorem dX6_sizesOf_0 : decode cX6_sizesOf 0 = .ok (.iconst 0, 1) := by decide +kernel
theorem dX6_sizesOf_1 : decode cX6_sizesOf 1 = .ok (.istore_n 2, 1) := by decide +kernel
theorem dX6_sizesOf_2 : decode cX6_sizesOf 2 = .ok (.iconst 0, 1) := by decide +kernel
theorem dX6_sizesOf_3 : decode cX6_sizesOf 3 = .ok (.istore_n 3, 1) := by decide +kernel
theorem dX6_sizesOf_4 : decode cX6_sizesOf 4 = .ok (.iload_n 3, 1) := by decide +kernel
theorem dX6_sizesOf_5 : decode cX6_sizesOf 5 = .ok (.aload_n 0, 1) := by decide +kernel
theorem dX6_sizesOf_6 : decode cX6_sizesOf 6 = .ok (.getfield 7, 3) := by decide +kernel
theorem dX6_sizesOf_9 : decode cX6_sizesOf 9 = .ok (.iconst 0, 1) := by decide +kernel
theorem dX6_sizesOf_10 : decode cX6_sizesOf 10 = .ok (.iaload, 1) := by decide +kernel
theorem dX6_sizesOf_11 : decode cX6_sizesOf 11 = .ok (.if_icmp .ge 31, 3) := by decide +kernel
theorem dX6_sizesOf_14 : decode cX6_sizesOf 14 = .ok (.iload_n 2, 1) := by decide +kernel
theorem dX6_sizesOf_15 : decode cX6_sizesOf 15 = .ok (.iload_n 1, 1) := by decide +kernel
theorem dX6_sizesOf_16 : decode cX6_sizesOf 16 = .ok (.iload_n 3, 1) := by decide +kernel
theorem dX6_sizesOf_17 : decode cX6_sizesOf 17 = .ok (.ishr, 1) := by decide +kernel
theorem dX6_sizesOf_18 : decode cX6_sizesOf 18 = .ok (.iconst 1, 1) := by decide +kernel
theorem dX6_sizesOf_19 : decode cX6_sizesOf 19 = .ok (.iand, 1) := by decide +kernel
theorem dX6_sizesOf_20 : decode cX6_sizesOf 20 = .ok (.iconst 1, 1) := by decide +kernel
theorem dX6_sizesOf_21 : decode cX6_sizesOf 21 = .ok (.if_icmp .ne 12, 3) := by decide +kernel
theorem dX6_sizesOf_24 : decode cX6_sizesOf 24 = .ok (.aload_n 0, 1) := by decide +kernel
theorem dX6_sizesOf_25 : decode cX6_sizesOf 25 = .ok (.iload_n 3, 1) := by decide +kernel
theorem dX6_sizesOf_26 : decode cX6_sizesOf 26 = .ok (.iconst 2, 1) := by decide +kernel
theorem dX6_sizesOf_27 : decode cX6_sizesOf 27 = .ok (.invokevirtual 74, 3) := by decide +kernel
theorem dX6_sizesOf_30 : decode cX6_sizesOf 30 = .ok (.goto 4, 3) := by decide +kernel
theorem dX6_sizesOf_33 : decode cX6_sizesOf 33 = .ok (.iconst 0, 1) := by decide +kernel
theorem dX6_sizesOf_34 : decode cX6_sizesOf 34 = .ok (.iadd, 1) := by decide +kernel
theorem dX6_sizesOf_35 : decode cX6_sizesOf 35 = .ok (.istore_n 2, 1) := by decide +kernel
theorem dX6_sizesOf_36 : decode cX6_sizesOf 36 = .ok (.iinc 3 1, 3) := by decide +kernel
theorem dX6_sizesOf_39 : decode cX6_sizesOf 39 = .ok (.goto (-35), 3) := by decide +kernel
theorem dX6_sizesOf_42 : decode cX6_sizesOf 42 = .ok (.iload_n 2, 1) := by decide +kernel
theorem dX6_sizesOf_43 : decode cX6_sizesOf 43 = .ok (.ireturn, 1) := by decide +kernel
theorem dX6_worseNow_0 : decode cX6_worseNow 0 = .ok (.aload_n 0, 1) := by decide +kernel
theorem dX6_worseNow_1 : decode cX6_worseNow 1 = .ok (.aload_n 0, 1) := by decide +kernel
theorem dX6_worseNow_2 : decode cX6_worseNow 2 = .ok (.iconst 3, 1) := by decide +kernel
theorem dX6_worseNow_3 : decode cX6_worseNow 3 = .ok (.iconst 0, 1) := by decide +kernel
theorem dX6_worseNow_4 : decode cX6_worseNow 4 = .ok (.invokevirtual 77, 3) := by decide +kernel
theorem dX6_worseNow_7 : decode cX6_worseNow 7 = .ok (.invokevirtual 155, 3) := by decide +kernel
theorem dX6_worseNow_10 : decode cX6_worseNow 10 = .ok (.ireturn, 1) := by decide +kernel
theorem dX6_now_0 : decode cX6_now 0 = .ok (.iload_n 1, 1) := by decide +kernel
theorem dX6_now_1 : decode cX6_now 1 = .ok (.tableswitch 81 0 7 #[47, 54, 54, 54, 54, 54, 63, 76], 47) := by decide +kernel
theorem dX6_now_48 : decode cX6_now 48 = .ok (.aload_n 0, 1) := by decide +kernel
theorem dX6_now_49 : decode cX6_now 49 = .ok (.getfield 7, 3) := by decide +kernel
theorem dX6_now_52 : decode cX6_now 52 = .ok (.iconst 1, 1) := by decide +kernel
theorem dX6_now_53 : decode cX6_now 53 = .ok (.iaload, 1) := by decide +kernel
theorem dX6_now_54 : decode cX6_now 54 = .ok (.ireturn, 1) := by decide +kernel
theorem dX6_now_55 : decode cX6_now 55 = .ok (.aload_n 0, 1) := by decide +kernel
theorem dX6_now_56 : decode cX6_now 56 = .ok (.getfield 7, 3) := by decide +kernel
theorem dX6_now_59 : decode cX6_now 59 = .ok (.iconst 1, 1) := by decide +kernel
theorem dX6_now_60 : decode cX6_now 60 = .ok (.iload_n 1, 1) := by decide +kernel
theorem dX6_now_61 : decode cX6_now 61 = .ok (.iadd, 1) := by decide +kernel
theorem dX6_now_62 : decode cX6_now 62 = .ok (.iaload, 1) := by decide +kernel
theorem dX6_now_63 : decode cX6_now 63 = .ok (.ireturn, 1) := by decide +kernel
theorem dX6_now_64 : decode cX6_now 64 = .ok (.aload_n 0, 1) := by decide +kernel
theorem dX6_now_65 : decode cX6_now 65 = .ok (.invokevirtual 91, 3) := by decide +kernel
theorem dX6_now_68 : decode cX6_now 68 = .ok (.ifCond .eq 7, 3) := by decide +kernel
theorem dX6_now_71 : decode cX6_now 71 = .ok (.iconst 1, 1) := by decide +kernel
theorem dX6_now_72 : decode cX6_now 72 = .ok (.goto 4, 3) := by decide +kernel
theorem dX6_now_75 : decode cX6_now 75 = .ok (.iconst 0, 1) := by decide +kernel
theorem dX6_now_76 : decode cX6_now 76 = .ok (.ireturn, 1) := by decide +kernel
theorem dX6_now_77 : decode cX6_now 77 = .ok (.aload_n 0, 1) := by decide +kernel
theorem dX6_now_78 : decode cX6_now 78 = .ok (.invokevirtual 158, 3) := by decide +kernel
theorem dX6_now_81 : decode cX6_now 81 = .ok (.ireturn, 1) := by decide +kernel
theorem dX6_now_82 : decode cX6_now 82 = .ok (.aload_n 0, 1) := by decide +kernel
theorem dX6_now_83 : decode cX6_now 83 = .ok (.ldc 45, 2) := by decide +kernel
theorem dX6_now_85 : decode cX6_now 85 = .ok (.invokevirtual 64, 3) := by decide +kernel
theorem dX6_now_88 : decode cX6_now 88 = .ok (.ireturn, 1) := by decide +kernel
theorem dX6_isFar_0 : decode cX6_isFar 0 = .ok (.iload_n 0, 1) := by decide +kernel
theorem dX6_isFar_1 : decode cX6_isFar 1 = .ok (.i2l, 1) := by decide +kernel
theorem dX6_isFar_2 : decode cX6_isFar 2 = .ok (.iload_n 1, 1) := by decide +kernel
theorem dX6_isFar_3 : decode cX6_isFar 3 = .ok (.i2l, 1) := by decide +kernel
theorem dX6_isFar_4 : decode cX6_isFar 4 = .ok (.iload_n 2, 1) := by decide +kernel
theorem dX6_isFar_5 : decode cX6_isFar 5 = .ok (.i2l, 1) := by decide +kernel
theorem dX6_isFar_6 : decode cX6_isFar 6 = .ok (.invokestatic 48, 3) := by decide +kernel
theorem dX6_isFar_9 : decode cX6_isFar 9 = .ok (.ireturn, 1) := by decide +kernel
theorem dX6_on_0 : decode cX6_on 0 = .ok (.aload_n 0, 1) := by decide +kernel
theorem dX6_on_1 : decode cX6_on 1 = .ok (.iload_n 1, 1) := by decide +kernel
theorem dX6_on_2 : decode cX6_on 2 = .ok (.invokevirtual 98, 3) := by decide +kernel
theorem dX6_on_5 : decode cX6_on 5 = .ok (.ifCond .eq 23, 3) := by decide +kernel
theorem dX6_on_8 : decode cX6_on 8 = .ok (.iload_n 2, 1) := by decide +kernel
theorem dX6_on_9 : decode cX6_on 9 = .ok (.iconst 0, 1) := by decide +kernel
theorem dX6_on_10 : decode cX6_on 10 = .ok (.bipush 104, 2) := by decide +kernel
theorem dX6_on_12 : decode cX6_on 12 = .ok (.invokestatic 161, 3) := by decide +kernel
theorem dX6_on_15 : decode cX6_on 15 = .ok (.ifCond .eq 13, 3) := by decide +kernel
theorem dX6_on_18 : decode cX6_on 18 = .ok (.iload_n 3, 1) := by decide +kernel
theorem dX6_on_19 : decode cX6_on 19 = .ok (.i2l, 1) := by decide +kernel
theorem dX6_on_20 : decode cX6_on 20 = .ok (.lconst 0, 1) := by decide +kernel
theorem dX6_on_21 : decode cX6_on 21 = .ok (.lconst 1, 1) := by decide +kernel
theorem dX6_on_22 : decode cX6_on 22 = .ok (.invokestatic 48, 3) := by decide +kernel
theorem dX6_on_25 : decode cX6_on 25 = .ok (.ifCond .ne 10, 3) := by decide +kernel
theorem dX6_on_28 : decode cX6_on 28 = .ok (.aload_n 0, 1) := by decide +kernel
theorem dX6_on_29 : decode cX6_on 29 = .ok (.ldc 45, 2) := by decide +kernel
theorem dX6_on_31 : decode cX6_on 31 = .ok (.invokevirtual 64, 3) := by decide +kernel
theorem dX6_on_34 : decode cX6_on 34 = .ok (.ireturn, 1) := by decide +kernel
theorem dX6_on_35 : decode cX6_on 35 = .ok (.aload_n 0, 1) := by decide +kernel
theorem dX6_on_36 : decode cX6_on 36 = .ok (.invokevirtual 165, 3) := by decide +kernel
theorem dX6_on_39 : decode cX6_on 39 = .ok (.aload_n 0, 1) := by decide +kernel
theorem dX6_on_40 : decode cX6_on 40 = .ok (.iload_n 2, 1) := by decide +kernel
theorem dX6_on_41 : decode cX6_on 41 = .ok (.invokevirtual 152, 3) := by decide +kernel
theorem dX6_on_44 : decode cX6_on 44 = .ok (.aload_n 0, 1) := by decide +kernel
theorem dX6_on_45 : decode cX6_on 45 = .ok (.aload_n 0, 1) := by decide +kernel
theorem dX6_on_46 : decode cX6_on 46 = .ok (.iload_n 1, 1) := by decide +kernel
theorem dX6_on_47 : decode cX6_on 47 = .ok (.iload_n 3, 1) := by decide +kernel
theorem dX6_on_48 : decode cX6_on 48 = .ok (.ifCond .ne 7, 3) := by decide +kernel
theorem dX6_on_51 : decode cX6_on 51 = .ok (.iconst 2, 1) := by decide +kernel
theorem dX6_on_52 : decode cX6_on 52 = .ok (.goto 4, 3) := by decide +kernel
theorem dX6_on_55 : decode cX6_on 55 = .ok (.iconst 3, 1) := by decide +kernel
theorem dX6_on_56 : decode cX6_on 56 = .ok (.invokevirtual 74, 3) := by decide +kernel
theorem dX6_on_59 : decode cX6_on 59 = .ok (.invokevirtual 168, 3) := by decide +kernel
theorem dX6_on_62 : decode cX6_on 62 = .ok (.ireturn, 1) := by decide +kernel
theorem dX6_worseIn_0 : decode cX6_worseIn 0 = .ok (.aload_n 0, 1) := by decide +kernel
theorem dX6_worseIn_1 : decode cX6_worseIn 1 = .ok (.invokevirtual 165, 3) := by decide +kernel
theorem dX6_worseIn_4 : decode cX6_worseIn 4 = .ok (.aload_n 0, 1) := by decide +kernel
theorem dX6_worseIn_5 : decode cX6_worseIn 5 = .ok (.iload_n 1, 1) := by decide +kernel
theorem dX6_worseIn_6 : decode cX6_worseIn 6 = .ok (.invokevirtual 152, 3) := by decide +kernel
theorem dX6_worseIn_9 : decode cX6_worseIn 9 = .ok (.aload_n 0, 1) := by decide +kernel
theorem dX6_worseIn_10 : decode cX6_worseIn 10 = .ok (.aload_n 0, 1) := by decide +kernel
theorem dX6_worseIn_11 : decode cX6_worseIn 11 = .ok (.invokevirtual 158, 3) := by decide +kernel
theorem dX6_worseIn_14 : decode cX6_worseIn 14 = .ok (.invokevirtual 168, 3) := by decide +kernel
theorem dX6_worseIn_17 : decode cX6_worseIn 17 = .ok (.ireturn, 1) := by decide +kernel
theorem dX6_worse_0 : decode cX6_worse 0 = .ok (.iload_n 1, 1) := by decide +kernel
theorem dX6_worse_1 : decode cX6_worse 1 = .ok (.iconst 0, 1) := by decide +kernel
theorem dX6_worse_2 : decode cX6_worse 2 = .ok (.bipush 104, 2) := by decide +kernel
theorem dX6_worse_4 : decode cX6_worse 4 = .ok (.invokestatic 161, 3) := by decide +kernel
theorem dX6_worse_7 : decode cX6_worse 7 = .ok (.ifCond .eq 11, 3) := by decide +kernel
theorem dX6_worse_10 : decode cX6_worse 10 = .ok (.aload_n 0, 1) := by decide +kernel
theorem dX6_worse_11 : decode cX6_worse 11 = .ok (.iload_n 1, 1) := by decide +kernel
theorem dX6_worse_12 : decode cX6_worse 12 = .ok (.invokevirtual 171, 3) := by decide +kernel
theorem dX6_worse_15 : decode cX6_worse 15 = .ok (.goto 9, 3) := by decide +kernel
theorem dX6_worse_18 : decode cX6_worse 18 = .ok (.aload_n 0, 1) := by decide +kernel
theorem dX6_worse_19 : decode cX6_worse 19 = .ok (.ldc 45, 2) := by decide +kernel
theorem dX6_worse_21 : decode cX6_worse 21 = .ok (.invokevirtual 64, 3) := by decide +kernel
theorem dX6_worse_24 : decode cX6_worse 24 = .ok (.ireturn, 1) := by decide +kernel
theorem dX6_cost_0 : decode cX6_cost 0 = .ok (.iload_n 1, 1) := by decide +kernel
theorem dX6_cost_1 : decode cX6_cost 1 = .ok (.iconst 0, 1) := by decide +kernel
theorem dX6_cost_2 : decode cX6_cost 2 = .ok (.bipush 104, 2) := by decide +kernel
theorem dX6_cost_4 : decode cX6_cost 4 = .ok (.invokestatic 161, 3) := by decide +kernel
theorem dX6_cost_7 : decode cX6_cost 7 = .ok (.ifCond .ne 10, 3) := by decide +kernel
theorem dX6_cost_10 : decode cX6_cost 10 = .ok (.aload_n 0, 1) := by decide +kernel
theorem dX6_cost_11 : decode cX6_cost 11 = .ok (.ldc 45, 2) := by decide +kernel
theorem dX6_cost_13 : decode cX6_cost 13 = .ok (.invokevirtual 64, 3) := by decide +kernel
theorem dX6_cost_16 : decode cX6_cost 16 = .ok (.ireturn, 1) := by decide +kernel
theorem dX6_cost_17 : decode cX6_cost 17 = .ok (.aload_n 0, 1) := by decide +kernel
theorem dX6_cost_18 : decode cX6_cost 18 = .ok (.getfield 7, 3) := by decide +kernel
theorem dX6_cost_21 : decode cX6_cost 21 = .ok (.bipush 6, 2) := by decide +kernel
theorem dX6_cost_23 : decode cX6_cost 23 = .ok (.iaload, 1) := by decide +kernel
theorem dX6_cost_24 : decode cX6_cost 24 = .ok (.istore_n 2, 1) := by decide +kernel
theorem dX6_cost_25 : decode cX6_cost 25 = .ok (.aload_n 0, 1) := by decide +kernel
theorem dX6_cost_26 : decode cX6_cost 26 = .ok (.invokevirtual 165, 3) := by decide +kernel
theorem dX6_cost_29 : decode cX6_cost 29 = .ok (.aload_n 0, 1) := by decide +kernel
theorem dX6_cost_30 : decode cX6_cost 30 = .ok (.iload_n 1, 1) := by decide +kernel
theorem dX6_cost_31 : decode cX6_cost 31 = .ok (.invokevirtual 152, 3) := by decide +kernel
theorem dX6_cost_34 : decode cX6_cost 34 = .ok (.aload_n 0, 1) := by decide +kernel
theorem dX6_cost_35 : decode cX6_cost 35 = .ok (.aload_n 0, 1) := by decide +kernel
theorem dX6_cost_36 : decode cX6_cost 36 = .ok (.getfield 7, 3) := by decide +kernel
theorem dX6_cost_39 : decode cX6_cost 39 = .ok (.bipush 6, 2) := by decide +kernel
theorem dX6_cost_41 : decode cX6_cost 41 = .ok (.iaload, 1) := by decide +kernel
theorem dX6_cost_42 : decode cX6_cost 42 = .ok (.iload_n 2, 1) := by decide +kernel
theorem dX6_cost_43 : decode cX6_cost 43 = .ok (.isub, 1) := by decide +kernel
theorem dX6_cost_44 : decode cX6_cost 44 = .ok (.invokevirtual 168, 3) := by decide +kernel
theorem dX6_cost_47 : decode cX6_cost 47 = .ok (.ireturn, 1) := by decide +kernel
theorem dX6_firstSo_0 : decode cX6_firstSo 0 = .ok (.aload_n 0, 1) := by decide +kernel
theorem dX6_firstSo_1 : decode cX6_firstSo 1 = .ok (.invokevirtual 165, 3) := by decide +kernel
theorem dX6_firstSo_4 : decode cX6_firstSo 4 = .ok (.iconst 0, 1) := by decide +kernel
theorem dX6_firstSo_5 : decode cX6_firstSo 5 = .ok (.istore_n 3, 1) := by decide +kernel
theorem dX6_firstSo_6 : decode cX6_firstSo 6 = .ok (.iload_n 3, 1) := by decide +kernel
theorem dX6_firstSo_7 : decode cX6_firstSo 7 = .ok (.bipush 104, 2) := by decide +kernel
theorem dX6_firstSo_9 : decode cX6_firstSo 9 = .ok (.if_icmp .gt 31, 3) := by decide +kernel
theorem dX6_firstSo_12 : decode cX6_firstSo 12 = .ok (.aload_n 0, 1) := by decide +kernel
theorem dX6_firstSo_13 : decode cX6_firstSo 13 = .ok (.iload_n 1, 1) := by decide +kernel
theorem dX6_firstSo_14 : decode cX6_firstSo 14 = .ok (.iconst 3, 1) := by decide +kernel
theorem dX6_firstSo_15 : decode cX6_firstSo 15 = .ok (.invokevirtual 74, 3) := by decide +kernel
theorem dX6_firstSo_18 : decode cX6_firstSo 18 = .ok (.ifCond .le 7, 3) := by decide +kernel
theorem dX6_firstSo_21 : decode cX6_firstSo 21 = .ok (.iconst 1, 1) := by decide +kernel
theorem dX6_firstSo_22 : decode cX6_firstSo 22 = .ok (.goto 4, 3) := by decide +kernel
theorem dX6_firstSo_25 : decode cX6_firstSo 25 = .ok (.iconst 0, 1) := by decide +kernel
theorem dX6_firstSo_26 : decode cX6_firstSo 26 = .ok (.iload_n 2, 1) := by decide +kernel
theorem dX6_firstSo_27 : decode cX6_firstSo 27 = .ok (.if_icmp .eq 13, 3) := by decide +kernel
theorem dX6_firstSo_30 : decode cX6_firstSo 30 = .ok (.aload_n 0, 1) := by decide +kernel
theorem dX6_firstSo_31 : decode cX6_firstSo 31 = .ok (.invokevirtual 147, 3) := by decide +kernel
theorem dX6_firstSo_34 : decode cX6_firstSo 34 = .ok (.iinc 3 1, 3) := by decide +kernel
theorem dX6_firstSo_37 : decode cX6_firstSo 37 = .ok (.goto (-31), 3) := by decide +kernel
theorem dX6_firstSo_40 : decode cX6_firstSo 40 = .ok (.aload_n 0, 1) := by decide +kernel
theorem dX6_firstSo_41 : decode cX6_firstSo 41 = .ok (.iload_n 3, 1) := by decide +kernel
theorem dX6_firstSo_42 : decode cX6_firstSo 42 = .ok (.invokevirtual 168, 3) := by decide +kernel
theorem dX6_firstSo_45 : decode cX6_firstSo 45 = .ok (.istore 4, 2) := by decide +kernel
theorem dX6_firstSo_47 : decode cX6_firstSo 47 = .ok (.iload 4, 2) := by decide +kernel
theorem dX6_firstSo_49 : decode cX6_firstSo 49 = .ok (.bipush 104, 2) := by decide +kernel
theorem dX6_firstSo_51 : decode cX6_firstSo 51 = .ok (.if_icmp .le 12, 3) := by decide +kernel
theorem dX6_firstSo_54 : decode cX6_firstSo 54 = .ok (.aload_n 0, 1) := by decide +kernel
theorem dX6_firstSo_55 : decode cX6_firstSo 55 = .ok (.ldc 142, 2) := by decide +kernel
theorem dX6_firstSo_57 : decode cX6_firstSo 57 = .ok (.invokevirtual 64, 3) := by decide +kernel
theorem dX6_firstSo_60 : decode cX6_firstSo 60 = .ok (.goto 5, 3) := by decide +kernel
theorem dX6_firstSo_63 : decode cX6_firstSo 63 = .ok (.iload 4, 2) := by decide +kernel
theorem dX6_firstSo_65 : decode cX6_firstSo 65 = .ok (.ireturn, 1) := by decide +kernel
theorem dX6_filled_0 : decode cX6_filled 0 = .ok (.aload_n 0, 1) := by decide +kernel
theorem dX6_filled_1 : decode cX6_filled 1 = .ok (.iload_n 1, 1) := by decide +kernel
theorem dX6_filled_2 : decode cX6_filled 2 = .ok (.invokevirtual 98, 3) := by decide +kernel
theorem dX6_filled_5 : decode cX6_filled 5 = .ok (.ifCond .eq 12, 3) := by decide +kernel
theorem dX6_filled_8 : decode cX6_filled 8 = .ok (.aload_n 0, 1) := by decide +kernel
theorem dX6_filled_9 : decode cX6_filled 9 = .ok (.iload_n 1, 1) := by decide +kernel
theorem dX6_filled_10 : decode cX6_filled 10 = .ok (.iconst 1, 1) := by decide +kernel
theorem dX6_filled_11 : decode cX6_filled 11 = .ok (.invokevirtual 174, 3) := by decide +kernel
theorem dX6_filled_14 : decode cX6_filled 14 = .ok (.goto 9, 3) := by decide +kernel
theorem dX6_filled_17 : decode cX6_filled 17 = .ok (.aload_n 0, 1) := by decide +kernel
theorem dX6_filled_18 : decode cX6_filled 18 = .ok (.ldc 45, 2) := by decide +kernel
theorem dX6_filled_20 : decode cX6_filled 20 = .ok (.invokevirtual 64, 3) := by decide +kernel
theorem dX6_filled_23 : decode cX6_filled 23 = .ok (.ireturn, 1) := by decide +kernel
theorem dX6_breaks_0 : decode cX6_breaks 0 = .ok (.aload_n 0, 1) := by decide +kernel
theorem dX6_breaks_1 : decode cX6_breaks 1 = .ok (.iload_n 1, 1) := by decide +kernel
theorem dX6_breaks_2 : decode cX6_breaks 2 = .ok (.invokevirtual 98, 3) := by decide +kernel
theorem dX6_breaks_5 : decode cX6_breaks 5 = .ok (.ifCond .eq 12, 3) := by decide +kernel
theorem dX6_breaks_8 : decode cX6_breaks 8 = .ok (.aload_n 0, 1) := by decide +kernel
theorem dX6_breaks_9 : decode cX6_breaks 9 = .ok (.iload_n 1, 1) := by decide +kernel
theorem dX6_breaks_10 : decode cX6_breaks 10 = .ok (.iconst 0, 1) := by decide +kernel
theorem dX6_breaks_11 : decode cX6_breaks 11 = .ok (.invokevirtual 174, 3) := by decide +kernel
theorem dX6_breaks_14 : decode cX6_breaks 14 = .ok (.goto 9, 3) := by decide +kernel
theorem dX6_breaks_17 : decode cX6_breaks 17 = .ok (.aload_n 0, 1) := by decide +kernel
theorem dX6_breaks_18 : decode cX6_breaks 18 = .ok (.ldc 45, 2) := by decide +kernel
theorem dX6_breaks_20 : decode cX6_breaks 20 = .ok (.invokevirtual 64, 3) := by decide +kernel
theorem dX6_breaks_23 : decode cX6_breaks 23 = .ok (.ireturn, 1) := by decide +kernel
theorem dX6_how_0 : decode cX6_how 0 = .ok (.iload_n 1, 1) := by decide +kernel
theorem dX6_how_1 : decode cX6_how 1 = .ok (.iconst 1, 1) := by decide +kernel
theorem dX6_how_2 : decode cX6_how 2 = .ok (.bipush 104, 2) := by decide +kernel
theorem dX6_how_4 : decode cX6_how 4 = .ok (.invokestatic 161, 3) := by decide +kernel
theorem dX6_how_7 : decode cX6_how 7 = .ok (.ifCond .ne 10, 3) := by decide +kernel
theorem dX6_how_10 : decode cX6_how 10 = .ok (.aload_n 0, 1) := by decide +kernel
theorem dX6_how_11 : decode cX6_how 11 = .ok (.ldc 45, 2) := by decide +kernel
theorem dX6_how_13 : decode cX6_how 13 = .ok (.invokevirtual 64, 3) := by decide +kernel
theorem dX6_how_16 : decode cX6_how 16 = .ok (.ireturn, 1) := by decide +kernel
theorem dX6_how_17 : decode cX6_how 17 = .ok (.aload_n 0, 1) := by decide +kernel
theorem dX6_how_18 : decode cX6_how 18 = .ok (.iconst 5, 1) := by decide +kernel
theorem dX6_how_19 : decode cX6_how 19 = .ok (.iconst 0, 1) := by decide +kernel
theorem dX6_how_20 : decode cX6_how 20 = .ok (.invokevirtual 61, 3) := by decide +kernel
theorem dX6_how_23 : decode cX6_how 23 = .ok (.istore_n 2, 1) := by decide +kernel
theorem dX6_how_24 : decode cX6_how 24 = .ok (.aload_n 0, 1) := by decide +kernel
theorem dX6_how_25 : decode cX6_how 25 = .ok (.iload_n 1, 1) := by decide +kernel
theorem dX6_how_26 : decode cX6_how 26 = .ok (.invokevirtual 171, 3) := by decide +kernel
theorem dX6_how_29 : decode cX6_how 29 = .ok (.istore_n 3, 1) := by decide +kernel
theorem dX6_how_30 : decode cX6_how 30 = .ok (.aload_n 0, 1) := by decide +kernel
theorem dX6_how_31 : decode cX6_how 31 = .ok (.getfield 7, 3) := by decide +kernel
theorem dX6_how_34 : decode cX6_how 34 = .ok (.iconst 5, 1) := by decide +kernel
theorem dX6_how_35 : decode cX6_how 35 = .ok (.iconst 1, 1) := by decide +kernel
theorem dX6_how_36 : decode cX6_how 36 = .ok (.iastore, 1) := by decide +kernel
theorem dX6_how_37 : decode cX6_how 37 = .ok (.aload_n 0, 1) := by decide +kernel
theorem dX6_how_38 : decode cX6_how 38 = .ok (.iload_n 1, 1) := by decide +kernel
theorem dX6_how_39 : decode cX6_how 39 = .ok (.invokevirtual 171, 3) := by decide +kernel
theorem dX6_how_42 : decode cX6_how 42 = .ok (.istore 4, 2) := by decide +kernel
theorem dX6_how_44 : decode cX6_how 44 = .ok (.aload_n 0, 1) := by decide +kernel
theorem dX6_how_45 : decode cX6_how 45 = .ok (.getfield 7, 3) := by decide +kernel
theorem dX6_how_48 : decode cX6_how 48 = .ok (.iconst 5, 1) := by decide +kernel
theorem dX6_how_49 : decode cX6_how 49 = .ok (.iload_n 2, 1) := by decide +kernel
theorem dX6_how_50 : decode cX6_how 50 = .ok (.iastore, 1) := by decide +kernel
theorem dX6_how_51 : decode cX6_how 51 = .ok (.iload 4, 2) := by decide +kernel
theorem dX6_how_53 : decode cX6_how 53 = .ok (.iload_n 3, 1) := by decide +kernel
theorem dX6_how_54 : decode cX6_how 54 = .ok (.if_icmp .ge 7, 3) := by decide +kernel
theorem dX6_how_57 : decode cX6_how 57 = .ok (.iconst 1, 1) := by decide +kernel
theorem dX6_how_58 : decode cX6_how 58 = .ok (.goto 4, 3) := by decide +kernel
theorem dX6_how_61 : decode cX6_how 61 = .ok (.iconst 0, 1) := by decide +kernel
theorem dX6_how_62 : decode cX6_how 62 = .ok (.ireturn, 1) := by decide +kernel
theorem dX6_ring_0 : decode cX6_ring 0 = .ok (.iload_n 1, 1) := by decide +kernel
theorem dX6_ring_1 : decode cX6_ring 1 = .ok (.iconst 1, 1) := by decide +kernel
theorem dX6_ring_2 : decode cX6_ring 2 = .ok (.bipush 52, 2) := by decide +kernel
theorem dX6_ring_4 : decode cX6_ring 4 = .ok (.invokestatic 161, 3) := by decide +kernel
theorem dX6_ring_7 : decode cX6_ring 7 = .ok (.ifCond .ne 10, 3) := by decide +kernel
theorem dX6_ring_10 : decode cX6_ring 10 = .ok (.aload_n 0, 1) := by decide +kernel
theorem dX6_ring_11 : decode cX6_ring 11 = .ok (.ldc 45, 2) := by decide +kernel
theorem dX6_ring_13 : decode cX6_ring 13 = .ok (.invokevirtual 64, 3) := by decide +kernel
theorem dX6_ring_16 : decode cX6_ring 16 = .ok (.ireturn, 1) := by decide +kernel
theorem dX6_ring_17 : decode cX6_ring 17 = .ok (.iconst (-1), 1) := by decide +kernel
theorem dX6_ring_18 : decode cX6_ring 18 = .ok (.istore_n 2, 1) := by decide +kernel
theorem dX6_ring_19 : decode cX6_ring 19 = .ok (.iconst 0, 1) := by decide +kernel
theorem dX6_ring_20 : decode cX6_ring 20 = .ok (.istore_n 3, 1) := by decide +kernel
theorem dX6_ring_21 : decode cX6_ring 21 = .ok (.iconst 0, 1) := by decide +kernel
theorem dX6_ring_22 : decode cX6_ring 22 = .ok (.istore 4, 2) := by decide +kernel
theorem dX6_ring_24 : decode cX6_ring 24 = .ok (.iload 4, 2) := by decide +kernel
theorem dX6_ring_26 : decode cX6_ring 26 = .ok (.aload_n 0, 1) := by decide +kernel
theorem dX6_ring_27 : decode cX6_ring 27 = .ok (.getfield 7, 3) := by decide +kernel
theorem dX6_ring_30 : decode cX6_ring 30 = .ok (.iconst 0, 1) := by decide +kernel
theorem dX6_ring_31 : decode cX6_ring 31 = .ok (.iaload, 1) := by decide +kernel
theorem dX6_ring_32 : decode cX6_ring 32 = .ok (.if_icmp .ge 91, 3) := by decide +kernel
theorem dX6_ring_35 : decode cX6_ring 35 = .ok (.aload_n 0, 1) := by decide +kernel
theorem dX6_ring_36 : decode cX6_ring 36 = .ok (.iload 4, 2) := by decide +kernel
theorem dX6_ring_38 : decode cX6_ring 38 = .ok (.iconst 5, 1) := by decide +kernel
theorem dX6_ring_39 : decode cX6_ring 39 = .ok (.invokevirtual 74, 3) := by decide +kernel
theorem dX6_ring_42 : decode cX6_ring 42 = .ok (.ifCond .ne 75, 3) := by decide +kernel
theorem dX6_ring_45 : decode cX6_ring 45 = .ok (.aload_n 0, 1) := by decide +kernel
theorem dX6_ring_46 : decode cX6_ring 46 = .ok (.getfield 7, 3) := by decide +kernel
theorem dX6_ring_49 : decode cX6_ring 49 = .ok (.iload 4, 2) := by decide +kernel
theorem dX6_ring_51 : decode cX6_ring 51 = .ok (.iconst 5, 1) := by decide +kernel
theorem dX6_ring_52 : decode cX6_ring 52 = .ok (.invokestatic 52, 3) := by decide +kernel
theorem dX6_ring_55 : decode cX6_ring 55 = .ok (.iconst 1, 1) := by decide +kernel
theorem dX6_ring_56 : decode cX6_ring 56 = .ok (.iastore, 1) := by decide +kernel
theorem dX6_ring_57 : decode cX6_ring 57 = .ok (.aload_n 0, 1) := by decide +kernel
theorem dX6_ring_58 : decode cX6_ring 58 = .ok (.iload_n 1, 1) := by decide +kernel
theorem dX6_ring_59 : decode cX6_ring 59 = .ok (.invokevirtual 171, 3) := by decide +kernel
theorem dX6_ring_62 : decode cX6_ring 62 = .ok (.istore 5, 2) := by decide +kernel
theorem dX6_ring_64 : decode cX6_ring 64 = .ok (.aload_n 0, 1) := by decide +kernel
theorem dX6_ring_65 : decode cX6_ring 65 = .ok (.getfield 7, 3) := by decide +kernel
theorem dX6_ring_68 : decode cX6_ring 68 = .ok (.iload 4, 2) := by decide +kernel
theorem dX6_ring_70 : decode cX6_ring 70 = .ok (.iconst 5, 1) := by decide +kernel
theorem dX6_ring_71 : decode cX6_ring 71 = .ok (.invokestatic 52, 3) := by decide +kernel
theorem dX6_ring_74 : decode cX6_ring 74 = .ok (.iconst 0, 1) := by decide +kernel
theorem dX6_ring_75 : decode cX6_ring 75 = .ok (.iastore, 1) := by decide +kernel
theorem dX6_ring_76 : decode cX6_ring 76 = .ok (.iload_n 2, 1) := by decide +kernel
theorem dX6_ring_77 : decode cX6_ring 77 = .ok (.ifCond .lt 9, 3) := by decide +kernel
theorem dX6_ring_80 : decode cX6_ring 80 = .ok (.iload 5, 2) := by decide +kernel
theorem dX6_ring_82 : decode cX6_ring 82 = .ok (.iload_n 3, 1) := by decide +kernel
theorem dX6_ring_83 : decode cX6_ring 83 = .ok (.if_icmp .ge 7, 3) := by decide +kernel
theorem dX6_ring_86 : decode cX6_ring 86 = .ok (.iconst 1, 1) := by decide +kernel
theorem dX6_ring_87 : decode cX6_ring 87 = .ok (.goto 4, 3) := by decide +kernel
theorem dX6_ring_90 : decode cX6_ring 90 = .ok (.iconst 0, 1) := by decide +kernel
theorem dX6_ring_91 : decode cX6_ring 91 = .ok (.istore 6, 2) := by decide +kernel
theorem dX6_ring_93 : decode cX6_ring 93 = .ok (.iload 6, 2) := by decide +kernel
theorem dX6_ring_95 : decode cX6_ring 95 = .ok (.ifCond .eq 8, 3) := by decide +kernel
theorem dX6_ring_98 : decode cX6_ring 98 = .ok (.iload 4, 2) := by decide +kernel
theorem dX6_ring_100 : decode cX6_ring 100 = .ok (.goto 4, 3) := by decide +kernel
theorem dX6_ring_103 : decode cX6_ring 103 = .ok (.iload_n 2, 1) := by decide +kernel
theorem dX6_ring_104 : decode cX6_ring 104 = .ok (.istore_n 2, 1) := by decide +kernel
theorem dX6_ring_105 : decode cX6_ring 105 = .ok (.iload 6, 2) := by decide +kernel
theorem dX6_ring_107 : decode cX6_ring 107 = .ok (.ifCond .eq 8, 3) := by decide +kernel
theorem dX6_ring_110 : decode cX6_ring 110 = .ok (.iload 5, 2) := by decide +kernel
theorem dX6_ring_112 : decode cX6_ring 112 = .ok (.goto 4, 3) := by decide +kernel
theorem dX6_ring_115 : decode cX6_ring 115 = .ok (.iload_n 3, 1) := by decide +kernel
theorem dX6_ring_116 : decode cX6_ring 116 = .ok (.istore_n 3, 1) := by decide +kernel
theorem dX6_ring_117 : decode cX6_ring 117 = .ok (.iinc 4 1, 3) := by decide +kernel
theorem dX6_ring_120 : decode cX6_ring 120 = .ok (.goto (-96), 3) := by decide +kernel
theorem dX6_ring_123 : decode cX6_ring 123 = .ok (.iload_n 2, 1) := by decide +kernel
theorem dX6_ring_124 : decode cX6_ring 124 = .ok (.ifCond .ge 12, 3) := by decide +kernel
theorem dX6_ring_127 : decode cX6_ring 127 = .ok (.aload_n 0, 1) := by decide +kernel
theorem dX6_ring_128 : decode cX6_ring 128 = .ok (.ldc 142, 2) := by decide +kernel
theorem dX6_ring_130 : decode cX6_ring 130 = .ok (.invokevirtual 64, 3) := by decide +kernel
theorem dX6_ring_133 : decode cX6_ring 133 = .ok (.goto 4, 3) := by decide +kernel
theorem dX6_ring_136 : decode cX6_ring 136 = .ok (.iload_n 2, 1) := by decide +kernel
theorem dX6_ring_137 : decode cX6_ring 137 = .ok (.ireturn, 1) := by decide +kernel
theorem dX6_leastBy_0 : decode cX6_leastBy 0 = .ok (.aload_n 0, 1) := by decide +kernel
theorem dX6_leastBy_1 : decode cX6_leastBy 1 = .ok (.getfield 7, 3) := by decide +kernel
theorem dX6_leastBy_4 : decode cX6_leastBy 4 = .ok (.iload_n 1, 1) := by decide +kernel
theorem dX6_leastBy_5 : decode cX6_leastBy 5 = .ok (.iaload, 1) := by decide +kernel
theorem dX6_leastBy_6 : decode cX6_leastBy 6 = .ok (.istore 5, 2) := by decide +kernel
theorem dX6_leastBy_8 : decode cX6_leastBy 8 = .ok (.iconst (-1), 1) := by decide +kernel
theorem dX6_leastBy_9 : decode cX6_leastBy 9 = .ok (.istore 6, 2) := by decide +kernel
theorem dX6_leastBy_11 : decode cX6_leastBy 11 = .ok (.iconst 0, 1) := by decide +kernel
theorem dX6_leastBy_12 : decode cX6_leastBy 12 = .ok (.istore 7, 2) := by decide +kernel
theorem dX6_leastBy_14 : decode cX6_leastBy 14 = .ok (.iload 7, 2) := by decide +kernel
theorem dX6_leastBy_16 : decode cX6_leastBy 16 = .ok (.iload_n 2, 1) := by decide +kernel
theorem dX6_leastBy_17 : decode cX6_leastBy 17 = .ok (.if_icmp .gt 40, 3) := by decide +kernel
theorem dX6_leastBy_20 : decode cX6_leastBy 20 = .ok (.iload 6, 2) := by decide +kernel
theorem dX6_leastBy_22 : decode cX6_leastBy 22 = .ok (.ifCond .ge 35, 3) := by decide +kernel
theorem dX6_leastBy_25 : decode cX6_leastBy 25 = .ok (.aload_n 0, 1) := by decide +kernel
theorem dX6_leastBy_26 : decode cX6_leastBy 26 = .ok (.getfield 7, 3) := by decide +kernel
theorem dX6_leastBy_29 : decode cX6_leastBy 29 = .ok (.iload_n 1, 1) := by decide +kernel
theorem dX6_leastBy_30 : decode cX6_leastBy 30 = .ok (.iload 7, 2) := by decide +kernel
theorem dX6_leastBy_32 : decode cX6_leastBy 32 = .ok (.iastore, 1) := by decide +kernel
theorem dX6_leastBy_33 : decode cX6_leastBy 33 = .ok (.aload_n 0, 1) := by decide +kernel
theorem dX6_leastBy_34 : decode cX6_leastBy 34 = .ok (.iload_n 3, 1) := by decide +kernel
theorem dX6_leastBy_35 : decode cX6_leastBy 35 = .ok (.invokevirtual 171, 3) := by decide +kernel
theorem dX6_leastBy_38 : decode cX6_leastBy 38 = .ok (.iload 4, 2) := by decide +kernel
theorem dX6_leastBy_40 : decode cX6_leastBy 40 = .ok (.if_icmp .gt 8, 3) := by decide +kernel
theorem dX6_leastBy_43 : decode cX6_leastBy 43 = .ok (.iload 7, 2) := by decide +kernel
theorem dX6_leastBy_45 : decode cX6_leastBy 45 = .ok (.goto 4, 3) := by decide +kernel
theorem dX6_leastBy_48 : decode cX6_leastBy 48 = .ok (.iconst (-1), 1) := by decide +kernel
theorem dX6_leastBy_49 : decode cX6_leastBy 49 = .ok (.istore 6, 2) := by decide +kernel
theorem dX6_leastBy_51 : decode cX6_leastBy 51 = .ok (.iinc 7 1, 3) := by decide +kernel
theorem dX6_leastBy_54 : decode cX6_leastBy 54 = .ok (.goto (-40), 3) := by decide +kernel
theorem dX6_leastBy_57 : decode cX6_leastBy 57 = .ok (.aload_n 0, 1) := by decide +kernel
theorem dX6_leastBy_58 : decode cX6_leastBy 58 = .ok (.getfield 7, 3) := by decide +kernel
theorem dX6_leastBy_61 : decode cX6_leastBy 61 = .ok (.iload_n 1, 1) := by decide +kernel
theorem dX6_leastBy_62 : decode cX6_leastBy 62 = .ok (.iload 5, 2) := by decide +kernel
theorem dX6_leastBy_64 : decode cX6_leastBy 64 = .ok (.iastore, 1) := by decide +kernel
theorem dX6_leastBy_65 : decode cX6_leastBy 65 = .ok (.iload 6, 2) := by decide +kernel
theorem dX6_leastBy_67 : decode cX6_leastBy 67 = .ok (.ifCond .ge 12, 3) := by decide +kernel
theorem dX6_leastBy_70 : decode cX6_leastBy 70 = .ok (.aload_n 0, 1) := by decide +kernel
theorem dX6_leastBy_71 : decode cX6_leastBy 71 = .ok (.ldc 142, 2) := by decide +kernel
theorem dX6_leastBy_73 : decode cX6_leastBy 73 = .ok (.invokevirtual 64, 3) := by decide +kernel
theorem dX6_leastBy_76 : decode cX6_leastBy 76 = .ok (.goto 5, 3) := by decide +kernel
theorem dX6_leastBy_79 : decode cX6_leastBy 79 = .ok (.iload 6, 2) := by decide +kernel
theorem dX6_leastBy_81 : decode cX6_leastBy 81 = .ok (.ireturn, 1) := by decide +kernel
theorem dX6_men_0 : decode cX6_men 0 = .ok (.iload_n 1, 1) := by decide +kernel
theorem dX6_men_1 : decode cX6_men 1 = .ok (.iconst 1, 1) := by decide +kernel
theorem dX6_men_2 : decode cX6_men 2 = .ok (.bipush 52, 2) := by decide +kernel
theorem dX6_men_4 : decode cX6_men 4 = .ok (.invokestatic 161, 3) := by decide +kernel
theorem dX6_men_7 : decode cX6_men 7 = .ok (.ifCond .eq 27, 3) := by decide +kernel
theorem dX6_men_10 : decode cX6_men 10 = .ok (.iload_n 2, 1) := by decide +kernel
theorem dX6_men_11 : decode cX6_men 11 = .ok (.i2l, 1) := by decide +kernel
theorem dX6_men_12 : decode cX6_men 12 = .ok (.lconst 0, 1) := by decide +kernel
theorem dX6_men_13 : decode cX6_men 13 = .ok (.ldc2_w 112, 3) := by decide +kernel
theorem dX6_men_16 : decode cX6_men 16 = .ok (.invokestatic 48, 3) := by decide +kernel
theorem dX6_men_19 : decode cX6_men 19 = .ok (.ifCond .eq 15, 3) := by decide +kernel
theorem dX6_men_22 : decode cX6_men 22 = .ok (.aload_n 0, 1) := by decide +kernel
theorem dX6_men_23 : decode cX6_men 23 = .ok (.iconst 4, 1) := by decide +kernel
theorem dX6_men_24 : decode cX6_men 24 = .ok (.bipush 6, 2) := by decide +kernel
theorem dX6_men_26 : decode cX6_men 26 = .ok (.iload_n 1, 1) := by decide +kernel
theorem dX6_men_27 : decode cX6_men 27 = .ok (.iload_n 2, 1) := by decide +kernel
theorem dX6_men_28 : decode cX6_men 28 = .ok (.invokevirtual 177, 3) := by decide +kernel
theorem dX6_men_31 : decode cX6_men 31 = .ok (.goto 9, 3) := by decide +kernel
theorem dX6_men_34 : decode cX6_men 34 = .ok (.aload_n 0, 1) := by decide +kernel
theorem dX6_men_35 : decode cX6_men 35 = .ok (.ldc 45, 2) := by decide +kernel
theorem dX6_men_37 : decode cX6_men 37 = .ok (.invokevirtual 64, 3) := by decide +kernel
theorem dX6_men_40 : decode cX6_men 40 = .ok (.ireturn, 1) := by decide +kernel
theorem dX6_budget_0 : decode cX6_budget 0 = .ok (.iload_n 1, 1) := by decide +kernel
theorem dX6_budget_1 : decode cX6_budget 1 = .ok (.iconst 1, 1) := by decide +kernel
theorem dX6_budget_2 : decode cX6_budget 2 = .ok (.bipush 20, 2) := by decide +kernel
theorem dX6_budget_4 : decode cX6_budget 4 = .ok (.invokestatic 161, 3) := by decide +kernel
theorem dX6_budget_7 : decode cX6_budget 7 = .ok (.ifCond .eq 28, 3) := by decide +kernel
theorem dX6_budget_10 : decode cX6_budget 10 = .ok (.iload_n 2, 1) := by decide +kernel
theorem dX6_budget_11 : decode cX6_budget 11 = .ok (.i2l, 1) := by decide +kernel
theorem dX6_budget_12 : decode cX6_budget 12 = .ok (.lconst 0, 1) := by decide +kernel
theorem dX6_budget_13 : decode cX6_budget 13 = .ok (.ldc2_w 112, 3) := by decide +kernel
theorem dX6_budget_16 : decode cX6_budget 16 = .ok (.invokestatic 48, 3) := by decide +kernel
theorem dX6_budget_19 : decode cX6_budget 19 = .ok (.ifCond .eq 16, 3) := by decide +kernel
theorem dX6_budget_22 : decode cX6_budget 22 = .ok (.aload_n 0, 1) := by decide +kernel
theorem dX6_budget_23 : decode cX6_budget 23 = .ok (.iconst 2, 1) := by decide +kernel
theorem dX6_budget_24 : decode cX6_budget 24 = .ok (.sipush 999, 3) := by decide +kernel
theorem dX6_budget_27 : decode cX6_budget 27 = .ok (.iload_n 1, 1) := by decide +kernel
theorem dX6_budget_28 : decode cX6_budget 28 = .ok (.iload_n 2, 1) := by decide +kernel
theorem dX6_budget_29 : decode cX6_budget 29 = .ok (.invokevirtual 177, 3) := by decide +kernel
theorem dX6_budget_32 : decode cX6_budget 32 = .ok (.goto 9, 3) := by decide +kernel
theorem dX6_budget_35 : decode cX6_budget 35 = .ok (.aload_n 0, 1) := by decide +kernel
theorem dX6_budget_36 : decode cX6_budget 36 = .ok (.ldc 45, 2) := by decide +kernel
theorem dX6_budget_38 : decode cX6_budget 38 = .ok (.invokevirtual 64, 3) := by decide +kernel
theorem dX6_budget_41 : decode cX6_budget 41 = .ok (.ireturn, 1) := by decide +kernel
theorem dX6_kind_0 : decode cX6_kind 0 = .ok (.aload_n 0, 1) := by decide +kernel
theorem dX6_kind_1 : decode cX6_kind 1 = .ok (.iload_n 1, 1) := by decide +kernel
theorem dX6_kind_2 : decode cX6_kind 2 = .ok (.invokevirtual 98, 3) := by decide +kernel
theorem dX6_kind_5 : decode cX6_kind 5 = .ok (.ifCond .eq 13, 3) := by decide +kernel
theorem dX6_kind_8 : decode cX6_kind 8 = .ok (.iload_n 2, 1) := by decide +kernel
theorem dX6_kind_9 : decode cX6_kind 9 = .ok (.iconst 1, 1) := by decide +kernel
theorem dX6_kind_10 : decode cX6_kind 10 = .ok (.bipush 52, 2) := by decide +kernel
theorem dX6_kind_12 : decode cX6_kind 12 = .ok (.invokestatic 161, 3) := by decide +kernel
theorem dX6_kind_15 : decode cX6_kind 15 = .ok (.ifCond .ne 10, 3) := by decide +kernel
theorem dX6_kind_18 : decode cX6_kind 18 = .ok (.aload_n 0, 1) := by decide +kernel
theorem dX6_kind_19 : decode cX6_kind 19 = .ok (.ldc 45, 2) := by decide +kernel
theorem dX6_kind_21 : decode cX6_kind 21 = .ok (.invokevirtual 64, 3) := by decide +kernel
theorem dX6_kind_24 : decode cX6_kind 24 = .ok (.ireturn, 1) := by decide +kernel
theorem dX6_kind_25 : decode cX6_kind 25 = .ok (.iconst 0, 1) := by decide +kernel
theorem dX6_kind_26 : decode cX6_kind 26 = .ok (.istore_n 3, 1) := by decide +kernel
theorem dX6_kind_27 : decode cX6_kind 27 = .ok (.bipush 100, 2) := by decide +kernel
theorem dX6_kind_29 : decode cX6_kind 29 = .ok (.istore 4, 2) := by decide +kernel
theorem dX6_kind_31 : decode cX6_kind 31 = .ok (.aload_n 0, 1) := by decide +kernel
theorem dX6_kind_32 : decode cX6_kind 32 = .ok (.invokevirtual 165, 3) := by decide +kernel
theorem dX6_kind_35 : decode cX6_kind 35 = .ok (.iconst 0, 1) := by decide +kernel
theorem dX6_kind_36 : decode cX6_kind 36 = .ok (.istore 5, 2) := by decide +kernel
theorem dX6_kind_38 : decode cX6_kind 38 = .ok (.iload 5, 2) := by decide +kernel
theorem dX6_kind_40 : decode cX6_kind 40 = .ok (.iconst 5, 1) := by decide +kernel
theorem dX6_kind_41 : decode cX6_kind 41 = .ok (.if_icmp .gt 68, 3) := by decide +kernel
theorem dX6_kind_44 : decode cX6_kind 44 = .ok (.aload_n 0, 1) := by decide +kernel
theorem dX6_kind_45 : decode cX6_kind 45 = .ok (.getfield 7, 3) := by decide +kernel
theorem dX6_kind_48 : decode cX6_kind 48 = .ok (.iload_n 1, 1) := by decide +kernel
theorem dX6_kind_49 : decode cX6_kind 49 = .ok (.iconst 0, 1) := by decide +kernel
theorem dX6_kind_50 : decode cX6_kind 50 = .ok (.invokestatic 52, 3) := by decide +kernel
theorem dX6_kind_53 : decode cX6_kind 53 = .ok (.iload 5, 2) := by decide +kernel
theorem dX6_kind_55 : decode cX6_kind 55 = .ok (.iastore, 1) := by decide +kernel
theorem dX6_kind_56 : decode cX6_kind 56 = .ok (.aload_n 0, 1) := by decide +kernel
theorem dX6_kind_57 : decode cX6_kind 57 = .ok (.iload_n 2, 1) := by decide +kernel
theorem dX6_kind_58 : decode cX6_kind 58 = .ok (.invokevirtual 152, 3) := by decide +kernel
theorem dX6_kind_61 : decode cX6_kind 61 = .ok (.aload_n 0, 1) := by decide +kernel
theorem dX6_kind_62 : decode cX6_kind 62 = .ok (.aload_n 0, 1) := by decide +kernel
theorem dX6_kind_63 : decode cX6_kind 63 = .ok (.iload_n 1, 1) := by decide +kernel
theorem dX6_kind_64 : decode cX6_kind 64 = .ok (.iconst 2, 1) := by decide +kernel
theorem dX6_kind_65 : decode cX6_kind 65 = .ok (.invokevirtual 74, 3) := by decide +kernel
theorem dX6_kind_68 : decode cX6_kind 68 = .ok (.invokevirtual 168, 3) := by decide +kernel
theorem dX6_kind_71 : decode cX6_kind 71 = .ok (.istore 6, 2) := by decide +kernel
theorem dX6_kind_73 : decode cX6_kind 73 = .ok (.iload 6, 2) := by decide +kernel
theorem dX6_kind_75 : decode cX6_kind 75 = .ok (.iload 4, 2) := by decide +kernel
theorem dX6_kind_77 : decode cX6_kind 77 = .ok (.if_icmp .ge 8, 3) := by decide +kernel
theorem dX6_kind_80 : decode cX6_kind 80 = .ok (.iload 5, 2) := by decide +kernel
theorem dX6_kind_82 : decode cX6_kind 82 = .ok (.goto 4, 3) := by decide +kernel
theorem dX6_kind_85 : decode cX6_kind 85 = .ok (.iload_n 3, 1) := by decide +kernel
theorem dX6_kind_86 : decode cX6_kind 86 = .ok (.istore_n 3, 1) := by decide +kernel
theorem dX6_kind_87 : decode cX6_kind 87 = .ok (.iload 6, 2) := by decide +kernel
theorem dX6_kind_89 : decode cX6_kind 89 = .ok (.iload 4, 2) := by decide +kernel
theorem dX6_kind_91 : decode cX6_kind 91 = .ok (.if_icmp .ge 8, 3) := by decide +kernel
theorem dX6_kind_94 : decode cX6_kind 94 = .ok (.iload 6, 2) := by decide +kernel
theorem dX6_kind_96 : decode cX6_kind 96 = .ok (.goto 5, 3) := by decide +kernel
theorem dX6_kind_99 : decode cX6_kind 99 = .ok (.iload 4, 2) := by decide +kernel
theorem dX6_kind_101 : decode cX6_kind 101 = .ok (.istore 4, 2) := by decide +kernel
theorem dX6_kind_103 : decode cX6_kind 103 = .ok (.iinc 5 1, 3) := by decide +kernel
theorem dX6_kind_106 : decode cX6_kind 106 = .ok (.goto (-68), 3) := by decide +kernel
theorem dX6_kind_109 : decode cX6_kind 109 = .ok (.iload_n 3, 1) := by decide +kernel
theorem dX6_kind_110 : decode cX6_kind 110 = .ok (.ireturn, 1) := by decide +kernel
theorem dX6_let_0 : decode cX6_let 0 = .ok (.iload_n 1, 1) := by decide +kernel
theorem dX6_let_1 : decode cX6_let 1 = .ok (.iconst 1, 1) := by decide +kernel
theorem dX6_let_2 : decode cX6_let 2 = .ok (.bipush 26, 2) := by decide +kernel
theorem dX6_let_4 : decode cX6_let 4 = .ok (.invokestatic 161, 3) := by decide +kernel
theorem dX6_let_7 : decode cX6_let 7 = .ok (.ifCond .ne 10, 3) := by decide +kernel
theorem dX6_let_10 : decode cX6_let 10 = .ok (.aload_n 0, 1) := by decide +kernel
theorem dX6_let_11 : decode cX6_let 11 = .ok (.ldc 45, 2) := by decide +kernel
theorem dX6_let_13 : decode cX6_let 13 = .ok (.invokevirtual 64, 3) := by decide +kernel
theorem dX6_let_16 : decode cX6_let 16 = .ok (.ireturn, 1) := by decide +kernel
theorem dX6_let_17 : decode cX6_let 17 = .ok (.iconst 0, 1) := by decide +kernel
theorem dX6_let_18 : decode cX6_let 18 = .ok (.istore_n 2, 1) := by decide +kernel
theorem dX6_let_19 : decode cX6_let 19 = .ok (.sipush 999, 3) := by decide +kernel
theorem dX6_let_22 : decode cX6_let 22 = .ok (.istore_n 3, 1) := by decide +kernel
theorem dX6_let_23 : decode cX6_let 23 = .ok (.aload_n 0, 1) := by decide +kernel
theorem dX6_let_24 : decode cX6_let 24 = .ok (.invokevirtual 165, 3) := by decide +kernel
theorem dX6_let_27 : decode cX6_let 27 = .ok (.iconst 0, 1) := by decide +kernel
theorem dX6_let_28 : decode cX6_let 28 = .ok (.istore 4, 2) := by decide +kernel
theorem dX6_let_30 : decode cX6_let 30 = .ok (.iload 4, 2) := by decide +kernel
theorem dX6_let_32 : decode cX6_let 32 = .ok (.bipush 64, 2) := by decide +kernel
theorem dX6_let_34 : decode cX6_let 34 = .ok (.if_icmp .ge 84, 3) := by decide +kernel
theorem dX6_let_37 : decode cX6_let 37 = .ok (.iconst 0, 1) := by decide +kernel
theorem dX6_let_38 : decode cX6_let 38 = .ok (.istore 5, 2) := by decide +kernel
theorem dX6_let_40 : decode cX6_let 40 = .ok (.iload 5, 2) := by decide +kernel
theorem dX6_let_42 : decode cX6_let 42 = .ok (.bipush 6, 2) := by decide +kernel
theorem dX6_let_44 : decode cX6_let 44 = .ok (.if_icmp .ge 27, 3) := by decide +kernel
theorem dX6_let_47 : decode cX6_let 47 = .ok (.aload_n 0, 1) := by decide +kernel
theorem dX6_let_48 : decode cX6_let 48 = .ok (.getfield 7, 3) := by decide +kernel
theorem dX6_let_51 : decode cX6_let 51 = .ok (.iload 5, 2) := by decide +kernel
theorem dX6_let_53 : decode cX6_let 53 = .ok (.iconst 1, 1) := by decide +kernel
theorem dX6_let_54 : decode cX6_let 54 = .ok (.invokestatic 41, 3) := by decide +kernel
theorem dX6_let_57 : decode cX6_let 57 = .ok (.iload 4, 2) := by decide +kernel
theorem dX6_let_59 : decode cX6_let 59 = .ok (.iload 5, 2) := by decide +kernel
theorem dX6_let_61 : decode cX6_let 61 = .ok (.ishr, 1) := by decide +kernel
theorem dX6_let_62 : decode cX6_let 62 = .ok (.iconst 1, 1) := by decide +kernel
theorem dX6_let_63 : decode cX6_let 63 = .ok (.iand, 1) := by decide +kernel
theorem dX6_let_64 : decode cX6_let 64 = .ok (.iastore, 1) := by decide +kernel
theorem dX6_let_65 : decode cX6_let 65 = .ok (.iinc 5 1, 3) := by decide +kernel
theorem dX6_let_68 : decode cX6_let 68 = .ok (.goto (-28), 3) := by decide +kernel
theorem dX6_let_71 : decode cX6_let 71 = .ok (.aload_n 0, 1) := by decide +kernel
theorem dX6_let_72 : decode cX6_let 72 = .ok (.iload_n 1, 1) := by decide +kernel
theorem dX6_let_73 : decode cX6_let 73 = .ok (.invokevirtual 152, 3) := by decide +kernel
theorem dX6_let_76 : decode cX6_let 76 = .ok (.aload_n 0, 1) := by decide +kernel
theorem dX6_let_77 : decode cX6_let 77 = .ok (.aload_n 0, 1) := by decide +kernel
theorem dX6_let_78 : decode cX6_let 78 = .ok (.invokevirtual 158, 3) := by decide +kernel
theorem dX6_let_81 : decode cX6_let 81 = .ok (.invokevirtual 168, 3) := by decide +kernel
theorem dX6_let_84 : decode cX6_let 84 = .ok (.istore 5, 2) := by decide +kernel
theorem dX6_let_86 : decode cX6_let 86 = .ok (.iload 5, 2) := by decide +kernel
theorem dX6_let_88 : decode cX6_let 88 = .ok (.iload_n 3, 1) := by decide +kernel
theorem dX6_let_89 : decode cX6_let 89 = .ok (.if_icmp .ge 8, 3) := by decide +kernel
theorem dX6_let_92 : decode cX6_let 92 = .ok (.iload 4, 2) := by decide +kernel
theorem dX6_let_94 : decode cX6_let 94 = .ok (.goto 4, 3) := by decide +kernel
theorem dX6_let_97 : decode cX6_let 97 = .ok (.iload_n 2, 1) := by decide +kernel
theorem dX6_let_98 : decode cX6_let 98 = .ok (.istore_n 2, 1) := by decide +kernel
theorem dX6_let_99 : decode cX6_let 99 = .ok (.iload 5, 2) := by decide +kernel
theorem dX6_let_101 : decode cX6_let 101 = .ok (.iload_n 3, 1) := by decide +kernel
theorem dX6_let_102 : decode cX6_let 102 = .ok (.if_icmp .ge 8, 3) := by decide +kernel
theorem dX6_let_105 : decode cX6_let 105 = .ok (.iload 5, 2) := by decide +kernel
theorem dX6_let_107 : decode cX6_let 107 = .ok (.goto 4, 3) := by decide +kernel
theorem dX6_let_110 : decode cX6_let 110 = .ok (.iload_n 3, 1) := by decide +kernel
theorem dX6_let_111 : decode cX6_let 111 = .ok (.istore_n 3, 1) := by decide +kernel
theorem dX6_let_112 : decode cX6_let 112 = .ok (.iinc 4 1, 3) := by decide +kernel
theorem dX6_let_115 : decode cX6_let 115 = .ok (.goto (-85), 3) := by decide +kernel
theorem dX6_let_118 : decode cX6_let 118 = .ok (.iload_n 2, 1) := by decide +kernel
theorem dX6_let_119 : decode cX6_let 119 = .ok (.ireturn, 1) := by decide +kernel
theorem dX6_worst_0 : decode cX6_worst 0 = .ok (.iload_n 1, 1) := by decide +kernel
theorem dX6_worst_1 : decode cX6_worst 1 = .ok (.iconst 0, 1) := by decide +kernel
theorem dX6_worst_2 : decode cX6_worst 2 = .ok (.bipush 104, 2) := by decide +kernel
theorem dX6_worst_4 : decode cX6_worst 4 = .ok (.invokestatic 161, 3) := by decide +kernel
theorem dX6_worst_7 : decode cX6_worst 7 = .ok (.ifCond .ne 10, 3) := by decide +kernel
theorem dX6_worst_10 : decode cX6_worst 10 = .ok (.aload_n 0, 1) := by decide +kernel
theorem dX6_worst_11 : decode cX6_worst 11 = .ok (.ldc 45, 2) := by decide +kernel
theorem dX6_worst_13 : decode cX6_worst 13 = .ok (.invokevirtual 64, 3) := by decide +kernel
theorem dX6_worst_16 : decode cX6_worst 16 = .ok (.ireturn, 1) := by decide +kernel
theorem dX6_worst_17 : decode cX6_worst 17 = .ok (.aload_n 0, 1) := by decide +kernel
theorem dX6_worst_18 : decode cX6_worst 18 = .ok (.invokevirtual 165, 3) := by decide +kernel
theorem dX6_worst_21 : decode cX6_worst 21 = .ok (.aload_n 0, 1) := by decide +kernel
theorem dX6_worst_22 : decode cX6_worst 22 = .ok (.iload_n 1, 1) := by decide +kernel
theorem dX6_worst_23 : decode cX6_worst 23 = .ok (.invokevirtual 152, 3) := by decide +kernel
theorem dX6_worst_26 : decode cX6_worst 26 = .ok (.aload_n 0, 1) := by decide +kernel
theorem dX6_worst_27 : decode cX6_worst 27 = .ok (.iconst 3, 1) := by decide +kernel
theorem dX6_worst_28 : decode cX6_worst 28 = .ok (.iconst 0, 1) := by decide +kernel
theorem dX6_worst_29 : decode cX6_worst 29 = .ok (.invokevirtual 77, 3) := by decide +kernel
theorem dX6_worst_32 : decode cX6_worst 32 = .ok (.istore_n 2, 1) := by decide +kernel
theorem dX6_worst_33 : decode cX6_worst 33 = .ok (.iconst 0, 1) := by decide +kernel
theorem dX6_worst_34 : decode cX6_worst 34 = .ok (.istore_n 3, 1) := by decide +kernel
theorem dX6_worst_35 : decode cX6_worst 35 = .ok (.iconst 1, 1) := by decide +kernel
theorem dX6_worst_36 : decode cX6_worst 36 = .ok (.istore 4, 2) := by decide +kernel
theorem dX6_worst_38 : decode cX6_worst 38 = .ok (.iload 4, 2) := by decide +kernel
theorem dX6_worst_40 : decode cX6_worst 40 = .ok (.bipush 6, 2) := by decide +kernel
theorem dX6_worst_42 : decode cX6_worst 42 = .ok (.if_icmp .ge 44, 3) := by decide +kernel
theorem dX6_worst_45 : decode cX6_worst 45 = .ok (.aload_n 0, 1) := by decide +kernel
theorem dX6_worst_46 : decode cX6_worst 46 = .ok (.iload_n 2, 1) := by decide +kernel
theorem dX6_worst_47 : decode cX6_worst 47 = .ok (.aload_n 0, 1) := by decide +kernel
theorem dX6_worst_48 : decode cX6_worst 48 = .ok (.iconst 1, 1) := by decide +kernel
theorem dX6_worst_49 : decode cX6_worst 49 = .ok (.iload 4, 2) := by decide +kernel
theorem dX6_worst_51 : decode cX6_worst 51 = .ok (.invokevirtual 77, 3) := by decide +kernel
theorem dX6_worst_54 : decode cX6_worst 54 = .ok (.iand, 1) := by decide +kernel
theorem dX6_worst_55 : decode cX6_worst 55 = .ok (.invokevirtual 155, 3) := by decide +kernel
theorem dX6_worst_58 : decode cX6_worst 58 = .ok (.aload_n 0, 1) := by decide +kernel
theorem dX6_worst_59 : decode cX6_worst 59 = .ok (.iload_n 2, 1) := by decide +kernel
theorem dX6_worst_60 : decode cX6_worst 60 = .ok (.aload_n 0, 1) := by decide +kernel
theorem dX6_worst_61 : decode cX6_worst 61 = .ok (.iconst 1, 1) := by decide +kernel
theorem dX6_worst_62 : decode cX6_worst 62 = .ok (.iload_n 3, 1) := by decide +kernel
theorem dX6_worst_63 : decode cX6_worst 63 = .ok (.invokevirtual 77, 3) := by decide +kernel
theorem dX6_worst_66 : decode cX6_worst 66 = .ok (.iand, 1) := by decide +kernel
theorem dX6_worst_67 : decode cX6_worst 67 = .ok (.invokevirtual 155, 3) := by decide +kernel
theorem dX6_worst_70 : decode cX6_worst 70 = .ok (.if_icmp .le 8, 3) := by decide +kernel
theorem dX6_worst_73 : decode cX6_worst 73 = .ok (.iload 4, 2) := by decide +kernel
theorem dX6_worst_75 : decode cX6_worst 75 = .ok (.goto 4, 3) := by decide +kernel
theorem dX6_worst_78 : decode cX6_worst 78 = .ok (.iload_n 3, 1) := by decide +kernel
theorem dX6_worst_79 : decode cX6_worst 79 = .ok (.istore_n 3, 1) := by decide +kernel
theorem dX6_worst_80 : decode cX6_worst 80 = .ok (.iinc 4 1, 3) := by decide +kernel
theorem dX6_worst_83 : decode cX6_worst 83 = .ok (.goto (-45), 3) := by decide +kernel
theorem dX6_worst_86 : decode cX6_worst 86 = .ok (.aload_n 0, 1) := by decide +kernel
theorem dX6_worst_87 : decode cX6_worst 87 = .ok (.iload_n 3, 1) := by decide +kernel
theorem dX6_worst_88 : decode cX6_worst 88 = .ok (.invokevirtual 168, 3) := by decide +kernel
theorem dX6_worst_91 : decode cX6_worst 91 = .ok (.ireturn, 1) := by decide +kernel
theorem dX6_feed_0 : decode cX6_feed 0 = .ok (.iload_n 2, 1) := by decide +kernel
theorem dX6_feed_1 : decode cX6_feed 1 = .ok (.i2l, 1) := by decide +kernel
theorem dX6_feed_2 : decode cX6_feed 2 = .ok (.lconst 1, 1) := by decide +kernel
theorem dX6_feed_3 : decode cX6_feed 3 = .ok (.ldc2_w 181, 3) := by decide +kernel
theorem dX6_feed_6 : decode cX6_feed 6 = .ok (.invokestatic 48, 3) := by decide +kernel
theorem dX6_feed_9 : decode cX6_feed 9 = .ok (.ifCond .ne 10, 3) := by decide +kernel
theorem dX6_feed_12 : decode cX6_feed 12 = .ok (.aload_n 0, 1) := by decide +kernel
theorem dX6_feed_13 : decode cX6_feed 13 = .ok (.ldc 45, 2) := by decide +kernel
theorem dX6_feed_15 : decode cX6_feed 15 = .ok (.invokevirtual 64, 3) := by decide +kernel
theorem dX6_feed_18 : decode cX6_feed 18 = .ok (.ireturn, 1) := by decide +kernel
theorem dX6_feed_19 : decode cX6_feed 19 = .ok (.aload_n 0, 1) := by decide +kernel
theorem dX6_feed_20 : decode cX6_feed 20 = .ok (.getfield 183, 3) := by decide +kernel
theorem dX6_feed_23 : decode cX6_feed 23 = .ok (.iload_n 2, 1) := by decide +kernel
theorem dX6_feed_24 : decode cX6_feed 24 = .ok (.iadd, 1) := by decide +kernel
theorem dX6_feed_25 : decode cX6_feed 25 = .ok (.bipush 120, 2) := by decide +kernel
theorem dX6_feed_27 : decode cX6_feed 27 = .ok (.if_icmp .le 10, 3) := by decide +kernel
theorem dX6_feed_30 : decode cX6_feed 30 = .ok (.aload_n 0, 1) := by decide +kernel
theorem dX6_feed_31 : decode cX6_feed 31 = .ok (.ldc 83, 2) := by decide +kernel
theorem dX6_feed_33 : decode cX6_feed 33 = .ok (.invokevirtual 64, 3) := by decide +kernel
theorem dX6_feed_36 : decode cX6_feed 36 = .ok (.ireturn, 1) := by decide +kernel
theorem dX6_feed_37 : decode cX6_feed 37 = .ok (.iload_n 2, 1) := by decide +kernel
theorem dX6_feed_38 : decode cX6_feed 38 = .ok (.iconst 1, 1) := by decide +kernel
theorem dX6_feed_39 : decode cX6_feed 39 = .ok (.isub, 1) := by decide +kernel
theorem dX6_feed_40 : decode cX6_feed 40 = .ok (.istore_n 3, 1) := by decide +kernel
theorem dX6_feed_41 : decode cX6_feed 41 = .ok (.iload_n 3, 1) := by decide +kernel
theorem dX6_feed_42 : decode cX6_feed 42 = .ok (.ifCond .lt 38, 3) := by decide +kernel
theorem dX6_feed_45 : decode cX6_feed 45 = .ok (.aload_n 0, 1) := by decide +kernel
theorem dX6_feed_46 : decode cX6_feed 46 = .ok (.getfield 25, 3) := by decide +kernel
theorem dX6_feed_49 : decode cX6_feed 49 = .ok (.aload_n 0, 1) := by decide +kernel
theorem dX6_feed_50 : decode cX6_feed 50 = .ok (.getfield 183, 3) := by decide +kernel
theorem dX6_feed_53 : decode cX6_feed 53 = .ok (.iload_n 1, 1) := by decide +kernel
theorem dX6_feed_54 : decode cX6_feed 54 = .ok (.bipush 8, 2) := by decide +kernel
theorem dX6_feed_56 : decode cX6_feed 56 = .ok (.iload_n 3, 1) := by decide +kernel
theorem dX6_feed_57 : decode cX6_feed 57 = .ok (.imul, 1) := by decide +kernel
theorem dX6_feed_58 : decode cX6_feed 58 = .ok (.ishr, 1) := by decide +kernel
theorem dX6_feed_59 : decode cX6_feed 59 = .ok (.sipush 255, 3) := by decide +kernel
theorem dX6_feed_62 : decode cX6_feed 62 = .ok (.iand, 1) := by decide +kernel
theorem dX6_feed_63 : decode cX6_feed 63 = .ok (.iastore, 1) := by decide +kernel
theorem dX6_feed_64 : decode cX6_feed 64 = .ok (.aload_n 0, 1) := by decide +kernel
theorem dX6_feed_65 : decode cX6_feed 65 = .ok (.dup, 1) := by decide +kernel
theorem dX6_feed_66 : decode cX6_feed 66 = .ok (.getfield 183, 3) := by decide +kernel
theorem dX6_feed_69 : decode cX6_feed 69 = .ok (.iconst 1, 1) := by decide +kernel
theorem dX6_feed_70 : decode cX6_feed 70 = .ok (.iadd, 1) := by decide +kernel
theorem dX6_feed_71 : decode cX6_feed 71 = .ok (.putfield 183, 3) := by decide +kernel
theorem dX6_feed_74 : decode cX6_feed 74 = .ok (.iinc 3 (-1), 3) := by decide +kernel
theorem dX6_feed_77 : decode cX6_feed 77 = .ok (.goto (-36), 3) := by decide +kernel
theorem dX6_feed_80 : decode cX6_feed 80 = .ok (.aload_n 0, 1) := by decide +kernel
theorem dX6_feed_81 : decode cX6_feed 81 = .ok (.getfield 183, 3) := by decide +kernel
theorem dX6_feed_84 : decode cX6_feed 84 = .ok (.ireturn, 1) := by decide +kernel
theorem dX6_wipe_0 : decode cX6_wipe 0 = .ok (.aload_n 0, 1) := by decide +kernel
theorem dX6_wipe_1 : decode cX6_wipe 1 = .ok (.getfield 183, 3) := by decide +kernel
theorem dX6_wipe_4 : decode cX6_wipe 4 = .ok (.istore_n 1, 1) := by decide +kernel
theorem dX6_wipe_5 : decode cX6_wipe 5 = .ok (.aload_n 0, 1) := by decide +kernel
theorem dX6_wipe_6 : decode cX6_wipe 6 = .ok (.iconst 0, 1) := by decide +kernel
theorem dX6_wipe_7 : decode cX6_wipe 7 = .ok (.putfield 183, 3) := by decide +kernel
theorem dX6_wipe_10 : decode cX6_wipe 10 = .ok (.iload_n 1, 1) := by decide +kernel
theorem dX6_wipe_11 : decode cX6_wipe 11 = .ok (.ireturn, 1) := by decide +kernel
theorem dX6_byteAt_0 : decode cX6_byteAt 0 = .ok (.iload_n 1, 1) := by decide +kernel
theorem dX6_byteAt_1 : decode cX6_byteAt 1 = .ok (.aload_n 0, 1) := by decide +kernel
theorem dX6_byteAt_2 : decode cX6_byteAt 2 = .ok (.getfield 183, 3) := by decide +kernel
theorem dX6_byteAt_5 : decode cX6_byteAt 5 = .ok (.if_icmp .ge 12, 3) := by decide +kernel
theorem dX6_byteAt_8 : decode cX6_byteAt 8 = .ok (.aload_n 0, 1) := by decide +kernel
theorem dX6_byteAt_9 : decode cX6_byteAt 9 = .ok (.getfield 25, 3) := by decide +kernel
theorem dX6_byteAt_12 : decode cX6_byteAt 12 = .ok (.iload_n 1, 1) := by decide +kernel
theorem dX6_byteAt_13 : decode cX6_byteAt 13 = .ok (.iaload, 1) := by decide +kernel
theorem dX6_byteAt_14 : decode cX6_byteAt 14 = .ok (.goto 4, 3) := by decide +kernel
theorem dX6_byteAt_17 : decode cX6_byteAt 17 = .ok (.iconst (-1), 1) := by decide +kernel
theorem dX6_byteAt_18 : decode cX6_byteAt 18 = .ok (.ireturn, 1) := by decide +kernel
theorem dX6_isLetter_0 : decode cX6_isLetter 0 = .ok (.iload_n 0, 1) := by decide +kernel
theorem dX6_isLetter_1 : decode cX6_isLetter 1 = .ok (.i2l, 1) := by decide +kernel
theorem dX6_isLetter_2 : decode cX6_isLetter 2 = .ok (.ldc2_w 187, 3) := by decide +kernel
theorem dX6_isLetter_5 : decode cX6_isLetter 5 = .ok (.ldc2_w 189, 3) := by decide +kernel
theorem dX6_isLetter_8 : decode cX6_isLetter 8 = .ok (.invokestatic 48, 3) := by decide +kernel
theorem dX6_isLetter_11 : decode cX6_isLetter 11 = .ok (.ireturn, 1) := by decide +kernel
theorem dX6_isDigit_0 : decode cX6_isDigit 0 = .ok (.iload_n 0, 1) := by decide +kernel
theorem dX6_isDigit_1 : decode cX6_isDigit 1 = .ok (.i2l, 1) := by decide +kernel
theorem dX6_isDigit_2 : decode cX6_isDigit 2 = .ok (.ldc2_w 191, 3) := by decide +kernel
theorem dX6_isDigit_5 : decode cX6_isDigit 5 = .ok (.ldc2_w 193, 3) := by decide +kernel
theorem dX6_isDigit_8 : decode cX6_isDigit 8 = .ok (.invokestatic 48, 3) := by decide +kernel
theorem dX6_isDigit_11 : decode cX6_isDigit 11 = .ok (.ireturn, 1) := by decide +kernel
theorem dX6_token_0 : decode cX6_token 0 = .ok (.aload_n 0, 1) := by decide +kernel
theorem dX6_token_1 : decode cX6_token 1 = .ok (.aload_n 0, 1) := by decide +kernel
theorem dX6_token_2 : decode cX6_token 2 = .ok (.getfield 195, 3) := by decide +kernel
theorem dX6_token_5 : decode cX6_token 5 = .ok (.putfield 198, 3) := by decide +kernel
theorem dX6_token_8 : decode cX6_token 8 = .ok (.aload_n 0, 1) := by decide +kernel
theorem dX6_token_9 : decode cX6_token 9 = .ok (.aload_n 0, 1) := by decide +kernel
theorem dX6_token_10 : decode cX6_token 10 = .ok (.getfield 198, 3) := by decide +kernel
theorem dX6_token_13 : decode cX6_token 13 = .ok (.invokevirtual 201, 3) := by decide +kernel
theorem dX6_token_16 : decode cX6_token 16 = .ok (.bipush 32, 2) := by decide +kernel
theorem dX6_token_18 : decode cX6_token 18 = .ok (.if_icmp .ne 16, 3) := by decide +kernel
theorem dX6_token_21 : decode cX6_token 21 = .ok (.aload_n 0, 1) := by decide +kernel
theorem dX6_token_22 : decode cX6_token 22 = .ok (.dup, 1) := by decide +kernel
theorem dX6_token_23 : decode cX6_token 23 = .ok (.getfield 198, 3) := by decide +kernel
theorem dX6_token_26 : decode cX6_token 26 = .ok (.iconst 1, 1) := by decide +kernel
theorem dX6_token_27 : decode cX6_token 27 = .ok (.iadd, 1) := by decide +kernel
theorem dX6_token_28 : decode cX6_token 28 = .ok (.putfield 198, 3) := by decide +kernel
theorem dX6_token_31 : decode cX6_token 31 = .ok (.goto (-23), 3) := by decide +kernel
theorem dX6_token_34 : decode cX6_token 34 = .ok (.aload_n 0, 1) := by decide +kernel
theorem dX6_token_35 : decode cX6_token 35 = .ok (.aload_n 0, 1) := by decide +kernel
theorem dX6_token_36 : decode cX6_token 36 = .ok (.getfield 198, 3) := by decide +kernel
theorem dX6_token_39 : decode cX6_token 39 = .ok (.invokevirtual 201, 3) := by decide +kernel
theorem dX6_token_42 : decode cX6_token 42 = .ok (.invokestatic 204, 3) := by decide +kernel
theorem dX6_token_45 : decode cX6_token 45 = .ok (.istore_n 1, 1) := by decide +kernel
theorem dX6_token_46 : decode cX6_token 46 = .ok (.aload_n 0, 1) := by decide +kernel
theorem dX6_token_47 : decode cX6_token 47 = .ok (.aload_n 0, 1) := by decide +kernel
theorem dX6_token_48 : decode cX6_token 48 = .ok (.getfield 198, 3) := by decide +kernel
theorem dX6_token_51 : decode cX6_token 51 = .ok (.invokevirtual 201, 3) := by decide +kernel
theorem dX6_token_54 : decode cX6_token 54 = .ok (.invokestatic 207, 3) := by decide +kernel
theorem dX6_token_57 : decode cX6_token 57 = .ok (.istore_n 2, 1) := by decide +kernel
theorem dX6_token_58 : decode cX6_token 58 = .ok (.aload_n 0, 1) := by decide +kernel
theorem dX6_token_59 : decode cX6_token 59 = .ok (.aload_n 0, 1) := by decide +kernel
theorem dX6_token_60 : decode cX6_token 60 = .ok (.getfield 198, 3) := by decide +kernel
theorem dX6_token_63 : decode cX6_token 63 = .ok (.aload_n 0, 1) := by decide +kernel
theorem dX6_token_64 : decode cX6_token 64 = .ok (.getfield 183, 3) := by decide +kernel
theorem dX6_token_67 : decode cX6_token 67 = .ok (.if_icmp .ge 12, 3) := by decide +kernel
theorem dX6_token_70 : decode cX6_token 70 = .ok (.aload_n 0, 1) := by decide +kernel
theorem dX6_token_71 : decode cX6_token 71 = .ok (.getfield 198, 3) := by decide +kernel
theorem dX6_token_74 : decode cX6_token 74 = .ok (.iconst 1, 1) := by decide +kernel
theorem dX6_token_75 : decode cX6_token 75 = .ok (.iadd, 1) := by decide +kernel
theorem dX6_token_76 : decode cX6_token 76 = .ok (.goto 7, 3) := by decide +kernel
theorem dX6_token_79 : decode cX6_token 79 = .ok (.aload_n 0, 1) := by decide +kernel
theorem dX6_token_80 : decode cX6_token 80 = .ok (.getfield 198, 3) := by decide +kernel
theorem dX6_token_83 : decode cX6_token 83 = .ok (.putfield 195, 3) := by decide +kernel
theorem dX6_token_86 : decode cX6_token 86 = .ok (.iload_n 1, 1) := by decide +kernel
theorem dX6_token_87 : decode cX6_token 87 = .ok (.ifCond .eq 17, 3) := by decide +kernel
theorem dX6_token_90 : decode cX6_token 90 = .ok (.aload_n 0, 1) := by decide +kernel
theorem dX6_token_91 : decode cX6_token 91 = .ok (.aload_n 0, 1) := by decide +kernel
theorem dX6_token_92 : decode cX6_token 92 = .ok (.getfield 195, 3) := by decide +kernel
theorem dX6_token_95 : decode cX6_token 95 = .ok (.invokevirtual 201, 3) := by decide +kernel
theorem dX6_token_98 : decode cX6_token 98 = .ok (.invokestatic 204, 3) := by decide +kernel
theorem dX6_token_101 : decode cX6_token 101 = .ok (.ifCond .ne 21, 3) := by decide +kernel
theorem dX6_token_104 : decode cX6_token 104 = .ok (.iload_n 2, 1) := by decide +kernel
theorem dX6_token_105 : decode cX6_token 105 = .ok (.ifCond .eq 30, 3) := by decide +kernel
theorem dX6_token_108 : decode cX6_token 108 = .ok (.aload_n 0, 1) := by decide +kernel
theorem dX6_token_109 : decode cX6_token 109 = .ok (.aload_n 0, 1) := by decide +kernel
theorem dX6_token_110 : decode cX6_token 110 = .ok (.getfield 195, 3) := by decide +kernel
theorem dX6_token_113 : decode cX6_token 113 = .ok (.invokevirtual 201, 3) := by decide +kernel
theorem dX6_token_116 : decode cX6_token 116 = .ok (.invokestatic 207, 3) := by decide +kernel
theorem dX6_token_119 : decode cX6_token 119 = .ok (.ifCond .eq 16, 3) := by decide +kernel
theorem dX6_token_122 : decode cX6_token 122 = .ok (.aload_n 0, 1) := by decide +kernel
theorem dX6_token_123 : decode cX6_token 123 = .ok (.dup, 1) := by decide +kernel
theorem dX6_token_124 : decode cX6_token 124 = .ok (.getfield 195, 3) := by decide +kernel
theorem dX6_token_127 : decode cX6_token 127 = .ok (.iconst 1, 1) := by decide +kernel
theorem dX6_token_128 : decode cX6_token 128 = .ok (.iadd, 1) := by decide +kernel
theorem dX6_token_129 : decode cX6_token 129 = .ok (.putfield 195, 3) := by decide +kernel
theorem dX6_token_132 : decode cX6_token 132 = .ok (.goto (-46), 3) := by decide +kernel
theorem dX6_token_135 : decode cX6_token 135 = .ok (.return_, 1) := by decide +kernel
theorem dX6_must_0 : decode cX6_must 0 = .ok (.aload_n 0, 1) := by decide +kernel
theorem dX6_must_1 : decode cX6_must 1 = .ok (.aload_n 0, 1) := by decide +kernel
theorem dX6_must_2 : decode cX6_must 2 = .ok (.getfield 210, 3) := by decide +kernel
theorem dX6_must_5 : decode cX6_must 5 = .ok (.ifCond .ne 7, 3) := by decide +kernel
theorem dX6_must_8 : decode cX6_must 8 = .ok (.iload_n 1, 1) := by decide +kernel
theorem dX6_must_9 : decode cX6_must 9 = .ok (.ifCond .ne 7, 3) := by decide +kernel
theorem dX6_must_12 : decode cX6_must 12 = .ok (.iconst 1, 1) := by decide +kernel
theorem dX6_must_13 : decode cX6_must 13 = .ok (.goto 4, 3) := by decide +kernel
theorem dX6_must_16 : decode cX6_must 16 = .ok (.iconst 0, 1) := by decide +kernel
theorem dX6_must_17 : decode cX6_must 17 = .ok (.putfield 210, 3) := by decide +kernel
theorem dX6_must_20 : decode cX6_must 20 = .ok (.aload_n 0, 1) := by decide +kernel
theorem dX6_must_21 : decode cX6_must 21 = .ok (.getfield 210, 3) := by decide +kernel
theorem dX6_must_24 : decode cX6_must 24 = .ok (.ifCond .ne 7, 3) := by decide +kernel
theorem dX6_must_27 : decode cX6_must 27 = .ok (.aload_n 0, 1) := by decide +kernel
theorem dX6_must_28 : decode cX6_must 28 = .ok (.invokevirtual 214, 3) := by decide +kernel
theorem dX6_must_31 : decode cX6_must 31 = .ok (.return_, 1) := by decide +kernel
theorem dX6_word_0 : decode cX6_word 0 = .ok (.lconst 0, 1) := by decide +kernel
theorem dX6_word_1 : decode cX6_word 1 = .ok (.lstore_n 1, 1) := by decide +kernel
theorem dX6_word_2 : decode cX6_word 2 = .ok (.aload_n 0, 1) := by decide +kernel
theorem dX6_word_3 : decode cX6_word 3 = .ok (.getfield 198, 3) := by decide +kernel
theorem dX6_word_6 : decode cX6_word 6 = .ok (.istore_n 3, 1) := by decide +kernel
theorem dX6_word_7 : decode cX6_word 7 = .ok (.iload_n 3, 1) := by decide +kernel
theorem dX6_word_8 : decode cX6_word 8 = .ok (.aload_n 0, 1) := by decide +kernel
theorem dX6_word_9 : decode cX6_word 9 = .ok (.getfield 195, 3) := by decide +kernel
theorem dX6_word_12 : decode cX6_word 12 = .ok (.if_icmp .ge 38, 3) := by decide +kernel
theorem dX6_word_15 : decode cX6_word 15 = .ok (.lload_n 1, 1) := by decide +kernel
theorem dX6_word_16 : decode cX6_word 16 = .ok (.ldc2_w 217, 3) := by decide +kernel
theorem dX6_word_19 : decode cX6_word 19 = .ok (.lcmp, 1) := by decide +kernel
theorem dX6_word_20 : decode cX6_word 20 = .ok (.ifCond .le 7, 3) := by decide +kernel
theorem dX6_word_23 : decode cX6_word 23 = .ok (.lload_n 1, 1) := by decide +kernel
theorem dX6_word_24 : decode cX6_word 24 = .ok (.goto 19, 3) := by decide +kernel
theorem dX6_word_27 : decode cX6_word 27 = .ok (.ldc2_w 219, 3) := by decide +kernel
theorem dX6_word_30 : decode cX6_word 30 = .ok (.lload_n 1, 1) := by decide +kernel
theorem dX6_word_31 : decode cX6_word 31 = .ok (.lmul, 1) := by decide +kernel
theorem dX6_word_32 : decode cX6_word 32 = .ok (.aload_n 0, 1) := by decide +kernel
theorem dX6_word_33 : decode cX6_word 33 = .ok (.getfield 25, 3) := by decide +kernel
theorem dX6_word_36 : decode cX6_word 36 = .ok (.iload_n 3, 1) := by decide +kernel
theorem dX6_word_37 : decode cX6_word 37 = .ok (.iaload, 1) := by decide +kernel
theorem dX6_word_38 : decode cX6_word 38 = .ok (.bipush 96, 2) := by decide +kernel
theorem dX6_word_40 : decode cX6_word 40 = .ok (.isub, 1) := by decide +kernel
theorem dX6_word_41 : decode cX6_word 41 = .ok (.i2l, 1) := by decide +kernel
theorem dX6_word_42 : decode cX6_word 42 = .ok (.ladd, 1) := by decide +kernel
theorem dX6_word_43 : decode cX6_word 43 = .ok (.lstore_n 1, 1) := by decide +kernel
theorem dX6_word_44 : decode cX6_word 44 = .ok (.iinc 3 1, 3) := by decide +kernel
theorem dX6_word_47 : decode cX6_word 47 = .ok (.goto (-40), 3) := by decide +kernel
theorem dX6_word_50 : decode cX6_word 50 = .ok (.aload_n 0, 1) := by decide +kernel
theorem dX6_word_51 : decode cX6_word 51 = .ok (.getfield 210, 3) := by decide +kernel
theorem dX6_word_54 : decode cX6_word 54 = .ok (.ifCond .ne 17, 3) := by decide +kernel
theorem dX6_word_57 : decode cX6_word 57 = .ok (.aload_n 0, 1) := by decide +kernel
theorem dX6_word_58 : decode cX6_word 58 = .ok (.aload_n 0, 1) := by decide +kernel
theorem dX6_word_59 : decode cX6_word 59 = .ok (.getfield 198, 3) := by decide +kernel
theorem dX6_word_62 : decode cX6_word 62 = .ok (.invokevirtual 201, 3) := by decide +kernel
theorem dX6_word_65 : decode cX6_word 65 = .ok (.invokestatic 204, 3) := by decide +kernel
theorem dX6_word_68 : decode cX6_word 68 = .ok (.ifCond .ne 7, 3) := by decide +kernel
theorem dX6_word_71 : decode cX6_word 71 = .ok (.lconst 0, 1) := by decide +kernel
theorem dX6_word_72 : decode cX6_word 72 = .ok (.goto 4, 3) := by decide +kernel
theorem dX6_word_75 : decode cX6_word 75 = .ok (.lload_n 1, 1) := by decide +kernel
theorem dX6_word_76 : decode cX6_word 76 = .ok (.lreturn, 1) := by decide +kernel
theorem dX6_number_0 : decode cX6_number 0 = .ok (.aload_n 0, 1) := by decide +kernel
theorem dX6_number_1 : decode cX6_number 1 = .ok (.getfield 210, 3) := by decide +kernel
theorem dX6_number_4 : decode cX6_number 4 = .ok (.ifCond .eq 4, 3) := by decide +kernel
theorem dX6_number_7 : decode cX6_number 7 = .ok (.return_, 1) := by decide +kernel
theorem dX6_number_8 : decode cX6_number 8 = .ok (.aload_n 0, 1) := by decide +kernel
theorem dX6_number_9 : decode cX6_number 9 = .ok (.aload_n 0, 1) := by decide +kernel
theorem dX6_number_10 : decode cX6_number 10 = .ok (.getfield 198, 3) := by decide +kernel
theorem dX6_number_13 : decode cX6_number 13 = .ok (.invokevirtual 201, 3) := by decide +kernel
theorem dX6_number_16 : decode cX6_number 16 = .ok (.invokestatic 207, 3) := by decide +kernel
theorem dX6_number_19 : decode cX6_number 19 = .ok (.istore_n 3, 1) := by decide +kernel
theorem dX6_number_20 : decode cX6_number 20 = .ok (.iconst 0, 1) := by decide +kernel
theorem dX6_number_21 : decode cX6_number 21 = .ok (.istore 4, 2) := by decide +kernel
theorem dX6_number_23 : decode cX6_number 23 = .ok (.aload_n 0, 1) := by decide +kernel
theorem dX6_number_24 : decode cX6_number 24 = .ok (.getfield 198, 3) := by decide +kernel
theorem dX6_number_27 : decode cX6_number 27 = .ok (.istore 5, 2) := by decide +kernel
theorem dX6_number_29 : decode cX6_number 29 = .ok (.iload 5, 2) := by decide +kernel
theorem dX6_number_31 : decode cX6_number 31 = .ok (.aload_n 0, 1) := by decide +kernel
theorem dX6_number_32 : decode cX6_number 32 = .ok (.getfield 195, 3) := by decide +kernel
theorem dX6_number_35 : decode cX6_number 35 = .ok (.if_icmp .ge 44, 3) := by decide +kernel
theorem dX6_number_38 : decode cX6_number 38 = .ok (.iload_n 3, 1) := by decide +kernel
theorem dX6_number_39 : decode cX6_number 39 = .ok (.ifCond .eq 40, 3) := by decide +kernel
theorem dX6_number_42 : decode cX6_number 42 = .ok (.iload 4, 2) := by decide +kernel
theorem dX6_number_44 : decode cX6_number 44 = .ok (.sipush 9999, 3) := by decide +kernel
theorem dX6_number_47 : decode cX6_number 47 = .ok (.if_icmp .le 8, 3) := by decide +kernel
theorem dX6_number_50 : decode cX6_number 50 = .ok (.iload 4, 2) := by decide +kernel
theorem dX6_number_52 : decode cX6_number 52 = .ok (.goto 19, 3) := by decide +kernel
theorem dX6_number_55 : decode cX6_number 55 = .ok (.bipush 10, 2) := by decide +kernel
theorem dX6_number_57 : decode cX6_number 57 = .ok (.iload 4, 2) := by decide +kernel
theorem dX6_number_59 : decode cX6_number 59 = .ok (.imul, 1) := by decide +kernel
theorem dX6_number_60 : decode cX6_number 60 = .ok (.aload_n 0, 1) := by decide +kernel
theorem dX6_number_61 : decode cX6_number 61 = .ok (.getfield 25, 3) := by decide +kernel
theorem dX6_number_64 : decode cX6_number 64 = .ok (.iload 5, 2) := by decide +kernel
theorem dX6_number_66 : decode cX6_number 66 = .ok (.iaload, 1) := by decide +kernel
theorem dX6_number_67 : decode cX6_number 67 = .ok (.iadd, 1) := by decide +kernel
theorem dX6_number_68 : decode cX6_number 68 = .ok (.bipush 48, 2) := by decide +kernel
theorem dX6_number_70 : decode cX6_number 70 = .ok (.isub, 1) := by decide +kernel
theorem dX6_number_71 : decode cX6_number 71 = .ok (.istore 4, 2) := by decide +kernel
theorem dX6_number_73 : decode cX6_number 73 = .ok (.iinc 5 1, 3) := by decide +kernel
theorem dX6_number_76 : decode cX6_number 76 = .ok (.goto (-47), 3) := by decide +kernel
theorem dX6_number_79 : decode cX6_number 79 = .ok (.aload_n 0, 1) := by decide +kernel
theorem dX6_number_80 : decode cX6_number 80 = .ok (.iload 4, 2) := by decide +kernel
theorem dX6_number_82 : decode cX6_number 82 = .ok (.putfield 221, 3) := by decide +kernel
