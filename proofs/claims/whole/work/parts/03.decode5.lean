theorem dX5_init_0 : decode cX5_init 0 = .ok (.aload_n 0, 1) := by decide +kernel
theorem dX5_init_1 : decode cX5_init 1 = .ok (.invokespecial 1, 3) := by decide +kernel
theorem dX5_init_4 : decode cX5_init 4 = .ok (.aload_n 0, 1) := by decide +kernel
theorem dX5_init_5 : decode cX5_init 5 = .ok (.new 7, 3) := by decide +kernel
theorem dX5_init_8 : decode cX5_init 8 = .ok (.dup, 1) := by decide +kernel
theorem dX5_init_9 : decode cX5_init 9 = .ok (.invokespecial 9, 3) := by decide +kernel
theorem dX5_init_12 : decode cX5_init 12 = .ok (.putfield 10, 3) := by decide +kernel
theorem dX5_init_15 : decode cX5_init 15 = .ok (.aload_n 0, 1) := by decide +kernel
theorem dX5_init_16 : decode cX5_init 16 = .ok (.new 7, 3) := by decide +kernel
theorem dX5_init_19 : decode cX5_init 19 = .ok (.dup, 1) := by decide +kernel
theorem dX5_init_20 : decode cX5_init 20 = .ok (.invokespecial 9, 3) := by decide +kernel
theorem dX5_init_23 : decode cX5_init 23 = .ok (.putfield 16, 3) := by decide +kernel
theorem dX5_init_26 : decode cX5_init 26 = .ok (.aload_n 0, 1) := by decide +kernel
theorem dX5_init_27 : decode cX5_init 27 = .ok (.new 7, 3) := by decide +kernel
theorem dX5_init_30 : decode cX5_init 30 = .ok (.dup, 1) := by decide +kernel
theorem dX5_init_31 : decode cX5_init 31 = .ok (.invokespecial 9, 3) := by decide +kernel
theorem dX5_init_34 : decode cX5_init 34 = .ok (.putfield 19, 3) := by decide +kernel
theorem dX5_init_37 : decode cX5_init 37 = .ok (.aload_n 0, 1) := by decide +kernel
theorem dX5_init_38 : decode cX5_init 38 = .ok (.iconst 0, 1) := by decide +kernel
theorem dX5_init_39 : decode cX5_init 39 = .ok (.putfield 22, 3) := by decide +kernel
theorem dX5_init_42 : decode cX5_init 42 = .ok (.aload_n 0, 1) := by decide +kernel
theorem dX5_init_43 : decode cX5_init 43 = .ok (.new 26, 3) := by decide +kernel
theorem dX5_init_46 : decode cX5_init 46 = .ok (.dup, 1) := by decide +kernel
theorem dX5_init_47 : decode cX5_init 47 = .ok (.invokespecial 28, 3) := by decide +kernel
theorem dX5_init_50 : decode cX5_init 50 = .ok (.putfield 29, 3) := by decide +kernel
theorem dX5_init_53 : decode cX5_init 53 = .ok (.aload_n 0, 1) := by decide +kernel
theorem dX5_init_54 : decode cX5_init 54 = .ok (.iconst 4, 1) := by decide +kernel
theorem dX5_init_55 : decode cX5_init 55 = .ok (.anewarray 33, 3) := by decide +kernel
theorem dX5_init_58 : decode cX5_init 58 = .ok (.putfield 35, 3) := by decide +kernel
theorem dX5_init_61 : decode cX5_init 61 = .ok (.aload_n 0, 1) := by decide +kernel
theorem dX5_init_62 : decode cX5_init 62 = .ok (.bipush 7, 2) := by decide +kernel
theorem dX5_init_64 : decode cX5_init 64 = .ok (.newarray .int, 2) := by decide +kernel
theorem dX5_init_66 : decode cX5_init 66 = .ok (.putfield 39, 3) := by decide +kernel
theorem dX5_init_69 : decode cX5_init 69 = .ok (.iconst 0, 1) := by decide +kernel
theorem dX5_init_70 : decode cX5_init 70 = .ok (.istore_n 1, 1) := by decide +kernel
theorem dX5_init_71 : decode cX5_init 71 = .ok (.iload_n 1, 1) := by decide +kernel
theorem dX5_init_72 : decode cX5_init 72 = .ok (.iconst 4, 1) := by decide +kernel
theorem dX5_init_73 : decode cX5_init 73 = .ok (.if_icmp .ge 22, 3) := by decide +kernel
theorem dX5_init_76 : decode cX5_init 76 = .ok (.aload_n 0, 1) := by decide +kernel
theorem dX5_init_77 : decode cX5_init 77 = .ok (.getfield 35, 3) := by decide +kernel
theorem dX5_init_80 : decode cX5_init 80 = .ok (.iload_n 1, 1) := by decide +kernel
theorem dX5_init_81 : decode cX5_init 81 = .ok (.new 33, 3) := by decide +kernel
theorem dX5_init_84 : decode cX5_init 84 = .ok (.dup, 1) := by decide +kernel
theorem dX5_init_85 : decode cX5_init 85 = .ok (.invokespecial 43, 3) := by decide +kernel
theorem dX5_init_88 : decode cX5_init 88 = .ok (.aastore, 1) := by decide +kernel
theorem dX5_init_89 : decode cX5_init 89 = .ok (.iinc 1 1, 3) := by decide +kernel
theorem dX5_init_92 : decode cX5_init 92 = .ok (.goto (-21), 3) := by decide +kernel
theorem dX5_init_95 : decode cX5_init 95 = .ok (.return_, 1) := by decide +kernel
theorem dX5_town_0 : decode cX5_town 0 = .ok (.iload_n 1, 1) := by decide +kernel
theorem dX5_town_1 : decode cX5_town 1 = .ok (.iconst 0, 1) := by decide +kernel
theorem dX5_town_2 : decode cX5_town 2 = .ok (.iconst 3, 1) := by decide +kernel
theorem dX5_town_3 : decode cX5_town 3 = .ok (.invokestatic 44, 3) := by decide +kernel
theorem dX5_town_6 : decode cX5_town 6 = .ok (.ifCond .eq 16, 3) := by decide +kernel
theorem dX5_town_9 : decode cX5_town 9 = .ok (.iload_n 2, 1) := by decide +kernel
theorem dX5_town_10 : decode cX5_town 10 = .ok (.iconst 0, 1) := by decide +kernel
theorem dX5_town_11 : decode cX5_town 11 = .ok (.getstatic 48, 3) := by decide +kernel
theorem dX5_town_14 : decode cX5_town 14 = .ok (.iload_n 1, 1) := by decide +kernel
theorem dX5_town_15 : decode cX5_town 15 = .ok (.iaload, 1) := by decide +kernel
theorem dX5_town_16 : decode cX5_town 16 = .ok (.invokestatic 44, 3) := by decide +kernel
theorem dX5_town_19 : decode cX5_town 19 = .ok (.ifCond .ne 10, 3) := by decide +kernel
theorem dX5_town_22 : decode cX5_town 22 = .ok (.aload_n 0, 1) := by decide +kernel
theorem dX5_town_23 : decode cX5_town 23 = .ok (.ldc 51, 2) := by decide +kernel
theorem dX5_town_25 : decode cX5_town 25 = .ok (.invokevirtual 52, 3) := by decide +kernel
theorem dX5_town_28 : decode cX5_town 28 = .ok (.ireturn, 1) := by decide +kernel
theorem dX5_town_29 : decode cX5_town 29 = .ok (.aload_n 0, 1) := by decide +kernel
theorem dX5_town_30 : decode cX5_town 30 = .ok (.getfield 10, 3) := by decide +kernel
theorem dX5_town_33 : decode cX5_town 33 = .ok (.iload_n 1, 1) := by decide +kernel
theorem dX5_town_34 : decode cX5_town 34 = .ok (.iload_n 2, 1) := by decide +kernel
theorem dX5_town_35 : decode cX5_town 35 = .ok (.invokevirtual 56, 3) := by decide +kernel
theorem dX5_town_38 : decode cX5_town 38 = .ok (.ireturn, 1) := by decide +kernel
theorem dX5_street_0 : decode cX5_street 0 = .ok (.iload_n 1, 1) := by decide +kernel
theorem dX5_street_1 : decode cX5_street 1 = .ok (.invokestatic 60, 3) := by decide +kernel
theorem dX5_street_4 : decode cX5_street 4 = .ok (.ifCond .eq 25, 3) := by decide +kernel
theorem dX5_street_7 : decode cX5_street 7 = .ok (.iload_n 2, 1) := by decide +kernel
theorem dX5_street_8 : decode cX5_street 8 = .ok (.iconst 0, 1) := by decide +kernel
theorem dX5_street_9 : decode cX5_street 9 = .ok (.iconst 1, 1) := by decide +kernel
theorem dX5_street_10 : decode cX5_street 10 = .ok (.invokestatic 44, 3) := by decide +kernel
theorem dX5_street_13 : decode cX5_street 13 = .ok (.ifCond .eq 16, 3) := by decide +kernel
theorem dX5_street_16 : decode cX5_street 16 = .ok (.iload_n 3, 1) := by decide +kernel
theorem dX5_street_17 : decode cX5_street 17 = .ok (.iconst 0, 1) := by decide +kernel
theorem dX5_street_18 : decode cX5_street 18 = .ok (.getstatic 64, 3) := by decide +kernel
theorem dX5_street_21 : decode cX5_street 21 = .ok (.iload_n 2, 1) := by decide +kernel
theorem dX5_street_22 : decode cX5_street 22 = .ok (.iaload, 1) := by decide +kernel
theorem dX5_street_23 : decode cX5_street 23 = .ok (.invokestatic 44, 3) := by decide +kernel
theorem dX5_street_26 : decode cX5_street 26 = .ok (.ifCond .ne 10, 3) := by decide +kernel
theorem dX5_street_29 : decode cX5_street 29 = .ok (.aload_n 0, 1) := by decide +kernel
theorem dX5_street_30 : decode cX5_street 30 = .ok (.ldc 51, 2) := by decide +kernel
theorem dX5_street_32 : decode cX5_street 32 = .ok (.invokevirtual 52, 3) := by decide +kernel
theorem dX5_street_35 : decode cX5_street 35 = .ok (.ireturn, 1) := by decide +kernel
theorem dX5_street_36 : decode cX5_street 36 = .ok (.iload_n 2, 1) := by decide +kernel
theorem dX5_street_37 : decode cX5_street 37 = .ok (.ifCond .ne 13, 3) := by decide +kernel
theorem dX5_street_40 : decode cX5_street 40 = .ok (.aload_n 0, 1) := by decide +kernel
theorem dX5_street_41 : decode cX5_street 41 = .ok (.getfield 10, 3) := by decide +kernel
theorem dX5_street_44 : decode cX5_street 44 = .ok (.getfield 67, 3) := by decide +kernel
theorem dX5_street_47 : decode cX5_street 47 = .ok (.goto 10, 3) := by decide +kernel
theorem dX5_street_50 : decode cX5_street 50 = .ok (.aload_n 0, 1) := by decide +kernel
theorem dX5_street_51 : decode cX5_street 51 = .ok (.getfield 10, 3) := by decide +kernel
theorem dX5_street_54 : decode cX5_street 54 = .ok (.getfield 70, 3) := by decide +kernel
theorem dX5_street_57 : decode cX5_street 57 = .ok (.iload_n 1, 1) := by decide +kernel
theorem dX5_street_58 : decode cX5_street 58 = .ok (.iload_n 3, 1) := by decide +kernel
theorem dX5_street_59 : decode cX5_street 59 = .ok (.invokestatic 73, 3) := by decide +kernel
theorem dX5_street_62 : decode cX5_street 62 = .ok (.ireturn, 1) := by decide +kernel
theorem dX5_streetOf_0 : decode cX5_streetOf 0 = .ok (.iload_n 1, 1) := by decide +kernel
theorem dX5_streetOf_1 : decode cX5_streetOf 1 = .ok (.invokestatic 60, 3) := by decide +kernel
theorem dX5_streetOf_4 : decode cX5_streetOf 4 = .ok (.ifCond .eq 12, 3) := by decide +kernel
theorem dX5_streetOf_7 : decode cX5_streetOf 7 = .ok (.iload_n 2, 1) := by decide +kernel
theorem dX5_streetOf_8 : decode cX5_streetOf 8 = .ok (.iconst 0, 1) := by decide +kernel
theorem dX5_streetOf_9 : decode cX5_streetOf 9 = .ok (.iconst 3, 1) := by decide +kernel
theorem dX5_streetOf_10 : decode cX5_streetOf 10 = .ok (.invokestatic 44, 3) := by decide +kernel
theorem dX5_streetOf_13 : decode cX5_streetOf 13 = .ok (.ifCond .ne 10, 3) := by decide +kernel
theorem dX5_streetOf_16 : decode cX5_streetOf 16 = .ok (.aload_n 0, 1) := by decide +kernel
theorem dX5_streetOf_17 : decode cX5_streetOf 17 = .ok (.ldc 51, 2) := by decide +kernel
theorem dX5_streetOf_19 : decode cX5_streetOf 19 = .ok (.invokevirtual 52, 3) := by decide +kernel
theorem dX5_streetOf_22 : decode cX5_streetOf 22 = .ok (.ireturn, 1) := by decide +kernel
theorem dX5_streetOf_23 : decode cX5_streetOf 23 = .ok (.iload_n 2, 1) := by decide +kernel
theorem dX5_streetOf_24 : decode cX5_streetOf 24 = .ok (.tableswitch 57 0 2 #[28, 38, 48], 28) := by decide +kernel
theorem dX5_streetOf_52 : decode cX5_streetOf 52 = .ok (.aload_n 0, 1) := by decide +kernel
theorem dX5_streetOf_53 : decode cX5_streetOf 53 = .ok (.getfield 10, 3) := by decide +kernel
theorem dX5_streetOf_56 : decode cX5_streetOf 56 = .ok (.getfield 67, 3) := by decide +kernel
theorem dX5_streetOf_59 : decode cX5_streetOf 59 = .ok (.iload_n 1, 1) := by decide +kernel
theorem dX5_streetOf_60 : decode cX5_streetOf 60 = .ok (.iaload, 1) := by decide +kernel
theorem dX5_streetOf_61 : decode cX5_streetOf 61 = .ok (.ireturn, 1) := by decide +kernel
theorem dX5_streetOf_62 : decode cX5_streetOf 62 = .ok (.aload_n 0, 1) := by decide +kernel
theorem dX5_streetOf_63 : decode cX5_streetOf 63 = .ok (.getfield 10, 3) := by decide +kernel
theorem dX5_streetOf_66 : decode cX5_streetOf 66 = .ok (.getfield 70, 3) := by decide +kernel
theorem dX5_streetOf_69 : decode cX5_streetOf 69 = .ok (.iload_n 1, 1) := by decide +kernel
theorem dX5_streetOf_70 : decode cX5_streetOf 70 = .ok (.iaload, 1) := by decide +kernel
theorem dX5_streetOf_71 : decode cX5_streetOf 71 = .ok (.ireturn, 1) := by decide +kernel
theorem dX5_streetOf_72 : decode cX5_streetOf 72 = .ok (.aload_n 0, 1) := by decide +kernel
theorem dX5_streetOf_73 : decode cX5_streetOf 73 = .ok (.getfield 10, 3) := by decide +kernel
theorem dX5_streetOf_76 : decode cX5_streetOf 76 = .ok (.iload_n 1, 1) := by decide +kernel
theorem dX5_streetOf_77 : decode cX5_streetOf 77 = .ok (.invokevirtual 77, 3) := by decide +kernel
theorem dX5_streetOf_80 : decode cX5_streetOf 80 = .ok (.ireturn, 1) := by decide +kernel
theorem dX5_streetOf_81 : decode cX5_streetOf 81 = .ok (.aload_n 0, 1) := by decide +kernel
theorem dX5_streetOf_82 : decode cX5_streetOf 82 = .ok (.getfield 10, 3) := by decide +kernel
theorem dX5_streetOf_85 : decode cX5_streetOf 85 = .ok (.iload_n 1, 1) := by decide +kernel
theorem dX5_streetOf_86 : decode cX5_streetOf 86 = .ok (.invokevirtual 77, 3) := by decide +kernel
theorem dX5_streetOf_89 : decode cX5_streetOf 89 = .ok (.aload_n 0, 1) := by decide +kernel
theorem dX5_streetOf_90 : decode cX5_streetOf 90 = .ok (.getfield 10, 3) := by decide +kernel
theorem dX5_streetOf_93 : decode cX5_streetOf 93 = .ok (.invokevirtual 80, 3) := by decide +kernel
theorem dX5_streetOf_96 : decode cX5_streetOf 96 = .ok (.iand, 1) := by decide +kernel
theorem dX5_streetOf_97 : decode cX5_streetOf 97 = .ok (.ireturn, 1) := by decide +kernel
theorem dX5_hole_0 : decode cX5_hole 0 = .ok (.iload_n 1, 1) := by decide +kernel
theorem dX5_hole_1 : decode cX5_hole 1 = .ok (.invokestatic 84, 3) := by decide +kernel
theorem dX5_hole_4 : decode cX5_hole 4 = .ok (.ifCond .eq 10, 3) := by decide +kernel
theorem dX5_hole_7 : decode cX5_hole 7 = .ok (.iload_n 2, 1) := by decide +kernel
theorem dX5_hole_8 : decode cX5_hole 8 = .ok (.invokestatic 60, 3) := by decide +kernel
theorem dX5_hole_11 : decode cX5_hole 11 = .ok (.ifCond .ne 10, 3) := by decide +kernel
theorem dX5_hole_14 : decode cX5_hole 14 = .ok (.aload_n 0, 1) := by decide +kernel
theorem dX5_hole_15 : decode cX5_hole 15 = .ok (.ldc 51, 2) := by decide +kernel
theorem dX5_hole_17 : decode cX5_hole 17 = .ok (.invokevirtual 52, 3) := by decide +kernel
theorem dX5_hole_20 : decode cX5_hole 20 = .ok (.ireturn, 1) := by decide +kernel
theorem dX5_hole_21 : decode cX5_hole 21 = .ok (.aload_n 0, 1) := by decide +kernel
theorem dX5_hole_22 : decode cX5_hole 22 = .ok (.getfield 10, 3) := by decide +kernel
theorem dX5_hole_25 : decode cX5_hole 25 = .ok (.invokevirtual 87, 3) := by decide +kernel
theorem dX5_hole_28 : decode cX5_hole 28 = .ok (.ifCond .eq 10, 3) := by decide +kernel
theorem dX5_hole_31 : decode cX5_hole 31 = .ok (.aload_n 0, 1) := by decide +kernel
theorem dX5_hole_32 : decode cX5_hole 32 = .ok (.ldc 91, 2) := by decide +kernel
theorem dX5_hole_34 : decode cX5_hole 34 = .ok (.invokevirtual 52, 3) := by decide +kernel
theorem dX5_hole_37 : decode cX5_hole 37 = .ok (.ireturn, 1) := by decide +kernel
theorem dX5_hole_38 : decode cX5_hole 38 = .ok (.aload_n 0, 1) := by decide +kernel
theorem dX5_hole_39 : decode cX5_hole 39 = .ok (.getfield 10, 3) := by decide +kernel
theorem dX5_hole_42 : decode cX5_hole 42 = .ok (.iload_n 1, 1) := by decide +kernel
theorem dX5_hole_43 : decode cX5_hole 43 = .ok (.iload_n 2, 1) := by decide +kernel
theorem dX5_hole_44 : decode cX5_hole 44 = .ok (.invokevirtual 92, 3) := by decide +kernel
theorem dX5_hole_47 : decode cX5_hole 47 = .ok (.ireturn, 1) := by decide +kernel
theorem dX5_of_0 : decode cX5_of 0 = .ok (.aload_n 0, 1) := by decide +kernel
theorem dX5_of_1 : decode cX5_of 1 = .ok (.getfield 10, 3) := by decide +kernel
theorem dX5_of_4 : decode cX5_of 4 = .ok (.iload_n 1, 1) := by decide +kernel
theorem dX5_of_5 : decode cX5_of 5 = .ok (.invokevirtual 95, 3) := by decide +kernel
theorem dX5_of_8 : decode cX5_of 8 = .ok (.ifCond .eq 13, 3) := by decide +kernel
theorem dX5_of_11 : decode cX5_of 11 = .ok (.iload_n 2, 1) := by decide +kernel
theorem dX5_of_12 : decode cX5_of 12 = .ok (.iconst 0, 1) := by decide +kernel
theorem dX5_of_13 : decode cX5_of 13 = .ok (.bipush 9, 2) := by decide +kernel
theorem dX5_of_15 : decode cX5_of 15 = .ok (.invokestatic 44, 3) := by decide +kernel
theorem dX5_of_18 : decode cX5_of 18 = .ok (.ifCond .ne 10, 3) := by decide +kernel
theorem dX5_of_21 : decode cX5_of 21 = .ok (.aload_n 0, 1) := by decide +kernel
theorem dX5_of_22 : decode cX5_of 22 = .ok (.ldc 51, 2) := by decide +kernel
theorem dX5_of_24 : decode cX5_of 24 = .ok (.invokevirtual 52, 3) := by decide +kernel
theorem dX5_of_27 : decode cX5_of 27 = .ok (.ireturn, 1) := by decide +kernel
theorem dX5_of_28 : decode cX5_of 28 = .ok (.iload_n 2, 1) := by decide +kernel
theorem dX5_of_29 : decode cX5_of 29 = .ok (.tableswitch 78 6 9 #[31, 40, 50, 64], 31) := by decide +kernel
theorem dX5_of_60 : decode cX5_of 60 = .ok (.aload_n 0, 1) := by decide +kernel
theorem dX5_of_61 : decode cX5_of 61 = .ok (.getfield 10, 3) := by decide +kernel
theorem dX5_of_64 : decode cX5_of 64 = .ok (.iload_n 1, 1) := by decide +kernel
theorem dX5_of_65 : decode cX5_of 65 = .ok (.invokevirtual 98, 3) := by decide +kernel
theorem dX5_of_68 : decode cX5_of 68 = .ok (.ireturn, 1) := by decide +kernel
theorem dX5_of_69 : decode cX5_of 69 = .ok (.aload_n 0, 1) := by decide +kernel
theorem dX5_of_70 : decode cX5_of 70 = .ok (.getfield 10, 3) := by decide +kernel
theorem dX5_of_73 : decode cX5_of 73 = .ok (.iload_n 1, 1) := by decide +kernel
theorem dX5_of_74 : decode cX5_of 74 = .ok (.iconst 0, 1) := by decide +kernel
theorem dX5_of_75 : decode cX5_of 75 = .ok (.invokevirtual 101, 3) := by decide +kernel
theorem dX5_of_78 : decode cX5_of 78 = .ok (.ireturn, 1) := by decide +kernel
theorem dX5_of_79 : decode cX5_of 79 = .ok (.aload_n 0, 1) := by decide +kernel
theorem dX5_of_80 : decode cX5_of 80 = .ok (.getfield 10, 3) := by decide +kernel
theorem dX5_of_83 : decode cX5_of 83 = .ok (.getfield 104, 3) := by decide +kernel
theorem dX5_of_86 : decode cX5_of 86 = .ok (.iload_n 1, 1) := by decide +kernel
theorem dX5_of_87 : decode cX5_of 87 = .ok (.iaload, 1) := by decide +kernel
theorem dX5_of_88 : decode cX5_of 88 = .ok (.iconst 1, 1) := by decide +kernel
theorem dX5_of_89 : decode cX5_of 89 = .ok (.invokestatic 107, 3) := by decide +kernel
theorem dX5_of_92 : decode cX5_of 92 = .ok (.ireturn, 1) := by decide +kernel
theorem dX5_of_93 : decode cX5_of 93 = .ok (.aload_n 0, 1) := by decide +kernel
theorem dX5_of_94 : decode cX5_of 94 = .ok (.getfield 10, 3) := by decide +kernel
theorem dX5_of_97 : decode cX5_of 97 = .ok (.getfield 104, 3) := by decide +kernel
theorem dX5_of_100 : decode cX5_of 100 = .ok (.iload_n 1, 1) := by decide +kernel
theorem dX5_of_101 : decode cX5_of 101 = .ok (.iaload, 1) := by decide +kernel
theorem dX5_of_102 : decode cX5_of 102 = .ok (.iconst 2, 1) := by decide +kernel
theorem dX5_of_103 : decode cX5_of 103 = .ok (.invokestatic 107, 3) := by decide +kernel
theorem dX5_of_106 : decode cX5_of 106 = .ok (.ireturn, 1) := by decide +kernel
theorem dX5_of_107 : decode cX5_of 107 = .ok (.aload_n 0, 1) := by decide +kernel
theorem dX5_of_108 : decode cX5_of 108 = .ok (.getfield 10, 3) := by decide +kernel
theorem dX5_of_111 : decode cX5_of 111 = .ok (.iload_n 2, 1) := by decide +kernel
theorem dX5_of_112 : decode cX5_of 112 = .ok (.invokevirtual 112, 3) := by decide +kernel
theorem dX5_of_115 : decode cX5_of 115 = .ok (.iload_n 1, 1) := by decide +kernel
theorem dX5_of_116 : decode cX5_of 116 = .ok (.iaload, 1) := by decide +kernel
theorem dX5_of_117 : decode cX5_of 117 = .ok (.ireturn, 1) := by decide +kernel
theorem dX5_set_0 : decode cX5_set 0 = .ok (.aload_n 0, 1) := by decide +kernel
theorem dX5_set_1 : decode cX5_set 1 = .ok (.getfield 10, 3) := by decide +kernel
theorem dX5_set_4 : decode cX5_set 4 = .ok (.iload_n 1, 1) := by decide +kernel
theorem dX5_set_5 : decode cX5_set 5 = .ok (.invokevirtual 95, 3) := by decide +kernel
theorem dX5_set_8 : decode cX5_set 8 = .ok (.ifCond .eq 25, 3) := by decide +kernel
theorem dX5_set_11 : decode cX5_set 11 = .ok (.iload_n 2, 1) := by decide +kernel
theorem dX5_set_12 : decode cX5_set 12 = .ok (.iconst 1, 1) := by decide +kernel
theorem dX5_set_13 : decode cX5_set 13 = .ok (.iconst 5, 1) := by decide +kernel
theorem dX5_set_14 : decode cX5_set 14 = .ok (.invokestatic 44, 3) := by decide +kernel
theorem dX5_set_17 : decode cX5_set 17 = .ok (.ifCond .eq 16, 3) := by decide +kernel
theorem dX5_set_20 : decode cX5_set 20 = .ok (.iload_n 3, 1) := by decide +kernel
theorem dX5_set_21 : decode cX5_set 21 = .ok (.iconst 0, 1) := by decide +kernel
theorem dX5_set_22 : decode cX5_set 22 = .ok (.getstatic 116, 3) := by decide +kernel
theorem dX5_set_25 : decode cX5_set 25 = .ok (.iload_n 2, 1) := by decide +kernel
theorem dX5_set_26 : decode cX5_set 26 = .ok (.iaload, 1) := by decide +kernel
theorem dX5_set_27 : decode cX5_set 27 = .ok (.invokestatic 44, 3) := by decide +kernel
theorem dX5_set_30 : decode cX5_set 30 = .ok (.ifCond .ne 10, 3) := by decide +kernel
theorem dX5_set_33 : decode cX5_set 33 = .ok (.aload_n 0, 1) := by decide +kernel
theorem dX5_set_34 : decode cX5_set 34 = .ok (.ldc 51, 2) := by decide +kernel
theorem dX5_set_36 : decode cX5_set 36 = .ok (.invokevirtual 52, 3) := by decide +kernel
theorem dX5_set_39 : decode cX5_set 39 = .ok (.ireturn, 1) := by decide +kernel
theorem dX5_set_40 : decode cX5_set 40 = .ok (.aload_n 0, 1) := by decide +kernel
theorem dX5_set_41 : decode cX5_set 41 = .ok (.getfield 10, 3) := by decide +kernel
theorem dX5_set_44 : decode cX5_set 44 = .ok (.iload_n 2, 1) := by decide +kernel
theorem dX5_set_45 : decode cX5_set 45 = .ok (.invokevirtual 112, 3) := by decide +kernel
theorem dX5_set_48 : decode cX5_set 48 = .ok (.iload_n 1, 1) := by decide +kernel
theorem dX5_set_49 : decode cX5_set 49 = .ok (.iload_n 3, 1) := by decide +kernel
theorem dX5_set_50 : decode cX5_set 50 = .ok (.invokestatic 73, 3) := by decide +kernel
theorem dX5_set_53 : decode cX5_set 53 = .ok (.ireturn, 1) := by decide +kernel
theorem dX5_turn_0 : decode cX5_turn 0 = .ok (.aload_n 0, 1) := by decide +kernel
theorem dX5_turn_1 : decode cX5_turn 1 = .ok (.getfield 10, 3) := by decide +kernel
theorem dX5_turn_4 : decode cX5_turn 4 = .ok (.iload_n 1, 1) := by decide +kernel
theorem dX5_turn_5 : decode cX5_turn 5 = .ok (.invokevirtual 95, 3) := by decide +kernel
theorem dX5_turn_8 : decode cX5_turn 8 = .ok (.ifCond .eq 10, 3) := by decide +kernel
theorem dX5_turn_11 : decode cX5_turn 11 = .ok (.iload_n 2, 1) := by decide +kernel
theorem dX5_turn_12 : decode cX5_turn 12 = .ok (.invokestatic 84, 3) := by decide +kernel
theorem dX5_turn_15 : decode cX5_turn 15 = .ok (.ifCond .ne 10, 3) := by decide +kernel
theorem dX5_turn_18 : decode cX5_turn 18 = .ok (.aload_n 0, 1) := by decide +kernel
theorem dX5_turn_19 : decode cX5_turn 19 = .ok (.ldc 51, 2) := by decide +kernel
theorem dX5_turn_21 : decode cX5_turn 21 = .ok (.invokevirtual 52, 3) := by decide +kernel
theorem dX5_turn_24 : decode cX5_turn 24 = .ok (.ireturn, 1) := by decide +kernel
theorem dX5_turn_25 : decode cX5_turn 25 = .ok (.aload_n 0, 1) := by decide +kernel
theorem dX5_turn_26 : decode cX5_turn 26 = .ok (.getfield 10, 3) := by decide +kernel
theorem dX5_turn_29 : decode cX5_turn 29 = .ok (.getfield 104, 3) := by decide +kernel
theorem dX5_turn_32 : decode cX5_turn 32 = .ok (.iload_n 1, 1) := by decide +kernel
theorem dX5_turn_33 : decode cX5_turn 33 = .ok (.iload_n 2, 1) := by decide +kernel
theorem dX5_turn_34 : decode cX5_turn 34 = .ok (.invokestatic 73, 3) := by decide +kernel
theorem dX5_turn_37 : decode cX5_turn 37 = .ok (.ireturn, 1) := by decide +kernel
theorem dX5_as_0 : decode cX5_as 0 = .ok (.aload_n 0, 1) := by decide +kernel
theorem dX5_as_1 : decode cX5_as 1 = .ok (.getfield 10, 3) := by decide +kernel
theorem dX5_as_4 : decode cX5_as 4 = .ok (.iload_n 1, 1) := by decide +kernel
theorem dX5_as_5 : decode cX5_as 5 = .ok (.invokevirtual 95, 3) := by decide +kernel
theorem dX5_as_8 : decode cX5_as 8 = .ok (.ifCond .eq 10, 3) := by decide +kernel
theorem dX5_as_11 : decode cX5_as 11 = .ok (.iload_n 2, 1) := by decide +kernel
theorem dX5_as_12 : decode cX5_as 12 = .ok (.invokestatic 84, 3) := by decide +kernel
theorem dX5_as_15 : decode cX5_as 15 = .ok (.ifCond .ne 10, 3) := by decide +kernel
theorem dX5_as_18 : decode cX5_as 18 = .ok (.aload_n 0, 1) := by decide +kernel
theorem dX5_as_19 : decode cX5_as 19 = .ok (.ldc 51, 2) := by decide +kernel
theorem dX5_as_21 : decode cX5_as 21 = .ok (.invokevirtual 52, 3) := by decide +kernel
theorem dX5_as_24 : decode cX5_as 24 = .ok (.ireturn, 1) := by decide +kernel
theorem dX5_as_25 : decode cX5_as 25 = .ok (.aload_n 0, 1) := by decide +kernel
theorem dX5_as_26 : decode cX5_as 26 = .ok (.getfield 10, 3) := by decide +kernel
theorem dX5_as_29 : decode cX5_as 29 = .ok (.getfield 104, 3) := by decide +kernel
theorem dX5_as_32 : decode cX5_as 32 = .ok (.iload_n 1, 1) := by decide +kernel
theorem dX5_as_33 : decode cX5_as 33 = .ok (.iaload, 1) := by decide +kernel
theorem dX5_as_34 : decode cX5_as 34 = .ok (.iload_n 2, 1) := by decide +kernel
theorem dX5_as_35 : decode cX5_as 35 = .ok (.invokestatic 119, 3) := by decide +kernel
theorem dX5_as_38 : decode cX5_as 38 = .ok (.ifCond .ne 10, 3) := by decide +kernel
theorem dX5_as_41 : decode cX5_as 41 = .ok (.aload_n 0, 1) := by decide +kernel
theorem dX5_as_42 : decode cX5_as 42 = .ok (.ldc 123, 2) := by decide +kernel
theorem dX5_as_44 : decode cX5_as 44 = .ok (.invokevirtual 52, 3) := by decide +kernel
theorem dX5_as_47 : decode cX5_as 47 = .ok (.ireturn, 1) := by decide +kernel
theorem dX5_as_48 : decode cX5_as 48 = .ok (.aload_n 0, 1) := by decide +kernel
theorem dX5_as_49 : decode cX5_as 49 = .ok (.getfield 10, 3) := by decide +kernel
theorem dX5_as_52 : decode cX5_as 52 = .ok (.getfield 124, 3) := by decide +kernel
theorem dX5_as_55 : decode cX5_as 55 = .ok (.iload_n 1, 1) := by decide +kernel
theorem dX5_as_56 : decode cX5_as 56 = .ok (.iaload, 1) := by decide +kernel
theorem dX5_as_57 : decode cX5_as 57 = .ok (.ireturn, 1) := by decide +kernel
theorem dX5_fill_0 : decode cX5_fill 0 = .ok (.aload_n 0, 1) := by decide +kernel
theorem dX5_fill_1 : decode cX5_fill 1 = .ok (.getfield 10, 3) := by decide +kernel
theorem dX5_fill_4 : decode cX5_fill 4 = .ok (.iload_n 1, 1) := by decide +kernel
theorem dX5_fill_5 : decode cX5_fill 5 = .ok (.invokevirtual 95, 3) := by decide +kernel
theorem dX5_fill_8 : decode cX5_fill 8 = .ok (.ifCond .eq 12, 3) := by decide +kernel
theorem dX5_fill_11 : decode cX5_fill 11 = .ok (.iload_n 2, 1) := by decide +kernel
theorem dX5_fill_12 : decode cX5_fill 12 = .ok (.iconst 0, 1) := by decide +kernel
theorem dX5_fill_13 : decode cX5_fill 13 = .ok (.iconst 1, 1) := by decide +kernel
theorem dX5_fill_14 : decode cX5_fill 14 = .ok (.invokestatic 44, 3) := by decide +kernel
theorem dX5_fill_17 : decode cX5_fill 17 = .ok (.ifCond .ne 10, 3) := by decide +kernel
theorem dX5_fill_20 : decode cX5_fill 20 = .ok (.aload_n 0, 1) := by decide +kernel
theorem dX5_fill_21 : decode cX5_fill 21 = .ok (.ldc 51, 2) := by decide +kernel
theorem dX5_fill_23 : decode cX5_fill 23 = .ok (.invokevirtual 52, 3) := by decide +kernel
theorem dX5_fill_26 : decode cX5_fill 26 = .ok (.ireturn, 1) := by decide +kernel
theorem dX5_fill_27 : decode cX5_fill 27 = .ok (.aload_n 0, 1) := by decide +kernel
theorem dX5_fill_28 : decode cX5_fill 28 = .ok (.getfield 10, 3) := by decide +kernel
theorem dX5_fill_31 : decode cX5_fill 31 = .ok (.iload_n 1, 1) := by decide +kernel
theorem dX5_fill_32 : decode cX5_fill 32 = .ok (.iload_n 2, 1) := by decide +kernel
theorem dX5_fill_33 : decode cX5_fill 33 = .ok (.invokevirtual 101, 3) := by decide +kernel
theorem dX5_fill_36 : decode cX5_fill 36 = .ok (.istore_n 3, 1) := by decide +kernel
theorem dX5_fill_37 : decode cX5_fill 37 = .ok (.aload_n 0, 1) := by decide +kernel
theorem dX5_fill_38 : decode cX5_fill 38 = .ok (.getfield 10, 3) := by decide +kernel
theorem dX5_fill_41 : decode cX5_fill 41 = .ok (.getfield 127, 3) := by decide +kernel
theorem dX5_fill_44 : decode cX5_fill 44 = .ok (.iload_n 1, 1) := by decide +kernel
theorem dX5_fill_45 : decode cX5_fill 45 = .ok (.iaload, 1) := by decide +kernel
theorem dX5_fill_46 : decode cX5_fill 46 = .ok (.ifCond .ne 14, 3) := by decide +kernel
theorem dX5_fill_49 : decode cX5_fill 49 = .ok (.iload_n 3, 1) := by decide +kernel
theorem dX5_fill_50 : decode cX5_fill 50 = .ok (.aload_n 0, 1) := by decide +kernel
theorem dX5_fill_51 : decode cX5_fill 51 = .ok (.getfield 10, 3) := by decide +kernel
theorem dX5_fill_54 : decode cX5_fill 54 = .ok (.getfield 130, 3) := by decide +kernel
theorem dX5_fill_57 : decode cX5_fill 57 = .ok (.if_icmp .le 10, 3) := by decide +kernel
theorem dX5_fill_60 : decode cX5_fill 60 = .ok (.aload_n 0, 1) := by decide +kernel
theorem dX5_fill_61 : decode cX5_fill 61 = .ok (.ldc 134, 2) := by decide +kernel
theorem dX5_fill_63 : decode cX5_fill 63 = .ok (.invokevirtual 52, 3) := by decide +kernel
theorem dX5_fill_66 : decode cX5_fill 66 = .ok (.ireturn, 1) := by decide +kernel
theorem dX5_fill_67 : decode cX5_fill 67 = .ok (.aload_n 0, 1) := by decide +kernel
theorem dX5_fill_68 : decode cX5_fill 68 = .ok (.getfield 10, 3) := by decide +kernel
theorem dX5_fill_71 : decode cX5_fill 71 = .ok (.iload_n 1, 1) := by decide +kernel
theorem dX5_fill_72 : decode cX5_fill 72 = .ok (.iload_n 2, 1) := by decide +kernel
theorem dX5_fill_73 : decode cX5_fill 73 = .ok (.invokevirtual 135, 3) := by decide +kernel
theorem dX5_fill_76 : decode cX5_fill 76 = .ok (.iload_n 3, 1) := by decide +kernel
theorem dX5_fill_77 : decode cX5_fill 77 = .ok (.ireturn, 1) := by decide +kernel
theorem dX5_next_0 : decode cX5_next 0 = .ok (.aload_n 0, 1) := by decide +kernel
theorem dX5_next_1 : decode cX5_next 1 = .ok (.getfield 10, 3) := by decide +kernel
theorem dX5_next_4 : decode cX5_next 4 = .ok (.invokevirtual 139, 3) := by decide +kernel
theorem dX5_next_7 : decode cX5_next 7 = .ok (.istore_n 1, 1) := by decide +kernel
theorem dX5_next_8 : decode cX5_next 8 = .ok (.iload_n 1, 1) := by decide +kernel
theorem dX5_next_9 : decode cX5_next 9 = .ok (.ifCond .ge 12, 3) := by decide +kernel
theorem dX5_next_12 : decode cX5_next 12 = .ok (.aload_n 0, 1) := by decide +kernel
theorem dX5_next_13 : decode cX5_next 13 = .ok (.ldc 142, 2) := by decide +kernel
theorem dX5_next_15 : decode cX5_next 15 = .ok (.invokevirtual 52, 3) := by decide +kernel
theorem dX5_next_18 : decode cX5_next 18 = .ok (.goto 4, 3) := by decide +kernel
theorem dX5_next_21 : decode cX5_next 21 = .ok (.iload_n 1, 1) := by decide +kernel
theorem dX5_next_22 : decode cX5_next 22 = .ok (.ireturn, 1) := by decide +kernel
theorem dX5_weeks_0 : decode cX5_weeks 0 = .ok (.iload_n 1, 1) := by decide +kernel
theorem dX5_weeks_1 : decode cX5_weeks 1 = .ok (.iconst 1, 1) := by decide +kernel
theorem dX5_weeks_2 : decode cX5_weeks 2 = .ok (.bipush 60, 2) := by decide +kernel
theorem dX5_weeks_4 : decode cX5_weeks 4 = .ok (.invokestatic 44, 3) := by decide +kernel
theorem dX5_weeks_7 : decode cX5_weeks 7 = .ok (.ifCond .ne 10, 3) := by decide +kernel
theorem dX5_weeks_10 : decode cX5_weeks 10 = .ok (.aload_n 0, 1) := by decide +kernel
theorem dX5_weeks_11 : decode cX5_weeks 11 = .ok (.ldc 51, 2) := by decide +kernel
theorem dX5_weeks_13 : decode cX5_weeks 13 = .ok (.invokevirtual 52, 3) := by decide +kernel
theorem dX5_weeks_16 : decode cX5_weeks 16 = .ok (.ireturn, 1) := by decide +kernel
theorem dX5_weeks_17 : decode cX5_weeks 17 = .ok (.aload_n 0, 1) := by decide +kernel
theorem dX5_weeks_18 : decode cX5_weeks 18 = .ok (.getfield 10, 3) := by decide +kernel
theorem dX5_weeks_21 : decode cX5_weeks 21 = .ok (.getfield 143, 3) := by decide +kernel
theorem dX5_weeks_24 : decode cX5_weeks 24 = .ok (.iload_n 1, 1) := by decide +kernel
theorem dX5_weeks_25 : decode cX5_weeks 25 = .ok (.iadd, 1) := by decide +kernel
theorem dX5_weeks_26 : decode cX5_weeks 26 = .ok (.sipush 9999, 3) := by decide +kernel
theorem dX5_weeks_29 : decode cX5_weeks 29 = .ok (.if_icmp .le 10, 3) := by decide +kernel
theorem dX5_weeks_32 : decode cX5_weeks 32 = .ok (.aload_n 0, 1) := by decide +kernel
theorem dX5_weeks_33 : decode cX5_weeks 33 = .ok (.ldc 134, 2) := by decide +kernel
theorem dX5_weeks_35 : decode cX5_weeks 35 = .ok (.invokevirtual 52, 3) := by decide +kernel
theorem dX5_weeks_38 : decode cX5_weeks 38 = .ok (.ireturn, 1) := by decide +kernel
theorem dX5_weeks_39 : decode cX5_weeks 39 = .ok (.aload_n 0, 1) := by decide +kernel
theorem dX5_weeks_40 : decode cX5_weeks 40 = .ok (.getfield 10, 3) := by decide +kernel
theorem dX5_weeks_43 : decode cX5_weeks 43 = .ok (.iload_n 1, 1) := by decide +kernel
theorem dX5_weeks_44 : decode cX5_weeks 44 = .ok (.invokevirtual 146, 3) := by decide +kernel
theorem dX5_weeks_47 : decode cX5_weeks 47 = .ok (.pop, 1) := by decide +kernel
theorem dX5_weeks_48 : decode cX5_weeks 48 = .ok (.aload_n 0, 1) := by decide +kernel
theorem dX5_weeks_49 : decode cX5_weeks 49 = .ok (.getfield 10, 3) := by decide +kernel
theorem dX5_weeks_52 : decode cX5_weeks 52 = .ok (.invokevirtual 80, 3) := by decide +kernel
theorem dX5_weeks_55 : decode cX5_weeks 55 = .ok (.ireturn, 1) := by decide +kernel
theorem dX5_now_0 : decode cX5_now 0 = .ok (.iload_n 1, 1) := by decide +kernel
theorem dX5_now_1 : decode cX5_now 1 = .ok (.tableswitch 122 0 7 #[47, 55, 63, 71, 79, 87, 95, 114], 47) := by decide +kernel
theorem dX5_now_48 : decode cX5_now 48 = .ok (.aload_n 0, 1) := by decide +kernel
theorem dX5_now_49 : decode cX5_now 49 = .ok (.getfield 10, 3) := by decide +kernel
theorem dX5_now_52 : decode cX5_now 52 = .ok (.getfield 143, 3) := by decide +kernel
theorem dX5_now_55 : decode cX5_now 55 = .ok (.ireturn, 1) := by decide +kernel
theorem dX5_now_56 : decode cX5_now 56 = .ok (.aload_n 0, 1) := by decide +kernel
theorem dX5_now_57 : decode cX5_now 57 = .ok (.getfield 10, 3) := by decide +kernel
theorem dX5_now_60 : decode cX5_now 60 = .ok (.getfield 130, 3) := by decide +kernel
theorem dX5_now_63 : decode cX5_now 63 = .ok (.ireturn, 1) := by decide +kernel
theorem dX5_now_64 : decode cX5_now 64 = .ok (.aload_n 0, 1) := by decide +kernel
theorem dX5_now_65 : decode cX5_now 65 = .ok (.getfield 10, 3) := by decide +kernel
theorem dX5_now_68 : decode cX5_now 68 = .ok (.getfield 150, 3) := by decide +kernel
theorem dX5_now_71 : decode cX5_now 71 = .ok (.ireturn, 1) := by decide +kernel
theorem dX5_now_72 : decode cX5_now 72 = .ok (.aload_n 0, 1) := by decide +kernel
theorem dX5_now_73 : decode cX5_now 73 = .ok (.getfield 10, 3) := by decide +kernel
theorem dX5_now_76 : decode cX5_now 76 = .ok (.getfield 153, 3) := by decide +kernel
theorem dX5_now_79 : decode cX5_now 79 = .ok (.ireturn, 1) := by decide +kernel
theorem dX5_now_80 : decode cX5_now 80 = .ok (.aload_n 0, 1) := by decide +kernel
theorem dX5_now_81 : decode cX5_now 81 = .ok (.getfield 10, 3) := by decide +kernel
theorem dX5_now_84 : decode cX5_now 84 = .ok (.getfield 156, 3) := by decide +kernel
theorem dX5_now_87 : decode cX5_now 87 = .ok (.ireturn, 1) := by decide +kernel
theorem dX5_now_88 : decode cX5_now 88 = .ok (.aload_n 0, 1) := by decide +kernel
theorem dX5_now_89 : decode cX5_now 89 = .ok (.getfield 10, 3) := by decide +kernel
theorem dX5_now_92 : decode cX5_now 92 = .ok (.getfield 159, 3) := by decide +kernel
theorem dX5_now_95 : decode cX5_now 95 = .ok (.ireturn, 1) := by decide +kernel
theorem dX5_now_96 : decode cX5_now 96 = .ok (.aload_n 0, 1) := by decide +kernel
theorem dX5_now_97 : decode cX5_now 97 = .ok (.getfield 10, 3) := by decide +kernel
theorem dX5_now_100 : decode cX5_now 100 = .ok (.invokevirtual 162, 3) := by decide +kernel
theorem dX5_now_103 : decode cX5_now 103 = .ok (.invokestatic 165, 3) := by decide +kernel
theorem dX5_now_106 : decode cX5_now 106 = .ok (.ifCond .eq 7, 3) := by decide +kernel
theorem dX5_now_109 : decode cX5_now 109 = .ok (.iconst 1, 1) := by decide +kernel
theorem dX5_now_110 : decode cX5_now 110 = .ok (.goto 4, 3) := by decide +kernel
theorem dX5_now_113 : decode cX5_now 113 = .ok (.iconst 0, 1) := by decide +kernel
theorem dX5_now_114 : decode cX5_now 114 = .ok (.ireturn, 1) := by decide +kernel
theorem dX5_now_115 : decode cX5_now 115 = .ok (.aload_n 0, 1) := by decide +kernel
theorem dX5_now_116 : decode cX5_now 116 = .ok (.getfield 10, 3) := by decide +kernel
theorem dX5_now_119 : decode cX5_now 119 = .ok (.invokevirtual 168, 3) := by decide +kernel
theorem dX5_now_122 : decode cX5_now 122 = .ok (.ireturn, 1) := by decide +kernel
theorem dX5_now_123 : decode cX5_now 123 = .ok (.aload_n 0, 1) := by decide +kernel
theorem dX5_now_124 : decode cX5_now 124 = .ok (.ldc 51, 2) := by decide +kernel
theorem dX5_now_126 : decode cX5_now 126 = .ok (.invokevirtual 52, 3) := by decide +kernel
theorem dX5_now_129 : decode cX5_now 129 = .ok (.ireturn, 1) := by decide +kernel
theorem dX5_on_0 : decode cX5_on 0 = .ok (.aload_n 0, 1) := by decide +kernel
theorem dX5_on_1 : decode cX5_on 1 = .ok (.getfield 10, 3) := by decide +kernel
theorem dX5_on_4 : decode cX5_on 4 = .ok (.iload_n 1, 1) := by decide +kernel
theorem dX5_on_5 : decode cX5_on 5 = .ok (.invokevirtual 95, 3) := by decide +kernel
theorem dX5_on_8 : decode cX5_on 8 = .ok (.ifCond .eq 22, 3) := by decide +kernel
theorem dX5_on_11 : decode cX5_on 11 = .ok (.iload_n 2, 1) := by decide +kernel
theorem dX5_on_12 : decode cX5_on 12 = .ok (.iconst 0, 1) := by decide +kernel
theorem dX5_on_13 : decode cX5_on 13 = .ok (.bipush 104, 2) := by decide +kernel
theorem dX5_on_15 : decode cX5_on 15 = .ok (.invokestatic 44, 3) := by decide +kernel
theorem dX5_on_18 : decode cX5_on 18 = .ok (.ifCond .eq 12, 3) := by decide +kernel
theorem dX5_on_21 : decode cX5_on 21 = .ok (.iload_n 3, 1) := by decide +kernel
theorem dX5_on_22 : decode cX5_on 22 = .ok (.iconst 0, 1) := by decide +kernel
theorem dX5_on_23 : decode cX5_on 23 = .ok (.iconst 1, 1) := by decide +kernel
theorem dX5_on_24 : decode cX5_on 24 = .ok (.invokestatic 44, 3) := by decide +kernel
theorem dX5_on_27 : decode cX5_on 27 = .ok (.ifCond .ne 10, 3) := by decide +kernel
theorem dX5_on_30 : decode cX5_on 30 = .ok (.aload_n 0, 1) := by decide +kernel
theorem dX5_on_31 : decode cX5_on 31 = .ok (.ldc 51, 2) := by decide +kernel
theorem dX5_on_33 : decode cX5_on 33 = .ok (.invokevirtual 52, 3) := by decide +kernel
theorem dX5_on_36 : decode cX5_on 36 = .ok (.ireturn, 1) := by decide +kernel
theorem dX5_on_37 : decode cX5_on 37 = .ok (.aload_n 0, 1) := by decide +kernel
theorem dX5_on_38 : decode cX5_on 38 = .ok (.invokevirtual 171, 3) := by decide +kernel
theorem dX5_on_41 : decode cX5_on 41 = .ok (.iload_n 2, 1) := by decide +kernel
theorem dX5_on_42 : decode cX5_on 42 = .ok (.invokevirtual 146, 3) := by decide +kernel
theorem dX5_on_45 : decode cX5_on 45 = .ok (.astore 4, 2) := by decide +kernel
theorem dX5_on_47 : decode cX5_on 47 = .ok (.iload_n 3, 1) := by decide +kernel
theorem dX5_on_48 : decode cX5_on 48 = .ok (.ifCond .ne 13, 3) := by decide +kernel
theorem dX5_on_51 : decode cX5_on 51 = .ok (.aload 4, 2) := by decide +kernel
theorem dX5_on_53 : decode cX5_on 53 = .ok (.getfield 124, 3) := by decide +kernel
theorem dX5_on_56 : decode cX5_on 56 = .ok (.iload_n 1, 1) := by decide +kernel
theorem dX5_on_57 : decode cX5_on 57 = .ok (.iaload, 1) := by decide +kernel
theorem dX5_on_58 : decode cX5_on 58 = .ok (.goto 10, 3) := by decide +kernel
theorem dX5_on_61 : decode cX5_on 61 = .ok (.aload 4, 2) := by decide +kernel
theorem dX5_on_63 : decode cX5_on 63 = .ok (.getfield 127, 3) := by decide +kernel
theorem dX5_on_66 : decode cX5_on 66 = .ok (.iload_n 1, 1) := by decide +kernel
theorem dX5_on_67 : decode cX5_on 67 = .ok (.iaload, 1) := by decide +kernel
theorem dX5_on_68 : decode cX5_on 68 = .ok (.ireturn, 1) := by decide +kernel
theorem dX5_worse_0 : decode cX5_worse 0 = .ok (.iload_n 1, 1) := by decide +kernel
theorem dX5_worse_1 : decode cX5_worse 1 = .ok (.iconst 0, 1) := by decide +kernel
theorem dX5_worse_2 : decode cX5_worse 2 = .ok (.bipush 104, 2) := by decide +kernel
theorem dX5_worse_4 : decode cX5_worse 4 = .ok (.invokestatic 44, 3) := by decide +kernel
theorem dX5_worse_7 : decode cX5_worse 7 = .ok (.ifCond .ne 10, 3) := by decide +kernel
theorem dX5_worse_10 : decode cX5_worse 10 = .ok (.aload_n 0, 1) := by decide +kernel
theorem dX5_worse_11 : decode cX5_worse 11 = .ok (.ldc 51, 2) := by decide +kernel
theorem dX5_worse_13 : decode cX5_worse 13 = .ok (.invokevirtual 52, 3) := by decide +kernel
theorem dX5_worse_16 : decode cX5_worse 16 = .ok (.ireturn, 1) := by decide +kernel
theorem dX5_worse_17 : decode cX5_worse 17 = .ok (.aload_n 0, 1) := by decide +kernel
theorem dX5_worse_18 : decode cX5_worse 18 = .ok (.invokevirtual 171, 3) := by decide +kernel
theorem dX5_worse_21 : decode cX5_worse 21 = .ok (.iload_n 1, 1) := by decide +kernel
theorem dX5_worse_22 : decode cX5_worse 22 = .ok (.invokevirtual 146, 3) := by decide +kernel
theorem dX5_worse_25 : decode cX5_worse 25 = .ok (.invokevirtual 168, 3) := by decide +kernel
theorem dX5_worse_28 : decode cX5_worse 28 = .ok (.ireturn, 1) := by decide +kernel
theorem dX5_cost_0 : decode cX5_cost 0 = .ok (.iload_n 1, 1) := by decide +kernel
theorem dX5_cost_1 : decode cX5_cost 1 = .ok (.iconst 0, 1) := by decide +kernel
theorem dX5_cost_2 : decode cX5_cost 2 = .ok (.bipush 104, 2) := by decide +kernel
theorem dX5_cost_4 : decode cX5_cost 4 = .ok (.invokestatic 44, 3) := by decide +kernel
theorem dX5_cost_7 : decode cX5_cost 7 = .ok (.ifCond .ne 10, 3) := by decide +kernel
theorem dX5_cost_10 : decode cX5_cost 10 = .ok (.aload_n 0, 1) := by decide +kernel
theorem dX5_cost_11 : decode cX5_cost 11 = .ok (.ldc 51, 2) := by decide +kernel
theorem dX5_cost_13 : decode cX5_cost 13 = .ok (.invokevirtual 52, 3) := by decide +kernel
theorem dX5_cost_16 : decode cX5_cost 16 = .ok (.ireturn, 1) := by decide +kernel
theorem dX5_cost_17 : decode cX5_cost 17 = .ok (.aload_n 0, 1) := by decide +kernel
theorem dX5_cost_18 : decode cX5_cost 18 = .ok (.invokevirtual 171, 3) := by decide +kernel
theorem dX5_cost_21 : decode cX5_cost 21 = .ok (.iload_n 1, 1) := by decide +kernel
theorem dX5_cost_22 : decode cX5_cost 22 = .ok (.invokevirtual 146, 3) := by decide +kernel
theorem dX5_cost_25 : decode cX5_cost 25 = .ok (.astore_n 2, 1) := by decide +kernel
theorem dX5_cost_26 : decode cX5_cost 26 = .ok (.aload_n 2, 1) := by decide +kernel
theorem dX5_cost_27 : decode cX5_cost 27 = .ok (.getfield 159, 3) := by decide +kernel
theorem dX5_cost_30 : decode cX5_cost 30 = .ok (.aload_n 0, 1) := by decide +kernel
theorem dX5_cost_31 : decode cX5_cost 31 = .ok (.getfield 10, 3) := by decide +kernel
theorem dX5_cost_34 : decode cX5_cost 34 = .ok (.getfield 159, 3) := by decide +kernel
theorem dX5_cost_37 : decode cX5_cost 37 = .ok (.isub, 1) := by decide +kernel
theorem dX5_cost_38 : decode cX5_cost 38 = .ok (.ireturn, 1) := by decide +kernel
theorem dX5_filled_0 : decode cX5_filled 0 = .ok (.aload_n 0, 1) := by decide +kernel
theorem dX5_filled_1 : decode cX5_filled 1 = .ok (.getfield 10, 3) := by decide +kernel
theorem dX5_filled_4 : decode cX5_filled 4 = .ok (.iload_n 1, 1) := by decide +kernel
theorem dX5_filled_5 : decode cX5_filled 5 = .ok (.invokevirtual 95, 3) := by decide +kernel
theorem dX5_filled_8 : decode cX5_filled 8 = .ok (.ifCond .ne 10, 3) := by decide +kernel
theorem dX5_filled_11 : decode cX5_filled 11 = .ok (.aload_n 0, 1) := by decide +kernel
theorem dX5_filled_12 : decode cX5_filled 12 = .ok (.ldc 51, 2) := by decide +kernel
theorem dX5_filled_14 : decode cX5_filled 14 = .ok (.invokevirtual 52, 3) := by decide +kernel
theorem dX5_filled_17 : decode cX5_filled 17 = .ok (.ireturn, 1) := by decide +kernel
theorem dX5_filled_18 : decode cX5_filled 18 = .ok (.aload_n 0, 1) := by decide +kernel
theorem dX5_filled_19 : decode cX5_filled 19 = .ok (.iload_n 1, 1) := by decide +kernel
theorem dX5_filled_20 : decode cX5_filled 20 = .ok (.iconst 1, 1) := by decide +kernel
theorem dX5_filled_21 : decode cX5_filled 21 = .ok (.invokevirtual 175, 3) := by decide +kernel
theorem dX5_filled_24 : decode cX5_filled 24 = .ok (.istore_n 2, 1) := by decide +kernel
theorem dX5_filled_25 : decode cX5_filled 25 = .ok (.iload_n 2, 1) := by decide +kernel
theorem dX5_filled_26 : decode cX5_filled 26 = .ok (.ifCond .ge 12, 3) := by decide +kernel
theorem dX5_filled_29 : decode cX5_filled 29 = .ok (.aload_n 0, 1) := by decide +kernel
theorem dX5_filled_30 : decode cX5_filled 30 = .ok (.ldc 142, 2) := by decide +kernel
theorem dX5_filled_32 : decode cX5_filled 32 = .ok (.invokevirtual 52, 3) := by decide +kernel
theorem dX5_filled_35 : decode cX5_filled 35 = .ok (.goto 4, 3) := by decide +kernel
theorem dX5_filled_38 : decode cX5_filled 38 = .ok (.iload_n 2, 1) := by decide +kernel
theorem dX5_filled_39 : decode cX5_filled 39 = .ok (.ireturn, 1) := by decide +kernel
theorem dX5_breaks_0 : decode cX5_breaks 0 = .ok (.aload_n 0, 1) := by decide +kernel
theorem dX5_breaks_1 : decode cX5_breaks 1 = .ok (.getfield 10, 3) := by decide +kernel
theorem dX5_breaks_4 : decode cX5_breaks 4 = .ok (.iload_n 1, 1) := by decide +kernel
theorem dX5_breaks_5 : decode cX5_breaks 5 = .ok (.invokevirtual 95, 3) := by decide +kernel
theorem dX5_breaks_8 : decode cX5_breaks 8 = .ok (.ifCond .ne 10, 3) := by decide +kernel
theorem dX5_breaks_11 : decode cX5_breaks 11 = .ok (.aload_n 0, 1) := by decide +kernel
theorem dX5_breaks_12 : decode cX5_breaks 12 = .ok (.ldc 51, 2) := by decide +kernel
theorem dX5_breaks_14 : decode cX5_breaks 14 = .ok (.invokevirtual 52, 3) := by decide +kernel
theorem dX5_breaks_17 : decode cX5_breaks 17 = .ok (.ireturn, 1) := by decide +kernel
theorem dX5_breaks_18 : decode cX5_breaks 18 = .ok (.aload_n 0, 1) := by decide +kernel
theorem dX5_breaks_19 : decode cX5_breaks 19 = .ok (.iload_n 1, 1) := by decide +kernel
theorem dX5_breaks_20 : decode cX5_breaks 20 = .ok (.iconst 0, 1) := by decide +kernel
theorem dX5_breaks_21 : decode cX5_breaks 21 = .ok (.invokevirtual 175, 3) := by decide +kernel
theorem dX5_breaks_24 : decode cX5_breaks 24 = .ok (.istore_n 2, 1) := by decide +kernel
theorem dX5_breaks_25 : decode cX5_breaks 25 = .ok (.iload_n 2, 1) := by decide +kernel
theorem dX5_breaks_26 : decode cX5_breaks 26 = .ok (.ifCond .ge 12, 3) := by decide +kernel
theorem dX5_breaks_29 : decode cX5_breaks 29 = .ok (.aload_n 0, 1) := by decide +kernel
theorem dX5_breaks_30 : decode cX5_breaks 30 = .ok (.ldc 142, 2) := by decide +kernel
theorem dX5_breaks_32 : decode cX5_breaks 32 = .ok (.invokevirtual 52, 3) := by decide +kernel
theorem dX5_breaks_35 : decode cX5_breaks 35 = .ok (.goto 4, 3) := by decide +kernel
theorem dX5_breaks_38 : decode cX5_breaks 38 = .ok (.iload_n 2, 1) := by decide +kernel
theorem dX5_breaks_39 : decode cX5_breaks 39 = .ok (.ireturn, 1) := by decide +kernel
theorem dX5_how_0 : decode cX5_how 0 = .ok (.iload_n 1, 1) := by decide +kernel
theorem dX5_how_1 : decode cX5_how 1 = .ok (.iconst 1, 1) := by decide +kernel
theorem dX5_how_2 : decode cX5_how 2 = .ok (.bipush 104, 2) := by decide +kernel
theorem dX5_how_4 : decode cX5_how 4 = .ok (.invokestatic 44, 3) := by decide +kernel
theorem dX5_how_7 : decode cX5_how 7 = .ok (.ifCond .ne 10, 3) := by decide +kernel
theorem dX5_how_10 : decode cX5_how 10 = .ok (.aload_n 0, 1) := by decide +kernel
theorem dX5_how_11 : decode cX5_how 11 = .ok (.ldc 51, 2) := by decide +kernel
theorem dX5_how_13 : decode cX5_how 13 = .ok (.invokevirtual 52, 3) := by decide +kernel
theorem dX5_how_16 : decode cX5_how 16 = .ok (.ireturn, 1) := by decide +kernel
theorem dX5_how_17 : decode cX5_how 17 = .ok (.aload_n 0, 1) := by decide +kernel
theorem dX5_how_18 : decode cX5_how 18 = .ok (.invokevirtual 171, 3) := by decide +kernel
theorem dX5_how_21 : decode cX5_how 21 = .ok (.astore_n 2, 1) := by decide +kernel
theorem dX5_how_22 : decode cX5_how 22 = .ok (.aload_n 2, 1) := by decide +kernel
theorem dX5_how_23 : decode cX5_how 23 = .ok (.iconst 0, 1) := by decide +kernel
theorem dX5_how_24 : decode cX5_how 24 = .ok (.putfield 156, 3) := by decide +kernel
theorem dX5_how_27 : decode cX5_how 27 = .ok (.aload_n 2, 1) := by decide +kernel
theorem dX5_how_28 : decode cX5_how 28 = .ok (.iload_n 1, 1) := by decide +kernel
theorem dX5_how_29 : decode cX5_how 29 = .ok (.invokevirtual 146, 3) := by decide +kernel
theorem dX5_how_32 : decode cX5_how 32 = .ok (.invokevirtual 168, 3) := by decide +kernel
theorem dX5_how_35 : decode cX5_how 35 = .ok (.istore_n 3, 1) := by decide +kernel
theorem dX5_how_36 : decode cX5_how 36 = .ok (.aload_n 0, 1) := by decide +kernel
theorem dX5_how_37 : decode cX5_how 37 = .ok (.invokevirtual 171, 3) := by decide +kernel
theorem dX5_how_40 : decode cX5_how 40 = .ok (.astore_n 2, 1) := by decide +kernel
theorem dX5_how_41 : decode cX5_how 41 = .ok (.aload_n 2, 1) := by decide +kernel
theorem dX5_how_42 : decode cX5_how 42 = .ok (.iconst 1, 1) := by decide +kernel
theorem dX5_how_43 : decode cX5_how 43 = .ok (.putfield 156, 3) := by decide +kernel
theorem dX5_how_46 : decode cX5_how 46 = .ok (.aload_n 2, 1) := by decide +kernel
theorem dX5_how_47 : decode cX5_how 47 = .ok (.iload_n 1, 1) := by decide +kernel
theorem dX5_how_48 : decode cX5_how 48 = .ok (.invokevirtual 146, 3) := by decide +kernel
theorem dX5_how_51 : decode cX5_how 51 = .ok (.invokevirtual 168, 3) := by decide +kernel
theorem dX5_how_54 : decode cX5_how 54 = .ok (.iload_n 3, 1) := by decide +kernel
theorem dX5_how_55 : decode cX5_how 55 = .ok (.if_icmp .ge 7, 3) := by decide +kernel
theorem dX5_how_58 : decode cX5_how 58 = .ok (.iconst 1, 1) := by decide +kernel
theorem dX5_how_59 : decode cX5_how 59 = .ok (.goto 4, 3) := by decide +kernel
theorem dX5_how_62 : decode cX5_how 62 = .ok (.iconst 0, 1) := by decide +kernel
theorem dX5_how_63 : decode cX5_how 63 = .ok (.ireturn, 1) := by decide +kernel
theorem dX5_ring_0 : decode cX5_ring 0 = .ok (.iload_n 1, 1) := by decide +kernel
theorem dX5_ring_1 : decode cX5_ring 1 = .ok (.iconst 1, 1) := by decide +kernel
theorem dX5_ring_2 : decode cX5_ring 2 = .ok (.bipush 52, 2) := by decide +kernel
theorem dX5_ring_4 : decode cX5_ring 4 = .ok (.invokestatic 44, 3) := by decide +kernel
theorem dX5_ring_7 : decode cX5_ring 7 = .ok (.ifCond .ne 10, 3) := by decide +kernel
theorem dX5_ring_10 : decode cX5_ring 10 = .ok (.aload_n 0, 1) := by decide +kernel
theorem dX5_ring_11 : decode cX5_ring 11 = .ok (.ldc 51, 2) := by decide +kernel
theorem dX5_ring_13 : decode cX5_ring 13 = .ok (.invokevirtual 52, 3) := by decide +kernel
theorem dX5_ring_16 : decode cX5_ring 16 = .ok (.ireturn, 1) := by decide +kernel
theorem dX5_ring_17 : decode cX5_ring 17 = .ok (.iconst (-1), 1) := by decide +kernel
theorem dX5_ring_18 : decode cX5_ring 18 = .ok (.istore_n 2, 1) := by decide +kernel
theorem dX5_ring_19 : decode cX5_ring 19 = .ok (.iconst 0, 1) := by decide +kernel
theorem dX5_ring_20 : decode cX5_ring 20 = .ok (.istore_n 3, 1) := by decide +kernel
theorem dX5_ring_21 : decode cX5_ring 21 = .ok (.iconst 0, 1) := by decide +kernel
theorem dX5_ring_22 : decode cX5_ring 22 = .ok (.istore 4, 2) := by decide +kernel
theorem dX5_ring_24 : decode cX5_ring 24 = .ok (.iload 4, 2) := by decide +kernel
theorem dX5_ring_26 : decode cX5_ring 26 = .ok (.aload_n 0, 1) := by decide +kernel
theorem dX5_ring_27 : decode cX5_ring 27 = .ok (.getfield 10, 3) := by decide +kernel
theorem dX5_ring_30 : decode cX5_ring 30 = .ok (.getfield 179, 3) := by decide +kernel
theorem dX5_ring_33 : decode cX5_ring 33 = .ok (.if_icmp .ge 67, 3) := by decide +kernel
theorem dX5_ring_36 : decode cX5_ring 36 = .ok (.aload_n 0, 1) := by decide +kernel
theorem dX5_ring_37 : decode cX5_ring 37 = .ok (.getfield 10, 3) := by decide +kernel
theorem dX5_ring_40 : decode cX5_ring 40 = .ok (.getfield 182, 3) := by decide +kernel
theorem dX5_ring_43 : decode cX5_ring 43 = .ok (.iload 4, 2) := by decide +kernel
theorem dX5_ring_45 : decode cX5_ring 45 = .ok (.iaload, 1) := by decide +kernel
theorem dX5_ring_46 : decode cX5_ring 46 = .ok (.ifCond .eq 6, 3) := by decide +kernel
theorem dX5_ring_49 : decode cX5_ring 49 = .ok (.goto 45, 3) := by decide +kernel
theorem dX5_ring_52 : decode cX5_ring 52 = .ok (.aload_n 0, 1) := by decide +kernel
theorem dX5_ring_53 : decode cX5_ring 53 = .ok (.invokevirtual 171, 3) := by decide +kernel
theorem dX5_ring_56 : decode cX5_ring 56 = .ok (.astore 5, 2) := by decide +kernel
theorem dX5_ring_58 : decode cX5_ring 58 = .ok (.aload 5, 2) := by decide +kernel
theorem dX5_ring_60 : decode cX5_ring 60 = .ok (.getfield 182, 3) := by decide +kernel
theorem dX5_ring_63 : decode cX5_ring 63 = .ok (.iload 4, 2) := by decide +kernel
theorem dX5_ring_65 : decode cX5_ring 65 = .ok (.iconst 1, 1) := by decide +kernel
theorem dX5_ring_66 : decode cX5_ring 66 = .ok (.iastore, 1) := by decide +kernel
theorem dX5_ring_67 : decode cX5_ring 67 = .ok (.aload 5, 2) := by decide +kernel
theorem dX5_ring_69 : decode cX5_ring 69 = .ok (.iload_n 1, 1) := by decide +kernel
theorem dX5_ring_70 : decode cX5_ring 70 = .ok (.invokevirtual 146, 3) := by decide +kernel
theorem dX5_ring_73 : decode cX5_ring 73 = .ok (.invokevirtual 168, 3) := by decide +kernel
theorem dX5_ring_76 : decode cX5_ring 76 = .ok (.istore 6, 2) := by decide +kernel
theorem dX5_ring_78 : decode cX5_ring 78 = .ok (.iload_n 2, 1) := by decide +kernel
theorem dX5_ring_79 : decode cX5_ring 79 = .ok (.ifCond .lt 9, 3) := by decide +kernel
theorem dX5_ring_82 : decode cX5_ring 82 = .ok (.iload 6, 2) := by decide +kernel
theorem dX5_ring_84 : decode cX5_ring 84 = .ok (.iload_n 3, 1) := by decide +kernel
theorem dX5_ring_85 : decode cX5_ring 85 = .ok (.if_icmp .ge 9, 3) := by decide +kernel
theorem dX5_ring_88 : decode cX5_ring 88 = .ok (.iload 4, 2) := by decide +kernel
theorem dX5_ring_90 : decode cX5_ring 90 = .ok (.istore_n 2, 1) := by decide +kernel
theorem dX5_ring_91 : decode cX5_ring 91 = .ok (.iload 6, 2) := by decide +kernel
theorem dX5_ring_93 : decode cX5_ring 93 = .ok (.istore_n 3, 1) := by decide +kernel
theorem dX5_ring_94 : decode cX5_ring 94 = .ok (.iinc 4 1, 3) := by decide +kernel
theorem dX5_ring_97 : decode cX5_ring 97 = .ok (.goto (-73), 3) := by decide +kernel
theorem dX5_ring_100 : decode cX5_ring 100 = .ok (.iload_n 2, 1) := by decide +kernel
theorem dX5_ring_101 : decode cX5_ring 101 = .ok (.ifCond .ge 12, 3) := by decide +kernel
theorem dX5_ring_104 : decode cX5_ring 104 = .ok (.aload_n 0, 1) := by decide +kernel
theorem dX5_ring_105 : decode cX5_ring 105 = .ok (.ldc 142, 2) := by decide +kernel
theorem dX5_ring_107 : decode cX5_ring 107 = .ok (.invokevirtual 52, 3) := by decide +kernel
theorem dX5_ring_110 : decode cX5_ring 110 = .ok (.goto 4, 3) := by decide +kernel
theorem dX5_ring_113 : decode cX5_ring 113 = .ok (.iload_n 2, 1) := by decide +kernel
theorem dX5_ring_114 : decode cX5_ring 114 = .ok (.ireturn, 1) := by decide +kernel
theorem dX5_men_0 : decode cX5_men 0 = .ok (.iload_n 1, 1) := by decide +kernel
theorem dX5_men_1 : decode cX5_men 1 = .ok (.iconst 1, 1) := by decide +kernel
theorem dX5_men_2 : decode cX5_men 2 = .ok (.bipush 52, 2) := by decide +kernel
theorem dX5_men_4 : decode cX5_men 4 = .ok (.invokestatic 44, 3) := by decide +kernel
theorem dX5_men_7 : decode cX5_men 7 = .ok (.ifCond .eq 14, 3) := by decide +kernel
theorem dX5_men_10 : decode cX5_men 10 = .ok (.iload_n 2, 1) := by decide +kernel
theorem dX5_men_11 : decode cX5_men 11 = .ok (.iconst 0, 1) := by decide +kernel
theorem dX5_men_12 : decode cX5_men 12 = .ok (.sipush 999, 3) := by decide +kernel
theorem dX5_men_15 : decode cX5_men 15 = .ok (.invokestatic 44, 3) := by decide +kernel
theorem dX5_men_18 : decode cX5_men 18 = .ok (.ifCond .ne 10, 3) := by decide +kernel
theorem dX5_men_21 : decode cX5_men 21 = .ok (.aload_n 0, 1) := by decide +kernel
theorem dX5_men_22 : decode cX5_men 22 = .ok (.ldc 51, 2) := by decide +kernel
theorem dX5_men_24 : decode cX5_men 24 = .ok (.invokevirtual 52, 3) := by decide +kernel
theorem dX5_men_27 : decode cX5_men 27 = .ok (.ireturn, 1) := by decide +kernel
theorem dX5_men_28 : decode cX5_men 28 = .ok (.iconst 0, 1) := by decide +kernel
theorem dX5_men_29 : decode cX5_men 29 = .ok (.istore_n 3, 1) := by decide +kernel
theorem dX5_men_30 : decode cX5_men 30 = .ok (.iload_n 3, 1) := by decide +kernel
theorem dX5_men_31 : decode cX5_men 31 = .ok (.bipush 6, 2) := by decide +kernel
theorem dX5_men_33 : decode cX5_men 33 = .ok (.if_icmp .gt 36, 3) := by decide +kernel
theorem dX5_men_36 : decode cX5_men 36 = .ok (.aload_n 0, 1) := by decide +kernel
theorem dX5_men_37 : decode cX5_men 37 = .ok (.invokevirtual 171, 3) := by decide +kernel
theorem dX5_men_40 : decode cX5_men 40 = .ok (.astore 4, 2) := by decide +kernel
theorem dX5_men_42 : decode cX5_men 42 = .ok (.aload 4, 2) := by decide +kernel
theorem dX5_men_44 : decode cX5_men 44 = .ok (.iload_n 3, 1) := by decide +kernel
theorem dX5_men_45 : decode cX5_men 45 = .ok (.putfield 153, 3) := by decide +kernel
theorem dX5_men_48 : decode cX5_men 48 = .ok (.aload 4, 2) := by decide +kernel
theorem dX5_men_50 : decode cX5_men 50 = .ok (.iload_n 1, 1) := by decide +kernel
theorem dX5_men_51 : decode cX5_men 51 = .ok (.invokevirtual 146, 3) := by decide +kernel
theorem dX5_men_54 : decode cX5_men 54 = .ok (.invokevirtual 168, 3) := by decide +kernel
theorem dX5_men_57 : decode cX5_men 57 = .ok (.iload_n 2, 1) := by decide +kernel
theorem dX5_men_58 : decode cX5_men 58 = .ok (.if_icmp .gt 5, 3) := by decide +kernel
theorem dX5_men_61 : decode cX5_men 61 = .ok (.iload_n 3, 1) := by decide +kernel
theorem dX5_men_62 : decode cX5_men 62 = .ok (.ireturn, 1) := by decide +kernel
theorem dX5_men_63 : decode cX5_men 63 = .ok (.iinc 3 1, 3) := by decide +kernel
theorem dX5_men_66 : decode cX5_men 66 = .ok (.goto (-36), 3) := by decide +kernel
theorem dX5_men_69 : decode cX5_men 69 = .ok (.aload_n 0, 1) := by decide +kernel
theorem dX5_men_70 : decode cX5_men 70 = .ok (.ldc 142, 2) := by decide +kernel
theorem dX5_men_72 : decode cX5_men 72 = .ok (.invokevirtual 52, 3) := by decide +kernel
theorem dX5_men_75 : decode cX5_men 75 = .ok (.ireturn, 1) := by decide +kernel
theorem dX5_budget_0 : decode cX5_budget 0 = .ok (.iload_n 1, 1) := by decide +kernel
theorem dX5_budget_1 : decode cX5_budget 1 = .ok (.iconst 1, 1) := by decide +kernel
theorem dX5_budget_2 : decode cX5_budget 2 = .ok (.bipush 20, 2) := by decide +kernel
theorem dX5_budget_4 : decode cX5_budget 4 = .ok (.invokestatic 44, 3) := by decide +kernel
theorem dX5_budget_7 : decode cX5_budget 7 = .ok (.ifCond .eq 14, 3) := by decide +kernel
theorem dX5_budget_10 : decode cX5_budget 10 = .ok (.iload_n 2, 1) := by decide +kernel
theorem dX5_budget_11 : decode cX5_budget 11 = .ok (.iconst 0, 1) := by decide +kernel
theorem dX5_budget_12 : decode cX5_budget 12 = .ok (.sipush 999, 3) := by decide +kernel
theorem dX5_budget_15 : decode cX5_budget 15 = .ok (.invokestatic 44, 3) := by decide +kernel
theorem dX5_budget_18 : decode cX5_budget 18 = .ok (.ifCond .ne 10, 3) := by decide +kernel
theorem dX5_budget_21 : decode cX5_budget 21 = .ok (.aload_n 0, 1) := by decide +kernel
theorem dX5_budget_22 : decode cX5_budget 22 = .ok (.ldc 51, 2) := by decide +kernel
theorem dX5_budget_24 : decode cX5_budget 24 = .ok (.invokevirtual 52, 3) := by decide +kernel
theorem dX5_budget_27 : decode cX5_budget 27 = .ok (.ireturn, 1) := by decide +kernel
theorem dX5_budget_28 : decode cX5_budget 28 = .ok (.iconst 1, 1) := by decide +kernel
theorem dX5_budget_29 : decode cX5_budget 29 = .ok (.istore_n 3, 1) := by decide +kernel
theorem dX5_budget_30 : decode cX5_budget 30 = .ok (.iconst 0, 1) := by decide +kernel
theorem dX5_budget_31 : decode cX5_budget 31 = .ok (.istore 4, 2) := by decide +kernel
theorem dX5_budget_33 : decode cX5_budget 33 = .ok (.iload 4, 2) := by decide +kernel
theorem dX5_budget_35 : decode cX5_budget 35 = .ok (.sipush 999, 3) := by decide +kernel
theorem dX5_budget_38 : decode cX5_budget 38 = .ok (.if_icmp .gt 51, 3) := by decide +kernel
theorem dX5_budget_41 : decode cX5_budget 41 = .ok (.aload_n 0, 1) := by decide +kernel
theorem dX5_budget_42 : decode cX5_budget 42 = .ok (.invokevirtual 171, 3) := by decide +kernel
theorem dX5_budget_45 : decode cX5_budget 45 = .ok (.astore 5, 2) := by decide +kernel
theorem dX5_budget_47 : decode cX5_budget 47 = .ok (.aload 5, 2) := by decide +kernel
theorem dX5_budget_49 : decode cX5_budget 49 = .ok (.iload 4, 2) := by decide +kernel
theorem dX5_budget_51 : decode cX5_budget 51 = .ok (.putfield 130, 3) := by decide +kernel
theorem dX5_budget_54 : decode cX5_budget 54 = .ok (.aload 5, 2) := by decide +kernel
theorem dX5_budget_56 : decode cX5_budget 56 = .ok (.iload_n 1, 1) := by decide +kernel
theorem dX5_budget_57 : decode cX5_budget 57 = .ok (.invokevirtual 146, 3) := by decide +kernel
theorem dX5_budget_60 : decode cX5_budget 60 = .ok (.invokevirtual 168, 3) := by decide +kernel
theorem dX5_budget_63 : decode cX5_budget 63 = .ok (.iload_n 2, 1) := by decide +kernel
theorem dX5_budget_64 : decode cX5_budget 64 = .ok (.if_icmp .gt 6, 3) := by decide +kernel
theorem dX5_budget_67 : decode cX5_budget 67 = .ok (.iload 4, 2) := by decide +kernel
theorem dX5_budget_69 : decode cX5_budget 69 = .ok (.ireturn, 1) := by decide +kernel
theorem dX5_budget_70 : decode cX5_budget 70 = .ok (.iconst 1, 1) := by decide +kernel
theorem dX5_budget_71 : decode cX5_budget 71 = .ok (.aload 5, 2) := by decide +kernel
theorem dX5_budget_73 : decode cX5_budget 73 = .ok (.getfield 185, 3) := by decide +kernel
theorem dX5_budget_76 : decode cX5_budget 76 = .ok (.invokestatic 188, 3) := by decide +kernel
theorem dX5_budget_79 : decode cX5_budget 79 = .ok (.istore_n 3, 1) := by decide +kernel
theorem dX5_budget_80 : decode cX5_budget 80 = .ok (.iload 4, 2) := by decide +kernel
theorem dX5_budget_82 : decode cX5_budget 82 = .ok (.iload_n 3, 1) := by decide +kernel
theorem dX5_budget_83 : decode cX5_budget 83 = .ok (.iadd, 1) := by decide +kernel
theorem dX5_budget_84 : decode cX5_budget 84 = .ok (.istore 4, 2) := by decide +kernel
theorem dX5_budget_86 : decode cX5_budget 86 = .ok (.goto (-53), 3) := by decide +kernel
theorem dX5_budget_89 : decode cX5_budget 89 = .ok (.aload_n 0, 1) := by decide +kernel
theorem dX5_budget_90 : decode cX5_budget 90 = .ok (.ldc 142, 2) := by decide +kernel
theorem dX5_budget_92 : decode cX5_budget 92 = .ok (.invokevirtual 52, 3) := by decide +kernel
theorem dX5_budget_95 : decode cX5_budget 95 = .ok (.ireturn, 1) := by decide +kernel
theorem dX5_kind_0 : decode cX5_kind 0 = .ok (.aload_n 0, 1) := by decide +kernel
theorem dX5_kind_1 : decode cX5_kind 1 = .ok (.getfield 10, 3) := by decide +kernel
theorem dX5_kind_4 : decode cX5_kind 4 = .ok (.iload_n 1, 1) := by decide +kernel
theorem dX5_kind_5 : decode cX5_kind 5 = .ok (.invokevirtual 95, 3) := by decide +kernel
theorem dX5_kind_8 : decode cX5_kind 8 = .ok (.ifCond .eq 13, 3) := by decide +kernel
theorem dX5_kind_11 : decode cX5_kind 11 = .ok (.iload_n 2, 1) := by decide +kernel
theorem dX5_kind_12 : decode cX5_kind 12 = .ok (.iconst 1, 1) := by decide +kernel
theorem dX5_kind_13 : decode cX5_kind 13 = .ok (.bipush 52, 2) := by decide +kernel
theorem dX5_kind_15 : decode cX5_kind 15 = .ok (.invokestatic 44, 3) := by decide +kernel
theorem dX5_kind_18 : decode cX5_kind 18 = .ok (.ifCond .ne 10, 3) := by decide +kernel
theorem dX5_kind_21 : decode cX5_kind 21 = .ok (.aload_n 0, 1) := by decide +kernel
theorem dX5_kind_22 : decode cX5_kind 22 = .ok (.ldc 51, 2) := by decide +kernel
theorem dX5_kind_24 : decode cX5_kind 24 = .ok (.invokevirtual 52, 3) := by decide +kernel
theorem dX5_kind_27 : decode cX5_kind 27 = .ok (.ireturn, 1) := by decide +kernel
theorem dX5_kind_28 : decode cX5_kind 28 = .ok (.iconst 0, 1) := by decide +kernel
theorem dX5_kind_29 : decode cX5_kind 29 = .ok (.istore_n 3, 1) := by decide +kernel
theorem dX5_kind_30 : decode cX5_kind 30 = .ok (.bipush 100, 2) := by decide +kernel
theorem dX5_kind_32 : decode cX5_kind 32 = .ok (.istore 4, 2) := by decide +kernel
theorem dX5_kind_34 : decode cX5_kind 34 = .ok (.iconst 0, 1) := by decide +kernel
theorem dX5_kind_35 : decode cX5_kind 35 = .ok (.istore 5, 2) := by decide +kernel
theorem dX5_kind_37 : decode cX5_kind 37 = .ok (.iload 5, 2) := by decide +kernel
theorem dX5_kind_39 : decode cX5_kind 39 = .ok (.bipush 6, 2) := by decide +kernel
theorem dX5_kind_41 : decode cX5_kind 41 = .ok (.if_icmp .ge 55, 3) := by decide +kernel
theorem dX5_kind_44 : decode cX5_kind 44 = .ok (.aload_n 0, 1) := by decide +kernel
theorem dX5_kind_45 : decode cX5_kind 45 = .ok (.invokevirtual 171, 3) := by decide +kernel
theorem dX5_kind_48 : decode cX5_kind 48 = .ok (.astore 6, 2) := by decide +kernel
theorem dX5_kind_50 : decode cX5_kind 50 = .ok (.aload 6, 2) := by decide +kernel
theorem dX5_kind_52 : decode cX5_kind 52 = .ok (.getfield 104, 3) := by decide +kernel
theorem dX5_kind_55 : decode cX5_kind 55 = .ok (.iload_n 1, 1) := by decide +kernel
theorem dX5_kind_56 : decode cX5_kind 56 = .ok (.iload 5, 2) := by decide +kernel
theorem dX5_kind_58 : decode cX5_kind 58 = .ok (.iastore, 1) := by decide +kernel
theorem dX5_kind_59 : decode cX5_kind 59 = .ok (.aload 6, 2) := by decide +kernel
theorem dX5_kind_61 : decode cX5_kind 61 = .ok (.iload_n 2, 1) := by decide +kernel
theorem dX5_kind_62 : decode cX5_kind 62 = .ok (.invokevirtual 146, 3) := by decide +kernel
theorem dX5_kind_65 : decode cX5_kind 65 = .ok (.pop, 1) := by decide +kernel
theorem dX5_kind_66 : decode cX5_kind 66 = .ok (.aload 6, 2) := by decide +kernel
theorem dX5_kind_68 : decode cX5_kind 68 = .ok (.getfield 124, 3) := by decide +kernel
theorem dX5_kind_71 : decode cX5_kind 71 = .ok (.iload_n 1, 1) := by decide +kernel
theorem dX5_kind_72 : decode cX5_kind 72 = .ok (.iaload, 1) := by decide +kernel
theorem dX5_kind_73 : decode cX5_kind 73 = .ok (.iload 4, 2) := by decide +kernel
theorem dX5_kind_75 : decode cX5_kind 75 = .ok (.if_icmp .ge 15, 3) := by decide +kernel
theorem dX5_kind_78 : decode cX5_kind 78 = .ok (.iload 5, 2) := by decide +kernel
theorem dX5_kind_80 : decode cX5_kind 80 = .ok (.istore_n 3, 1) := by decide +kernel
theorem dX5_kind_81 : decode cX5_kind 81 = .ok (.aload 6, 2) := by decide +kernel
theorem dX5_kind_83 : decode cX5_kind 83 = .ok (.getfield 124, 3) := by decide +kernel
theorem dX5_kind_86 : decode cX5_kind 86 = .ok (.iload_n 1, 1) := by decide +kernel
theorem dX5_kind_87 : decode cX5_kind 87 = .ok (.iaload, 1) := by decide +kernel
theorem dX5_kind_88 : decode cX5_kind 88 = .ok (.istore 4, 2) := by decide +kernel
theorem dX5_kind_90 : decode cX5_kind 90 = .ok (.iinc 5 1, 3) := by decide +kernel
theorem dX5_kind_93 : decode cX5_kind 93 = .ok (.goto (-56), 3) := by decide +kernel
theorem dX5_kind_96 : decode cX5_kind 96 = .ok (.iload_n 3, 1) := by decide +kernel
theorem dX5_kind_97 : decode cX5_kind 97 = .ok (.ireturn, 1) := by decide +kernel
theorem dX5_let_0 : decode cX5_let 0 = .ok (.iload_n 1, 1) := by decide +kernel
theorem dX5_let_1 : decode cX5_let 1 = .ok (.iconst 1, 1) := by decide +kernel
theorem dX5_let_2 : decode cX5_let 2 = .ok (.bipush 26, 2) := by decide +kernel
theorem dX5_let_4 : decode cX5_let 4 = .ok (.invokestatic 44, 3) := by decide +kernel
theorem dX5_let_7 : decode cX5_let 7 = .ok (.ifCond .ne 10, 3) := by decide +kernel
theorem dX5_let_10 : decode cX5_let 10 = .ok (.aload_n 0, 1) := by decide +kernel
theorem dX5_let_11 : decode cX5_let 11 = .ok (.ldc 51, 2) := by decide +kernel
theorem dX5_let_13 : decode cX5_let 13 = .ok (.invokevirtual 52, 3) := by decide +kernel
theorem dX5_let_16 : decode cX5_let 16 = .ok (.ireturn, 1) := by decide +kernel
theorem dX5_let_17 : decode cX5_let 17 = .ok (.iconst 0, 1) := by decide +kernel
theorem dX5_let_18 : decode cX5_let 18 = .ok (.istore_n 2, 1) := by decide +kernel
theorem dX5_let_19 : decode cX5_let 19 = .ok (.sipush 793, 3) := by decide +kernel
theorem dX5_let_22 : decode cX5_let 22 = .ok (.istore_n 3, 1) := by decide +kernel
theorem dX5_let_23 : decode cX5_let 23 = .ok (.iconst 0, 1) := by decide +kernel
theorem dX5_let_24 : decode cX5_let 24 = .ok (.istore 4, 2) := by decide +kernel
theorem dX5_let_26 : decode cX5_let 26 = .ok (.iload 4, 2) := by decide +kernel
theorem dX5_let_28 : decode cX5_let 28 = .ok (.bipush 64, 2) := by decide +kernel
theorem dX5_let_30 : decode cX5_let 30 = .ok (.if_icmp .ge 45, 3) := by decide +kernel
theorem dX5_let_33 : decode cX5_let 33 = .ok (.aload_n 0, 1) := by decide +kernel
theorem dX5_let_34 : decode cX5_let 34 = .ok (.invokevirtual 171, 3) := by decide +kernel
theorem dX5_let_37 : decode cX5_let 37 = .ok (.astore 5, 2) := by decide +kernel
theorem dX5_let_39 : decode cX5_let 39 = .ok (.aload 5, 2) := by decide +kernel
theorem dX5_let_41 : decode cX5_let 41 = .ok (.iload 4, 2) := by decide +kernel
theorem dX5_let_43 : decode cX5_let 43 = .ok (.invokevirtual 193, 3) := by decide +kernel
theorem dX5_let_46 : decode cX5_let 46 = .ok (.aload 5, 2) := by decide +kernel
theorem dX5_let_48 : decode cX5_let 48 = .ok (.iload_n 1, 1) := by decide +kernel
theorem dX5_let_49 : decode cX5_let 49 = .ok (.invokevirtual 146, 3) := by decide +kernel
theorem dX5_let_52 : decode cX5_let 52 = .ok (.invokevirtual 168, 3) := by decide +kernel
theorem dX5_let_55 : decode cX5_let 55 = .ok (.istore 6, 2) := by decide +kernel
theorem dX5_let_57 : decode cX5_let 57 = .ok (.iload 6, 2) := by decide +kernel
theorem dX5_let_59 : decode cX5_let 59 = .ok (.iload_n 3, 1) := by decide +kernel
theorem dX5_let_60 : decode cX5_let 60 = .ok (.if_icmp .ge 9, 3) := by decide +kernel
theorem dX5_let_63 : decode cX5_let 63 = .ok (.iload 4, 2) := by decide +kernel
theorem dX5_let_65 : decode cX5_let 65 = .ok (.istore_n 2, 1) := by decide +kernel
theorem dX5_let_66 : decode cX5_let 66 = .ok (.iload 6, 2) := by decide +kernel
theorem dX5_let_68 : decode cX5_let 68 = .ok (.istore_n 3, 1) := by decide +kernel
theorem dX5_let_69 : decode cX5_let 69 = .ok (.iinc 4 1, 3) := by decide +kernel
theorem dX5_let_72 : decode cX5_let 72 = .ok (.goto (-46), 3) := by decide +kernel
theorem dX5_let_75 : decode cX5_let 75 = .ok (.iload_n 2, 1) := by decide +kernel
theorem dX5_let_76 : decode cX5_let 76 = .ok (.ireturn, 1) := by decide +kernel
theorem dX5_worst_0 : decode cX5_worst 0 = .ok (.iload_n 1, 1) := by decide +kernel
theorem dX5_worst_1 : decode cX5_worst 1 = .ok (.iconst 0, 1) := by decide +kernel
theorem dX5_worst_2 : decode cX5_worst 2 = .ok (.bipush 104, 2) := by decide +kernel
theorem dX5_worst_4 : decode cX5_worst 4 = .ok (.invokestatic 44, 3) := by decide +kernel
theorem dX5_worst_7 : decode cX5_worst 7 = .ok (.ifCond .ne 10, 3) := by decide +kernel
theorem dX5_worst_10 : decode cX5_worst 10 = .ok (.aload_n 0, 1) := by decide +kernel
theorem dX5_worst_11 : decode cX5_worst 11 = .ok (.ldc 51, 2) := by decide +kernel
theorem dX5_worst_13 : decode cX5_worst 13 = .ok (.invokevirtual 52, 3) := by decide +kernel
theorem dX5_worst_16 : decode cX5_worst 16 = .ok (.ireturn, 1) := by decide +kernel
theorem dX5_worst_17 : decode cX5_worst 17 = .ok (.aload_n 0, 1) := by decide +kernel
theorem dX5_worst_18 : decode cX5_worst 18 = .ok (.invokevirtual 171, 3) := by decide +kernel
theorem dX5_worst_21 : decode cX5_worst 21 = .ok (.iload_n 1, 1) := by decide +kernel
theorem dX5_worst_22 : decode cX5_worst 22 = .ok (.invokevirtual 146, 3) := by decide +kernel
theorem dX5_worst_25 : decode cX5_worst 25 = .ok (.astore_n 2, 1) := by decide +kernel
theorem dX5_worst_26 : decode cX5_worst 26 = .ok (.iconst 0, 1) := by decide +kernel
theorem dX5_worst_27 : decode cX5_worst 27 = .ok (.istore_n 3, 1) := by decide +kernel
theorem dX5_worst_28 : decode cX5_worst 28 = .ok (.iconst 1, 1) := by decide +kernel
theorem dX5_worst_29 : decode cX5_worst 29 = .ok (.istore 4, 2) := by decide +kernel
theorem dX5_worst_31 : decode cX5_worst 31 = .ok (.iload 4, 2) := by decide +kernel
theorem dX5_worst_33 : decode cX5_worst 33 = .ok (.bipush 6, 2) := by decide +kernel
theorem dX5_worst_35 : decode cX5_worst 35 = .ok (.if_icmp .ge 26, 3) := by decide +kernel
theorem dX5_worst_38 : decode cX5_worst 38 = .ok (.aload_n 2, 1) := by decide +kernel
theorem dX5_worst_39 : decode cX5_worst 39 = .ok (.iload 4, 2) := by decide +kernel
theorem dX5_worst_41 : decode cX5_worst 41 = .ok (.invokevirtual 197, 3) := by decide +kernel
theorem dX5_worst_44 : decode cX5_worst 44 = .ok (.aload_n 2, 1) := by decide +kernel
theorem dX5_worst_45 : decode cX5_worst 45 = .ok (.iload_n 3, 1) := by decide +kernel
theorem dX5_worst_46 : decode cX5_worst 46 = .ok (.invokevirtual 197, 3) := by decide +kernel
theorem dX5_worst_49 : decode cX5_worst 49 = .ok (.if_icmp .le 6, 3) := by decide +kernel
theorem dX5_worst_52 : decode cX5_worst 52 = .ok (.iload 4, 2) := by decide +kernel
theorem dX5_worst_54 : decode cX5_worst 54 = .ok (.istore_n 3, 1) := by decide +kernel
theorem dX5_worst_55 : decode cX5_worst 55 = .ok (.iinc 4 1, 3) := by decide +kernel
theorem dX5_worst_58 : decode cX5_worst 58 = .ok (.goto (-27), 3) := by decide +kernel
theorem dX5_worst_61 : decode cX5_worst 61 = .ok (.iload_n 3, 1) := by decide +kernel
theorem dX5_worst_62 : decode cX5_worst 62 = .ok (.ireturn, 1) := by decide +kernel
theorem dX5_feed_0 : decode cX5_feed 0 = .ok (.iload_n 2, 1) := by decide +kernel
theorem dX5_feed_1 : decode cX5_feed 1 = .ok (.iconst 1, 1) := by decide +kernel
theorem dX5_feed_2 : decode cX5_feed 2 = .ok (.iconst 4, 1) := by decide +kernel
theorem dX5_feed_3 : decode cX5_feed 3 = .ok (.invokestatic 44, 3) := by decide +kernel
theorem dX5_feed_6 : decode cX5_feed 6 = .ok (.ifCond .ne 10, 3) := by decide +kernel
theorem dX5_feed_9 : decode cX5_feed 9 = .ok (.aload_n 0, 1) := by decide +kernel
theorem dX5_feed_10 : decode cX5_feed 10 = .ok (.ldc 51, 2) := by decide +kernel
theorem dX5_feed_12 : decode cX5_feed 12 = .ok (.invokevirtual 52, 3) := by decide +kernel
theorem dX5_feed_15 : decode cX5_feed 15 = .ok (.ireturn, 1) := by decide +kernel
theorem dX5_feed_16 : decode cX5_feed 16 = .ok (.aload_n 0, 1) := by decide +kernel
theorem dX5_feed_17 : decode cX5_feed 17 = .ok (.getfield 29, 3) := by decide +kernel
theorem dX5_feed_20 : decode cX5_feed 20 = .ok (.getfield 200, 3) := by decide +kernel
theorem dX5_feed_23 : decode cX5_feed 23 = .ok (.iload_n 2, 1) := by decide +kernel
theorem dX5_feed_24 : decode cX5_feed 24 = .ok (.iadd, 1) := by decide +kernel
theorem dX5_feed_25 : decode cX5_feed 25 = .ok (.bipush 120, 2) := by decide +kernel
theorem dX5_feed_27 : decode cX5_feed 27 = .ok (.if_icmp .le 10, 3) := by decide +kernel
theorem dX5_feed_30 : decode cX5_feed 30 = .ok (.aload_n 0, 1) := by decide +kernel
theorem dX5_feed_31 : decode cX5_feed 31 = .ok (.ldc 91, 2) := by decide +kernel
theorem dX5_feed_33 : decode cX5_feed 33 = .ok (.invokevirtual 52, 3) := by decide +kernel
theorem dX5_feed_36 : decode cX5_feed 36 = .ok (.ireturn, 1) := by decide +kernel
theorem dX5_feed_37 : decode cX5_feed 37 = .ok (.iload_n 2, 1) := by decide +kernel
theorem dX5_feed_38 : decode cX5_feed 38 = .ok (.iconst 1, 1) := by decide +kernel
theorem dX5_feed_39 : decode cX5_feed 39 = .ok (.isub, 1) := by decide +kernel
theorem dX5_feed_40 : decode cX5_feed 40 = .ok (.istore_n 3, 1) := by decide +kernel
theorem dX5_feed_41 : decode cX5_feed 41 = .ok (.iload_n 3, 1) := by decide +kernel
theorem dX5_feed_42 : decode cX5_feed 42 = .ok (.ifCond .lt 26, 3) := by decide +kernel
theorem dX5_feed_45 : decode cX5_feed 45 = .ok (.aload_n 0, 1) := by decide +kernel
theorem dX5_feed_46 : decode cX5_feed 46 = .ok (.getfield 29, 3) := by decide +kernel
theorem dX5_feed_49 : decode cX5_feed 49 = .ok (.iload_n 1, 1) := by decide +kernel
theorem dX5_feed_50 : decode cX5_feed 50 = .ok (.bipush 8, 2) := by decide +kernel
theorem dX5_feed_52 : decode cX5_feed 52 = .ok (.iload_n 3, 1) := by decide +kernel
theorem dX5_feed_53 : decode cX5_feed 53 = .ok (.imul, 1) := by decide +kernel
theorem dX5_feed_54 : decode cX5_feed 54 = .ok (.ishr, 1) := by decide +kernel
theorem dX5_feed_55 : decode cX5_feed 55 = .ok (.sipush 255, 3) := by decide +kernel
theorem dX5_feed_58 : decode cX5_feed 58 = .ok (.iand, 1) := by decide +kernel
theorem dX5_feed_59 : decode cX5_feed 59 = .ok (.invokevirtual 203, 3) := by decide +kernel
theorem dX5_feed_62 : decode cX5_feed 62 = .ok (.iinc 3 (-1), 3) := by decide +kernel
theorem dX5_feed_65 : decode cX5_feed 65 = .ok (.goto (-24), 3) := by decide +kernel
theorem dX5_feed_68 : decode cX5_feed 68 = .ok (.aload_n 0, 1) := by decide +kernel
theorem dX5_feed_69 : decode cX5_feed 69 = .ok (.getfield 29, 3) := by decide +kernel
theorem dX5_feed_72 : decode cX5_feed 72 = .ok (.getfield 200, 3) := by decide +kernel
theorem dX5_feed_75 : decode cX5_feed 75 = .ok (.ireturn, 1) := by decide +kernel
theorem dX5_wipe_0 : decode cX5_wipe 0 = .ok (.aload_n 0, 1) := by decide +kernel
theorem dX5_wipe_1 : decode cX5_wipe 1 = .ok (.getfield 29, 3) := by decide +kernel
theorem dX5_wipe_4 : decode cX5_wipe 4 = .ok (.invokevirtual 206, 3) := by decide +kernel
theorem dX5_wipe_7 : decode cX5_wipe 7 = .ok (.ireturn, 1) := by decide +kernel
theorem dX5_text_0 : decode cX5_text 0 = .ok (.aload_n 0, 1) := by decide +kernel
theorem dX5_text_1 : decode cX5_text 1 = .ok (.invokevirtual 171, 3) := by decide +kernel
theorem dX5_text_4 : decode cX5_text 4 = .ok (.astore_n 1, 1) := by decide +kernel
theorem dX5_text_5 : decode cX5_text 5 = .ok (.aload_n 0, 1) := by decide +kernel
theorem dX5_text_6 : decode cX5_text 6 = .ok (.getfield 29, 3) := by decide +kernel
theorem dX5_text_9 : decode cX5_text 9 = .ok (.aload_n 1, 1) := by decide +kernel
theorem dX5_text_10 : decode cX5_text 10 = .ok (.invokestatic 209, 3) := by decide +kernel
theorem dX5_text_13 : decode cX5_text 13 = .ok (.istore_n 2, 1) := by decide +kernel
theorem dX5_text_14 : decode cX5_text 14 = .ok (.aload_n 0, 1) := by decide +kernel
theorem dX5_text_15 : decode cX5_text 15 = .ok (.getfield 29, 3) := by decide +kernel
theorem dX5_text_18 : decode cX5_text 18 = .ok (.invokevirtual 206, 3) := by decide +kernel
theorem dX5_text_21 : decode cX5_text 21 = .ok (.pop, 1) := by decide +kernel
theorem dX5_text_22 : decode cX5_text 22 = .ok (.iload_n 2, 1) := by decide +kernel
theorem dX5_text_23 : decode cX5_text 23 = .ok (.ifCond .le 11, 3) := by decide +kernel
theorem dX5_text_26 : decode cX5_text 26 = .ok (.aload_n 0, 1) := by decide +kernel
theorem dX5_text_27 : decode cX5_text 27 = .ok (.getfield 10, 3) := by decide +kernel
theorem dX5_text_30 : decode cX5_text 30 = .ok (.aload_n 1, 1) := by decide +kernel
theorem dX5_text_31 : decode cX5_text 31 = .ok (.invokevirtual 215, 3) := by decide +kernel
theorem dX5_text_34 : decode cX5_text 34 = .ok (.iload_n 2, 1) := by decide +kernel
theorem dX5_text_35 : decode cX5_text 35 = .ok (.ireturn, 1) := by decide +kernel
theorem dX5_sheet_0 : decode cX5_sheet 0 = .ok (.aload_n 0, 1) := by decide +kernel
theorem dX5_sheet_1 : decode cX5_sheet 1 = .ok (.iload_n 1, 1) := by decide +kernel
theorem dX5_sheet_2 : decode cX5_sheet 2 = .ok (.invokevirtual 219, 3) := by decide +kernel
theorem dX5_sheet_5 : decode cX5_sheet 5 = .ok (.astore 4, 2) := by decide +kernel
theorem dX5_sheet_7 : decode cX5_sheet 7 = .ok (.aload 4, 2) := by decide +kernel
theorem dX5_sheet_9 : decode cX5_sheet 9 = .ok (.ifnull 25, 3) := by decide +kernel
theorem dX5_sheet_12 : decode cX5_sheet 12 = .ok (.iload_n 2, 1) := by decide +kernel
theorem dX5_sheet_13 : decode cX5_sheet 13 = .ok (.ifCond .eq 28, 3) := by decide +kernel
theorem dX5_sheet_16 : decode cX5_sheet 16 = .ok (.iload_n 2, 1) := by decide +kernel
theorem dX5_sheet_17 : decode cX5_sheet 17 = .ok (.bipush 8, 2) := by decide +kernel
theorem dX5_sheet_19 : decode cX5_sheet 19 = .ok (.if_icmp .eq 22, 3) := by decide +kernel
theorem dX5_sheet_22 : decode cX5_sheet 22 = .ok (.iload_n 2, 1) := by decide +kernel
theorem dX5_sheet_23 : decode cX5_sheet 23 = .ok (.bipush 16, 2) := by decide +kernel
theorem dX5_sheet_25 : decode cX5_sheet 25 = .ok (.if_icmp .eq 16, 3) := by decide +kernel
theorem dX5_sheet_28 : decode cX5_sheet 28 = .ok (.iload_n 2, 1) := by decide +kernel
theorem dX5_sheet_29 : decode cX5_sheet 29 = .ok (.bipush 64, 2) := by decide +kernel
theorem dX5_sheet_31 : decode cX5_sheet 31 = .ok (.if_icmp .eq 10, 3) := by decide +kernel
theorem dX5_sheet_34 : decode cX5_sheet 34 = .ok (.aload_n 0, 1) := by decide +kernel
theorem dX5_sheet_35 : decode cX5_sheet 35 = .ok (.ldc 51, 2) := by decide +kernel
theorem dX5_sheet_37 : decode cX5_sheet 37 = .ok (.invokevirtual 52, 3) := by decide +kernel
theorem dX5_sheet_40 : decode cX5_sheet 40 = .ok (.ireturn, 1) := by decide +kernel
theorem dX5_sheet_41 : decode cX5_sheet 41 = .ok (.iload_n 3, 1) := by decide +kernel
theorem dX5_sheet_42 : decode cX5_sheet 42 = .ok (.ifCond .ge 10, 3) := by decide +kernel
theorem dX5_sheet_45 : decode cX5_sheet 45 = .ok (.aload_n 0, 1) := by decide +kernel
theorem dX5_sheet_46 : decode cX5_sheet 46 = .ok (.ldc 223, 2) := by decide +kernel
theorem dX5_sheet_48 : decode cX5_sheet 48 = .ok (.invokevirtual 52, 3) := by decide +kernel
theorem dX5_sheet_51 : decode cX5_sheet 51 = .ok (.ireturn, 1) := by decide +kernel
theorem dX5_sheet_52 : decode cX5_sheet 52 = .ok (.iload_n 3, 1) := by decide +kernel
theorem dX5_sheet_53 : decode cX5_sheet 53 = .ok (.bipush 40, 2) := by decide +kernel
theorem dX5_sheet_55 : decode cX5_sheet 55 = .ok (.if_icmp .le 10, 3) := by decide +kernel
theorem dX5_sheet_58 : decode cX5_sheet 58 = .ok (.aload_n 0, 1) := by decide +kernel
theorem dX5_sheet_59 : decode cX5_sheet 59 = .ok (.ldc 51, 2) := by decide +kernel
theorem dX5_sheet_61 : decode cX5_sheet 61 = .ok (.invokevirtual 52, 3) := by decide +kernel
theorem dX5_sheet_64 : decode cX5_sheet 64 = .ok (.ireturn, 1) := by decide +kernel
theorem dX5_sheet_65 : decode cX5_sheet 65 = .ok (.aload 4, 2) := by decide +kernel
theorem dX5_sheet_67 : decode cX5_sheet 67 = .ok (.iload_n 2, 1) := by decide +kernel
theorem dX5_sheet_68 : decode cX5_sheet 68 = .ok (.iload_n 2, 1) := by decide +kernel
theorem dX5_sheet_69 : decode cX5_sheet 69 = .ok (.ifCond .ne 7, 3) := by decide +kernel
theorem dX5_sheet_72 : decode cX5_sheet 72 = .ok (.iconst 0, 1) := by decide +kernel
theorem dX5_sheet_73 : decode cX5_sheet 73 = .ok (.goto 4, 3) := by decide +kernel
theorem dX5_sheet_76 : decode cX5_sheet 76 = .ok (.iload_n 3, 1) := by decide +kernel
theorem dX5_sheet_77 : decode cX5_sheet 77 = .ok (.invokevirtual 224, 3) := by decide +kernel
theorem dX5_sheet_80 : decode cX5_sheet 80 = .ok (.aload 4, 2) := by decide +kernel
theorem dX5_sheet_82 : decode cX5_sheet 82 = .ok (.getfield 227, 3) := by decide +kernel
theorem dX5_sheet_85 : decode cX5_sheet 85 = .ok (.ireturn, 1) := by decide +kernel
theorem dX5_write_0 : decode cX5_write 0 = .ok (.aload_n 0, 1) := by decide +kernel
theorem dX5_write_1 : decode cX5_write 1 = .ok (.iload_n 1, 1) := by decide +kernel
theorem dX5_write_2 : decode cX5_write 2 = .ok (.invokevirtual 219, 3) := by decide +kernel
theorem dX5_write_5 : decode cX5_write 5 = .ok (.astore 5, 2) := by decide +kernel
theorem dX5_write_7 : decode cX5_write 7 = .ok (.aload 5, 2) := by decide +kernel
theorem dX5_write_9 : decode cX5_write 9 = .ok (.ifnonnull 11, 3) := by decide +kernel
theorem dX5_write_12 : decode cX5_write 12 = .ok (.aload_n 0, 1) := by decide +kernel
theorem dX5_write_13 : decode cX5_write 13 = .ok (.ldc 51, 2) := by decide +kernel
theorem dX5_write_15 : decode cX5_write 15 = .ok (.invokevirtual 52, 3) := by decide +kernel
theorem dX5_write_18 : decode cX5_write 18 = .ok (.i2l, 1) := by decide +kernel
theorem dX5_write_19 : decode cX5_write 19 = .ok (.lreturn, 1) := by decide +kernel
theorem dX5_write_20 : decode cX5_write 20 = .ok (.aload 5, 2) := by decide +kernel
theorem dX5_write_22 : decode cX5_write 22 = .ok (.invokevirtual 228, 3) := by decide +kernel
theorem dX5_write_25 : decode cX5_write 25 = .ok (.ifCond .eq 11, 3) := by decide +kernel
theorem dX5_write_28 : decode cX5_write 28 = .ok (.aload_n 0, 1) := by decide +kernel
theorem dX5_write_29 : decode cX5_write 29 = .ok (.ldc 231, 2) := by decide +kernel
theorem dX5_write_31 : decode cX5_write 31 = .ok (.invokevirtual 52, 3) := by decide +kernel
theorem dX5_write_34 : decode cX5_write 34 = .ok (.i2l, 1) := by decide +kernel
theorem dX5_write_35 : decode cX5_write 35 = .ok (.lreturn, 1) := by decide +kernel
theorem dX5_write_36 : decode cX5_write 36 = .ok (.iload_n 2, 1) := by decide +kernel
theorem dX5_write_37 : decode cX5_write 37 = .ok (.iconst 0, 1) := by decide +kernel
theorem dX5_write_38 : decode cX5_write 38 = .ok (.aload 5, 2) := by decide +kernel
theorem dX5_write_40 : decode cX5_write 40 = .ok (.getfield 227, 3) := by decide +kernel
theorem dX5_write_43 : decode cX5_write 43 = .ok (.iconst 1, 1) := by decide +kernel
theorem dX5_write_44 : decode cX5_write 44 = .ok (.isub, 1) := by decide +kernel
theorem dX5_write_45 : decode cX5_write 45 = .ok (.invokestatic 44, 3) := by decide +kernel
theorem dX5_write_48 : decode cX5_write 48 = .ok (.ifCond .ne 11, 3) := by decide +kernel
theorem dX5_write_51 : decode cX5_write 51 = .ok (.aload_n 0, 1) := by decide +kernel
theorem dX5_write_52 : decode cX5_write 52 = .ok (.ldc 51, 2) := by decide +kernel
theorem dX5_write_54 : decode cX5_write 54 = .ok (.invokevirtual 52, 3) := by decide +kernel
theorem dX5_write_57 : decode cX5_write 57 = .ok (.i2l, 1) := by decide +kernel
theorem dX5_write_58 : decode cX5_write 58 = .ok (.lreturn, 1) := by decide +kernel
theorem dX5_write_59 : decode cX5_write 59 = .ok (.aload 5, 2) := by decide +kernel
theorem dX5_write_61 : decode cX5_write 61 = .ok (.getfield 232, 3) := by decide +kernel
theorem dX5_write_64 : decode cX5_write 64 = .ok (.iload_n 2, 1) := by decide +kernel
theorem dX5_write_65 : decode cX5_write 65 = .ok (.laload, 1) := by decide +kernel
theorem dX5_write_66 : decode cX5_write 66 = .ok (.lstore 6, 2) := by decide +kernel
theorem dX5_write_68 : decode cX5_write 68 = .ok (.aload 5, 2) := by decide +kernel
theorem dX5_write_70 : decode cX5_write 70 = .ok (.iload_n 2, 1) := by decide +kernel
theorem dX5_write_71 : decode cX5_write 71 = .ok (.lload_n 3, 1) := by decide +kernel
theorem dX5_write_72 : decode cX5_write 72 = .ok (.invokevirtual 236, 3) := by decide +kernel
theorem dX5_write_75 : decode cX5_write 75 = .ok (.lload 6, 2) := by decide +kernel
theorem dX5_write_77 : decode cX5_write 77 = .ok (.lreturn, 1) := by decide +kernel
theorem dX5_copy_0 : decode cX5_copy 0 = .ok (.aload_n 0, 1) := by decide +kernel
theorem dX5_copy_1 : decode cX5_copy 1 = .ok (.iload_n 1, 1) := by decide +kernel
theorem dX5_copy_2 : decode cX5_copy 2 = .ok (.invokevirtual 219, 3) := by decide +kernel
theorem dX5_copy_5 : decode cX5_copy 5 = .ok (.astore 6, 2) := by decide +kernel
theorem dX5_copy_7 : decode cX5_copy 7 = .ok (.aload_n 0, 1) := by decide +kernel
theorem dX5_copy_8 : decode cX5_copy 8 = .ok (.iload_n 3, 1) := by decide +kernel
theorem dX5_copy_9 : decode cX5_copy 9 = .ok (.invokevirtual 219, 3) := by decide +kernel
theorem dX5_copy_12 : decode cX5_copy 12 = .ok (.astore 7, 2) := by decide +kernel
theorem dX5_copy_14 : decode cX5_copy 14 = .ok (.aload 6, 2) := by decide +kernel
theorem dX5_copy_16 : decode cX5_copy 16 = .ok (.ifnull 8, 3) := by decide +kernel
theorem dX5_copy_19 : decode cX5_copy 19 = .ok (.aload 7, 2) := by decide +kernel
theorem dX5_copy_21 : decode cX5_copy 21 = .ok (.ifnonnull 10, 3) := by decide +kernel
theorem dX5_copy_24 : decode cX5_copy 24 = .ok (.aload_n 0, 1) := by decide +kernel
theorem dX5_copy_25 : decode cX5_copy 25 = .ok (.ldc 51, 2) := by decide +kernel
theorem dX5_copy_27 : decode cX5_copy 27 = .ok (.invokevirtual 52, 3) := by decide +kernel
theorem dX5_copy_30 : decode cX5_copy 30 = .ok (.ireturn, 1) := by decide +kernel
theorem dX5_copy_31 : decode cX5_copy 31 = .ok (.aload 6, 2) := by decide +kernel
theorem dX5_copy_33 : decode cX5_copy 33 = .ok (.invokevirtual 228, 3) := by decide +kernel
theorem dX5_copy_36 : decode cX5_copy 36 = .ok (.ifCond .ne 11, 3) := by decide +kernel
theorem dX5_copy_39 : decode cX5_copy 39 = .ok (.aload 7, 2) := by decide +kernel
theorem dX5_copy_41 : decode cX5_copy 41 = .ok (.invokevirtual 228, 3) := by decide +kernel
theorem dX5_copy_44 : decode cX5_copy 44 = .ok (.ifCond .eq 10, 3) := by decide +kernel
theorem dX5_copy_47 : decode cX5_copy 47 = .ok (.aload_n 0, 1) := by decide +kernel
theorem dX5_copy_48 : decode cX5_copy 48 = .ok (.ldc 231, 2) := by decide +kernel
theorem dX5_copy_50 : decode cX5_copy 50 = .ok (.invokevirtual 52, 3) := by decide +kernel
theorem dX5_copy_53 : decode cX5_copy 53 = .ok (.ireturn, 1) := by decide +kernel
theorem dX5_copy_54 : decode cX5_copy 54 = .ok (.aload 6, 2) := by decide +kernel
theorem dX5_copy_56 : decode cX5_copy 56 = .ok (.getfield 239, 3) := by decide +kernel
theorem dX5_copy_59 : decode cX5_copy 59 = .ok (.aload 7, 2) := by decide +kernel
theorem dX5_copy_61 : decode cX5_copy 61 = .ok (.getfield 239, 3) := by decide +kernel
theorem dX5_copy_64 : decode cX5_copy 64 = .ok (.if_icmp .eq 10, 3) := by decide +kernel
theorem dX5_copy_67 : decode cX5_copy 67 = .ok (.aload_n 0, 1) := by decide +kernel
theorem dX5_copy_68 : decode cX5_copy 68 = .ok (.ldc 123, 2) := by decide +kernel
theorem dX5_copy_70 : decode cX5_copy 70 = .ok (.invokevirtual 52, 3) := by decide +kernel
theorem dX5_copy_73 : decode cX5_copy 73 = .ok (.ireturn, 1) := by decide +kernel
theorem dX5_copy_74 : decode cX5_copy 74 = .ok (.aload 6, 2) := by decide +kernel
theorem dX5_copy_76 : decode cX5_copy 76 = .ok (.iload_n 2, 1) := by decide +kernel
theorem dX5_copy_77 : decode cX5_copy 77 = .ok (.iload 5, 2) := by decide +kernel
theorem dX5_copy_79 : decode cX5_copy 79 = .ok (.invokevirtual 242, 3) := by decide +kernel
theorem dX5_copy_82 : decode cX5_copy 82 = .ok (.ifCond .eq 15, 3) := by decide +kernel
theorem dX5_copy_85 : decode cX5_copy 85 = .ok (.aload 7, 2) := by decide +kernel
theorem dX5_copy_87 : decode cX5_copy 87 = .ok (.iload 4, 2) := by decide +kernel
theorem dX5_copy_89 : decode cX5_copy 89 = .ok (.iload 5, 2) := by decide +kernel
theorem dX5_copy_91 : decode cX5_copy 91 = .ok (.invokevirtual 242, 3) := by decide +kernel
theorem dX5_copy_94 : decode cX5_copy 94 = .ok (.ifCond .ne 10, 3) := by decide +kernel
theorem dX5_copy_97 : decode cX5_copy 97 = .ok (.aload_n 0, 1) := by decide +kernel
theorem dX5_copy_98 : decode cX5_copy 98 = .ok (.ldc 51, 2) := by decide +kernel
theorem dX5_copy_100 : decode cX5_copy 100 = .ok (.invokevirtual 52, 3) := by decide +kernel
theorem dX5_copy_103 : decode cX5_copy 103 = .ok (.ireturn, 1) := by decide +kernel
theorem dX5_copy_104 : decode cX5_copy 104 = .ok (.aload 6, 2) := by decide +kernel
theorem dX5_copy_106 : decode cX5_copy 106 = .ok (.getfield 232, 3) := by decide +kernel
theorem dX5_copy_109 : decode cX5_copy 109 = .ok (.iload_n 2, 1) := by decide +kernel
theorem dX5_copy_110 : decode cX5_copy 110 = .ok (.aload 7, 2) := by decide +kernel
theorem dX5_copy_112 : decode cX5_copy 112 = .ok (.getfield 232, 3) := by decide +kernel
theorem dX5_copy_115 : decode cX5_copy 115 = .ok (.iload 4, 2) := by decide +kernel
theorem dX5_copy_117 : decode cX5_copy 117 = .ok (.iload 5, 2) := by decide +kernel
theorem dX5_copy_119 : decode cX5_copy 119 = .ok (.invokestatic 245, 3) := by decide +kernel
theorem dX5_copy_122 : decode cX5_copy 122 = .ok (.iload 5, 2) := by decide +kernel
theorem dX5_copy_124 : decode cX5_copy 124 = .ok (.ireturn, 1) := by decide +kernel
theorem dX5_lays_0 : decode cX5_lays 0 = .ok (.aload_n 0, 1) := by decide +kernel
theorem dX5_lays_1 : decode cX5_lays 1 = .ok (.iload_n 1, 1) := by decide +kernel
theorem dX5_lays_2 : decode cX5_lays 2 = .ok (.invokevirtual 219, 3) := by decide +kernel
theorem dX5_lays_5 : decode cX5_lays 5 = .ok (.astore_n 2, 1) := by decide +kernel
theorem dX5_lays_6 : decode cX5_lays 6 = .ok (.aload_n 2, 1) := by decide +kernel
theorem dX5_lays_7 : decode cX5_lays 7 = .ok (.ifnonnull 10, 3) := by decide +kernel
theorem dX5_lays_10 : decode cX5_lays 10 = .ok (.aload_n 0, 1) := by decide +kernel
theorem dX5_lays_11 : decode cX5_lays 11 = .ok (.ldc 51, 2) := by decide +kernel
theorem dX5_lays_13 : decode cX5_lays 13 = .ok (.invokevirtual 52, 3) := by decide +kernel
theorem dX5_lays_16 : decode cX5_lays 16 = .ok (.ireturn, 1) := by decide +kernel
theorem dX5_lays_17 : decode cX5_lays 17 = .ok (.aload_n 2, 1) := by decide +kernel
theorem dX5_lays_18 : decode cX5_lays 18 = .ok (.invokevirtual 228, 3) := by decide +kernel
theorem dX5_lays_21 : decode cX5_lays 21 = .ok (.ifCond .eq 10, 3) := by decide +kernel
theorem dX5_lays_24 : decode cX5_lays 24 = .ok (.aload_n 0, 1) := by decide +kernel
theorem dX5_lays_25 : decode cX5_lays 25 = .ok (.ldc 231, 2) := by decide +kernel
theorem dX5_lays_27 : decode cX5_lays 27 = .ok (.invokevirtual 52, 3) := by decide +kernel
theorem dX5_lays_30 : decode cX5_lays 30 = .ok (.ireturn, 1) := by decide +kernel
theorem dX5_lays_31 : decode cX5_lays 31 = .ok (.iconst 0, 1) := by decide +kernel
theorem dX5_lays_32 : decode cX5_lays 32 = .ok (.istore_n 3, 1) := by decide +kernel
theorem dX5_lays_33 : decode cX5_lays 33 = .ok (.iconst 0, 1) := by decide +kernel
theorem dX5_lays_34 : decode cX5_lays 34 = .ok (.istore 4, 2) := by decide +kernel
theorem dX5_lays_36 : decode cX5_lays 36 = .ok (.iload 4, 2) := by decide +kernel
theorem dX5_lays_38 : decode cX5_lays 38 = .ok (.aload_n 2, 1) := by decide +kernel
theorem dX5_lays_39 : decode cX5_lays 39 = .ok (.getfield 227, 3) := by decide +kernel
theorem dX5_lays_42 : decode cX5_lays 42 = .ok (.if_icmp .ge 57, 3) := by decide +kernel
theorem dX5_lays_45 : decode cX5_lays 45 = .ok (.iload 4, 2) := by decide +kernel
theorem dX5_lays_47 : decode cX5_lays 47 = .ok (.bipush 6, 2) := by decide +kernel
theorem dX5_lays_49 : decode cX5_lays 49 = .ok (.if_icmp .ge 50, 3) := by decide +kernel
theorem dX5_lays_52 : decode cX5_lays 52 = .ok (.aload_n 2, 1) := by decide +kernel
theorem dX5_lays_53 : decode cX5_lays 53 = .ok (.getfield 232, 3) := by decide +kernel
theorem dX5_lays_56 : decode cX5_lays 56 = .ok (.iload 4, 2) := by decide +kernel
theorem dX5_lays_58 : decode cX5_lays 58 = .ok (.laload, 1) := by decide +kernel
theorem dX5_lays_59 : decode cX5_lays 59 = .ok (.lstore 5, 2) := by decide +kernel
theorem dX5_lays_61 : decode cX5_lays 61 = .ok (.lload 5, 2) := by decide +kernel
theorem dX5_lays_63 : decode cX5_lays 63 = .ok (.lconst 0, 1) := by decide +kernel
theorem dX5_lays_64 : decode cX5_lays 64 = .ok (.lcmp, 1) := by decide +kernel
theorem dX5_lays_65 : decode cX5_lays 65 = .ok (.ifCond .lt 28, 3) := by decide +kernel
theorem dX5_lays_68 : decode cX5_lays 68 = .ok (.lload 5, 2) := by decide +kernel
theorem dX5_lays_70 : decode cX5_lays 70 = .ok (.ldc2_w 251, 3) := by decide +kernel
theorem dX5_lays_73 : decode cX5_lays 73 = .ok (.lcmp, 1) := by decide +kernel
theorem dX5_lays_74 : decode cX5_lays 74 = .ok (.ifCond .gt 19, 3) := by decide +kernel
theorem dX5_lays_77 : decode cX5_lays 77 = .ok (.aload_n 0, 1) := by decide +kernel
theorem dX5_lays_78 : decode cX5_lays 78 = .ok (.getfield 10, 3) := by decide +kernel
theorem dX5_lays_81 : decode cX5_lays 81 = .ok (.getfield 67, 3) := by decide +kernel
theorem dX5_lays_84 : decode cX5_lays 84 = .ok (.iload 4, 2) := by decide +kernel
theorem dX5_lays_86 : decode cX5_lays 86 = .ok (.lload 5, 2) := by decide +kernel
theorem dX5_lays_88 : decode cX5_lays 88 = .ok (.l2i, 1) := by decide +kernel
theorem dX5_lays_89 : decode cX5_lays 89 = .ok (.iastore, 1) := by decide +kernel
theorem dX5_lays_90 : decode cX5_lays 90 = .ok (.iinc 3 1, 3) := by decide +kernel
theorem dX5_lays_93 : decode cX5_lays 93 = .ok (.iinc 4 1, 3) := by decide +kernel
theorem dX5_lays_96 : decode cX5_lays 96 = .ok (.goto (-60), 3) := by decide +kernel
theorem dX5_lays_99 : decode cX5_lays 99 = .ok (.iload_n 3, 1) := by decide +kernel
theorem dX5_lays_100 : decode cX5_lays 100 = .ok (.ireturn, 1) := by decide +kernel
theorem dX5_book_0 : decode cX5_book 0 = .ok (.aload_n 0, 1) := by decide +kernel
theorem dX5_book_1 : decode cX5_book 1 = .ok (.iload_n 1, 1) := by decide +kernel
theorem dX5_book_2 : decode cX5_book 2 = .ok (.invokevirtual 219, 3) := by decide +kernel
theorem dX5_book_5 : decode cX5_book 5 = .ok (.astore_n 3, 1) := by decide +kernel
theorem dX5_book_6 : decode cX5_book 6 = .ok (.aload_n 3, 1) := by decide +kernel
theorem dX5_book_7 : decode cX5_book 7 = .ok (.ifnonnull 10, 3) := by decide +kernel
theorem dX5_book_10 : decode cX5_book 10 = .ok (.aload_n 0, 1) := by decide +kernel
theorem dX5_book_11 : decode cX5_book 11 = .ok (.ldc 51, 2) := by decide +kernel
theorem dX5_book_13 : decode cX5_book 13 = .ok (.invokevirtual 52, 3) := by decide +kernel
theorem dX5_book_16 : decode cX5_book 16 = .ok (.ireturn, 1) := by decide +kernel
theorem dX5_book_17 : decode cX5_book 17 = .ok (.aload_n 3, 1) := by decide +kernel
theorem dX5_book_18 : decode cX5_book 18 = .ok (.invokevirtual 228, 3) := by decide +kernel
theorem dX5_book_21 : decode cX5_book 21 = .ok (.ifCond .eq 10, 3) := by decide +kernel
theorem dX5_book_24 : decode cX5_book 24 = .ok (.aload_n 0, 1) := by decide +kernel
theorem dX5_book_25 : decode cX5_book 25 = .ok (.ldc 231, 2) := by decide +kernel
theorem dX5_book_27 : decode cX5_book 27 = .ok (.invokevirtual 52, 3) := by decide +kernel
theorem dX5_book_30 : decode cX5_book 30 = .ok (.ireturn, 1) := by decide +kernel
theorem dX5_book_31 : decode cX5_book 31 = .ok (.aload_n 0, 1) := by decide +kernel
theorem dX5_book_32 : decode cX5_book 32 = .ok (.getfield 10, 3) := by decide +kernel
theorem dX5_book_35 : decode cX5_book 35 = .ok (.iload_n 2, 1) := by decide +kernel
theorem dX5_book_36 : decode cX5_book 36 = .ok (.invokevirtual 95, 3) := by decide +kernel
theorem dX5_book_39 : decode cX5_book 39 = .ok (.ifCond .ne 10, 3) := by decide +kernel
theorem dX5_book_42 : decode cX5_book 42 = .ok (.aload_n 0, 1) := by decide +kernel
theorem dX5_book_43 : decode cX5_book 43 = .ok (.ldc 51, 2) := by decide +kernel
theorem dX5_book_45 : decode cX5_book 45 = .ok (.invokevirtual 52, 3) := by decide +kernel
theorem dX5_book_48 : decode cX5_book 48 = .ok (.ireturn, 1) := by decide +kernel
theorem dX5_book_49 : decode cX5_book 49 = .ok (.aload_n 0, 1) := by decide +kernel
theorem dX5_book_50 : decode cX5_book 50 = .ok (.invokevirtual 171, 3) := by decide +kernel
theorem dX5_book_53 : decode cX5_book 53 = .ok (.astore 4, 2) := by decide +kernel
theorem dX5_book_55 : decode cX5_book 55 = .ok (.iconst 0, 1) := by decide +kernel
theorem dX5_book_56 : decode cX5_book 56 = .ok (.istore 5, 2) := by decide +kernel
theorem dX5_book_58 : decode cX5_book 58 = .ok (.iload 5, 2) := by decide +kernel
theorem dX5_book_60 : decode cX5_book 60 = .ok (.aload_n 3, 1) := by decide +kernel
theorem dX5_book_61 : decode cX5_book 61 = .ok (.getfield 227, 3) := by decide +kernel
theorem dX5_book_64 : decode cX5_book 64 = .ok (.if_icmp .ge 28, 3) := by decide +kernel
theorem dX5_book_67 : decode cX5_book 67 = .ok (.aload_n 3, 1) := by decide +kernel
theorem dX5_book_68 : decode cX5_book 68 = .ok (.iload 5, 2) := by decide +kernel
theorem dX5_book_70 : decode cX5_book 70 = .ok (.aload 4, 2) := by decide +kernel
theorem dX5_book_72 : decode cX5_book 72 = .ok (.getfield 124, 3) := by decide +kernel
theorem dX5_book_75 : decode cX5_book 75 = .ok (.iload_n 2, 1) := by decide +kernel
theorem dX5_book_76 : decode cX5_book 76 = .ok (.iaload, 1) := by decide +kernel
theorem dX5_book_77 : decode cX5_book 77 = .ok (.i2l, 1) := by decide +kernel
theorem dX5_book_78 : decode cX5_book 78 = .ok (.invokevirtual 236, 3) := by decide +kernel
theorem dX5_book_81 : decode cX5_book 81 = .ok (.aload 4, 2) := by decide +kernel
theorem dX5_book_83 : decode cX5_book 83 = .ok (.invokevirtual 253, 3) := by decide +kernel
theorem dX5_book_86 : decode cX5_book 86 = .ok (.iinc 5 1, 3) := by decide +kernel
theorem dX5_book_89 : decode cX5_book 89 = .ok (.goto (-31), 3) := by decide +kernel
theorem dX5_book_92 : decode cX5_book 92 = .ok (.aload_n 3, 1) := by decide +kernel
theorem dX5_book_93 : decode cX5_book 93 = .ok (.getfield 227, 3) := by decide +kernel
theorem dX5_book_96 : decode cX5_book 96 = .ok (.ireturn, 1) := by decide +kernel
theorem dX5_read_0 : decode cX5_read 0 = .ok (.aload_n 0, 1) := by decide +kernel
theorem dX5_read_1 : decode cX5_read 1 = .ok (.iload_n 1, 1) := by decide +kernel
theorem dX5_read_2 : decode cX5_read 2 = .ok (.invokevirtual 219, 3) := by decide +kernel
theorem dX5_read_5 : decode cX5_read 5 = .ok (.astore_n 3, 1) := by decide +kernel
theorem dX5_read_6 : decode cX5_read 6 = .ok (.aload_n 3, 1) := by decide +kernel
theorem dX5_read_7 : decode cX5_read 7 = .ok (.ifnonnull 10, 3) := by decide +kernel
theorem dX5_read_10 : decode cX5_read 10 = .ok (.aload_n 0, 1) := by decide +kernel
theorem dX5_read_11 : decode cX5_read 11 = .ok (.ldc 51, 2) := by decide +kernel
theorem dX5_read_13 : decode cX5_read 13 = .ok (.invokevirtual 52, 3) := by decide +kernel
theorem dX5_read_16 : decode cX5_read 16 = .ok (.ireturn, 1) := by decide +kernel
theorem dX5_read_17 : decode cX5_read 17 = .ok (.aload_n 3, 1) := by decide +kernel
theorem dX5_read_18 : decode cX5_read 18 = .ok (.invokevirtual 228, 3) := by decide +kernel
theorem dX5_read_21 : decode cX5_read 21 = .ok (.ifCond .eq 10, 3) := by decide +kernel
theorem dX5_read_24 : decode cX5_read 24 = .ok (.aload_n 0, 1) := by decide +kernel
theorem dX5_read_25 : decode cX5_read 25 = .ok (.ldc 231, 2) := by decide +kernel
theorem dX5_read_27 : decode cX5_read 27 = .ok (.invokevirtual 52, 3) := by decide +kernel
theorem dX5_read_30 : decode cX5_read 30 = .ok (.ireturn, 1) := by decide +kernel
theorem dX5_read_31 : decode cX5_read 31 = .ok (.aload_n 0, 1) := by decide +kernel
theorem dX5_read_32 : decode cX5_read 32 = .ok (.getfield 10, 3) := by decide +kernel
theorem dX5_read_35 : decode cX5_read 35 = .ok (.iload_n 2, 1) := by decide +kernel
theorem dX5_read_36 : decode cX5_read 36 = .ok (.invokevirtual 95, 3) := by decide +kernel
theorem dX5_read_39 : decode cX5_read 39 = .ok (.ifCond .ne 10, 3) := by decide +kernel
theorem dX5_read_42 : decode cX5_read 42 = .ok (.aload_n 0, 1) := by decide +kernel
theorem dX5_read_43 : decode cX5_read 43 = .ok (.ldc 51, 2) := by decide +kernel
theorem dX5_read_45 : decode cX5_read 45 = .ok (.invokevirtual 52, 3) := by decide +kernel
theorem dX5_read_48 : decode cX5_read 48 = .ok (.ireturn, 1) := by decide +kernel
theorem dX5_read_49 : decode cX5_read 49 = .ok (.iconst 0, 1) := by decide +kernel
theorem dX5_read_50 : decode cX5_read 50 = .ok (.istore 4, 2) := by decide +kernel
theorem dX5_read_52 : decode cX5_read 52 = .ok (.iconst 0, 1) := by decide +kernel
theorem dX5_read_53 : decode cX5_read 53 = .ok (.istore 5, 2) := by decide +kernel
theorem dX5_read_55 : decode cX5_read 55 = .ok (.iload 5, 2) := by decide +kernel
theorem dX5_read_57 : decode cX5_read 57 = .ok (.bipush 6, 2) := by decide +kernel
theorem dX5_read_59 : decode cX5_read 59 = .ok (.if_icmp .ge 69, 3) := by decide +kernel
theorem dX5_read_62 : decode cX5_read 62 = .ok (.iconst 0, 1) := by decide +kernel
theorem dX5_read_63 : decode cX5_read 63 = .ok (.istore 6, 2) := by decide +kernel
theorem dX5_read_65 : decode cX5_read 65 = .ok (.iload 6, 2) := by decide +kernel
theorem dX5_read_67 : decode cX5_read 67 = .ok (.iconst 3, 1) := by decide +kernel
theorem dX5_read_68 : decode cX5_read 68 = .ok (.if_icmp .ge 54, 3) := by decide +kernel
theorem dX5_read_71 : decode cX5_read 71 = .ok (.aload_n 0, 1) := by decide +kernel
theorem dX5_read_72 : decode cX5_read 72 = .ok (.invokevirtual 171, 3) := by decide +kernel
theorem dX5_read_75 : decode cX5_read 75 = .ok (.astore 7, 2) := by decide +kernel
theorem dX5_read_77 : decode cX5_read 77 = .ok (.aload 7, 2) := by decide +kernel
theorem dX5_read_79 : decode cX5_read 79 = .ok (.getfield 104, 3) := by decide +kernel
theorem dX5_read_82 : decode cX5_read 82 = .ok (.iload_n 2, 1) := by decide +kernel
theorem dX5_read_83 : decode cX5_read 83 = .ok (.iload 5, 2) := by decide +kernel
theorem dX5_read_85 : decode cX5_read 85 = .ok (.iastore, 1) := by decide +kernel
theorem dX5_read_86 : decode cX5_read 86 = .ok (.aload 7, 2) := by decide +kernel
theorem dX5_read_88 : decode cX5_read 88 = .ok (.getfield 127, 3) := by decide +kernel
theorem dX5_read_91 : decode cX5_read 91 = .ok (.iload_n 2, 1) := by decide +kernel
theorem dX5_read_92 : decode cX5_read 92 = .ok (.iload 6, 2) := by decide +kernel
theorem dX5_read_94 : decode cX5_read 94 = .ok (.iastore, 1) := by decide +kernel
theorem dX5_read_95 : decode cX5_read 95 = .ok (.aload 7, 2) := by decide +kernel
theorem dX5_read_97 : decode cX5_read 97 = .ok (.getfield 256, 3) := by decide +kernel
theorem dX5_read_100 : decode cX5_read 100 = .ok (.iload_n 2, 1) := by decide +kernel
theorem dX5_read_101 : decode cX5_read 101 = .ok (.iconst 0, 1) := by decide +kernel
theorem dX5_read_102 : decode cX5_read 102 = .ok (.iastore, 1) := by decide +kernel
theorem dX5_read_103 : decode cX5_read 103 = .ok (.aload 7, 2) := by decide +kernel
theorem dX5_read_105 : decode cX5_read 105 = .ok (.iload_n 2, 1) := by decide +kernel
theorem dX5_read_106 : decode cX5_read 106 = .ok (.aload_n 3, 1) := by decide +kernel
theorem dX5_read_107 : decode cX5_read 107 = .ok (.invokestatic 259, 3) := by decide +kernel
theorem dX5_read_110 : decode cX5_read 110 = .ok (.ifCond .eq 6, 3) := by decide +kernel
theorem dX5_read_113 : decode cX5_read 113 = .ok (.iinc 4 1, 3) := by decide +kernel
theorem dX5_read_116 : decode cX5_read 116 = .ok (.iinc 6 1, 3) := by decide +kernel
theorem dX5_read_119 : decode cX5_read 119 = .ok (.goto (-54), 3) := by decide +kernel
theorem dX5_read_122 : decode cX5_read 122 = .ok (.iinc 5 1, 3) := by decide +kernel
theorem dX5_read_125 : decode cX5_read 125 = .ok (.goto (-70), 3) := by decide +kernel
theorem dX5_read_128 : decode cX5_read 128 = .ok (.iload 4, 2) := by decide +kernel
theorem dX5_read_130 : decode cX5_read 130 = .ok (.ireturn, 1) := by decide +kernel
theorem dX5_image_0 : decode cX5_image 0 = .ok (.aload_n 0, 1) := by decide +kernel
theorem dX5_image_1 : decode cX5_image 1 = .ok (.getfield 19, 3) := by decide +kernel
theorem dX5_image_4 : decode cX5_image 4 = .ok (.aload_n 0, 1) := by decide +kernel
theorem dX5_image_5 : decode cX5_image 5 = .ok (.getfield 10, 3) := by decide +kernel
theorem dX5_image_8 : decode cX5_image 8 = .ok (.invokevirtual 215, 3) := by decide +kernel
theorem dX5_image_11 : decode cX5_image 11 = .ok (.aload_n 0, 1) := by decide +kernel
theorem dX5_image_12 : decode cX5_image 12 = .ok (.iconst 1, 1) := by decide +kernel
theorem dX5_image_13 : decode cX5_image 13 = .ok (.putfield 22, 3) := by decide +kernel
theorem dX5_image_16 : decode cX5_image 16 = .ok (.iconst 1, 1) := by decide +kernel
theorem dX5_image_17 : decode cX5_image 17 = .ok (.ireturn, 1) := by decide +kernel
theorem dX5_undo_0 : decode cX5_undo 0 = .ok (.aload_n 0, 1) := by decide +kernel
theorem dX5_undo_1 : decode cX5_undo 1 = .ok (.getfield 22, 3) := by decide +kernel
theorem dX5_undo_4 : decode cX5_undo 4 = .ok (.ifCond .ne 10, 3) := by decide +kernel
theorem dX5_undo_7 : decode cX5_undo 7 = .ok (.aload_n 0, 1) := by decide +kernel
theorem dX5_undo_8 : decode cX5_undo 8 = .ok (.ldc 142, 2) := by decide +kernel
theorem dX5_undo_10 : decode cX5_undo 10 = .ok (.invokevirtual 52, 3) := by decide +kernel
theorem dX5_undo_13 : decode cX5_undo 13 = .ok (.ireturn, 1) := by decide +kernel
theorem dX5_undo_14 : decode cX5_undo 14 = .ok (.aload_n 0, 1) := by decide +kernel
theorem dX5_undo_15 : decode cX5_undo 15 = .ok (.getfield 10, 3) := by decide +kernel
theorem dX5_undo_18 : decode cX5_undo 18 = .ok (.aload_n 0, 1) := by decide +kernel
theorem dX5_undo_19 : decode cX5_undo 19 = .ok (.getfield 19, 3) := by decide +kernel
theorem dX5_undo_22 : decode cX5_undo 22 = .ok (.invokevirtual 215, 3) := by decide +kernel
theorem dX5_undo_25 : decode cX5_undo 25 = .ok (.aload_n 0, 1) := by decide +kernel
theorem dX5_undo_26 : decode cX5_undo 26 = .ok (.getfield 10, 3) := by decide +kernel
theorem dX5_undo_29 : decode cX5_undo 29 = .ok (.getfield 179, 3) := by decide +kernel
theorem dX5_undo_32 : decode cX5_undo 32 = .ok (.ireturn, 1) := by decide +kernel
theorem dX5_tear_0 : decode cX5_tear 0 = .ok (.aload_n 0, 1) := by decide +kernel
theorem dX5_tear_1 : decode cX5_tear 1 = .ok (.getfield 22, 3) := by decide +kernel
theorem dX5_tear_4 : decode cX5_tear 4 = .ok (.ifCond .eq 7, 3) := by decide +kernel
theorem dX5_tear_7 : decode cX5_tear 7 = .ok (.iconst 1, 1) := by decide +kernel
theorem dX5_tear_8 : decode cX5_tear 8 = .ok (.goto 4, 3) := by decide +kernel
theorem dX5_tear_11 : decode cX5_tear 11 = .ok (.iconst 0, 1) := by decide +kernel
theorem dX5_tear_12 : decode cX5_tear 12 = .ok (.istore_n 1, 1) := by decide +kernel
theorem dX5_tear_13 : decode cX5_tear 13 = .ok (.aload_n 0, 1) := by decide +kernel
theorem dX5_tear_14 : decode cX5_tear 14 = .ok (.iconst 0, 1) := by decide +kernel
theorem dX5_tear_15 : decode cX5_tear 15 = .ok (.putfield 22, 3) := by decide +kernel
theorem dX5_tear_18 : decode cX5_tear 18 = .ok (.iload_n 1, 1) := by decide +kernel
theorem dX5_tear_19 : decode cX5_tear 19 = .ok (.ireturn, 1) := by decide +kernel
theorem dX5_count_0 : decode cX5_count 0 = .ok (.iload_n 1, 1) := by decide +kernel
theorem dX5_count_1 : decode cX5_count 1 = .ok (.tableswitch 74 0 3 #[31, 39, 47, 66], 31) := by decide +kernel
theorem dX5_count_32 : decode cX5_count 32 = .ok (.aload_n 0, 1) := by decide +kernel
theorem dX5_count_33 : decode cX5_count 33 = .ok (.getfield 10, 3) := by decide +kernel
theorem dX5_count_36 : decode cX5_count 36 = .ok (.getfield 179, 3) := by decide +kernel
theorem dX5_count_39 : decode cX5_count 39 = .ok (.ireturn, 1) := by decide +kernel
theorem dX5_count_40 : decode cX5_count 40 = .ok (.aload_n 0, 1) := by decide +kernel
theorem dX5_count_41 : decode cX5_count 41 = .ok (.getfield 29, 3) := by decide +kernel
theorem dX5_count_44 : decode cX5_count 44 = .ok (.getfield 200, 3) := by decide +kernel
theorem dX5_count_47 : decode cX5_count 47 = .ok (.ireturn, 1) := by decide +kernel
theorem dX5_count_48 : decode cX5_count 48 = .ok (.aload_n 0, 1) := by decide +kernel
theorem dX5_count_49 : decode cX5_count 49 = .ok (.getfield 10, 3) := by decide +kernel
theorem dX5_count_52 : decode cX5_count 52 = .ok (.getfield 179, 3) := by decide +kernel
theorem dX5_count_55 : decode cX5_count 55 = .ok (.aload_n 0, 1) := by decide +kernel
theorem dX5_count_56 : decode cX5_count 56 = .ok (.getfield 10, 3) := by decide +kernel
theorem dX5_count_59 : decode cX5_count 59 = .ok (.invokevirtual 80, 3) := by decide +kernel
theorem dX5_count_62 : decode cX5_count 62 = .ok (.invokestatic 263, 3) := by decide +kernel
theorem dX5_count_65 : decode cX5_count 65 = .ok (.isub, 1) := by decide +kernel
theorem dX5_count_66 : decode cX5_count 66 = .ok (.ireturn, 1) := by decide +kernel
theorem dX5_count_67 : decode cX5_count 67 = .ok (.aload_n 0, 1) := by decide +kernel
theorem dX5_count_68 : decode cX5_count 68 = .ok (.getfield 10, 3) := by decide +kernel
theorem dX5_count_71 : decode cX5_count 71 = .ok (.invokevirtual 268, 3) := by decide +kernel
theorem dX5_count_74 : decode cX5_count 74 = .ok (.ireturn, 1) := by decide +kernel
theorem dX5_count_75 : decode cX5_count 75 = .ok (.aload_n 0, 1) := by decide +kernel
theorem dX5_count_76 : decode cX5_count 76 = .ok (.ldc 51, 2) := by decide +kernel
theorem dX5_count_78 : decode cX5_count 78 = .ok (.invokevirtual 52, 3) := by decide +kernel
theorem dX5_count_81 : decode cX5_count 81 = .ok (.ireturn, 1) := by decide +kernel
theorem dX5_status_0 : decode cX5_status 0 = .ok (.iload_n 1, 1) := by decide +kernel
theorem dX5_status_1 : decode cX5_status 1 = .ok (.iconst (-1), 1) := by decide +kernel
theorem dX5_status_2 : decode cX5_status 2 = .ok (.bipush 6, 2) := by decide +kernel
theorem dX5_status_4 : decode cX5_status 4 = .ok (.invokestatic 44, 3) := by decide +kernel
theorem dX5_status_7 : decode cX5_status 7 = .ok (.ifCond .ne 10, 3) := by decide +kernel
theorem dX5_status_10 : decode cX5_status 10 = .ok (.aload_n 0, 1) := by decide +kernel
theorem dX5_status_11 : decode cX5_status 11 = .ok (.ldc 51, 2) := by decide +kernel
theorem dX5_status_13 : decode cX5_status 13 = .ok (.invokevirtual 52, 3) := by decide +kernel
theorem dX5_status_16 : decode cX5_status 16 = .ok (.ireturn, 1) := by decide +kernel
theorem dX5_status_17 : decode cX5_status 17 = .ok (.iload_n 1, 1) := by decide +kernel
theorem dX5_status_18 : decode cX5_status 18 = .ok (.ifCond .lt 10, 3) := by decide +kernel
theorem dX5_status_21 : decode cX5_status 21 = .ok (.aload_n 0, 1) := by decide +kernel
theorem dX5_status_22 : decode cX5_status 22 = .ok (.getfield 39, 3) := by decide +kernel
theorem dX5_status_25 : decode cX5_status 25 = .ok (.iload_n 1, 1) := by decide +kernel
theorem dX5_status_26 : decode cX5_status 26 = .ok (.iaload, 1) := by decide +kernel
theorem dX5_status_27 : decode cX5_status 27 = .ok (.ireturn, 1) := by decide +kernel
theorem dX5_status_28 : decode cX5_status 28 = .ok (.iconst 0, 1) := by decide +kernel
theorem dX5_status_29 : decode cX5_status 29 = .ok (.istore_n 2, 1) := by decide +kernel
theorem dX5_status_30 : decode cX5_status 30 = .ok (.iconst 0, 1) := by decide +kernel
theorem dX5_status_31 : decode cX5_status 31 = .ok (.istore_n 3, 1) := by decide +kernel
theorem dX5_status_32 : decode cX5_status 32 = .ok (.iload_n 3, 1) := by decide +kernel
theorem dX5_status_33 : decode cX5_status 33 = .ok (.bipush 7, 2) := by decide +kernel
theorem dX5_status_35 : decode cX5_status 35 = .ok (.if_icmp .ge 18, 3) := by decide +kernel
theorem dX5_status_38 : decode cX5_status 38 = .ok (.iload_n 2, 1) := by decide +kernel
theorem dX5_status_39 : decode cX5_status 39 = .ok (.aload_n 0, 1) := by decide +kernel
theorem dX5_status_40 : decode cX5_status 40 = .ok (.getfield 39, 3) := by decide +kernel
theorem dX5_status_43 : decode cX5_status 43 = .ok (.iload_n 3, 1) := by decide +kernel
theorem dX5_status_44 : decode cX5_status 44 = .ok (.iaload, 1) := by decide +kernel
theorem dX5_status_45 : decode cX5_status 45 = .ok (.iadd, 1) := by decide +kernel
theorem dX5_status_46 : decode cX5_status 46 = .ok (.istore_n 2, 1) := by decide +kernel
theorem dX5_status_47 : decode cX5_status 47 = .ok (.iinc 3 1, 3) := by decide +kernel
theorem dX5_status_50 : decode cX5_status 50 = .ok (.goto (-18), 3) := by decide +kernel
theorem dX5_status_53 : decode cX5_status 53 = .ok (.iload_n 2, 1) := by decide +kernel
theorem dX5_status_54 : decode cX5_status 54 = .ok (.ireturn, 1) := by decide +kernel
theorem dX5_within_0 : decode cX5_within 0 = .ok (.iload_n 0, 1) := by decide +kernel
theorem dX5_within_1 : decode cX5_within 1 = .ok (.iload_n 1, 1) := by decide +kernel
theorem dX5_within_2 : decode cX5_within 2 = .ok (.if_icmp .lt 12, 3) := by decide +kernel
theorem dX5_within_5 : decode cX5_within 5 = .ok (.iload_n 0, 1) := by decide +kernel
theorem dX5_within_6 : decode cX5_within 6 = .ok (.iload_n 2, 1) := by decide +kernel
theorem dX5_within_7 : decode cX5_within 7 = .ok (.if_icmp .gt 7, 3) := by decide +kernel
theorem dX5_within_10 : decode cX5_within 10 = .ok (.iconst 1, 1) := by decide +kernel
theorem dX5_within_11 : decode cX5_within 11 = .ok (.goto 4, 3) := by decide +kernel
theorem dX5_within_14 : decode cX5_within 14 = .ok (.iconst 0, 1) := by decide +kernel
theorem dX5_within_15 : decode cX5_within 15 = .ok (.ireturn, 1) := by decide +kernel
theorem dX5_isStreet_0 : decode cX5_isStreet 0 = .ok (.iload_n 0, 1) := by decide +kernel
theorem dX5_isStreet_1 : decode cX5_isStreet 1 = .ok (.ifCond .lt 13, 3) := by decide +kernel
theorem dX5_isStreet_4 : decode cX5_isStreet 4 = .ok (.iload_n 0, 1) := by decide +kernel
theorem dX5_isStreet_5 : decode cX5_isStreet 5 = .ok (.bipush 6, 2) := by decide +kernel
theorem dX5_isStreet_7 : decode cX5_isStreet 7 = .ok (.if_icmp .ge 7, 3) := by decide +kernel
theorem dX5_isStreet_10 : decode cX5_isStreet 10 = .ok (.iconst 1, 1) := by decide +kernel
theorem dX5_isStreet_11 : decode cX5_isStreet 11 = .ok (.goto 4, 3) := by decide +kernel
theorem dX5_isStreet_14 : decode cX5_isStreet 14 = .ok (.iconst 0, 1) := by decide +kernel
theorem dX5_isStreet_15 : decode cX5_isStreet 15 = .ok (.ireturn, 1) := by decide +kernel
theorem dX5_isKind_0 : decode cX5_isKind 0 = .ok (.iload_n 0, 1) := by decide +kernel
theorem dX5_isKind_1 : decode cX5_isKind 1 = .ok (.ifCond .lt 13, 3) := by decide +kernel
theorem dX5_isKind_4 : decode cX5_isKind 4 = .ok (.iload_n 0, 1) := by decide +kernel
theorem dX5_isKind_5 : decode cX5_isKind 5 = .ok (.bipush 6, 2) := by decide +kernel
theorem dX5_isKind_7 : decode cX5_isKind 7 = .ok (.if_icmp .ge 7, 3) := by decide +kernel
theorem dX5_isKind_10 : decode cX5_isKind 10 = .ok (.iconst 1, 1) := by decide +kernel
theorem dX5_isKind_11 : decode cX5_isKind 11 = .ok (.goto 4, 3) := by decide +kernel
theorem dX5_isKind_14 : decode cX5_isKind 14 = .ok (.iconst 0, 1) := by decide +kernel
theorem dX5_isKind_15 : decode cX5_isKind 15 = .ok (.ireturn, 1) := by decide +kernel
theorem dX5_found_0 : decode cX5_found 0 = .ok (.ldc 51, 2) := by decide +kernel
theorem dX5_found_2 : decode cX5_found 2 = .ok (.iload_n 1, 1) := by decide +kernel
theorem dX5_found_3 : decode cX5_found 3 = .ok (.isub, 1) := by decide +kernel
theorem dX5_found_4 : decode cX5_found 4 = .ok (.istore_n 2, 1) := by decide +kernel
theorem dX5_found_5 : decode cX5_found 5 = .ok (.iload_n 2, 1) := by decide +kernel
theorem dX5_found_6 : decode cX5_found 6 = .ok (.ifCond .lt 19, 3) := by decide +kernel
theorem dX5_found_9 : decode cX5_found 9 = .ok (.iload_n 2, 1) := by decide +kernel
theorem dX5_found_10 : decode cX5_found 10 = .ok (.bipush 7, 2) := by decide +kernel
theorem dX5_found_12 : decode cX5_found 12 = .ok (.if_icmp .ge 13, 3) := by decide +kernel
theorem dX5_found_15 : decode cX5_found 15 = .ok (.aload_n 0, 1) := by decide +kernel
theorem dX5_found_16 : decode cX5_found 16 = .ok (.getfield 39, 3) := by decide +kernel
theorem dX5_found_19 : decode cX5_found 19 = .ok (.iload_n 2, 1) := by decide +kernel
theorem dX5_found_20 : decode cX5_found 20 = .ok (.dup2, 1) := by decide +kernel
theorem dX5_found_21 : decode cX5_found 21 = .ok (.iaload, 1) := by decide +kernel
theorem dX5_found_22 : decode cX5_found 22 = .ok (.iconst 1, 1) := by decide +kernel
theorem dX5_found_23 : decode cX5_found 23 = .ok (.iadd, 1) := by decide +kernel
theorem dX5_found_24 : decode cX5_found 24 = .ok (.iastore, 1) := by decide +kernel
theorem dX5_found_25 : decode cX5_found 25 = .ok (.iload_n 1, 1) := by decide +kernel
theorem dX5_found_26 : decode cX5_found 26 = .ok (.ireturn, 1) := by decide +kernel
theorem dX5_put_0 : decode cX5_put 0 = .ok (.aload_n 0, 1) := by decide +kernel
theorem dX5_put_1 : decode cX5_put 1 = .ok (.iload_n 1, 1) := by decide +kernel
theorem dX5_put_2 : decode cX5_put 2 = .ok (.iaload, 1) := by decide +kernel
theorem dX5_put_3 : decode cX5_put 3 = .ok (.istore_n 3, 1) := by decide +kernel
theorem dX5_put_4 : decode cX5_put 4 = .ok (.aload_n 0, 1) := by decide +kernel
theorem dX5_put_5 : decode cX5_put 5 = .ok (.iload_n 1, 1) := by decide +kernel
theorem dX5_put_6 : decode cX5_put 6 = .ok (.iload_n 2, 1) := by decide +kernel
theorem dX5_put_7 : decode cX5_put 7 = .ok (.iastore, 1) := by decide +kernel
theorem dX5_put_8 : decode cX5_put 8 = .ok (.iload_n 3, 1) := by decide +kernel
theorem dX5_put_9 : decode cX5_put 9 = .ok (.ireturn, 1) := by decide +kernel
theorem dX5_sheetAt_0 : decode cX5_sheetAt 0 = .ok (.iload_n 1, 1) := by decide +kernel
theorem dX5_sheetAt_1 : decode cX5_sheetAt 1 = .ok (.ifCond .lt 17, 3) := by decide +kernel
theorem dX5_sheetAt_4 : decode cX5_sheetAt 4 = .ok (.iload_n 1, 1) := by decide +kernel
theorem dX5_sheetAt_5 : decode cX5_sheetAt 5 = .ok (.iconst 4, 1) := by decide +kernel
theorem dX5_sheetAt_6 : decode cX5_sheetAt 6 = .ok (.if_icmp .ge 12, 3) := by decide +kernel
theorem dX5_sheetAt_9 : decode cX5_sheetAt 9 = .ok (.aload_n 0, 1) := by decide +kernel
theorem dX5_sheetAt_10 : decode cX5_sheetAt 10 = .ok (.getfield 35, 3) := by decide +kernel
theorem dX5_sheetAt_13 : decode cX5_sheetAt 13 = .ok (.iload_n 1, 1) := by decide +kernel
theorem dX5_sheetAt_14 : decode cX5_sheetAt 14 = .ok (.aaload, 1) := by decide +kernel
theorem dX5_sheetAt_15 : decode cX5_sheetAt 15 = .ok (.goto 4, 3) := by decide +kernel
theorem dX5_sheetAt_18 : decode cX5_sheetAt 18 = .ok (.aconst_null, 1) := by decide +kernel
theorem dX5_sheetAt_19 : decode cX5_sheetAt 19 = .ok (.areturn, 1) := by decide +kernel
theorem dX5_asItIs_0 : decode cX5_asItIs 0 = .ok (.aload_n 0, 1) := by decide +kernel
theorem dX5_asItIs_1 : decode cX5_asItIs 1 = .ok (.getfield 16, 3) := by decide +kernel
theorem dX5_asItIs_4 : decode cX5_asItIs 4 = .ok (.aload_n 0, 1) := by decide +kernel
theorem dX5_asItIs_5 : decode cX5_asItIs 5 = .ok (.getfield 10, 3) := by decide +kernel
theorem dX5_asItIs_8 : decode cX5_asItIs 8 = .ok (.invokevirtual 215, 3) := by decide +kernel
theorem dX5_asItIs_11 : decode cX5_asItIs 11 = .ok (.aload_n 0, 1) := by decide +kernel
theorem dX5_asItIs_12 : decode cX5_asItIs 12 = .ok (.getfield 16, 3) := by decide +kernel
theorem dX5_asItIs_15 : decode cX5_asItIs 15 = .ok (.areturn, 1) := by decide +kernel
theorem dX5_weeksUntil_0 : decode cX5_weeksUntil 0 = .ok (.aload_n 0, 1) := by decide +kernel
theorem dX5_weeksUntil_1 : decode cX5_weeksUntil 1 = .ok (.invokevirtual 171, 3) := by decide +kernel
theorem dX5_weeksUntil_4 : decode cX5_weeksUntil 4 = .ok (.astore_n 3, 1) := by decide +kernel
theorem dX5_weeksUntil_5 : decode cX5_weeksUntil 5 = .ok (.iconst 0, 1) := by decide +kernel
theorem dX5_weeksUntil_6 : decode cX5_weeksUntil 6 = .ok (.istore 4, 2) := by decide +kernel
theorem dX5_weeksUntil_8 : decode cX5_weeksUntil 8 = .ok (.iload 4, 2) := by decide +kernel
theorem dX5_weeksUntil_10 : decode cX5_weeksUntil 10 = .ok (.bipush 104, 2) := by decide +kernel
theorem dX5_weeksUntil_12 : decode cX5_weeksUntil 12 = .ok (.if_icmp .gt 34, 3) := by decide +kernel
theorem dX5_weeksUntil_15 : decode cX5_weeksUntil 15 = .ok (.aload_n 3, 1) := by decide +kernel
theorem dX5_weeksUntil_16 : decode cX5_weeksUntil 16 = .ok (.getfield 127, 3) := by decide +kernel
theorem dX5_weeksUntil_19 : decode cX5_weeksUntil 19 = .ok (.iload_n 1, 1) := by decide +kernel
theorem dX5_weeksUntil_20 : decode cX5_weeksUntil 20 = .ok (.iaload, 1) := by decide +kernel
theorem dX5_weeksUntil_21 : decode cX5_weeksUntil 21 = .ok (.ifCond .eq 7, 3) := by decide +kernel
theorem dX5_weeksUntil_24 : decode cX5_weeksUntil 24 = .ok (.iconst 1, 1) := by decide +kernel
theorem dX5_weeksUntil_25 : decode cX5_weeksUntil 25 = .ok (.goto 4, 3) := by decide +kernel
theorem dX5_weeksUntil_28 : decode cX5_weeksUntil 28 = .ok (.iconst 0, 1) := by decide +kernel
theorem dX5_weeksUntil_29 : decode cX5_weeksUntil 29 = .ok (.iload_n 2, 1) := by decide +kernel
theorem dX5_weeksUntil_30 : decode cX5_weeksUntil 30 = .ok (.if_icmp .ne 6, 3) := by decide +kernel
theorem dX5_weeksUntil_33 : decode cX5_weeksUntil 33 = .ok (.iload 4, 2) := by decide +kernel
theorem dX5_weeksUntil_35 : decode cX5_weeksUntil 35 = .ok (.ireturn, 1) := by decide +kernel
theorem dX5_weeksUntil_36 : decode cX5_weeksUntil 36 = .ok (.aload_n 3, 1) := by decide +kernel
theorem dX5_weeksUntil_37 : decode cX5_weeksUntil 37 = .ok (.invokevirtual 253, 3) := by decide +kernel
theorem dX5_weeksUntil_40 : decode cX5_weeksUntil 40 = .ok (.iinc 4 1, 3) := by decide +kernel
theorem dX5_weeksUntil_43 : decode cX5_weeksUntil 43 = .ok (.goto (-35), 3) := by decide +kernel
theorem dX5_weeksUntil_46 : decode cX5_weeksUntil 46 = .ok (.iconst (-1), 1) := by decide +kernel
theorem dX5_weeksUntil_47 : decode cX5_weeksUntil 47 = .ok (.ireturn, 1) := by decide +kernel
theorem dX5_growsAs_0 : decode cX5_growsAs 0 = .ok (.iconst 0, 1) := by decide +kernel
theorem dX5_growsAs_1 : decode cX5_growsAs 1 = .ok (.istore_n 3, 1) := by decide +kernel
theorem dX5_growsAs_2 : decode cX5_growsAs 2 = .ok (.iload_n 3, 1) := by decide +kernel
theorem dX5_growsAs_3 : decode cX5_growsAs 3 = .ok (.aload_n 2, 1) := by decide +kernel
theorem dX5_growsAs_4 : decode cX5_growsAs 4 = .ok (.getfield 227, 3) := by decide +kernel
theorem dX5_growsAs_7 : decode cX5_growsAs 7 = .ok (.if_icmp .ge 32, 3) := by decide +kernel
theorem dX5_growsAs_10 : decode cX5_growsAs 10 = .ok (.aload_n 2, 1) := by decide +kernel
theorem dX5_growsAs_11 : decode cX5_growsAs 11 = .ok (.getfield 232, 3) := by decide +kernel
theorem dX5_growsAs_14 : decode cX5_growsAs 14 = .ok (.iload_n 3, 1) := by decide +kernel
theorem dX5_growsAs_15 : decode cX5_growsAs 15 = .ok (.laload, 1) := by decide +kernel
theorem dX5_growsAs_16 : decode cX5_growsAs 16 = .ok (.aload_n 0, 1) := by decide +kernel
theorem dX5_growsAs_17 : decode cX5_growsAs 17 = .ok (.getfield 124, 3) := by decide +kernel
theorem dX5_growsAs_20 : decode cX5_growsAs 20 = .ok (.iload_n 1, 1) := by decide +kernel
theorem dX5_growsAs_21 : decode cX5_growsAs 21 = .ok (.iaload, 1) := by decide +kernel
theorem dX5_growsAs_22 : decode cX5_growsAs 22 = .ok (.i2l, 1) := by decide +kernel
theorem dX5_growsAs_23 : decode cX5_growsAs 23 = .ok (.lcmp, 1) := by decide +kernel
theorem dX5_growsAs_24 : decode cX5_growsAs 24 = .ok (.ifCond .eq 5, 3) := by decide +kernel
theorem dX5_growsAs_27 : decode cX5_growsAs 27 = .ok (.iconst 0, 1) := by decide +kernel
theorem dX5_growsAs_28 : decode cX5_growsAs 28 = .ok (.ireturn, 1) := by decide +kernel
theorem dX5_growsAs_29 : decode cX5_growsAs 29 = .ok (.aload_n 0, 1) := by decide +kernel
theorem dX5_growsAs_30 : decode cX5_growsAs 30 = .ok (.invokevirtual 253, 3) := by decide +kernel
theorem dX5_growsAs_33 : decode cX5_growsAs 33 = .ok (.iinc 3 1, 3) := by decide +kernel
theorem dX5_growsAs_36 : decode cX5_growsAs 36 = .ok (.goto (-34), 3) := by decide +kernel
theorem dX5_growsAs_39 : decode cX5_growsAs 39 = .ok (.iconst 1, 1) := by decide +kernel
theorem dX5_growsAs_40 : decode cX5_growsAs 40 = .ok (.ireturn, 1) := by decide +kernel
