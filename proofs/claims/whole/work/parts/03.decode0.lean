theorem dX0_isFrost_0 : decode cX0_isFrost 0 = .ok (.iload_n 0, 1) := by decide +kernel
theorem dX0_isFrost_1 : decode cX0_isFrost 1 = .ok (.bipush 10, 2) := by decide +kernel
theorem dX0_isFrost_3 : decode cX0_isFrost 3 = .ok (.if_icmp .lt 9, 3) := by decide +kernel
theorem dX0_isFrost_6 : decode cX0_isFrost 6 = .ok (.iload_n 0, 1) := by decide +kernel
theorem dX0_isFrost_7 : decode cX0_isFrost 7 = .ok (.bipush 46, 2) := by decide +kernel
theorem dX0_isFrost_9 : decode cX0_isFrost 9 = .ok (.if_icmp .lt 7, 3) := by decide +kernel
theorem dX0_isFrost_12 : decode cX0_isFrost 12 = .ok (.iconst 1, 1) := by decide +kernel
theorem dX0_isFrost_13 : decode cX0_isFrost 13 = .ok (.goto 4, 3) := by decide +kernel
theorem dX0_isFrost_16 : decode cX0_isFrost 16 = .ok (.iconst 0, 1) := by decide +kernel
theorem dX0_isFrost_17 : decode cX0_isFrost 17 = .ok (.ireturn, 1) := by decide +kernel
theorem dX0_growth_0 : decode cX0_growth 0 = .ok (.iload_n 2, 1) := by decide +kernel
theorem dX0_growth_1 : decode cX0_growth 1 = .ok (.invokestatic 9, 3) := by decide +kernel
theorem dX0_growth_4 : decode cX0_growth 4 = .ok (.istore 4, 2) := by decide +kernel
theorem dX0_growth_6 : decode cX0_growth 6 = .ok (.iconst 1, 1) := by decide +kernel
theorem dX0_growth_7 : decode cX0_growth 7 = .ok (.iload_n 3, 1) := by decide +kernel
theorem dX0_growth_8 : decode cX0_growth 8 = .ok (.bipush 10, 2) := by decide +kernel
theorem dX0_growth_10 : decode cX0_growth 10 = .ok (.idiv, 1) := by decide +kernel
theorem dX0_growth_11 : decode cX0_growth 11 = .ok (.iadd, 1) := by decide +kernel
theorem dX0_growth_12 : decode cX0_growth 12 = .ok (.iload 4, 2) := by decide +kernel
theorem dX0_growth_14 : decode cX0_growth 14 = .ok (.ifCond .eq 7, 3) := by decide +kernel
theorem dX0_growth_17 : decode cX0_growth 17 = .ok (.iconst 2, 1) := by decide +kernel
theorem dX0_growth_18 : decode cX0_growth 18 = .ok (.goto 4, 3) := by decide +kernel
theorem dX0_growth_21 : decode cX0_growth 21 = .ok (.iconst 0, 1) := by decide +kernel
theorem dX0_growth_22 : decode cX0_growth 22 = .ok (.iadd, 1) := by decide +kernel
theorem dX0_growth_23 : decode cX0_growth 23 = .ok (.istore 5, 2) := by decide +kernel
theorem dX0_growth_25 : decode cX0_growth 25 = .ok (.iload 5, 2) := by decide +kernel
theorem dX0_growth_27 : decode cX0_growth 27 = .ok (.iload_n 1, 1) := by decide +kernel
theorem dX0_growth_28 : decode cX0_growth 28 = .ok (.bipush 20, 2) := by decide +kernel
theorem dX0_growth_30 : decode cX0_growth 30 = .ok (.idiv, 1) := by decide +kernel
theorem dX0_growth_31 : decode cX0_growth 31 = .ok (.iadd, 1) := by decide +kernel
theorem dX0_growth_32 : decode cX0_growth 32 = .ok (.istore 6, 2) := by decide +kernel
theorem dX0_growth_34 : decode cX0_growth 34 = .ok (.iload_n 0, 1) := by decide +kernel
theorem dX0_growth_35 : decode cX0_growth 35 = .ok (.tableswitch 74 1 5 #[33, 36, 38, 54, 63], 33) := by decide +kernel
theorem dX0_growth_68 : decode cX0_growth 68 = .ok (.iload 6, 2) := by decide +kernel
theorem dX0_growth_70 : decode cX0_growth 70 = .ok (.ireturn, 1) := by decide +kernel
theorem dX0_growth_71 : decode cX0_growth 71 = .ok (.iconst 1, 1) := by decide +kernel
theorem dX0_growth_72 : decode cX0_growth 72 = .ok (.ireturn, 1) := by decide +kernel
theorem dX0_growth_73 : decode cX0_growth 73 = .ok (.iload 5, 2) := by decide +kernel
theorem dX0_growth_75 : decode cX0_growth 75 = .ok (.iload_n 2, 1) := by decide +kernel
theorem dX0_growth_76 : decode cX0_growth 76 = .ok (.bipush 9, 2) := by decide +kernel
theorem dX0_growth_78 : decode cX0_growth 78 = .ok (.irem, 1) := by decide +kernel
theorem dX0_growth_79 : decode cX0_growth 79 = .ok (.ifCond .ne 7, 3) := by decide +kernel
theorem dX0_growth_82 : decode cX0_growth 82 = .ok (.iconst 3, 1) := by decide +kernel
theorem dX0_growth_83 : decode cX0_growth 83 = .ok (.goto 4, 3) := by decide +kernel
theorem dX0_growth_86 : decode cX0_growth 86 = .ok (.iconst 0, 1) := by decide +kernel
theorem dX0_growth_87 : decode cX0_growth 87 = .ok (.iadd, 1) := by decide +kernel
theorem dX0_growth_88 : decode cX0_growth 88 = .ok (.ireturn, 1) := by decide +kernel
theorem dX0_growth_89 : decode cX0_growth 89 = .ok (.iconst 0, 1) := by decide +kernel
theorem dX0_growth_90 : decode cX0_growth 90 = .ok (.iload 6, 2) := by decide +kernel
theorem dX0_growth_92 : decode cX0_growth 92 = .ok (.iconst 1, 1) := by decide +kernel
theorem dX0_growth_93 : decode cX0_growth 93 = .ok (.isub, 1) := by decide +kernel
theorem dX0_growth_94 : decode cX0_growth 94 = .ok (.invokestatic 15, 3) := by decide +kernel
theorem dX0_growth_97 : decode cX0_growth 97 = .ok (.ireturn, 1) := by decide +kernel
theorem dX0_growth_98 : decode cX0_growth 98 = .ok (.iload 4, 2) := by decide +kernel
theorem dX0_growth_100 : decode cX0_growth 100 = .ok (.ifCond .eq 7, 3) := by decide +kernel
theorem dX0_growth_103 : decode cX0_growth 103 = .ok (.iconst 2, 1) := by decide +kernel
theorem dX0_growth_104 : decode cX0_growth 104 = .ok (.goto 4, 3) := by decide +kernel
theorem dX0_growth_107 : decode cX0_growth 107 = .ok (.iconst 1, 1) := by decide +kernel
theorem dX0_growth_108 : decode cX0_growth 108 = .ok (.ireturn, 1) := by decide +kernel
theorem dX0_growth_109 : decode cX0_growth 109 = .ok (.iload 5, 2) := by decide +kernel
theorem dX0_growth_111 : decode cX0_growth 111 = .ok (.ireturn, 1) := by decide +kernel
theorem dX0_holds_0 : decode cX0_holds 0 = .ok (.iload_n 1, 1) := by decide +kernel
theorem dX0_holds_1 : decode cX0_holds 1 = .ok (.iconst 2, 1) := by decide +kernel
theorem dX0_holds_2 : decode cX0_holds 2 = .ok (.if_icmp .ne 8, 3) := by decide +kernel
theorem dX0_holds_5 : decode cX0_holds 5 = .ok (.bipush 40, 2) := by decide +kernel
theorem dX0_holds_7 : decode cX0_holds 7 = .ok (.goto 4, 3) := by decide +kernel
theorem dX0_holds_10 : decode cX0_holds 10 = .ok (.iconst 3, 1) := by decide +kernel
theorem dX0_holds_11 : decode cX0_holds 11 = .ok (.istore_n 2, 1) := by decide +kernel
theorem dX0_holds_12 : decode cX0_holds 12 = .ok (.iload_n 0, 1) := by decide +kernel
theorem dX0_holds_13 : decode cX0_holds 13 = .ok (.tableswitch 53 1 5 #[35, 39, 43, 35, 47], 35) := by decide +kernel
theorem dX0_holds_48 : decode cX0_holds 48 = .ok (.iload_n 2, 1) := by decide +kernel
theorem dX0_holds_49 : decode cX0_holds 49 = .ok (.iconst 1, 1) := by decide +kernel
theorem dX0_holds_50 : decode cX0_holds 50 = .ok (.isub, 1) := by decide +kernel
theorem dX0_holds_51 : decode cX0_holds 51 = .ok (.ireturn, 1) := by decide +kernel
theorem dX0_holds_52 : decode cX0_holds 52 = .ok (.iload_n 2, 1) := by decide +kernel
theorem dX0_holds_53 : decode cX0_holds 53 = .ok (.iconst 5, 1) := by decide +kernel
theorem dX0_holds_54 : decode cX0_holds 54 = .ok (.iadd, 1) := by decide +kernel
theorem dX0_holds_55 : decode cX0_holds 55 = .ok (.ireturn, 1) := by decide +kernel
theorem dX0_holds_56 : decode cX0_holds 56 = .ok (.iload_n 2, 1) := by decide +kernel
theorem dX0_holds_57 : decode cX0_holds 57 = .ok (.iconst 2, 1) := by decide +kernel
theorem dX0_holds_58 : decode cX0_holds 58 = .ok (.idiv, 1) := by decide +kernel
theorem dX0_holds_59 : decode cX0_holds 59 = .ok (.ireturn, 1) := by decide +kernel
theorem dX0_holds_60 : decode cX0_holds 60 = .ok (.iload_n 2, 1) := by decide +kernel
theorem dX0_holds_61 : decode cX0_holds 61 = .ok (.iconst 5, 1) := by decide +kernel
theorem dX0_holds_62 : decode cX0_holds 62 = .ok (.iadd, 1) := by decide +kernel
theorem dX0_holds_63 : decode cX0_holds 63 = .ok (.iconst 2, 1) := by decide +kernel
theorem dX0_holds_64 : decode cX0_holds 64 = .ok (.imul, 1) := by decide +kernel
theorem dX0_holds_65 : decode cX0_holds 65 = .ok (.ireturn, 1) := by decide +kernel
theorem dX0_holds_66 : decode cX0_holds 66 = .ok (.iload_n 2, 1) := by decide +kernel
theorem dX0_holds_67 : decode cX0_holds 67 = .ok (.ireturn, 1) := by decide +kernel
theorem dX0_coldPrice_0 : decode cX0_coldPrice 0 = .ok (.iconst 5, 1) := by decide +kernel
theorem dX0_coldPrice_1 : decode cX0_coldPrice 1 = .ok (.iload_n 1, 1) := by decide +kernel
theorem dX0_coldPrice_2 : decode cX0_coldPrice 2 = .ok (.bipush 10, 2) := by decide +kernel
theorem dX0_coldPrice_4 : decode cX0_coldPrice 4 = .ok (.idiv, 1) := by decide +kernel
theorem dX0_coldPrice_5 : decode cX0_coldPrice 5 = .ok (.iadd, 1) := by decide +kernel
theorem dX0_coldPrice_6 : decode cX0_coldPrice 6 = .ok (.istore_n 2, 1) := by decide +kernel
theorem dX0_coldPrice_7 : decode cX0_coldPrice 7 = .ok (.iload_n 0, 1) := by decide +kernel
theorem dX0_coldPrice_8 : decode cX0_coldPrice 8 = .ok (.tableswitch 48 1 5 #[36, 40, 48, 42, 46], 36) := by decide +kernel
theorem dX0_coldPrice_44 : decode cX0_coldPrice 44 = .ok (.iload_n 2, 1) := by decide +kernel
theorem dX0_coldPrice_45 : decode cX0_coldPrice 45 = .ok (.iconst 3, 1) := by decide +kernel
theorem dX0_coldPrice_46 : decode cX0_coldPrice 46 = .ok (.iadd, 1) := by decide +kernel
theorem dX0_coldPrice_47 : decode cX0_coldPrice 47 = .ok (.ireturn, 1) := by decide +kernel
theorem dX0_coldPrice_48 : decode cX0_coldPrice 48 = .ok (.iconst 2, 1) := by decide +kernel
theorem dX0_coldPrice_49 : decode cX0_coldPrice 49 = .ok (.ireturn, 1) := by decide +kernel
theorem dX0_coldPrice_50 : decode cX0_coldPrice 50 = .ok (.iload_n 2, 1) := by decide +kernel
theorem dX0_coldPrice_51 : decode cX0_coldPrice 51 = .ok (.iconst 1, 1) := by decide +kernel
theorem dX0_coldPrice_52 : decode cX0_coldPrice 52 = .ok (.iadd, 1) := by decide +kernel
theorem dX0_coldPrice_53 : decode cX0_coldPrice 53 = .ok (.ireturn, 1) := by decide +kernel
theorem dX0_coldPrice_54 : decode cX0_coldPrice 54 = .ok (.iconst 3, 1) := by decide +kernel
theorem dX0_coldPrice_55 : decode cX0_coldPrice 55 = .ok (.ireturn, 1) := by decide +kernel
theorem dX0_coldPrice_56 : decode cX0_coldPrice 56 = .ok (.iload_n 2, 1) := by decide +kernel
theorem dX0_coldPrice_57 : decode cX0_coldPrice 57 = .ok (.ireturn, 1) := by decide +kernel
theorem dX0_isUnder_0 : decode cX0_isUnder 0 = .ok (.iload_n 1, 1) := by decide +kernel
theorem dX0_isUnder_1 : decode cX0_isUnder 1 = .ok (.tableswitch 61 0 2 #[27, 29, 45], 27) := by decide +kernel
theorem dX0_isUnder_28 : decode cX0_isUnder 28 = .ok (.iconst 1, 1) := by decide +kernel
theorem dX0_isUnder_29 : decode cX0_isUnder 29 = .ok (.ireturn, 1) := by decide +kernel
theorem dX0_isUnder_30 : decode cX0_isUnder 30 = .ok (.iload_n 0, 1) := by decide +kernel
theorem dX0_isUnder_31 : decode cX0_isUnder 31 = .ok (.iconst 1, 1) := by decide +kernel
theorem dX0_isUnder_32 : decode cX0_isUnder 32 = .ok (.if_icmp .eq 8, 3) := by decide +kernel
theorem dX0_isUnder_35 : decode cX0_isUnder 35 = .ok (.iload_n 0, 1) := by decide +kernel
theorem dX0_isUnder_36 : decode cX0_isUnder 36 = .ok (.iconst 4, 1) := by decide +kernel
theorem dX0_isUnder_37 : decode cX0_isUnder 37 = .ok (.if_icmp .ne 7, 3) := by decide +kernel
theorem dX0_isUnder_40 : decode cX0_isUnder 40 = .ok (.iconst 1, 1) := by decide +kernel
theorem dX0_isUnder_41 : decode cX0_isUnder 41 = .ok (.goto 4, 3) := by decide +kernel
theorem dX0_isUnder_44 : decode cX0_isUnder 44 = .ok (.iconst 0, 1) := by decide +kernel
theorem dX0_isUnder_45 : decode cX0_isUnder 45 = .ok (.ireturn, 1) := by decide +kernel
theorem dX0_isUnder_46 : decode cX0_isUnder 46 = .ok (.iload_n 0, 1) := by decide +kernel
theorem dX0_isUnder_47 : decode cX0_isUnder 47 = .ok (.iconst 2, 1) := by decide +kernel
theorem dX0_isUnder_48 : decode cX0_isUnder 48 = .ok (.if_icmp .eq 8, 3) := by decide +kernel
theorem dX0_isUnder_51 : decode cX0_isUnder 51 = .ok (.iload_n 0, 1) := by decide +kernel
theorem dX0_isUnder_52 : decode cX0_isUnder 52 = .ok (.iconst 5, 1) := by decide +kernel
theorem dX0_isUnder_53 : decode cX0_isUnder 53 = .ok (.if_icmp .ne 7, 3) := by decide +kernel
theorem dX0_isUnder_56 : decode cX0_isUnder 56 = .ok (.iconst 1, 1) := by decide +kernel
theorem dX0_isUnder_57 : decode cX0_isUnder 57 = .ok (.goto 4, 3) := by decide +kernel
theorem dX0_isUnder_60 : decode cX0_isUnder 60 = .ok (.iconst 0, 1) := by decide +kernel
theorem dX0_isUnder_61 : decode cX0_isUnder 61 = .ok (.ireturn, 1) := by decide +kernel
theorem dX0_isUnder_62 : decode cX0_isUnder 62 = .ok (.iload_n 0, 1) := by decide +kernel
theorem dX0_isUnder_63 : decode cX0_isUnder 63 = .ok (.iload_n 1, 1) := by decide +kernel
theorem dX0_isUnder_64 : decode cX0_isUnder 64 = .ok (.if_icmp .ne 7, 3) := by decide +kernel
theorem dX0_isUnder_67 : decode cX0_isUnder 67 = .ok (.iconst 1, 1) := by decide +kernel
theorem dX0_isUnder_68 : decode cX0_isUnder 68 = .ok (.goto 4, 3) := by decide +kernel
theorem dX0_isUnder_71 : decode cX0_isUnder 71 = .ok (.iconst 0, 1) := by decide +kernel
theorem dX0_isUnder_72 : decode cX0_isUnder 72 = .ok (.ireturn, 1) := by decide +kernel
theorem dX0_nameOf_0 : decode cX0_nameOf 0 = .ok (.iload_n 0, 1) := by decide +kernel
theorem dX0_nameOf_1 : decode cX0_nameOf 1 = .ok (.tableswitch 50 0 4 #[35, 38, 41, 44, 47], 35) := by decide +kernel
theorem dX0_nameOf_36 : decode cX0_nameOf 36 = .ok (.ldc 21, 2) := by decide +kernel
theorem dX0_nameOf_38 : decode cX0_nameOf 38 = .ok (.areturn, 1) := by decide +kernel
theorem dX0_nameOf_39 : decode cX0_nameOf 39 = .ok (.ldc 23, 2) := by decide +kernel
theorem dX0_nameOf_41 : decode cX0_nameOf 41 = .ok (.areturn, 1) := by decide +kernel
theorem dX0_nameOf_42 : decode cX0_nameOf 42 = .ok (.ldc 25, 2) := by decide +kernel
theorem dX0_nameOf_44 : decode cX0_nameOf 44 = .ok (.areturn, 1) := by decide +kernel
theorem dX0_nameOf_45 : decode cX0_nameOf 45 = .ok (.ldc 27, 2) := by decide +kernel
theorem dX0_nameOf_47 : decode cX0_nameOf 47 = .ok (.areturn, 1) := by decide +kernel
theorem dX0_nameOf_48 : decode cX0_nameOf 48 = .ok (.ldc 29, 2) := by decide +kernel
theorem dX0_nameOf_50 : decode cX0_nameOf 50 = .ok (.areturn, 1) := by decide +kernel
theorem dX0_nameOf_51 : decode cX0_nameOf 51 = .ok (.ldc 31, 2) := by decide +kernel
theorem dX0_nameOf_53 : decode cX0_nameOf 53 = .ok (.areturn, 1) := by decide +kernel
theorem dX1_init_0 : decode cX1_init 0 = .ok (.aload_n 0, 1) := by decide +kernel
theorem dX1_init_1 : decode cX1_init 1 = .ok (.invokespecial 3, 3) := by decide +kernel
theorem dX1_init_4 : decode cX1_init 4 = .ok (.aload_n 0, 1) := by decide +kernel
theorem dX1_init_5 : decode cX1_init 5 = .ok (.iconst 0, 1) := by decide +kernel
theorem dX1_init_6 : decode cX1_init 6 = .ok (.putfield 9, 3) := by decide +kernel
theorem dX1_init_9 : decode cX1_init 9 = .ok (.aload_n 0, 1) := by decide +kernel
theorem dX1_init_10 : decode cX1_init 10 = .ok (.iconst 0, 1) := by decide +kernel
theorem dX1_init_11 : decode cX1_init 11 = .ok (.putfield 15, 3) := by decide +kernel
theorem dX1_init_14 : decode cX1_init 14 = .ok (.aload_n 0, 1) := by decide +kernel
theorem dX1_init_15 : decode cX1_init 15 = .ok (.bipush 40, 2) := by decide +kernel
theorem dX1_init_17 : decode cX1_init 17 = .ok (.newarray .long, 2) := by decide +kernel
theorem dX1_init_19 : decode cX1_init 19 = .ok (.putfield 18, 3) := by decide +kernel
theorem dX1_init_22 : decode cX1_init 22 = .ok (.return_, 1) := by decide +kernel
theorem dX1_isMissing_0 : decode cX1_isMissing 0 = .ok (.aload_n 0, 1) := by decide +kernel
theorem dX1_isMissing_1 : decode cX1_isMissing 1 = .ok (.getfield 9, 3) := by decide +kernel
theorem dX1_isMissing_4 : decode cX1_isMissing 4 = .ok (.ifCond .ne 7, 3) := by decide +kernel
theorem dX1_isMissing_7 : decode cX1_isMissing 7 = .ok (.iconst 1, 1) := by decide +kernel
theorem dX1_isMissing_8 : decode cX1_isMissing 8 = .ok (.goto 4, 3) := by decide +kernel
theorem dX1_isMissing_11 : decode cX1_isMissing 11 = .ok (.iconst 0, 1) := by decide +kernel
theorem dX1_isMissing_12 : decode cX1_isMissing 12 = .ok (.ireturn, 1) := by decide +kernel
theorem dX1_begin_0 : decode cX1_begin 0 = .ok (.aload_n 0, 1) := by decide +kernel
theorem dX1_begin_1 : decode cX1_begin 1 = .ok (.iload_n 1, 1) := by decide +kernel
theorem dX1_begin_2 : decode cX1_begin 2 = .ok (.putfield 9, 3) := by decide +kernel
theorem dX1_begin_5 : decode cX1_begin 5 = .ok (.aload_n 0, 1) := by decide +kernel
theorem dX1_begin_6 : decode cX1_begin 6 = .ok (.iload_n 2, 1) := by decide +kernel
theorem dX1_begin_7 : decode cX1_begin 7 = .ok (.putfield 15, 3) := by decide +kernel
theorem dX1_begin_10 : decode cX1_begin 10 = .ok (.iconst 0, 1) := by decide +kernel
theorem dX1_begin_11 : decode cX1_begin 11 = .ok (.istore_n 3, 1) := by decide +kernel
theorem dX1_begin_12 : decode cX1_begin 12 = .ok (.iload_n 3, 1) := by decide +kernel
theorem dX1_begin_13 : decode cX1_begin 13 = .ok (.bipush 40, 2) := by decide +kernel
theorem dX1_begin_15 : decode cX1_begin 15 = .ok (.if_icmp .ge 16, 3) := by decide +kernel
theorem dX1_begin_18 : decode cX1_begin 18 = .ok (.aload_n 0, 1) := by decide +kernel
theorem dX1_begin_19 : decode cX1_begin 19 = .ok (.getfield 18, 3) := by decide +kernel
theorem dX1_begin_22 : decode cX1_begin 22 = .ok (.iload_n 3, 1) := by decide +kernel
theorem dX1_begin_23 : decode cX1_begin 23 = .ok (.lconst 0, 1) := by decide +kernel
theorem dX1_begin_24 : decode cX1_begin 24 = .ok (.lastore, 1) := by decide +kernel
theorem dX1_begin_25 : decode cX1_begin 25 = .ok (.iinc 3 1, 3) := by decide +kernel
theorem dX1_begin_28 : decode cX1_begin 28 = .ok (.goto (-16), 3) := by decide +kernel
theorem dX1_begin_31 : decode cX1_begin 31 = .ok (.return_, 1) := by decide +kernel
theorem dX1_put_0 : decode cX1_put 0 = .ok (.iload_n 1, 1) := by decide +kernel
theorem dX1_put_1 : decode cX1_put 1 = .ok (.ifCond .lt 11, 3) := by decide +kernel
theorem dX1_put_4 : decode cX1_put 4 = .ok (.iload_n 1, 1) := by decide +kernel
theorem dX1_put_5 : decode cX1_put 5 = .ok (.aload_n 0, 1) := by decide +kernel
theorem dX1_put_6 : decode cX1_put 6 = .ok (.getfield 15, 3) := by decide +kernel
theorem dX1_put_9 : decode cX1_put 9 = .ok (.if_icmp .lt 4, 3) := by decide +kernel
theorem dX1_put_12 : decode cX1_put 12 = .ok (.return_, 1) := by decide +kernel
theorem dX1_put_13 : decode cX1_put 13 = .ok (.aload_n 0, 1) := by decide +kernel
theorem dX1_put_14 : decode cX1_put 14 = .ok (.getfield 9, 3) := by decide +kernel
theorem dX1_put_17 : decode cX1_put 17 = .ok (.bipush 8, 2) := by decide +kernel
theorem dX1_put_19 : decode cX1_put 19 = .ok (.if_icmp .ne 16, 3) := by decide +kernel
theorem dX1_put_22 : decode cX1_put 22 = .ok (.aload_n 0, 1) := by decide +kernel
theorem dX1_put_23 : decode cX1_put 23 = .ok (.getfield 18, 3) := by decide +kernel
theorem dX1_put_26 : decode cX1_put 26 = .ok (.iload_n 1, 1) := by decide +kernel
theorem dX1_put_27 : decode cX1_put 27 = .ok (.lload_n 2, 1) := by decide +kernel
theorem dX1_put_28 : decode cX1_put 28 = .ok (.l2i, 1) := by decide +kernel
theorem dX1_put_29 : decode cX1_put 29 = .ok (.i2b, 1) := by decide +kernel
theorem dX1_put_30 : decode cX1_put 30 = .ok (.i2l, 1) := by decide +kernel
theorem dX1_put_31 : decode cX1_put 31 = .ok (.lastore, 1) := by decide +kernel
theorem dX1_put_32 : decode cX1_put 32 = .ok (.goto 32, 3) := by decide +kernel
theorem dX1_put_35 : decode cX1_put 35 = .ok (.aload_n 0, 1) := by decide +kernel
theorem dX1_put_36 : decode cX1_put 36 = .ok (.getfield 9, 3) := by decide +kernel
theorem dX1_put_39 : decode cX1_put 39 = .ok (.bipush 16, 2) := by decide +kernel
theorem dX1_put_41 : decode cX1_put 41 = .ok (.if_icmp .ne 16, 3) := by decide +kernel
theorem dX1_put_44 : decode cX1_put 44 = .ok (.aload_n 0, 1) := by decide +kernel
theorem dX1_put_45 : decode cX1_put 45 = .ok (.getfield 18, 3) := by decide +kernel
theorem dX1_put_48 : decode cX1_put 48 = .ok (.iload_n 1, 1) := by decide +kernel
theorem dX1_put_49 : decode cX1_put 49 = .ok (.lload_n 2, 1) := by decide +kernel
theorem dX1_put_50 : decode cX1_put 50 = .ok (.l2i, 1) := by decide +kernel
theorem dX1_put_51 : decode cX1_put 51 = .ok (.i2s, 1) := by decide +kernel
theorem dX1_put_52 : decode cX1_put 52 = .ok (.i2l, 1) := by decide +kernel
theorem dX1_put_53 : decode cX1_put 53 = .ok (.lastore, 1) := by decide +kernel
theorem dX1_put_54 : decode cX1_put 54 = .ok (.goto 10, 3) := by decide +kernel
theorem dX1_put_57 : decode cX1_put 57 = .ok (.aload_n 0, 1) := by decide +kernel
theorem dX1_put_58 : decode cX1_put 58 = .ok (.getfield 18, 3) := by decide +kernel
theorem dX1_put_61 : decode cX1_put 61 = .ok (.iload_n 1, 1) := by decide +kernel
theorem dX1_put_62 : decode cX1_put 62 = .ok (.lload_n 2, 1) := by decide +kernel
theorem dX1_put_63 : decode cX1_put 63 = .ok (.lastore, 1) := by decide +kernel
theorem dX1_put_64 : decode cX1_put 64 = .ok (.return_, 1) := by decide +kernel
theorem dX1_hasSpan_0 : decode cX1_hasSpan 0 = .ok (.iload_n 1, 1) := by decide +kernel
theorem dX1_hasSpan_1 : decode cX1_hasSpan 1 = .ok (.ifCond .lt 29, 3) := by decide +kernel
theorem dX1_hasSpan_4 : decode cX1_hasSpan 4 = .ok (.iload_n 2, 1) := by decide +kernel
theorem dX1_hasSpan_5 : decode cX1_hasSpan 5 = .ok (.ifCond .lt 25, 3) := by decide +kernel
theorem dX1_hasSpan_8 : decode cX1_hasSpan 8 = .ok (.iload_n 2, 1) := by decide +kernel
theorem dX1_hasSpan_9 : decode cX1_hasSpan 9 = .ok (.aload_n 0, 1) := by decide +kernel
theorem dX1_hasSpan_10 : decode cX1_hasSpan 10 = .ok (.getfield 15, 3) := by decide +kernel
theorem dX1_hasSpan_13 : decode cX1_hasSpan 13 = .ok (.if_icmp .gt 17, 3) := by decide +kernel
theorem dX1_hasSpan_16 : decode cX1_hasSpan 16 = .ok (.iload_n 1, 1) := by decide +kernel
theorem dX1_hasSpan_17 : decode cX1_hasSpan 17 = .ok (.aload_n 0, 1) := by decide +kernel
theorem dX1_hasSpan_18 : decode cX1_hasSpan 18 = .ok (.getfield 15, 3) := by decide +kernel
theorem dX1_hasSpan_21 : decode cX1_hasSpan 21 = .ok (.iload_n 2, 1) := by decide +kernel
theorem dX1_hasSpan_22 : decode cX1_hasSpan 22 = .ok (.isub, 1) := by decide +kernel
theorem dX1_hasSpan_23 : decode cX1_hasSpan 23 = .ok (.if_icmp .gt 7, 3) := by decide +kernel
theorem dX1_hasSpan_26 : decode cX1_hasSpan 26 = .ok (.iconst 1, 1) := by decide +kernel
theorem dX1_hasSpan_27 : decode cX1_hasSpan 27 = .ok (.goto 4, 3) := by decide +kernel
theorem dX1_hasSpan_30 : decode cX1_hasSpan 30 = .ok (.iconst 0, 1) := by decide +kernel
theorem dX1_hasSpan_31 : decode cX1_hasSpan 31 = .ok (.ireturn, 1) := by decide +kernel
theorem dX2_init_0 : decode cX2_init 0 = .ok (.aload_n 0, 1) := by decide +kernel
theorem dX2_init_1 : decode cX2_init 1 = .ok (.invokespecial 3, 3) := by decide +kernel
theorem dX2_init_4 : decode cX2_init 4 = .ok (.aload_n 0, 1) := by decide +kernel
theorem dX2_init_5 : decode cX2_init 5 = .ok (.bipush 120, 2) := by decide +kernel
theorem dX2_init_7 : decode cX2_init 7 = .ok (.newarray .int, 2) := by decide +kernel
theorem dX2_init_9 : decode cX2_init 9 = .ok (.putfield 9, 3) := by decide +kernel
theorem dX2_init_12 : decode cX2_init 12 = .ok (.aload_n 0, 1) := by decide +kernel
theorem dX2_init_13 : decode cX2_init 13 = .ok (.iconst 0, 1) := by decide +kernel
theorem dX2_init_14 : decode cX2_init 14 = .ok (.putfield 15, 3) := by decide +kernel
theorem dX2_init_17 : decode cX2_init 17 = .ok (.aload_n 0, 1) := by decide +kernel
theorem dX2_init_18 : decode cX2_init 18 = .ok (.iconst 0, 1) := by decide +kernel
theorem dX2_init_19 : decode cX2_init 19 = .ok (.putfield 19, 3) := by decide +kernel
theorem dX2_init_22 : decode cX2_init 22 = .ok (.aload_n 0, 1) := by decide +kernel
theorem dX2_init_23 : decode cX2_init 23 = .ok (.iconst 0, 1) := by decide +kernel
theorem dX2_init_24 : decode cX2_init 24 = .ok (.putfield 22, 3) := by decide +kernel
theorem dX2_init_27 : decode cX2_init 27 = .ok (.aload_n 0, 1) := by decide +kernel
theorem dX2_init_28 : decode cX2_init 28 = .ok (.iconst 0, 1) := by decide +kernel
theorem dX2_init_29 : decode cX2_init 29 = .ok (.putfield 25, 3) := by decide +kernel
theorem dX2_init_32 : decode cX2_init 32 = .ok (.aload_n 0, 1) := by decide +kernel
theorem dX2_init_33 : decode cX2_init 33 = .ok (.iconst 0, 1) := by decide +kernel
theorem dX2_init_34 : decode cX2_init 34 = .ok (.putfield 28, 3) := by decide +kernel
theorem dX2_init_37 : decode cX2_init 37 = .ok (.return_, 1) := by decide +kernel
theorem dX2_add_0 : decode cX2_add 0 = .ok (.aload_n 0, 1) := by decide +kernel
theorem dX2_add_1 : decode cX2_add 1 = .ok (.getfield 15, 3) := by decide +kernel
theorem dX2_add_4 : decode cX2_add 4 = .ok (.bipush 120, 2) := by decide +kernel
theorem dX2_add_6 : decode cX2_add 6 = .ok (.if_icmp .ge 23, 3) := by decide +kernel
theorem dX2_add_9 : decode cX2_add 9 = .ok (.aload_n 0, 1) := by decide +kernel
theorem dX2_add_10 : decode cX2_add 10 = .ok (.getfield 9, 3) := by decide +kernel
theorem dX2_add_13 : decode cX2_add 13 = .ok (.aload_n 0, 1) := by decide +kernel
theorem dX2_add_14 : decode cX2_add 14 = .ok (.getfield 15, 3) := by decide +kernel
theorem dX2_add_17 : decode cX2_add 17 = .ok (.iload_n 1, 1) := by decide +kernel
theorem dX2_add_18 : decode cX2_add 18 = .ok (.iastore, 1) := by decide +kernel
theorem dX2_add_19 : decode cX2_add 19 = .ok (.aload_n 0, 1) := by decide +kernel
theorem dX2_add_20 : decode cX2_add 20 = .ok (.dup, 1) := by decide +kernel
theorem dX2_add_21 : decode cX2_add 21 = .ok (.getfield 15, 3) := by decide +kernel
theorem dX2_add_24 : decode cX2_add 24 = .ok (.iconst 1, 1) := by decide +kernel
theorem dX2_add_25 : decode cX2_add 25 = .ok (.iadd, 1) := by decide +kernel
theorem dX2_add_26 : decode cX2_add 26 = .ok (.putfield 15, 3) := by decide +kernel
theorem dX2_add_29 : decode cX2_add 29 = .ok (.return_, 1) := by decide +kernel
theorem dX2_clear_0 : decode cX2_clear 0 = .ok (.aload_n 0, 1) := by decide +kernel
theorem dX2_clear_1 : decode cX2_clear 1 = .ok (.getfield 15, 3) := by decide +kernel
theorem dX2_clear_4 : decode cX2_clear 4 = .ok (.istore_n 1, 1) := by decide +kernel
theorem dX2_clear_5 : decode cX2_clear 5 = .ok (.aload_n 0, 1) := by decide +kernel
theorem dX2_clear_6 : decode cX2_clear 6 = .ok (.iconst 0, 1) := by decide +kernel
theorem dX2_clear_7 : decode cX2_clear 7 = .ok (.putfield 15, 3) := by decide +kernel
theorem dX2_clear_10 : decode cX2_clear 10 = .ok (.iload_n 1, 1) := by decide +kernel
theorem dX2_clear_11 : decode cX2_clear 11 = .ok (.ireturn, 1) := by decide +kernel
theorem dX2_begin_0 : decode cX2_begin 0 = .ok (.aload_n 0, 1) := by decide +kernel
theorem dX2_begin_1 : decode cX2_begin 1 = .ok (.iconst 0, 1) := by decide +kernel
theorem dX2_begin_2 : decode cX2_begin 2 = .ok (.putfield 25, 3) := by decide +kernel
theorem dX2_begin_5 : decode cX2_begin 5 = .ok (.aload_n 0, 1) := by decide +kernel
theorem dX2_begin_6 : decode cX2_begin 6 = .ok (.invokevirtual 31, 3) := by decide +kernel
theorem dX2_begin_9 : decode cX2_begin 9 = .ok (.return_, 1) := by decide +kernel
theorem dX2_advance_0 : decode cX2_advance 0 = .ok (.aload_n 0, 1) := by decide +kernel
theorem dX2_advance_1 : decode cX2_advance 1 = .ok (.aload_n 0, 1) := by decide +kernel
theorem dX2_advance_2 : decode cX2_advance 2 = .ok (.aload_n 0, 1) := by decide +kernel
theorem dX2_advance_3 : decode cX2_advance 3 = .ok (.getfield 25, 3) := by decide +kernel
theorem dX2_advance_6 : decode cX2_advance 6 = .ok (.bipush 32, 2) := by decide +kernel
theorem dX2_advance_8 : decode cX2_advance 8 = .ok (.bipush 32, 2) := by decide +kernel
theorem dX2_advance_10 : decode cX2_advance 10 = .ok (.invokevirtual 34, 3) := by decide +kernel
theorem dX2_advance_13 : decode cX2_advance 13 = .ok (.putfield 22, 3) := by decide +kernel
theorem dX2_advance_16 : decode cX2_advance 16 = .ok (.aload_n 0, 1) := by decide +kernel
theorem dX2_advance_17 : decode cX2_advance 17 = .ok (.aload_n 0, 1) := by decide +kernel
theorem dX2_advance_18 : decode cX2_advance 18 = .ok (.getfield 22, 3) := by decide +kernel
theorem dX2_advance_21 : decode cX2_advance 21 = .ok (.putfield 25, 3) := by decide +kernel
theorem dX2_advance_24 : decode cX2_advance 24 = .ok (.aload_n 0, 1) := by decide +kernel
theorem dX2_advance_25 : decode cX2_advance 25 = .ok (.iconst 0, 1) := by decide +kernel
theorem dX2_advance_26 : decode cX2_advance 26 = .ok (.putfield 19, 3) := by decide +kernel
theorem dX2_advance_29 : decode cX2_advance 29 = .ok (.aload_n 0, 1) := by decide +kernel
theorem dX2_advance_30 : decode cX2_advance 30 = .ok (.getfield 22, 3) := by decide +kernel
theorem dX2_advance_33 : decode cX2_advance 33 = .ok (.aload_n 0, 1) := by decide +kernel
theorem dX2_advance_34 : decode cX2_advance 34 = .ok (.getfield 15, 3) := by decide +kernel
theorem dX2_advance_37 : decode cX2_advance 37 = .ok (.if_icmp .lt 4, 3) := by decide +kernel
theorem dX2_advance_40 : decode cX2_advance 40 = .ok (.return_, 1) := by decide +kernel
theorem dX2_advance_41 : decode cX2_advance 41 = .ok (.aload_n 0, 1) := by decide +kernel
theorem dX2_advance_42 : decode cX2_advance 42 = .ok (.getfield 9, 3) := by decide +kernel
theorem dX2_advance_45 : decode cX2_advance 45 = .ok (.aload_n 0, 1) := by decide +kernel
theorem dX2_advance_46 : decode cX2_advance 46 = .ok (.getfield 22, 3) := by decide +kernel
theorem dX2_advance_49 : decode cX2_advance 49 = .ok (.iaload, 1) := by decide +kernel
theorem dX2_advance_50 : decode cX2_advance 50 = .ok (.istore_n 1, 1) := by decide +kernel
theorem dX2_advance_51 : decode cX2_advance 51 = .ok (.iload_n 1, 1) := by decide +kernel
theorem dX2_advance_52 : decode cX2_advance 52 = .ok (.bipush 97, 2) := by decide +kernel
theorem dX2_advance_54 : decode cX2_advance 54 = .ok (.if_icmp .lt 33, 3) := by decide +kernel
theorem dX2_advance_57 : decode cX2_advance 57 = .ok (.iload_n 1, 1) := by decide +kernel
theorem dX2_advance_58 : decode cX2_advance 58 = .ok (.bipush 122, 2) := by decide +kernel
theorem dX2_advance_60 : decode cX2_advance 60 = .ok (.if_icmp .gt 27, 3) := by decide +kernel
theorem dX2_advance_63 : decode cX2_advance 63 = .ok (.aload_n 0, 1) := by decide +kernel
theorem dX2_advance_64 : decode cX2_advance 64 = .ok (.iconst 1, 1) := by decide +kernel
theorem dX2_advance_65 : decode cX2_advance 65 = .ok (.putfield 19, 3) := by decide +kernel
theorem dX2_advance_68 : decode cX2_advance 68 = .ok (.aload_n 0, 1) := by decide +kernel
theorem dX2_advance_69 : decode cX2_advance 69 = .ok (.aload_n 0, 1) := by decide +kernel
theorem dX2_advance_70 : decode cX2_advance 70 = .ok (.aload_n 0, 1) := by decide +kernel
theorem dX2_advance_71 : decode cX2_advance 71 = .ok (.getfield 22, 3) := by decide +kernel
theorem dX2_advance_74 : decode cX2_advance 74 = .ok (.bipush 97, 2) := by decide +kernel
theorem dX2_advance_76 : decode cX2_advance 76 = .ok (.bipush 122, 2) := by decide +kernel
theorem dX2_advance_78 : decode cX2_advance 78 = .ok (.invokevirtual 34, 3) := by decide +kernel
theorem dX2_advance_81 : decode cX2_advance 81 = .ok (.putfield 25, 3) := by decide +kernel
theorem dX2_advance_84 : decode cX2_advance 84 = .ok (.goto 72, 3) := by decide +kernel
theorem dX2_advance_87 : decode cX2_advance 87 = .ok (.iload_n 1, 1) := by decide +kernel
theorem dX2_advance_88 : decode cX2_advance 88 = .ok (.bipush 48, 2) := by decide +kernel
theorem dX2_advance_90 : decode cX2_advance 90 = .ok (.if_icmp .lt 41, 3) := by decide +kernel
theorem dX2_advance_93 : decode cX2_advance 93 = .ok (.iload_n 1, 1) := by decide +kernel
theorem dX2_advance_94 : decode cX2_advance 94 = .ok (.bipush 57, 2) := by decide +kernel
theorem dX2_advance_96 : decode cX2_advance 96 = .ok (.if_icmp .gt 35, 3) := by decide +kernel
theorem dX2_advance_99 : decode cX2_advance 99 = .ok (.aload_n 0, 1) := by decide +kernel
theorem dX2_advance_100 : decode cX2_advance 100 = .ok (.iconst 2, 1) := by decide +kernel
theorem dX2_advance_101 : decode cX2_advance 101 = .ok (.putfield 19, 3) := by decide +kernel
theorem dX2_advance_104 : decode cX2_advance 104 = .ok (.aload_n 0, 1) := by decide +kernel
theorem dX2_advance_105 : decode cX2_advance 105 = .ok (.aload_n 0, 1) := by decide +kernel
theorem dX2_advance_106 : decode cX2_advance 106 = .ok (.aload_n 0, 1) := by decide +kernel
theorem dX2_advance_107 : decode cX2_advance 107 = .ok (.getfield 22, 3) := by decide +kernel
theorem dX2_advance_110 : decode cX2_advance 110 = .ok (.bipush 48, 2) := by decide +kernel
theorem dX2_advance_112 : decode cX2_advance 112 = .ok (.bipush 57, 2) := by decide +kernel
theorem dX2_advance_114 : decode cX2_advance 114 = .ok (.invokevirtual 34, 3) := by decide +kernel
theorem dX2_advance_117 : decode cX2_advance 117 = .ok (.putfield 25, 3) := by decide +kernel
theorem dX2_advance_120 : decode cX2_advance 120 = .ok (.aload_n 0, 1) := by decide +kernel
theorem dX2_advance_121 : decode cX2_advance 121 = .ok (.aload_n 0, 1) := by decide +kernel
theorem dX2_advance_122 : decode cX2_advance 122 = .ok (.invokevirtual 38, 3) := by decide +kernel
theorem dX2_advance_125 : decode cX2_advance 125 = .ok (.putfield 28, 3) := by decide +kernel
theorem dX2_advance_128 : decode cX2_advance 128 = .ok (.goto 28, 3) := by decide +kernel
theorem dX2_advance_131 : decode cX2_advance 131 = .ok (.aload_n 0, 1) := by decide +kernel
theorem dX2_advance_132 : decode cX2_advance 132 = .ok (.iload_n 1, 1) := by decide +kernel
theorem dX2_advance_133 : decode cX2_advance 133 = .ok (.bipush 59, 2) := by decide +kernel
theorem dX2_advance_135 : decode cX2_advance 135 = .ok (.if_icmp .ne 7, 3) := by decide +kernel
theorem dX2_advance_138 : decode cX2_advance 138 = .ok (.iconst 3, 1) := by decide +kernel
theorem dX2_advance_139 : decode cX2_advance 139 = .ok (.goto 4, 3) := by decide +kernel
theorem dX2_advance_142 : decode cX2_advance 142 = .ok (.iconst 4, 1) := by decide +kernel
theorem dX2_advance_143 : decode cX2_advance 143 = .ok (.putfield 19, 3) := by decide +kernel
theorem dX2_advance_146 : decode cX2_advance 146 = .ok (.aload_n 0, 1) := by decide +kernel
theorem dX2_advance_147 : decode cX2_advance 147 = .ok (.aload_n 0, 1) := by decide +kernel
theorem dX2_advance_148 : decode cX2_advance 148 = .ok (.getfield 22, 3) := by decide +kernel
theorem dX2_advance_151 : decode cX2_advance 151 = .ok (.iconst 1, 1) := by decide +kernel
theorem dX2_advance_152 : decode cX2_advance 152 = .ok (.iadd, 1) := by decide +kernel
theorem dX2_advance_153 : decode cX2_advance 153 = .ok (.putfield 25, 3) := by decide +kernel
theorem dX2_advance_156 : decode cX2_advance 156 = .ok (.return_, 1) := by decide +kernel
theorem dX2_endOfRun_0 : decode cX2_endOfRun 0 = .ok (.iload_n 1, 1) := by decide +kernel
theorem dX2_endOfRun_1 : decode cX2_endOfRun 1 = .ok (.istore 4, 2) := by decide +kernel
theorem dX2_endOfRun_3 : decode cX2_endOfRun 3 = .ok (.iload 4, 2) := by decide +kernel
theorem dX2_endOfRun_5 : decode cX2_endOfRun 5 = .ok (.aload_n 0, 1) := by decide +kernel
theorem dX2_endOfRun_6 : decode cX2_endOfRun 6 = .ok (.getfield 15, 3) := by decide +kernel
theorem dX2_endOfRun_9 : decode cX2_endOfRun 9 = .ok (.if_icmp .ge 31, 3) := by decide +kernel
theorem dX2_endOfRun_12 : decode cX2_endOfRun 12 = .ok (.aload_n 0, 1) := by decide +kernel
theorem dX2_endOfRun_13 : decode cX2_endOfRun 13 = .ok (.getfield 9, 3) := by decide +kernel
theorem dX2_endOfRun_16 : decode cX2_endOfRun 16 = .ok (.iload 4, 2) := by decide +kernel
theorem dX2_endOfRun_18 : decode cX2_endOfRun 18 = .ok (.iaload, 1) := by decide +kernel
theorem dX2_endOfRun_19 : decode cX2_endOfRun 19 = .ok (.iload_n 2, 1) := by decide +kernel
theorem dX2_endOfRun_20 : decode cX2_endOfRun 20 = .ok (.if_icmp .lt 20, 3) := by decide +kernel
theorem dX2_endOfRun_23 : decode cX2_endOfRun 23 = .ok (.aload_n 0, 1) := by decide +kernel
theorem dX2_endOfRun_24 : decode cX2_endOfRun 24 = .ok (.getfield 9, 3) := by decide +kernel
theorem dX2_endOfRun_27 : decode cX2_endOfRun 27 = .ok (.iload 4, 2) := by decide +kernel
theorem dX2_endOfRun_29 : decode cX2_endOfRun 29 = .ok (.iaload, 1) := by decide +kernel
theorem dX2_endOfRun_30 : decode cX2_endOfRun 30 = .ok (.iload_n 3, 1) := by decide +kernel
theorem dX2_endOfRun_31 : decode cX2_endOfRun 31 = .ok (.if_icmp .gt 9, 3) := by decide +kernel
theorem dX2_endOfRun_34 : decode cX2_endOfRun 34 = .ok (.iinc 4 1, 3) := by decide +kernel
theorem dX2_endOfRun_37 : decode cX2_endOfRun 37 = .ok (.goto (-34), 3) := by decide +kernel
theorem dX2_endOfRun_40 : decode cX2_endOfRun 40 = .ok (.iload 4, 2) := by decide +kernel
theorem dX2_endOfRun_42 : decode cX2_endOfRun 42 = .ok (.ireturn, 1) := by decide +kernel
theorem dX2_valueOfToken_0 : decode cX2_valueOfToken 0 = .ok (.iconst 0, 1) := by decide +kernel
theorem dX2_valueOfToken_1 : decode cX2_valueOfToken 1 = .ok (.istore_n 1, 1) := by decide +kernel
theorem dX2_valueOfToken_2 : decode cX2_valueOfToken 2 = .ok (.aload_n 0, 1) := by decide +kernel
theorem dX2_valueOfToken_3 : decode cX2_valueOfToken 3 = .ok (.getfield 22, 3) := by decide +kernel
theorem dX2_valueOfToken_6 : decode cX2_valueOfToken 6 = .ok (.istore_n 2, 1) := by decide +kernel
theorem dX2_valueOfToken_7 : decode cX2_valueOfToken 7 = .ok (.iload_n 2, 1) := by decide +kernel
theorem dX2_valueOfToken_8 : decode cX2_valueOfToken 8 = .ok (.aload_n 0, 1) := by decide +kernel
theorem dX2_valueOfToken_9 : decode cX2_valueOfToken 9 = .ok (.getfield 25, 3) := by decide +kernel
theorem dX2_valueOfToken_12 : decode cX2_valueOfToken 12 = .ok (.if_icmp .ge 31, 3) := by decide +kernel
theorem dX2_valueOfToken_15 : decode cX2_valueOfToken 15 = .ok (.iload_n 1, 1) := by decide +kernel
theorem dX2_valueOfToken_16 : decode cX2_valueOfToken 16 = .ok (.sipush 10000, 3) := by decide +kernel
theorem dX2_valueOfToken_19 : decode cX2_valueOfToken 19 = .ok (.if_icmp .ge 18, 3) := by decide +kernel
theorem dX2_valueOfToken_22 : decode cX2_valueOfToken 22 = .ok (.iload_n 1, 1) := by decide +kernel
theorem dX2_valueOfToken_23 : decode cX2_valueOfToken 23 = .ok (.bipush 10, 2) := by decide +kernel
theorem dX2_valueOfToken_25 : decode cX2_valueOfToken 25 = .ok (.imul, 1) := by decide +kernel
theorem dX2_valueOfToken_26 : decode cX2_valueOfToken 26 = .ok (.aload_n 0, 1) := by decide +kernel
theorem dX2_valueOfToken_27 : decode cX2_valueOfToken 27 = .ok (.getfield 9, 3) := by decide +kernel
theorem dX2_valueOfToken_30 : decode cX2_valueOfToken 30 = .ok (.iload_n 2, 1) := by decide +kernel
theorem dX2_valueOfToken_31 : decode cX2_valueOfToken 31 = .ok (.iaload, 1) := by decide +kernel
theorem dX2_valueOfToken_32 : decode cX2_valueOfToken 32 = .ok (.iadd, 1) := by decide +kernel
theorem dX2_valueOfToken_33 : decode cX2_valueOfToken 33 = .ok (.bipush 48, 2) := by decide +kernel
theorem dX2_valueOfToken_35 : decode cX2_valueOfToken 35 = .ok (.isub, 1) := by decide +kernel
theorem dX2_valueOfToken_36 : decode cX2_valueOfToken 36 = .ok (.istore_n 1, 1) := by decide +kernel
theorem dX2_valueOfToken_37 : decode cX2_valueOfToken 37 = .ok (.iinc 2 1, 3) := by decide +kernel
theorem dX2_valueOfToken_40 : decode cX2_valueOfToken 40 = .ok (.goto (-33), 3) := by decide +kernel
theorem dX2_valueOfToken_43 : decode cX2_valueOfToken 43 = .ok (.iload_n 1, 1) := by decide +kernel
theorem dX2_valueOfToken_44 : decode cX2_valueOfToken 44 = .ok (.ireturn, 1) := by decide +kernel
theorem dX2_isAt_0 : decode cX2_isAt 0 = .ok (.aload_n 0, 1) := by decide +kernel
theorem dX2_isAt_1 : decode cX2_isAt 1 = .ok (.getfield 19, 3) := by decide +kernel
theorem dX2_isAt_4 : decode cX2_isAt 4 = .ok (.iconst 1, 1) := by decide +kernel
theorem dX2_isAt_5 : decode cX2_isAt 5 = .ok (.if_icmp .ne 19, 3) := by decide +kernel
theorem dX2_isAt_8 : decode cX2_isAt 8 = .ok (.aload_n 0, 1) := by decide +kernel
theorem dX2_isAt_9 : decode cX2_isAt 9 = .ok (.getfield 25, 3) := by decide +kernel
theorem dX2_isAt_12 : decode cX2_isAt 12 = .ok (.aload_n 0, 1) := by decide +kernel
theorem dX2_isAt_13 : decode cX2_isAt 13 = .ok (.getfield 22, 3) := by decide +kernel
theorem dX2_isAt_16 : decode cX2_isAt 16 = .ok (.isub, 1) := by decide +kernel
theorem dX2_isAt_17 : decode cX2_isAt 17 = .ok (.aload_n 1, 1) := by decide +kernel
theorem dX2_isAt_18 : decode cX2_isAt 18 = .ok (.invokevirtual 42, 3) := by decide +kernel
theorem dX2_isAt_21 : decode cX2_isAt 21 = .ok (.if_icmp .eq 5, 3) := by decide +kernel
theorem dX2_isAt_24 : decode cX2_isAt 24 = .ok (.iconst 0, 1) := by decide +kernel
theorem dX2_isAt_25 : decode cX2_isAt 25 = .ok (.ireturn, 1) := by decide +kernel
theorem dX2_isAt_26 : decode cX2_isAt 26 = .ok (.iconst 0, 1) := by decide +kernel
theorem dX2_isAt_27 : decode cX2_isAt 27 = .ok (.istore_n 2, 1) := by decide +kernel
theorem dX2_isAt_28 : decode cX2_isAt 28 = .ok (.iload_n 2, 1) := by decide +kernel
theorem dX2_isAt_29 : decode cX2_isAt 29 = .ok (.aload_n 1, 1) := by decide +kernel
theorem dX2_isAt_30 : decode cX2_isAt 30 = .ok (.invokevirtual 42, 3) := by decide +kernel
theorem dX2_isAt_33 : decode cX2_isAt 33 = .ok (.if_icmp .ge 30, 3) := by decide +kernel
theorem dX2_isAt_36 : decode cX2_isAt 36 = .ok (.aload_n 0, 1) := by decide +kernel
theorem dX2_isAt_37 : decode cX2_isAt 37 = .ok (.getfield 9, 3) := by decide +kernel
theorem dX2_isAt_40 : decode cX2_isAt 40 = .ok (.aload_n 0, 1) := by decide +kernel
theorem dX2_isAt_41 : decode cX2_isAt 41 = .ok (.getfield 22, 3) := by decide +kernel
theorem dX2_isAt_44 : decode cX2_isAt 44 = .ok (.iload_n 2, 1) := by decide +kernel
theorem dX2_isAt_45 : decode cX2_isAt 45 = .ok (.iadd, 1) := by decide +kernel
theorem dX2_isAt_46 : decode cX2_isAt 46 = .ok (.iaload, 1) := by decide +kernel
theorem dX2_isAt_47 : decode cX2_isAt 47 = .ok (.aload_n 1, 1) := by decide +kernel
theorem dX2_isAt_48 : decode cX2_isAt 48 = .ok (.iload_n 2, 1) := by decide +kernel
theorem dX2_isAt_49 : decode cX2_isAt 49 = .ok (.invokevirtual 46, 3) := by decide +kernel
theorem dX2_isAt_52 : decode cX2_isAt 52 = .ok (.if_icmp .eq 5, 3) := by decide +kernel
theorem dX2_isAt_55 : decode cX2_isAt 55 = .ok (.iconst 0, 1) := by decide +kernel
theorem dX2_isAt_56 : decode cX2_isAt 56 = .ok (.ireturn, 1) := by decide +kernel
theorem dX2_isAt_57 : decode cX2_isAt 57 = .ok (.iinc 2 1, 3) := by decide +kernel
theorem dX2_isAt_60 : decode cX2_isAt 60 = .ok (.goto (-32), 3) := by decide +kernel
theorem dX2_isAt_63 : decode cX2_isAt 63 = .ok (.iconst 1, 1) := by decide +kernel
theorem dX2_isAt_64 : decode cX2_isAt 64 = .ok (.ireturn, 1) := by decide +kernel
theorem dX2_pass_0 : decode cX2_pass 0 = .ok (.aload_n 0, 1) := by decide +kernel
theorem dX2_pass_1 : decode cX2_pass 1 = .ok (.aload_n 1, 1) := by decide +kernel
theorem dX2_pass_2 : decode cX2_pass 2 = .ok (.invokevirtual 50, 3) := by decide +kernel
theorem dX2_pass_5 : decode cX2_pass 5 = .ok (.istore_n 2, 1) := by decide +kernel
theorem dX2_pass_6 : decode cX2_pass 6 = .ok (.iload_n 2, 1) := by decide +kernel
theorem dX2_pass_7 : decode cX2_pass 7 = .ok (.ifCond .eq 7, 3) := by decide +kernel
theorem dX2_pass_10 : decode cX2_pass 10 = .ok (.aload_n 0, 1) := by decide +kernel
theorem dX2_pass_11 : decode cX2_pass 11 = .ok (.invokevirtual 31, 3) := by decide +kernel
theorem dX2_pass_14 : decode cX2_pass 14 = .ok (.iload_n 2, 1) := by decide +kernel
theorem dX2_pass_15 : decode cX2_pass 15 = .ok (.ireturn, 1) := by decide +kernel
theorem dX2_passNumber_0 : decode cX2_passNumber 0 = .ok (.aload_n 0, 1) := by decide +kernel
theorem dX2_passNumber_1 : decode cX2_passNumber 1 = .ok (.getfield 19, 3) := by decide +kernel
theorem dX2_passNumber_4 : decode cX2_passNumber 4 = .ok (.iconst 2, 1) := by decide +kernel
theorem dX2_passNumber_5 : decode cX2_passNumber 5 = .ok (.if_icmp .ne 11, 3) := by decide +kernel
theorem dX2_passNumber_8 : decode cX2_passNumber 8 = .ok (.aload_n 0, 1) := by decide +kernel
theorem dX2_passNumber_9 : decode cX2_passNumber 9 = .ok (.getfield 28, 3) := by decide +kernel
theorem dX2_passNumber_12 : decode cX2_passNumber 12 = .ok (.iload_n 1, 1) := by decide +kernel
theorem dX2_passNumber_13 : decode cX2_passNumber 13 = .ok (.if_icmp .le 5, 3) := by decide +kernel
theorem dX2_passNumber_16 : decode cX2_passNumber 16 = .ok (.iconst (-1), 1) := by decide +kernel
theorem dX2_passNumber_17 : decode cX2_passNumber 17 = .ok (.ireturn, 1) := by decide +kernel
theorem dX2_passNumber_18 : decode cX2_passNumber 18 = .ok (.aload_n 0, 1) := by decide +kernel
theorem dX2_passNumber_19 : decode cX2_passNumber 19 = .ok (.getfield 28, 3) := by decide +kernel
theorem dX2_passNumber_22 : decode cX2_passNumber 22 = .ok (.istore_n 2, 1) := by decide +kernel
theorem dX2_passNumber_23 : decode cX2_passNumber 23 = .ok (.aload_n 0, 1) := by decide +kernel
theorem dX2_passNumber_24 : decode cX2_passNumber 24 = .ok (.invokevirtual 31, 3) := by decide +kernel
theorem dX2_passNumber_27 : decode cX2_passNumber 27 = .ok (.iload_n 2, 1) := by decide +kernel
theorem dX2_passNumber_28 : decode cX2_passNumber 28 = .ok (.ireturn, 1) := by decide +kernel
theorem dX3_init_0 : decode cX3_init 0 = .ok (.aload_n 0, 1) := by decide +kernel
theorem dX3_init_1 : decode cX3_init 1 = .ok (.invokespecial 3, 3) := by decide +kernel
theorem dX3_init_4 : decode cX3_init 4 = .ok (.aload_n 0, 1) := by decide +kernel
theorem dX3_init_5 : decode cX3_init 5 = .ok (.iconst 0, 1) := by decide +kernel
theorem dX3_init_6 : decode cX3_init 6 = .ok (.putfield 9, 3) := by decide +kernel
theorem dX3_init_9 : decode cX3_init 9 = .ok (.aload_n 0, 1) := by decide +kernel
theorem dX3_init_10 : decode cX3_init 10 = .ok (.sipush 500, 3) := by decide +kernel
theorem dX3_init_13 : decode cX3_init 13 = .ok (.putfield 15, 3) := by decide +kernel
theorem dX3_init_16 : decode cX3_init 16 = .ok (.aload_n 0, 1) := by decide +kernel
theorem dX3_init_17 : decode cX3_init 17 = .ok (.sipush 500, 3) := by decide +kernel
theorem dX3_init_20 : decode cX3_init 20 = .ok (.putfield 18, 3) := by decide +kernel
theorem dX3_init_23 : decode cX3_init 23 = .ok (.aload_n 0, 1) := by decide +kernel
theorem dX3_init_24 : decode cX3_init 24 = .ok (.iconst 1, 1) := by decide +kernel
theorem dX3_init_25 : decode cX3_init 25 = .ok (.putfield 21, 3) := by decide +kernel
theorem dX3_init_28 : decode cX3_init 28 = .ok (.aload_n 0, 1) := by decide +kernel
theorem dX3_init_29 : decode cX3_init 29 = .ok (.iconst 0, 1) := by decide +kernel
theorem dX3_init_30 : decode cX3_init 30 = .ok (.putfield 24, 3) := by decide +kernel
theorem dX3_init_33 : decode cX3_init 33 = .ok (.aload_n 0, 1) := by decide +kernel
theorem dX3_init_34 : decode cX3_init 34 = .ok (.iconst 0, 1) := by decide +kernel
theorem dX3_init_35 : decode cX3_init 35 = .ok (.putfield 27, 3) := by decide +kernel
theorem dX3_init_38 : decode cX3_init 38 = .ok (.aload_n 0, 1) := by decide +kernel
theorem dX3_init_39 : decode cX3_init 39 = .ok (.sipush 1000, 3) := by decide +kernel
theorem dX3_init_42 : decode cX3_init 42 = .ok (.putfield 30, 3) := by decide +kernel
theorem dX3_init_45 : decode cX3_init 45 = .ok (.aload_n 0, 1) := by decide +kernel
theorem dX3_init_46 : decode cX3_init 46 = .ok (.bipush 6, 2) := by decide +kernel
theorem dX3_init_48 : decode cX3_init 48 = .ok (.newarray .int, 2) := by decide +kernel
theorem dX3_init_50 : decode cX3_init 50 = .ok (.dup, 1) := by decide +kernel
theorem dX3_init_51 : decode cX3_init 51 = .ok (.iconst 0, 1) := by decide +kernel
theorem dX3_init_52 : decode cX3_init 52 = .ok (.bipush 20, 2) := by decide +kernel
theorem dX3_init_54 : decode cX3_init 54 = .ok (.iastore, 1) := by decide +kernel
theorem dX3_init_55 : decode cX3_init 55 = .ok (.dup, 1) := by decide +kernel
theorem dX3_init_56 : decode cX3_init 56 = .ok (.iconst 1, 1) := by decide +kernel
theorem dX3_init_57 : decode cX3_init 57 = .ok (.bipush 20, 2) := by decide +kernel
theorem dX3_init_59 : decode cX3_init 59 = .ok (.iastore, 1) := by decide +kernel
theorem dX3_init_60 : decode cX3_init 60 = .ok (.dup, 1) := by decide +kernel
theorem dX3_init_61 : decode cX3_init 61 = .ok (.iconst 2, 1) := by decide +kernel
theorem dX3_init_62 : decode cX3_init 62 = .ok (.bipush 20, 2) := by decide +kernel
theorem dX3_init_64 : decode cX3_init 64 = .ok (.iastore, 1) := by decide +kernel
theorem dX3_init_65 : decode cX3_init 65 = .ok (.dup, 1) := by decide +kernel
theorem dX3_init_66 : decode cX3_init 66 = .ok (.iconst 3, 1) := by decide +kernel
theorem dX3_init_67 : decode cX3_init 67 = .ok (.bipush 20, 2) := by decide +kernel
theorem dX3_init_69 : decode cX3_init 69 = .ok (.iastore, 1) := by decide +kernel
theorem dX3_init_70 : decode cX3_init 70 = .ok (.dup, 1) := by decide +kernel
theorem dX3_init_71 : decode cX3_init 71 = .ok (.iconst 4, 1) := by decide +kernel
theorem dX3_init_72 : decode cX3_init 72 = .ok (.bipush 20, 2) := by decide +kernel
theorem dX3_init_74 : decode cX3_init 74 = .ok (.iastore, 1) := by decide +kernel
theorem dX3_init_75 : decode cX3_init 75 = .ok (.dup, 1) := by decide +kernel
theorem dX3_init_76 : decode cX3_init 76 = .ok (.iconst 5, 1) := by decide +kernel
theorem dX3_init_77 : decode cX3_init 77 = .ok (.bipush 20, 2) := by decide +kernel
theorem dX3_init_79 : decode cX3_init 79 = .ok (.iastore, 1) := by decide +kernel
theorem dX3_init_80 : decode cX3_init 80 = .ok (.putfield 33, 3) := by decide +kernel
theorem dX3_init_83 : decode cX3_init 83 = .ok (.aload_n 0, 1) := by decide +kernel
theorem dX3_init_84 : decode cX3_init 84 = .ok (.bipush 6, 2) := by decide +kernel
theorem dX3_init_86 : decode cX3_init 86 = .ok (.newarray .int, 2) := by decide +kernel
theorem dX3_init_88 : decode cX3_init 88 = .ok (.putfield 37, 3) := by decide +kernel
theorem dX3_init_91 : decode cX3_init 91 = .ok (.aload_n 0, 1) := by decide +kernel
theorem dX3_init_92 : decode cX3_init 92 = .ok (.iconst 0, 1) := by decide +kernel
theorem dX3_init_93 : decode cX3_init 93 = .ok (.putfield 40, 3) := by decide +kernel
theorem dX3_init_96 : decode cX3_init 96 = .ok (.aload_n 0, 1) := by decide +kernel
theorem dX3_init_97 : decode cX3_init 97 = .ok (.bipush 8, 2) := by decide +kernel
theorem dX3_init_99 : decode cX3_init 99 = .ok (.newarray .int, 2) := by decide +kernel
theorem dX3_init_101 : decode cX3_init 101 = .ok (.putfield 43, 3) := by decide +kernel
theorem dX3_init_104 : decode cX3_init 104 = .ok (.aload_n 0, 1) := by decide +kernel
theorem dX3_init_105 : decode cX3_init 105 = .ok (.bipush 8, 2) := by decide +kernel
theorem dX3_init_107 : decode cX3_init 107 = .ok (.newarray .int, 2) := by decide +kernel
theorem dX3_init_109 : decode cX3_init 109 = .ok (.putfield 46, 3) := by decide +kernel
theorem dX3_init_112 : decode cX3_init 112 = .ok (.aload_n 0, 1) := by decide +kernel
theorem dX3_init_113 : decode cX3_init 113 = .ok (.bipush 8, 2) := by decide +kernel
theorem dX3_init_115 : decode cX3_init 115 = .ok (.newarray .int, 2) := by decide +kernel
theorem dX3_init_117 : decode cX3_init 117 = .ok (.putfield 49, 3) := by decide +kernel
theorem dX3_init_120 : decode cX3_init 120 = .ok (.aload_n 0, 1) := by decide +kernel
theorem dX3_init_121 : decode cX3_init 121 = .ok (.bipush 8, 2) := by decide +kernel
theorem dX3_init_123 : decode cX3_init 123 = .ok (.newarray .int, 2) := by decide +kernel
theorem dX3_init_125 : decode cX3_init 125 = .ok (.putfield 52, 3) := by decide +kernel
theorem dX3_init_128 : decode cX3_init 128 = .ok (.aload_n 0, 1) := by decide +kernel
theorem dX3_init_129 : decode cX3_init 129 = .ok (.bipush 8, 2) := by decide +kernel
theorem dX3_init_131 : decode cX3_init 131 = .ok (.newarray .int, 2) := by decide +kernel
theorem dX3_init_133 : decode cX3_init 133 = .ok (.putfield 55, 3) := by decide +kernel
theorem dX3_init_136 : decode cX3_init 136 = .ok (.aload_n 0, 1) := by decide +kernel
theorem dX3_init_137 : decode cX3_init 137 = .ok (.bipush 8, 2) := by decide +kernel
theorem dX3_init_139 : decode cX3_init 139 = .ok (.newarray .int, 2) := by decide +kernel
theorem dX3_init_141 : decode cX3_init 141 = .ok (.putfield 58, 3) := by decide +kernel
theorem dX3_init_144 : decode cX3_init 144 = .ok (.return_, 1) := by decide +kernel
theorem dX3_become_0 : decode cX3_become 0 = .ok (.aload_n 0, 1) := by decide +kernel
theorem dX3_become_1 : decode cX3_become 1 = .ok (.aload_n 1, 1) := by decide +kernel
theorem dX3_become_2 : decode cX3_become 2 = .ok (.getfield 9, 3) := by decide +kernel
theorem dX3_become_5 : decode cX3_become 5 = .ok (.putfield 9, 3) := by decide +kernel
theorem dX3_become_8 : decode cX3_become 8 = .ok (.aload_n 0, 1) := by decide +kernel
theorem dX3_become_9 : decode cX3_become 9 = .ok (.aload_n 1, 1) := by decide +kernel
theorem dX3_become_10 : decode cX3_become 10 = .ok (.getfield 15, 3) := by decide +kernel
theorem dX3_become_13 : decode cX3_become 13 = .ok (.putfield 15, 3) := by decide +kernel
theorem dX3_become_16 : decode cX3_become 16 = .ok (.aload_n 0, 1) := by decide +kernel
theorem dX3_become_17 : decode cX3_become 17 = .ok (.aload_n 1, 1) := by decide +kernel
theorem dX3_become_18 : decode cX3_become 18 = .ok (.getfield 18, 3) := by decide +kernel
theorem dX3_become_21 : decode cX3_become 21 = .ok (.putfield 18, 3) := by decide +kernel
theorem dX3_become_24 : decode cX3_become 24 = .ok (.aload_n 0, 1) := by decide +kernel
theorem dX3_become_25 : decode cX3_become 25 = .ok (.aload_n 1, 1) := by decide +kernel
theorem dX3_become_26 : decode cX3_become 26 = .ok (.getfield 21, 3) := by decide +kernel
theorem dX3_become_29 : decode cX3_become 29 = .ok (.putfield 21, 3) := by decide +kernel
theorem dX3_become_32 : decode cX3_become 32 = .ok (.aload_n 0, 1) := by decide +kernel
theorem dX3_become_33 : decode cX3_become 33 = .ok (.aload_n 1, 1) := by decide +kernel
theorem dX3_become_34 : decode cX3_become 34 = .ok (.getfield 24, 3) := by decide +kernel
theorem dX3_become_37 : decode cX3_become 37 = .ok (.putfield 24, 3) := by decide +kernel
theorem dX3_become_40 : decode cX3_become 40 = .ok (.aload_n 0, 1) := by decide +kernel
theorem dX3_become_41 : decode cX3_become 41 = .ok (.aload_n 1, 1) := by decide +kernel
theorem dX3_become_42 : decode cX3_become 42 = .ok (.getfield 27, 3) := by decide +kernel
theorem dX3_become_45 : decode cX3_become 45 = .ok (.putfield 27, 3) := by decide +kernel
theorem dX3_become_48 : decode cX3_become 48 = .ok (.aload_n 0, 1) := by decide +kernel
theorem dX3_become_49 : decode cX3_become 49 = .ok (.sipush 1000, 3) := by decide +kernel
theorem dX3_become_52 : decode cX3_become 52 = .ok (.putfield 30, 3) := by decide +kernel
theorem dX3_become_55 : decode cX3_become 55 = .ok (.aload_n 0, 1) := by decide +kernel
theorem dX3_become_56 : decode cX3_become 56 = .ok (.aload_n 1, 1) := by decide +kernel
theorem dX3_become_57 : decode cX3_become 57 = .ok (.getfield 40, 3) := by decide +kernel
theorem dX3_become_60 : decode cX3_become 60 = .ok (.putfield 40, 3) := by decide +kernel
theorem dX3_become_63 : decode cX3_become 63 = .ok (.aload_n 1, 1) := by decide +kernel
theorem dX3_become_64 : decode cX3_become 64 = .ok (.getfield 33, 3) := by decide +kernel
theorem dX3_become_67 : decode cX3_become 67 = .ok (.iconst 0, 1) := by decide +kernel
theorem dX3_become_68 : decode cX3_become 68 = .ok (.aload_n 0, 1) := by decide +kernel
theorem dX3_become_69 : decode cX3_become 69 = .ok (.getfield 33, 3) := by decide +kernel
theorem dX3_become_72 : decode cX3_become 72 = .ok (.iconst 0, 1) := by decide +kernel
theorem dX3_become_73 : decode cX3_become 73 = .ok (.bipush 6, 2) := by decide +kernel
theorem dX3_become_75 : decode cX3_become 75 = .ok (.invokestatic 61, 3) := by decide +kernel
theorem dX3_become_78 : decode cX3_become 78 = .ok (.aload_n 1, 1) := by decide +kernel
theorem dX3_become_79 : decode cX3_become 79 = .ok (.getfield 37, 3) := by decide +kernel
theorem dX3_become_82 : decode cX3_become 82 = .ok (.iconst 0, 1) := by decide +kernel
theorem dX3_become_83 : decode cX3_become 83 = .ok (.aload_n 0, 1) := by decide +kernel
theorem dX3_become_84 : decode cX3_become 84 = .ok (.getfield 37, 3) := by decide +kernel
theorem dX3_become_87 : decode cX3_become 87 = .ok (.iconst 0, 1) := by decide +kernel
theorem dX3_become_88 : decode cX3_become 88 = .ok (.bipush 6, 2) := by decide +kernel
theorem dX3_become_90 : decode cX3_become 90 = .ok (.invokestatic 61, 3) := by decide +kernel
theorem dX3_become_93 : decode cX3_become 93 = .ok (.aload_n 1, 1) := by decide +kernel
theorem dX3_become_94 : decode cX3_become 94 = .ok (.getfield 43, 3) := by decide +kernel
theorem dX3_become_97 : decode cX3_become 97 = .ok (.iconst 0, 1) := by decide +kernel
theorem dX3_become_98 : decode cX3_become 98 = .ok (.aload_n 0, 1) := by decide +kernel
theorem dX3_become_99 : decode cX3_become 99 = .ok (.getfield 43, 3) := by decide +kernel
theorem dX3_become_102 : decode cX3_become 102 = .ok (.iconst 0, 1) := by decide +kernel
theorem dX3_become_103 : decode cX3_become 103 = .ok (.bipush 8, 2) := by decide +kernel
theorem dX3_become_105 : decode cX3_become 105 = .ok (.invokestatic 61, 3) := by decide +kernel
theorem dX3_become_108 : decode cX3_become 108 = .ok (.aload_n 1, 1) := by decide +kernel
theorem dX3_become_109 : decode cX3_become 109 = .ok (.getfield 46, 3) := by decide +kernel
theorem dX3_become_112 : decode cX3_become 112 = .ok (.iconst 0, 1) := by decide +kernel
theorem dX3_become_113 : decode cX3_become 113 = .ok (.aload_n 0, 1) := by decide +kernel
theorem dX3_become_114 : decode cX3_become 114 = .ok (.getfield 46, 3) := by decide +kernel
theorem dX3_become_117 : decode cX3_become 117 = .ok (.iconst 0, 1) := by decide +kernel
theorem dX3_become_118 : decode cX3_become 118 = .ok (.bipush 8, 2) := by decide +kernel
theorem dX3_become_120 : decode cX3_become 120 = .ok (.invokestatic 61, 3) := by decide +kernel
theorem dX3_become_123 : decode cX3_become 123 = .ok (.aload_n 1, 1) := by decide +kernel
theorem dX3_become_124 : decode cX3_become 124 = .ok (.getfield 49, 3) := by decide +kernel
theorem dX3_become_127 : decode cX3_become 127 = .ok (.iconst 0, 1) := by decide +kernel
theorem dX3_become_128 : decode cX3_become 128 = .ok (.aload_n 0, 1) := by decide +kernel
theorem dX3_become_129 : decode cX3_become 129 = .ok (.getfield 49, 3) := by decide +kernel
theorem dX3_become_132 : decode cX3_become 132 = .ok (.iconst 0, 1) := by decide +kernel
theorem dX3_become_133 : decode cX3_become 133 = .ok (.bipush 8, 2) := by decide +kernel
theorem dX3_become_135 : decode cX3_become 135 = .ok (.invokestatic 61, 3) := by decide +kernel
theorem dX3_become_138 : decode cX3_become 138 = .ok (.aload_n 1, 1) := by decide +kernel
theorem dX3_become_139 : decode cX3_become 139 = .ok (.getfield 52, 3) := by decide +kernel
theorem dX3_become_142 : decode cX3_become 142 = .ok (.iconst 0, 1) := by decide +kernel
theorem dX3_become_143 : decode cX3_become 143 = .ok (.aload_n 0, 1) := by decide +kernel
theorem dX3_become_144 : decode cX3_become 144 = .ok (.getfield 52, 3) := by decide +kernel
theorem dX3_become_147 : decode cX3_become 147 = .ok (.iconst 0, 1) := by decide +kernel
theorem dX3_become_148 : decode cX3_become 148 = .ok (.bipush 8, 2) := by decide +kernel
theorem dX3_become_150 : decode cX3_become 150 = .ok (.invokestatic 61, 3) := by decide +kernel
theorem dX3_become_153 : decode cX3_become 153 = .ok (.aload_n 1, 1) := by decide +kernel
theorem dX3_become_154 : decode cX3_become 154 = .ok (.getfield 55, 3) := by decide +kernel
theorem dX3_become_157 : decode cX3_become 157 = .ok (.iconst 0, 1) := by decide +kernel
theorem dX3_become_158 : decode cX3_become 158 = .ok (.aload_n 0, 1) := by decide +kernel
theorem dX3_become_159 : decode cX3_become 159 = .ok (.getfield 55, 3) := by decide +kernel
theorem dX3_become_162 : decode cX3_become 162 = .ok (.iconst 0, 1) := by decide +kernel
theorem dX3_become_163 : decode cX3_become 163 = .ok (.bipush 8, 2) := by decide +kernel
theorem dX3_become_165 : decode cX3_become 165 = .ok (.invokestatic 61, 3) := by decide +kernel
theorem dX3_become_168 : decode cX3_become 168 = .ok (.aload_n 1, 1) := by decide +kernel
theorem dX3_become_169 : decode cX3_become 169 = .ok (.getfield 58, 3) := by decide +kernel
theorem dX3_become_172 : decode cX3_become 172 = .ok (.iconst 0, 1) := by decide +kernel
theorem dX3_become_173 : decode cX3_become 173 = .ok (.aload_n 0, 1) := by decide +kernel
theorem dX3_become_174 : decode cX3_become 174 = .ok (.getfield 58, 3) := by decide +kernel
theorem dX3_become_177 : decode cX3_become 177 = .ok (.iconst 0, 1) := by decide +kernel
theorem dX3_become_178 : decode cX3_become 178 = .ok (.bipush 8, 2) := by decide +kernel
theorem dX3_become_180 : decode cX3_become 180 = .ok (.invokestatic 61, 3) := by decide +kernel
theorem dX3_become_183 : decode cX3_become 183 = .ok (.return_, 1) := by decide +kernel
theorem dX3_changeFigure_0 : decode cX3_changeFigure 0 = .ok (.iload_n 1, 1) := by decide +kernel
theorem dX3_changeFigure_1 : decode cX3_changeFigure 1 = .ok (.tableswitch 63 0 2 #[27, 39, 51], 27) := by decide +kernel
theorem dX3_changeFigure_28 : decode cX3_changeFigure 28 = .ok (.aload_n 0, 1) := by decide +kernel
theorem dX3_changeFigure_29 : decode cX3_changeFigure 29 = .ok (.getfield 15, 3) := by decide +kernel
theorem dX3_changeFigure_32 : decode cX3_changeFigure 32 = .ok (.istore_n 3, 1) := by decide +kernel
theorem dX3_changeFigure_33 : decode cX3_changeFigure 33 = .ok (.aload_n 0, 1) := by decide +kernel
theorem dX3_changeFigure_34 : decode cX3_changeFigure 34 = .ok (.iload_n 2, 1) := by decide +kernel
theorem dX3_changeFigure_35 : decode cX3_changeFigure 35 = .ok (.putfield 15, 3) := by decide +kernel
theorem dX3_changeFigure_38 : decode cX3_changeFigure 38 = .ok (.iload_n 3, 1) := by decide +kernel
theorem dX3_changeFigure_39 : decode cX3_changeFigure 39 = .ok (.ireturn, 1) := by decide +kernel
theorem dX3_changeFigure_40 : decode cX3_changeFigure 40 = .ok (.aload_n 0, 1) := by decide +kernel
theorem dX3_changeFigure_41 : decode cX3_changeFigure 41 = .ok (.getfield 18, 3) := by decide +kernel
theorem dX3_changeFigure_44 : decode cX3_changeFigure 44 = .ok (.istore_n 3, 1) := by decide +kernel
theorem dX3_changeFigure_45 : decode cX3_changeFigure 45 = .ok (.aload_n 0, 1) := by decide +kernel
theorem dX3_changeFigure_46 : decode cX3_changeFigure 46 = .ok (.iload_n 2, 1) := by decide +kernel
theorem dX3_changeFigure_47 : decode cX3_changeFigure 47 = .ok (.putfield 18, 3) := by decide +kernel
theorem dX3_changeFigure_50 : decode cX3_changeFigure 50 = .ok (.iload_n 3, 1) := by decide +kernel
theorem dX3_changeFigure_51 : decode cX3_changeFigure 51 = .ok (.ireturn, 1) := by decide +kernel
theorem dX3_changeFigure_52 : decode cX3_changeFigure 52 = .ok (.aload_n 0, 1) := by decide +kernel
theorem dX3_changeFigure_53 : decode cX3_changeFigure 53 = .ok (.getfield 21, 3) := by decide +kernel
theorem dX3_changeFigure_56 : decode cX3_changeFigure 56 = .ok (.istore_n 3, 1) := by decide +kernel
theorem dX3_changeFigure_57 : decode cX3_changeFigure 57 = .ok (.aload_n 0, 1) := by decide +kernel
theorem dX3_changeFigure_58 : decode cX3_changeFigure 58 = .ok (.iload_n 2, 1) := by decide +kernel
theorem dX3_changeFigure_59 : decode cX3_changeFigure 59 = .ok (.putfield 21, 3) := by decide +kernel
theorem dX3_changeFigure_62 : decode cX3_changeFigure 62 = .ok (.iload_n 3, 1) := by decide +kernel
theorem dX3_changeFigure_63 : decode cX3_changeFigure 63 = .ok (.ireturn, 1) := by decide +kernel
theorem dX3_changeFigure_64 : decode cX3_changeFigure 64 = .ok (.aload_n 0, 1) := by decide +kernel
theorem dX3_changeFigure_65 : decode cX3_changeFigure 65 = .ok (.getfield 24, 3) := by decide +kernel
theorem dX3_changeFigure_68 : decode cX3_changeFigure 68 = .ok (.istore_n 3, 1) := by decide +kernel
theorem dX3_changeFigure_69 : decode cX3_changeFigure 69 = .ok (.aload_n 0, 1) := by decide +kernel
theorem dX3_changeFigure_70 : decode cX3_changeFigure 70 = .ok (.iload_n 2, 1) := by decide +kernel
theorem dX3_changeFigure_71 : decode cX3_changeFigure 71 = .ok (.putfield 24, 3) := by decide +kernel
theorem dX3_changeFigure_74 : decode cX3_changeFigure 74 = .ok (.iload_n 3, 1) := by decide +kernel
theorem dX3_changeFigure_75 : decode cX3_changeFigure 75 = .ok (.ireturn, 1) := by decide +kernel
theorem dX3_letGoAll_0 : decode cX3_letGoAll 0 = .ok (.iconst 0, 1) := by decide +kernel
theorem dX3_letGoAll_1 : decode cX3_letGoAll 1 = .ok (.istore_n 2, 1) := by decide +kernel
theorem dX3_letGoAll_2 : decode cX3_letGoAll 2 = .ok (.iload_n 2, 1) := by decide +kernel
theorem dX3_letGoAll_3 : decode cX3_letGoAll 3 = .ok (.bipush 6, 2) := by decide +kernel
theorem dX3_letGoAll_5 : decode cX3_letGoAll 5 = .ok (.if_icmp .ge 20, 3) := by decide +kernel
theorem dX3_letGoAll_8 : decode cX3_letGoAll 8 = .ok (.aload_n 0, 1) := by decide +kernel
theorem dX3_letGoAll_9 : decode cX3_letGoAll 9 = .ok (.getfield 37, 3) := by decide +kernel
theorem dX3_letGoAll_12 : decode cX3_letGoAll 12 = .ok (.iload_n 2, 1) := by decide +kernel
theorem dX3_letGoAll_13 : decode cX3_letGoAll 13 = .ok (.iload_n 1, 1) := by decide +kernel
theorem dX3_letGoAll_14 : decode cX3_letGoAll 14 = .ok (.iload_n 2, 1) := by decide +kernel
theorem dX3_letGoAll_15 : decode cX3_letGoAll 15 = .ok (.ishr, 1) := by decide +kernel
theorem dX3_letGoAll_16 : decode cX3_letGoAll 16 = .ok (.iconst 1, 1) := by decide +kernel
theorem dX3_letGoAll_17 : decode cX3_letGoAll 17 = .ok (.iand, 1) := by decide +kernel
theorem dX3_letGoAll_18 : decode cX3_letGoAll 18 = .ok (.iastore, 1) := by decide +kernel
theorem dX3_letGoAll_19 : decode cX3_letGoAll 19 = .ok (.iinc 2 1, 3) := by decide +kernel
theorem dX3_letGoAll_22 : decode cX3_letGoAll 22 = .ok (.goto (-20), 3) := by decide +kernel
theorem dX3_letGoAll_25 : decode cX3_letGoAll 25 = .ok (.return_, 1) := by decide +kernel
theorem dX3_has_0 : decode cX3_has 0 = .ok (.iload_n 1, 1) := by decide +kernel
theorem dX3_has_1 : decode cX3_has 1 = .ok (.ifCond .lt 15, 3) := by decide +kernel
theorem dX3_has_4 : decode cX3_has 4 = .ok (.iload_n 1, 1) := by decide +kernel
theorem dX3_has_5 : decode cX3_has 5 = .ok (.aload_n 0, 1) := by decide +kernel
theorem dX3_has_6 : decode cX3_has 6 = .ok (.getfield 40, 3) := by decide +kernel
theorem dX3_has_9 : decode cX3_has 9 = .ok (.if_icmp .ge 7, 3) := by decide +kernel
theorem dX3_has_12 : decode cX3_has 12 = .ok (.iconst 1, 1) := by decide +kernel
theorem dX3_has_13 : decode cX3_has 13 = .ok (.goto 4, 3) := by decide +kernel
theorem dX3_has_16 : decode cX3_has 16 = .ok (.iconst 0, 1) := by decide +kernel
theorem dX3_has_17 : decode cX3_has 17 = .ok (.ireturn, 1) := by decide +kernel
theorem dX3_isFull_0 : decode cX3_isFull 0 = .ok (.aload_n 0, 1) := by decide +kernel
theorem dX3_isFull_1 : decode cX3_isFull 1 = .ok (.getfield 40, 3) := by decide +kernel
theorem dX3_isFull_4 : decode cX3_isFull 4 = .ok (.bipush 8, 2) := by decide +kernel
theorem dX3_isFull_6 : decode cX3_isFull 6 = .ok (.if_icmp .lt 7, 3) := by decide +kernel
theorem dX3_isFull_9 : decode cX3_isFull 9 = .ok (.iconst 1, 1) := by decide +kernel
theorem dX3_isFull_10 : decode cX3_isFull 10 = .ok (.goto 4, 3) := by decide +kernel
theorem dX3_isFull_13 : decode cX3_isFull 13 = .ok (.iconst 0, 1) := by decide +kernel
theorem dX3_isFull_14 : decode cX3_isFull 14 = .ok (.ireturn, 1) := by decide +kernel
theorem dX3_addHole_0 : decode cX3_addHole 0 = .ok (.aload_n 0, 1) := by decide +kernel
theorem dX3_addHole_1 : decode cX3_addHole 1 = .ok (.getfield 40, 3) := by decide +kernel
theorem dX3_addHole_4 : decode cX3_addHole 4 = .ok (.istore_n 3, 1) := by decide +kernel
theorem dX3_addHole_5 : decode cX3_addHole 5 = .ok (.aload_n 0, 1) := by decide +kernel
theorem dX3_addHole_6 : decode cX3_addHole 6 = .ok (.getfield 43, 3) := by decide +kernel
theorem dX3_addHole_9 : decode cX3_addHole 9 = .ok (.iload_n 3, 1) := by decide +kernel
theorem dX3_addHole_10 : decode cX3_addHole 10 = .ok (.iload_n 1, 1) := by decide +kernel
theorem dX3_addHole_11 : decode cX3_addHole 11 = .ok (.iastore, 1) := by decide +kernel
theorem dX3_addHole_12 : decode cX3_addHole 12 = .ok (.aload_n 0, 1) := by decide +kernel
theorem dX3_addHole_13 : decode cX3_addHole 13 = .ok (.getfield 46, 3) := by decide +kernel
theorem dX3_addHole_16 : decode cX3_addHole 16 = .ok (.iload_n 3, 1) := by decide +kernel
theorem dX3_addHole_17 : decode cX3_addHole 17 = .ok (.iload_n 2, 1) := by decide +kernel
theorem dX3_addHole_18 : decode cX3_addHole 18 = .ok (.iastore, 1) := by decide +kernel
theorem dX3_addHole_19 : decode cX3_addHole 19 = .ok (.aload_n 0, 1) := by decide +kernel
theorem dX3_addHole_20 : decode cX3_addHole 20 = .ok (.getfield 49, 3) := by decide +kernel
theorem dX3_addHole_23 : decode cX3_addHole 23 = .ok (.iload_n 3, 1) := by decide +kernel
theorem dX3_addHole_24 : decode cX3_addHole 24 = .ok (.iconst 5, 1) := by decide +kernel
theorem dX3_addHole_25 : decode cX3_addHole 25 = .ok (.iastore, 1) := by decide +kernel
theorem dX3_addHole_26 : decode cX3_addHole 26 = .ok (.aload_n 0, 1) := by decide +kernel
theorem dX3_addHole_27 : decode cX3_addHole 27 = .ok (.getfield 52, 3) := by decide +kernel
theorem dX3_addHole_30 : decode cX3_addHole 30 = .ok (.iload_n 3, 1) := by decide +kernel
theorem dX3_addHole_31 : decode cX3_addHole 31 = .ok (.iconst 0, 1) := by decide +kernel
theorem dX3_addHole_32 : decode cX3_addHole 32 = .ok (.iastore, 1) := by decide +kernel
theorem dX3_addHole_33 : decode cX3_addHole 33 = .ok (.aload_n 0, 1) := by decide +kernel
theorem dX3_addHole_34 : decode cX3_addHole 34 = .ok (.getfield 55, 3) := by decide +kernel
theorem dX3_addHole_37 : decode cX3_addHole 37 = .ok (.iload_n 3, 1) := by decide +kernel
theorem dX3_addHole_38 : decode cX3_addHole 38 = .ok (.iconst 0, 1) := by decide +kernel
theorem dX3_addHole_39 : decode cX3_addHole 39 = .ok (.iastore, 1) := by decide +kernel
theorem dX3_addHole_40 : decode cX3_addHole 40 = .ok (.aload_n 0, 1) := by decide +kernel
theorem dX3_addHole_41 : decode cX3_addHole 41 = .ok (.getfield 58, 3) := by decide +kernel
theorem dX3_addHole_44 : decode cX3_addHole 44 = .ok (.iload_n 3, 1) := by decide +kernel
theorem dX3_addHole_45 : decode cX3_addHole 45 = .ok (.iconst 0, 1) := by decide +kernel
theorem dX3_addHole_46 : decode cX3_addHole 46 = .ok (.iastore, 1) := by decide +kernel
theorem dX3_addHole_47 : decode cX3_addHole 47 = .ok (.aload_n 0, 1) := by decide +kernel
theorem dX3_addHole_48 : decode cX3_addHole 48 = .ok (.dup, 1) := by decide +kernel
theorem dX3_addHole_49 : decode cX3_addHole 49 = .ok (.getfield 40, 3) := by decide +kernel
theorem dX3_addHole_52 : decode cX3_addHole 52 = .ok (.iconst 1, 1) := by decide +kernel
theorem dX3_addHole_53 : decode cX3_addHole 53 = .ok (.iadd, 1) := by decide +kernel
theorem dX3_addHole_54 : decode cX3_addHole 54 = .ok (.putfield 40, 3) := by decide +kernel
theorem dX3_addHole_57 : decode cX3_addHole 57 = .ok (.iload_n 3, 1) := by decide +kernel
theorem dX3_addHole_58 : decode cX3_addHole 58 = .ok (.ireturn, 1) := by decide +kernel
theorem dX3_rowOfHoles_0 : decode cX3_rowOfHoles 0 = .ok (.iload_n 1, 1) := by decide +kernel
theorem dX3_rowOfHoles_1 : decode cX3_rowOfHoles 1 = .ok (.tableswitch 60 0 4 #[35, 40, 45, 50, 55], 35) := by decide +kernel
theorem dX3_rowOfHoles_36 : decode cX3_rowOfHoles 36 = .ok (.aload_n 0, 1) := by decide +kernel
theorem dX3_rowOfHoles_37 : decode cX3_rowOfHoles 37 = .ok (.getfield 43, 3) := by decide +kernel
theorem dX3_rowOfHoles_40 : decode cX3_rowOfHoles 40 = .ok (.areturn, 1) := by decide +kernel
theorem dX3_rowOfHoles_41 : decode cX3_rowOfHoles 41 = .ok (.aload_n 0, 1) := by decide +kernel
theorem dX3_rowOfHoles_42 : decode cX3_rowOfHoles 42 = .ok (.getfield 46, 3) := by decide +kernel
theorem dX3_rowOfHoles_45 : decode cX3_rowOfHoles 45 = .ok (.areturn, 1) := by decide +kernel
theorem dX3_rowOfHoles_46 : decode cX3_rowOfHoles 46 = .ok (.aload_n 0, 1) := by decide +kernel
theorem dX3_rowOfHoles_47 : decode cX3_rowOfHoles 47 = .ok (.getfield 49, 3) := by decide +kernel
theorem dX3_rowOfHoles_50 : decode cX3_rowOfHoles 50 = .ok (.areturn, 1) := by decide +kernel
theorem dX3_rowOfHoles_51 : decode cX3_rowOfHoles 51 = .ok (.aload_n 0, 1) := by decide +kernel
theorem dX3_rowOfHoles_52 : decode cX3_rowOfHoles 52 = .ok (.getfield 52, 3) := by decide +kernel
theorem dX3_rowOfHoles_55 : decode cX3_rowOfHoles 55 = .ok (.areturn, 1) := by decide +kernel
theorem dX3_rowOfHoles_56 : decode cX3_rowOfHoles 56 = .ok (.aload_n 0, 1) := by decide +kernel
theorem dX3_rowOfHoles_57 : decode cX3_rowOfHoles 57 = .ok (.getfield 55, 3) := by decide +kernel
theorem dX3_rowOfHoles_60 : decode cX3_rowOfHoles 60 = .ok (.areturn, 1) := by decide +kernel
theorem dX3_rowOfHoles_61 : decode cX3_rowOfHoles 61 = .ok (.aload_n 0, 1) := by decide +kernel
theorem dX3_rowOfHoles_62 : decode cX3_rowOfHoles 62 = .ok (.getfield 58, 3) := by decide +kernel
theorem dX3_rowOfHoles_65 : decode cX3_rowOfHoles 65 = .ok (.areturn, 1) := by decide +kernel
theorem dX3_weekOfYear_0 : decode cX3_weekOfYear 0 = .ok (.aload_n 0, 1) := by decide +kernel
theorem dX3_weekOfYear_1 : decode cX3_weekOfYear 1 = .ok (.getfield 9, 3) := by decide +kernel
theorem dX3_weekOfYear_4 : decode cX3_weekOfYear 4 = .ok (.bipush 52, 2) := by decide +kernel
theorem dX3_weekOfYear_6 : decode cX3_weekOfYear 6 = .ok (.irem, 1) := by decide +kernel
theorem dX3_weekOfYear_7 : decode cX3_weekOfYear 7 = .ok (.ireturn, 1) := by decide +kernel
theorem dX3_growth_0 : decode cX3_growth 0 = .ok (.aload_n 0, 1) := by decide +kernel
theorem dX3_growth_1 : decode cX3_growth 1 = .ok (.getfield 46, 3) := by decide +kernel
theorem dX3_growth_4 : decode cX3_growth 4 = .ok (.iload_n 1, 1) := by decide +kernel
theorem dX3_growth_5 : decode cX3_growth 5 = .ok (.iaload, 1) := by decide +kernel
theorem dX3_growth_6 : decode cX3_growth 6 = .ok (.istore_n 2, 1) := by decide +kernel
theorem dX3_growth_7 : decode cX3_growth 7 = .ok (.iload_n 2, 1) := by decide +kernel
theorem dX3_growth_8 : decode cX3_growth 8 = .ok (.invokestatic 67, 3) := by decide +kernel
theorem dX3_growth_11 : decode cX3_growth 11 = .ok (.ifCond .eq 12, 3) := by decide +kernel
theorem dX3_growth_14 : decode cX3_growth 14 = .ok (.aload_n 0, 1) := by decide +kernel
theorem dX3_growth_15 : decode cX3_growth 15 = .ok (.getfield 33, 3) := by decide +kernel
theorem dX3_growth_18 : decode cX3_growth 18 = .ok (.iload_n 2, 1) := by decide +kernel
theorem dX3_growth_19 : decode cX3_growth 19 = .ok (.iaload, 1) := by decide +kernel
theorem dX3_growth_20 : decode cX3_growth 20 = .ok (.goto 4, 3) := by decide +kernel
theorem dX3_growth_23 : decode cX3_growth 23 = .ok (.iconst 0, 1) := by decide +kernel
theorem dX3_growth_24 : decode cX3_growth 24 = .ok (.istore_n 3, 1) := by decide +kernel
theorem dX3_growth_25 : decode cX3_growth 25 = .ok (.aload_n 0, 1) := by decide +kernel
theorem dX3_growth_26 : decode cX3_growth 26 = .ok (.getfield 43, 3) := by decide +kernel
theorem dX3_growth_29 : decode cX3_growth 29 = .ok (.iload_n 1, 1) := by decide +kernel
theorem dX3_growth_30 : decode cX3_growth 30 = .ok (.iaload, 1) := by decide +kernel
theorem dX3_growth_31 : decode cX3_growth 31 = .ok (.aload_n 0, 1) := by decide +kernel
theorem dX3_growth_32 : decode cX3_growth 32 = .ok (.getfield 49, 3) := by decide +kernel
theorem dX3_growth_35 : decode cX3_growth 35 = .ok (.iload_n 1, 1) := by decide +kernel
theorem dX3_growth_36 : decode cX3_growth 36 = .ok (.iaload, 1) := by decide +kernel
theorem dX3_growth_37 : decode cX3_growth 37 = .ok (.aload_n 0, 1) := by decide +kernel
theorem dX3_growth_38 : decode cX3_growth 38 = .ok (.invokevirtual 71, 3) := by decide +kernel
theorem dX3_growth_41 : decode cX3_growth 41 = .ok (.iload_n 3, 1) := by decide +kernel
theorem dX3_growth_42 : decode cX3_growth 42 = .ok (.invokestatic 75, 3) := by decide +kernel
theorem dX3_growth_45 : decode cX3_growth 45 = .ok (.ireturn, 1) := by decide +kernel
theorem dX3_price_0 : decode cX3_price 0 = .ok (.aload_n 0, 1) := by decide +kernel
theorem dX3_price_1 : decode cX3_price 1 = .ok (.getfield 43, 3) := by decide +kernel
theorem dX3_price_4 : decode cX3_price 4 = .ok (.iload_n 1, 1) := by decide +kernel
theorem dX3_price_5 : decode cX3_price 5 = .ok (.iaload, 1) := by decide +kernel
theorem dX3_price_6 : decode cX3_price 6 = .ok (.aload_n 0, 1) := by decide +kernel
theorem dX3_price_7 : decode cX3_price 7 = .ok (.getfield 49, 3) := by decide +kernel
theorem dX3_price_10 : decode cX3_price 10 = .ok (.iload_n 1, 1) := by decide +kernel
theorem dX3_price_11 : decode cX3_price 11 = .ok (.iaload, 1) := by decide +kernel
theorem dX3_price_12 : decode cX3_price 12 = .ok (.invokestatic 81, 3) := by decide +kernel
theorem dX3_price_15 : decode cX3_price 15 = .ok (.istore_n 3, 1) := by decide +kernel
theorem dX3_price_16 : decode cX3_price 16 = .ok (.iload_n 2, 1) := by decide +kernel
theorem dX3_price_17 : decode cX3_price 17 = .ok (.ifCond .ne 7, 3) := by decide +kernel
theorem dX3_price_20 : decode cX3_price 20 = .ok (.iload_n 3, 1) := by decide +kernel
theorem dX3_price_21 : decode cX3_price 21 = .ok (.goto 7, 3) := by decide +kernel
theorem dX3_price_24 : decode cX3_price 24 = .ok (.bipush 11, 2) := by decide +kernel
theorem dX3_price_26 : decode cX3_price 26 = .ok (.iload_n 3, 1) := by decide +kernel
theorem dX3_price_27 : decode cX3_price 27 = .ok (.imul, 1) := by decide +kernel
theorem dX3_price_28 : decode cX3_price 28 = .ok (.ireturn, 1) := by decide +kernel
theorem dX3_isLetGo_0 : decode cX3_isLetGo 0 = .ok (.aload_n 0, 1) := by decide +kernel
theorem dX3_isLetGo_1 : decode cX3_isLetGo 1 = .ok (.getfield 46, 3) := by decide +kernel
theorem dX3_isLetGo_4 : decode cX3_isLetGo 4 = .ok (.iload_n 1, 1) := by decide +kernel
theorem dX3_isLetGo_5 : decode cX3_isLetGo 5 = .ok (.iaload, 1) := by decide +kernel
theorem dX3_isLetGo_6 : decode cX3_isLetGo 6 = .ok (.istore_n 2, 1) := by decide +kernel
theorem dX3_isLetGo_7 : decode cX3_isLetGo 7 = .ok (.iload_n 2, 1) := by decide +kernel
theorem dX3_isLetGo_8 : decode cX3_isLetGo 8 = .ok (.invokestatic 67, 3) := by decide +kernel
theorem dX3_isLetGo_11 : decode cX3_isLetGo 11 = .ok (.ifCond .eq 16, 3) := by decide +kernel
theorem dX3_isLetGo_14 : decode cX3_isLetGo 14 = .ok (.aload_n 0, 1) := by decide +kernel
theorem dX3_isLetGo_15 : decode cX3_isLetGo 15 = .ok (.getfield 37, 3) := by decide +kernel
theorem dX3_isLetGo_18 : decode cX3_isLetGo 18 = .ok (.iload_n 2, 1) := by decide +kernel
theorem dX3_isLetGo_19 : decode cX3_isLetGo 19 = .ok (.iaload, 1) := by decide +kernel
theorem dX3_isLetGo_20 : decode cX3_isLetGo 20 = .ok (.ifCond .eq 7, 3) := by decide +kernel
theorem dX3_isLetGo_23 : decode cX3_isLetGo 23 = .ok (.iconst 1, 1) := by decide +kernel
theorem dX3_isLetGo_24 : decode cX3_isLetGo 24 = .ok (.goto 4, 3) := by decide +kernel
theorem dX3_isLetGo_27 : decode cX3_isLetGo 27 = .ok (.iconst 0, 1) := by decide +kernel
theorem dX3_isLetGo_28 : decode cX3_isLetGo 28 = .ok (.ireturn, 1) := by decide +kernel
theorem dX3_comesAheadOf_0 : decode cX3_comesAheadOf 0 = .ok (.aload_n 0, 1) := by decide +kernel
theorem dX3_comesAheadOf_1 : decode cX3_comesAheadOf 1 = .ok (.getfield 43, 3) := by decide +kernel
theorem dX3_comesAheadOf_4 : decode cX3_comesAheadOf 4 = .ok (.iload_n 1, 1) := by decide +kernel
theorem dX3_comesAheadOf_5 : decode cX3_comesAheadOf 5 = .ok (.iaload, 1) := by decide +kernel
theorem dX3_comesAheadOf_6 : decode cX3_comesAheadOf 6 = .ok (.iconst 4, 1) := by decide +kernel
theorem dX3_comesAheadOf_7 : decode cX3_comesAheadOf 7 = .ok (.if_icmp .ne 7, 3) := by decide +kernel
theorem dX3_comesAheadOf_10 : decode cX3_comesAheadOf 10 = .ok (.iconst 1, 1) := by decide +kernel
theorem dX3_comesAheadOf_11 : decode cX3_comesAheadOf 11 = .ok (.goto 4, 3) := by decide +kernel
theorem dX3_comesAheadOf_14 : decode cX3_comesAheadOf 14 = .ok (.iconst 0, 1) := by decide +kernel
theorem dX3_comesAheadOf_15 : decode cX3_comesAheadOf 15 = .ok (.istore_n 3, 1) := by decide +kernel
theorem dX3_comesAheadOf_16 : decode cX3_comesAheadOf 16 = .ok (.iload_n 3, 1) := by decide +kernel
theorem dX3_comesAheadOf_17 : decode cX3_comesAheadOf 17 = .ok (.aload_n 0, 1) := by decide +kernel
theorem dX3_comesAheadOf_18 : decode cX3_comesAheadOf 18 = .ok (.getfield 43, 3) := by decide +kernel
theorem dX3_comesAheadOf_21 : decode cX3_comesAheadOf 21 = .ok (.iload_n 2, 1) := by decide +kernel
theorem dX3_comesAheadOf_22 : decode cX3_comesAheadOf 22 = .ok (.iaload, 1) := by decide +kernel
theorem dX3_comesAheadOf_23 : decode cX3_comesAheadOf 23 = .ok (.iconst 4, 1) := by decide +kernel
theorem dX3_comesAheadOf_24 : decode cX3_comesAheadOf 24 = .ok (.if_icmp .ne 7, 3) := by decide +kernel
theorem dX3_comesAheadOf_27 : decode cX3_comesAheadOf 27 = .ok (.iconst 1, 1) := by decide +kernel
theorem dX3_comesAheadOf_28 : decode cX3_comesAheadOf 28 = .ok (.goto 4, 3) := by decide +kernel
theorem dX3_comesAheadOf_31 : decode cX3_comesAheadOf 31 = .ok (.iconst 0, 1) := by decide +kernel
theorem dX3_comesAheadOf_32 : decode cX3_comesAheadOf 32 = .ok (.if_icmp .eq 5, 3) := by decide +kernel
theorem dX3_comesAheadOf_35 : decode cX3_comesAheadOf 35 = .ok (.iload_n 3, 1) := by decide +kernel
theorem dX3_comesAheadOf_36 : decode cX3_comesAheadOf 36 = .ok (.ireturn, 1) := by decide +kernel
theorem dX3_comesAheadOf_37 : decode cX3_comesAheadOf 37 = .ok (.aload_n 0, 1) := by decide +kernel
theorem dX3_comesAheadOf_38 : decode cX3_comesAheadOf 38 = .ok (.getfield 58, 3) := by decide +kernel
theorem dX3_comesAheadOf_41 : decode cX3_comesAheadOf 41 = .ok (.iload_n 1, 1) := by decide +kernel
theorem dX3_comesAheadOf_42 : decode cX3_comesAheadOf 42 = .ok (.iaload, 1) := by decide +kernel
theorem dX3_comesAheadOf_43 : decode cX3_comesAheadOf 43 = .ok (.aload_n 0, 1) := by decide +kernel
theorem dX3_comesAheadOf_44 : decode cX3_comesAheadOf 44 = .ok (.getfield 58, 3) := by decide +kernel
theorem dX3_comesAheadOf_47 : decode cX3_comesAheadOf 47 = .ok (.iload_n 2, 1) := by decide +kernel
theorem dX3_comesAheadOf_48 : decode cX3_comesAheadOf 48 = .ok (.iaload, 1) := by decide +kernel
theorem dX3_comesAheadOf_49 : decode cX3_comesAheadOf 49 = .ok (.if_icmp .eq 24, 3) := by decide +kernel
theorem dX3_comesAheadOf_52 : decode cX3_comesAheadOf 52 = .ok (.aload_n 0, 1) := by decide +kernel
theorem dX3_comesAheadOf_53 : decode cX3_comesAheadOf 53 = .ok (.getfield 58, 3) := by decide +kernel
theorem dX3_comesAheadOf_56 : decode cX3_comesAheadOf 56 = .ok (.iload_n 1, 1) := by decide +kernel
theorem dX3_comesAheadOf_57 : decode cX3_comesAheadOf 57 = .ok (.iaload, 1) := by decide +kernel
theorem dX3_comesAheadOf_58 : decode cX3_comesAheadOf 58 = .ok (.aload_n 0, 1) := by decide +kernel
theorem dX3_comesAheadOf_59 : decode cX3_comesAheadOf 59 = .ok (.getfield 58, 3) := by decide +kernel
theorem dX3_comesAheadOf_62 : decode cX3_comesAheadOf 62 = .ok (.iload_n 2, 1) := by decide +kernel
theorem dX3_comesAheadOf_63 : decode cX3_comesAheadOf 63 = .ok (.iaload, 1) := by decide +kernel
theorem dX3_comesAheadOf_64 : decode cX3_comesAheadOf 64 = .ok (.if_icmp .le 7, 3) := by decide +kernel
theorem dX3_comesAheadOf_67 : decode cX3_comesAheadOf 67 = .ok (.iconst 1, 1) := by decide +kernel
theorem dX3_comesAheadOf_68 : decode cX3_comesAheadOf 68 = .ok (.goto 4, 3) := by decide +kernel
theorem dX3_comesAheadOf_71 : decode cX3_comesAheadOf 71 = .ok (.iconst 0, 1) := by decide +kernel
theorem dX3_comesAheadOf_72 : decode cX3_comesAheadOf 72 = .ok (.ireturn, 1) := by decide +kernel
theorem dX3_comesAheadOf_73 : decode cX3_comesAheadOf 73 = .ok (.aload_n 0, 1) := by decide +kernel
theorem dX3_comesAheadOf_74 : decode cX3_comesAheadOf 74 = .ok (.getfield 49, 3) := by decide +kernel
theorem dX3_comesAheadOf_77 : decode cX3_comesAheadOf 77 = .ok (.iload_n 1, 1) := by decide +kernel
theorem dX3_comesAheadOf_78 : decode cX3_comesAheadOf 78 = .ok (.iaload, 1) := by decide +kernel
theorem dX3_comesAheadOf_79 : decode cX3_comesAheadOf 79 = .ok (.aload_n 0, 1) := by decide +kernel
theorem dX3_comesAheadOf_80 : decode cX3_comesAheadOf 80 = .ok (.getfield 49, 3) := by decide +kernel
theorem dX3_comesAheadOf_83 : decode cX3_comesAheadOf 83 = .ok (.iload_n 2, 1) := by decide +kernel
theorem dX3_comesAheadOf_84 : decode cX3_comesAheadOf 84 = .ok (.iaload, 1) := by decide +kernel
theorem dX3_comesAheadOf_85 : decode cX3_comesAheadOf 85 = .ok (.if_icmp .le 7, 3) := by decide +kernel
theorem dX3_comesAheadOf_88 : decode cX3_comesAheadOf 88 = .ok (.iconst 1, 1) := by decide +kernel
theorem dX3_comesAheadOf_89 : decode cX3_comesAheadOf 89 = .ok (.goto 4, 3) := by decide +kernel
theorem dX3_comesAheadOf_92 : decode cX3_comesAheadOf 92 = .ok (.iconst 0, 1) := by decide +kernel
theorem dX3_comesAheadOf_93 : decode cX3_comesAheadOf 93 = .ok (.ireturn, 1) := by decide +kernel
theorem dX3_firstToFill_0 : decode cX3_firstToFill 0 = .ok (.iconst (-1), 1) := by decide +kernel
theorem dX3_firstToFill_1 : decode cX3_firstToFill 1 = .ok (.istore_n 1, 1) := by decide +kernel
theorem dX3_firstToFill_2 : decode cX3_firstToFill 2 = .ok (.iconst 0, 1) := by decide +kernel
theorem dX3_firstToFill_3 : decode cX3_firstToFill 3 = .ok (.istore_n 2, 1) := by decide +kernel
theorem dX3_firstToFill_4 : decode cX3_firstToFill 4 = .ok (.iload_n 2, 1) := by decide +kernel
theorem dX3_firstToFill_5 : decode cX3_firstToFill 5 = .ok (.aload_n 0, 1) := by decide +kernel
theorem dX3_firstToFill_6 : decode cX3_firstToFill 6 = .ok (.getfield 40, 3) := by decide +kernel
theorem dX3_firstToFill_9 : decode cX3_firstToFill 9 = .ok (.if_icmp .ge 82, 3) := by decide +kernel
theorem dX3_firstToFill_12 : decode cX3_firstToFill 12 = .ok (.aload_n 0, 1) := by decide +kernel
theorem dX3_firstToFill_13 : decode cX3_firstToFill 13 = .ok (.getfield 52, 3) := by decide +kernel
theorem dX3_firstToFill_16 : decode cX3_firstToFill 16 = .ok (.iload_n 2, 1) := by decide +kernel
theorem dX3_firstToFill_17 : decode cX3_firstToFill 17 = .ok (.iaload, 1) := by decide +kernel
theorem dX3_firstToFill_18 : decode cX3_firstToFill 18 = .ok (.ifCond .ne 67, 3) := by decide +kernel
theorem dX3_firstToFill_21 : decode cX3_firstToFill 21 = .ok (.aload_n 0, 1) := by decide +kernel
theorem dX3_firstToFill_22 : decode cX3_firstToFill 22 = .ok (.iload_n 2, 1) := by decide +kernel
theorem dX3_firstToFill_23 : decode cX3_firstToFill 23 = .ok (.invokevirtual 85, 3) := by decide +kernel
theorem dX3_firstToFill_26 : decode cX3_firstToFill 26 = .ok (.ifCond .eq 6, 3) := by decide +kernel
theorem dX3_firstToFill_29 : decode cX3_firstToFill 29 = .ok (.goto 56, 3) := by decide +kernel
theorem dX3_firstToFill_32 : decode cX3_firstToFill 32 = .ok (.aload_n 0, 1) := by decide +kernel
theorem dX3_firstToFill_33 : decode cX3_firstToFill 33 = .ok (.iload_n 2, 1) := by decide +kernel
theorem dX3_firstToFill_34 : decode cX3_firstToFill 34 = .ok (.aload_n 0, 1) := by decide +kernel
theorem dX3_firstToFill_35 : decode cX3_firstToFill 35 = .ok (.getfield 24, 3) := by decide +kernel
theorem dX3_firstToFill_38 : decode cX3_firstToFill 38 = .ok (.invokevirtual 88, 3) := by decide +kernel
theorem dX3_firstToFill_41 : decode cX3_firstToFill 41 = .ok (.istore_n 3, 1) := by decide +kernel
theorem dX3_firstToFill_42 : decode cX3_firstToFill 42 = .ok (.iload_n 3, 1) := by decide +kernel
theorem dX3_firstToFill_43 : decode cX3_firstToFill 43 = .ok (.aload_n 0, 1) := by decide +kernel
theorem dX3_firstToFill_44 : decode cX3_firstToFill 44 = .ok (.getfield 15, 3) := by decide +kernel
theorem dX3_firstToFill_47 : decode cX3_firstToFill 47 = .ok (.if_icmp .le 23, 3) := by decide +kernel
theorem dX3_firstToFill_50 : decode cX3_firstToFill 50 = .ok (.aload_n 0, 1) := by decide +kernel
theorem dX3_firstToFill_51 : decode cX3_firstToFill 51 = .ok (.aload_n 0, 1) := by decide +kernel
theorem dX3_firstToFill_52 : decode cX3_firstToFill 52 = .ok (.getfield 30, 3) := by decide +kernel
theorem dX3_firstToFill_55 : decode cX3_firstToFill 55 = .ok (.iload_n 3, 1) := by decide +kernel
theorem dX3_firstToFill_56 : decode cX3_firstToFill 56 = .ok (.aload_n 0, 1) := by decide +kernel
theorem dX3_firstToFill_57 : decode cX3_firstToFill 57 = .ok (.getfield 15, 3) := by decide +kernel
theorem dX3_firstToFill_60 : decode cX3_firstToFill 60 = .ok (.isub, 1) := by decide +kernel
theorem dX3_firstToFill_61 : decode cX3_firstToFill 61 = .ok (.invokestatic 91, 3) := by decide +kernel
theorem dX3_firstToFill_64 : decode cX3_firstToFill 64 = .ok (.putfield 30, 3) := by decide +kernel
theorem dX3_firstToFill_67 : decode cX3_firstToFill 67 = .ok (.goto 18, 3) := by decide +kernel
theorem dX3_firstToFill_70 : decode cX3_firstToFill 70 = .ok (.iload_n 1, 1) := by decide +kernel
theorem dX3_firstToFill_71 : decode cX3_firstToFill 71 = .ok (.ifCond .lt 12, 3) := by decide +kernel
theorem dX3_firstToFill_74 : decode cX3_firstToFill 74 = .ok (.aload_n 0, 1) := by decide +kernel
theorem dX3_firstToFill_75 : decode cX3_firstToFill 75 = .ok (.iload_n 2, 1) := by decide +kernel
theorem dX3_firstToFill_76 : decode cX3_firstToFill 76 = .ok (.iload_n 1, 1) := by decide +kernel
theorem dX3_firstToFill_77 : decode cX3_firstToFill 77 = .ok (.invokevirtual 96, 3) := by decide +kernel
theorem dX3_firstToFill_80 : decode cX3_firstToFill 80 = .ok (.ifCond .eq 5, 3) := by decide +kernel
theorem dX3_firstToFill_83 : decode cX3_firstToFill 83 = .ok (.iload_n 2, 1) := by decide +kernel
theorem dX3_firstToFill_84 : decode cX3_firstToFill 84 = .ok (.istore_n 1, 1) := by decide +kernel
theorem dX3_firstToFill_85 : decode cX3_firstToFill 85 = .ok (.iinc 2 1, 3) := by decide +kernel
theorem dX3_firstToFill_88 : decode cX3_firstToFill 88 = .ok (.goto (-84), 3) := by decide +kernel
theorem dX3_firstToFill_91 : decode cX3_firstToFill 91 = .ok (.iload_n 1, 1) := by decide +kernel
theorem dX3_firstToFill_92 : decode cX3_firstToFill 92 = .ok (.ireturn, 1) := by decide +kernel
theorem dX3_fillNow_0 : decode cX3_fillNow 0 = .ok (.aload_n 0, 1) := by decide +kernel
theorem dX3_fillNow_1 : decode cX3_fillNow 1 = .ok (.iload_n 1, 1) := by decide +kernel
theorem dX3_fillNow_2 : decode cX3_fillNow 2 = .ok (.iload_n 2, 1) := by decide +kernel
theorem dX3_fillNow_3 : decode cX3_fillNow 3 = .ok (.invokevirtual 88, 3) := by decide +kernel
theorem dX3_fillNow_6 : decode cX3_fillNow 6 = .ok (.istore_n 3, 1) := by decide +kernel
theorem dX3_fillNow_7 : decode cX3_fillNow 7 = .ok (.aload_n 0, 1) := by decide +kernel
theorem dX3_fillNow_8 : decode cX3_fillNow 8 = .ok (.dup, 1) := by decide +kernel
theorem dX3_fillNow_9 : decode cX3_fillNow 9 = .ok (.getfield 15, 3) := by decide +kernel
theorem dX3_fillNow_12 : decode cX3_fillNow 12 = .ok (.iload_n 3, 1) := by decide +kernel
theorem dX3_fillNow_13 : decode cX3_fillNow 13 = .ok (.isub, 1) := by decide +kernel
theorem dX3_fillNow_14 : decode cX3_fillNow 14 = .ok (.putfield 15, 3) := by decide +kernel
theorem dX3_fillNow_17 : decode cX3_fillNow 17 = .ok (.aload_n 0, 1) := by decide +kernel
theorem dX3_fillNow_18 : decode cX3_fillNow 18 = .ok (.aload_n 0, 1) := by decide +kernel
theorem dX3_fillNow_19 : decode cX3_fillNow 19 = .ok (.getfield 27, 3) := by decide +kernel
theorem dX3_fillNow_22 : decode cX3_fillNow 22 = .ok (.iload_n 3, 1) := by decide +kernel
theorem dX3_fillNow_23 : decode cX3_fillNow 23 = .ok (.iadd, 1) := by decide +kernel
theorem dX3_fillNow_24 : decode cX3_fillNow 24 = .ok (.ldc 100, 2) := by decide +kernel
theorem dX3_fillNow_26 : decode cX3_fillNow 26 = .ok (.invokestatic 91, 3) := by decide +kernel
theorem dX3_fillNow_29 : decode cX3_fillNow 29 = .ok (.putfield 27, 3) := by decide +kernel
theorem dX3_fillNow_32 : decode cX3_fillNow 32 = .ok (.aload_n 0, 1) := by decide +kernel
theorem dX3_fillNow_33 : decode cX3_fillNow 33 = .ok (.getfield 52, 3) := by decide +kernel
theorem dX3_fillNow_36 : decode cX3_fillNow 36 = .ok (.iload_n 1, 1) := by decide +kernel
theorem dX3_fillNow_37 : decode cX3_fillNow 37 = .ok (.iload_n 2, 1) := by decide +kernel
theorem dX3_fillNow_38 : decode cX3_fillNow 38 = .ok (.ifCond .ne 7, 3) := by decide +kernel
theorem dX3_fillNow_41 : decode cX3_fillNow 41 = .ok (.iconst 1, 1) := by decide +kernel
theorem dX3_fillNow_42 : decode cX3_fillNow 42 = .ok (.goto 4, 3) := by decide +kernel
theorem dX3_fillNow_45 : decode cX3_fillNow 45 = .ok (.iconst 2, 1) := by decide +kernel
theorem dX3_fillNow_46 : decode cX3_fillNow 46 = .ok (.iastore, 1) := by decide +kernel
theorem dX3_fillNow_47 : decode cX3_fillNow 47 = .ok (.aload_n 0, 1) := by decide +kernel
theorem dX3_fillNow_48 : decode cX3_fillNow 48 = .ok (.getfield 55, 3) := by decide +kernel
theorem dX3_fillNow_51 : decode cX3_fillNow 51 = .ok (.iload_n 1, 1) := by decide +kernel
theorem dX3_fillNow_52 : decode cX3_fillNow 52 = .ok (.iconst 0, 1) := by decide +kernel
theorem dX3_fillNow_53 : decode cX3_fillNow 53 = .ok (.iastore, 1) := by decide +kernel
theorem dX3_fillNow_54 : decode cX3_fillNow 54 = .ok (.aload_n 0, 1) := by decide +kernel
theorem dX3_fillNow_55 : decode cX3_fillNow 55 = .ok (.getfield 58, 3) := by decide +kernel
theorem dX3_fillNow_58 : decode cX3_fillNow 58 = .ok (.iload_n 1, 1) := by decide +kernel
theorem dX3_fillNow_59 : decode cX3_fillNow 59 = .ok (.iconst 0, 1) := by decide +kernel
theorem dX3_fillNow_60 : decode cX3_fillNow 60 = .ok (.iastore, 1) := by decide +kernel
theorem dX3_fillNow_61 : decode cX3_fillNow 61 = .ok (.return_, 1) := by decide +kernel
theorem dX3_sendMen_0 : decode cX3_sendMen 0 = .ok (.iconst 0, 1) := by decide +kernel
theorem dX3_sendMen_1 : decode cX3_sendMen 1 = .ok (.istore_n 1, 1) := by decide +kernel
theorem dX3_sendMen_2 : decode cX3_sendMen 2 = .ok (.iload_n 1, 1) := by decide +kernel
theorem dX3_sendMen_3 : decode cX3_sendMen 3 = .ok (.aload_n 0, 1) := by decide +kernel
theorem dX3_sendMen_4 : decode cX3_sendMen 4 = .ok (.getfield 21, 3) := by decide +kernel
theorem dX3_sendMen_7 : decode cX3_sendMen 7 = .ok (.if_icmp .ge 30, 3) := by decide +kernel
theorem dX3_sendMen_10 : decode cX3_sendMen 10 = .ok (.aload_n 0, 1) := by decide +kernel
theorem dX3_sendMen_11 : decode cX3_sendMen 11 = .ok (.invokevirtual 101, 3) := by decide +kernel
theorem dX3_sendMen_14 : decode cX3_sendMen 14 = .ok (.istore_n 2, 1) := by decide +kernel
theorem dX3_sendMen_15 : decode cX3_sendMen 15 = .ok (.iload_n 2, 1) := by decide +kernel
theorem dX3_sendMen_16 : decode cX3_sendMen 16 = .ok (.ifCond .ge 6, 3) := by decide +kernel
theorem dX3_sendMen_19 : decode cX3_sendMen 19 = .ok (.goto 18, 3) := by decide +kernel
theorem dX3_sendMen_22 : decode cX3_sendMen 22 = .ok (.aload_n 0, 1) := by decide +kernel
theorem dX3_sendMen_23 : decode cX3_sendMen 23 = .ok (.iload_n 2, 1) := by decide +kernel
theorem dX3_sendMen_24 : decode cX3_sendMen 24 = .ok (.aload_n 0, 1) := by decide +kernel
theorem dX3_sendMen_25 : decode cX3_sendMen 25 = .ok (.getfield 24, 3) := by decide +kernel
theorem dX3_sendMen_28 : decode cX3_sendMen 28 = .ok (.invokevirtual 104, 3) := by decide +kernel
theorem dX3_sendMen_31 : decode cX3_sendMen 31 = .ok (.iinc 1 1, 3) := by decide +kernel
theorem dX3_sendMen_34 : decode cX3_sendMen 34 = .ok (.goto (-32), 3) := by decide +kernel
theorem dX3_sendMen_37 : decode cX3_sendMen 37 = .ok (.return_, 1) := by decide +kernel
theorem dX3_wear_0 : decode cX3_wear 0 = .ok (.aload_n 0, 1) := by decide +kernel
theorem dX3_wear_1 : decode cX3_wear 1 = .ok (.getfield 52, 3) := by decide +kernel
theorem dX3_wear_4 : decode cX3_wear 4 = .ok (.iload_n 1, 1) := by decide +kernel
theorem dX3_wear_5 : decode cX3_wear 5 = .ok (.iaload, 1) := by decide +kernel
theorem dX3_wear_6 : decode cX3_wear 6 = .ok (.ifCond .ne 27, 3) := by decide +kernel
theorem dX3_wear_9 : decode cX3_wear 9 = .ok (.aload_n 0, 1) := by decide +kernel
theorem dX3_wear_10 : decode cX3_wear 10 = .ok (.getfield 49, 3) := by decide +kernel
theorem dX3_wear_13 : decode cX3_wear 13 = .ok (.iload_n 1, 1) := by decide +kernel
theorem dX3_wear_14 : decode cX3_wear 14 = .ok (.aload_n 0, 1) := by decide +kernel
theorem dX3_wear_15 : decode cX3_wear 15 = .ok (.getfield 49, 3) := by decide +kernel
theorem dX3_wear_18 : decode cX3_wear 18 = .ok (.iload_n 1, 1) := by decide +kernel
theorem dX3_wear_19 : decode cX3_wear 19 = .ok (.iaload, 1) := by decide +kernel
theorem dX3_wear_20 : decode cX3_wear 20 = .ok (.aload_n 0, 1) := by decide +kernel
theorem dX3_wear_21 : decode cX3_wear 21 = .ok (.iload_n 1, 1) := by decide +kernel
theorem dX3_wear_22 : decode cX3_wear 22 = .ok (.invokevirtual 108, 3) := by decide +kernel
theorem dX3_wear_25 : decode cX3_wear 25 = .ok (.iadd, 1) := by decide +kernel
theorem dX3_wear_26 : decode cX3_wear 26 = .ok (.bipush 99, 2) := by decide +kernel
theorem dX3_wear_28 : decode cX3_wear 28 = .ok (.invokestatic 91, 3) := by decide +kernel
theorem dX3_wear_31 : decode cX3_wear 31 = .ok (.iastore, 1) := by decide +kernel
theorem dX3_wear_32 : decode cX3_wear 32 = .ok (.return_, 1) := by decide +kernel
theorem dX3_wear_33 : decode cX3_wear 33 = .ok (.aload_n 0, 1) := by decide +kernel
theorem dX3_wear_34 : decode cX3_wear 34 = .ok (.getfield 55, 3) := by decide +kernel
theorem dX3_wear_37 : decode cX3_wear 37 = .ok (.iload_n 1, 1) := by decide +kernel
theorem dX3_wear_38 : decode cX3_wear 38 = .ok (.aload_n 0, 1) := by decide +kernel
theorem dX3_wear_39 : decode cX3_wear 39 = .ok (.getfield 55, 3) := by decide +kernel
theorem dX3_wear_42 : decode cX3_wear 42 = .ok (.iload_n 1, 1) := by decide +kernel
theorem dX3_wear_43 : decode cX3_wear 43 = .ok (.iaload, 1) := by decide +kernel
theorem dX3_wear_44 : decode cX3_wear 44 = .ok (.iconst 1, 1) := by decide +kernel
theorem dX3_wear_45 : decode cX3_wear 45 = .ok (.iadd, 1) := by decide +kernel
theorem dX3_wear_46 : decode cX3_wear 46 = .ok (.sipush 999, 3) := by decide +kernel
theorem dX3_wear_49 : decode cX3_wear 49 = .ok (.invokestatic 91, 3) := by decide +kernel
theorem dX3_wear_52 : decode cX3_wear 52 = .ok (.iastore, 1) := by decide +kernel
theorem dX3_wear_53 : decode cX3_wear 53 = .ok (.aload_n 0, 1) := by decide +kernel
theorem dX3_wear_54 : decode cX3_wear 54 = .ok (.getfield 55, 3) := by decide +kernel
theorem dX3_wear_57 : decode cX3_wear 57 = .ok (.iload_n 1, 1) := by decide +kernel
theorem dX3_wear_58 : decode cX3_wear 58 = .ok (.iaload, 1) := by decide +kernel
theorem dX3_wear_59 : decode cX3_wear 59 = .ok (.aload_n 0, 1) := by decide +kernel
theorem dX3_wear_60 : decode cX3_wear 60 = .ok (.getfield 43, 3) := by decide +kernel
theorem dX3_wear_63 : decode cX3_wear 63 = .ok (.iload_n 1, 1) := by decide +kernel
theorem dX3_wear_64 : decode cX3_wear 64 = .ok (.iaload, 1) := by decide +kernel
theorem dX3_wear_65 : decode cX3_wear 65 = .ok (.aload_n 0, 1) := by decide +kernel
theorem dX3_wear_66 : decode cX3_wear 66 = .ok (.getfield 52, 3) := by decide +kernel
theorem dX3_wear_69 : decode cX3_wear 69 = .ok (.iload_n 1, 1) := by decide +kernel
theorem dX3_wear_70 : decode cX3_wear 70 = .ok (.iaload, 1) := by decide +kernel
theorem dX3_wear_71 : decode cX3_wear 71 = .ok (.invokestatic 111, 3) := by decide +kernel
theorem dX3_wear_74 : decode cX3_wear 74 = .ok (.if_icmp .le 10, 3) := by decide +kernel
theorem dX3_wear_77 : decode cX3_wear 77 = .ok (.aload_n 0, 1) := by decide +kernel
theorem dX3_wear_78 : decode cX3_wear 78 = .ok (.getfield 52, 3) := by decide +kernel
theorem dX3_wear_81 : decode cX3_wear 81 = .ok (.iload_n 1, 1) := by decide +kernel
theorem dX3_wear_82 : decode cX3_wear 82 = .ok (.iconst 0, 1) := by decide +kernel
theorem dX3_wear_83 : decode cX3_wear 83 = .ok (.iastore, 1) := by decide +kernel
theorem dX3_wear_84 : decode cX3_wear 84 = .ok (.return_, 1) := by decide +kernel
theorem dX3_goWeek_0 : decode cX3_goWeek 0 = .ok (.aload_n 0, 1) := by decide +kernel
theorem dX3_goWeek_1 : decode cX3_goWeek 1 = .ok (.invokevirtual 114, 3) := by decide +kernel
theorem dX3_goWeek_4 : decode cX3_goWeek 4 = .ok (.iconst 0, 1) := by decide +kernel
theorem dX3_goWeek_5 : decode cX3_goWeek 5 = .ok (.istore_n 1, 1) := by decide +kernel
theorem dX3_goWeek_6 : decode cX3_goWeek 6 = .ok (.iload_n 1, 1) := by decide +kernel
theorem dX3_goWeek_7 : decode cX3_goWeek 7 = .ok (.aload_n 0, 1) := by decide +kernel
theorem dX3_goWeek_8 : decode cX3_goWeek 8 = .ok (.getfield 40, 3) := by decide +kernel
theorem dX3_goWeek_11 : decode cX3_goWeek 11 = .ok (.if_icmp .ge 14, 3) := by decide +kernel
theorem dX3_goWeek_14 : decode cX3_goWeek 14 = .ok (.aload_n 0, 1) := by decide +kernel
theorem dX3_goWeek_15 : decode cX3_goWeek 15 = .ok (.iload_n 1, 1) := by decide +kernel
theorem dX3_goWeek_16 : decode cX3_goWeek 16 = .ok (.invokevirtual 117, 3) := by decide +kernel
theorem dX3_goWeek_19 : decode cX3_goWeek 19 = .ok (.iinc 1 1, 3) := by decide +kernel
theorem dX3_goWeek_22 : decode cX3_goWeek 22 = .ok (.goto (-16), 3) := by decide +kernel
theorem dX3_goWeek_25 : decode cX3_goWeek 25 = .ok (.aload_n 0, 1) := by decide +kernel
theorem dX3_goWeek_26 : decode cX3_goWeek 26 = .ok (.dup, 1) := by decide +kernel
theorem dX3_goWeek_27 : decode cX3_goWeek 27 = .ok (.getfield 9, 3) := by decide +kernel
theorem dX3_goWeek_30 : decode cX3_goWeek 30 = .ok (.iconst 1, 1) := by decide +kernel
theorem dX3_goWeek_31 : decode cX3_goWeek 31 = .ok (.iadd, 1) := by decide +kernel
theorem dX3_goWeek_32 : decode cX3_goWeek 32 = .ok (.putfield 9, 3) := by decide +kernel
theorem dX3_goWeek_35 : decode cX3_goWeek 35 = .ok (.aload_n 0, 1) := by decide +kernel
theorem dX3_goWeek_36 : decode cX3_goWeek 36 = .ok (.invokevirtual 71, 3) := by decide +kernel
theorem dX3_goWeek_39 : decode cX3_goWeek 39 = .ok (.bipush 12, 2) := by decide +kernel
theorem dX3_goWeek_41 : decode cX3_goWeek 41 = .ok (.if_icmp .ne 11, 3) := by decide +kernel
theorem dX3_goWeek_44 : decode cX3_goWeek 44 = .ok (.aload_n 0, 1) := by decide +kernel
theorem dX3_goWeek_45 : decode cX3_goWeek 45 = .ok (.aload_n 0, 1) := by decide +kernel
theorem dX3_goWeek_46 : decode cX3_goWeek 46 = .ok (.getfield 18, 3) := by decide +kernel
theorem dX3_goWeek_49 : decode cX3_goWeek 49 = .ok (.putfield 15, 3) := by decide +kernel
theorem dX3_goWeek_52 : decode cX3_goWeek 52 = .ok (.return_, 1) := by decide +kernel
theorem dX3_goWeeks_0 : decode cX3_goWeeks 0 = .ok (.iconst 0, 1) := by decide +kernel
theorem dX3_goWeeks_1 : decode cX3_goWeeks 1 = .ok (.istore_n 2, 1) := by decide +kernel
theorem dX3_goWeeks_2 : decode cX3_goWeeks 2 = .ok (.iload_n 2, 1) := by decide +kernel
theorem dX3_goWeeks_3 : decode cX3_goWeeks 3 = .ok (.iload_n 1, 1) := by decide +kernel
theorem dX3_goWeeks_4 : decode cX3_goWeeks 4 = .ok (.if_icmp .ge 13, 3) := by decide +kernel
theorem dX3_goWeeks_7 : decode cX3_goWeeks 7 = .ok (.aload_n 0, 1) := by decide +kernel
theorem dX3_goWeeks_8 : decode cX3_goWeeks 8 = .ok (.invokevirtual 121, 3) := by decide +kernel
theorem dX3_goWeeks_11 : decode cX3_goWeeks 11 = .ok (.iinc 2 1, 3) := by decide +kernel
theorem dX3_goWeeks_14 : decode cX3_goWeeks 14 = .ok (.goto (-12), 3) := by decide +kernel
theorem dX3_goWeeks_17 : decode cX3_goWeeks 17 = .ok (.aload_n 0, 1) := by decide +kernel
theorem dX3_goWeeks_18 : decode cX3_goWeeks 18 = .ok (.areturn, 1) := by decide +kernel
theorem dX3_holesIn_0 : decode cX3_holesIn 0 = .ok (.iconst 0, 1) := by decide +kernel
theorem dX3_holesIn_1 : decode cX3_holesIn 1 = .ok (.istore_n 2, 1) := by decide +kernel
theorem dX3_holesIn_2 : decode cX3_holesIn 2 = .ok (.iconst 0, 1) := by decide +kernel
theorem dX3_holesIn_3 : decode cX3_holesIn 3 = .ok (.istore_n 3, 1) := by decide +kernel
theorem dX3_holesIn_4 : decode cX3_holesIn 4 = .ok (.iload_n 3, 1) := by decide +kernel
theorem dX3_holesIn_5 : decode cX3_holesIn 5 = .ok (.aload_n 0, 1) := by decide +kernel
theorem dX3_holesIn_6 : decode cX3_holesIn 6 = .ok (.getfield 40, 3) := by decide +kernel
theorem dX3_holesIn_9 : decode cX3_holesIn 9 = .ok (.if_icmp .ge 25, 3) := by decide +kernel
theorem dX3_holesIn_12 : decode cX3_holesIn 12 = .ok (.aload_n 0, 1) := by decide +kernel
theorem dX3_holesIn_13 : decode cX3_holesIn 13 = .ok (.getfield 46, 3) := by decide +kernel
theorem dX3_holesIn_16 : decode cX3_holesIn 16 = .ok (.iload_n 3, 1) := by decide +kernel
theorem dX3_holesIn_17 : decode cX3_holesIn 17 = .ok (.iaload, 1) := by decide +kernel
theorem dX3_holesIn_18 : decode cX3_holesIn 18 = .ok (.iload_n 1, 1) := by decide +kernel
theorem dX3_holesIn_19 : decode cX3_holesIn 19 = .ok (.if_icmp .ne 9, 3) := by decide +kernel
theorem dX3_holesIn_22 : decode cX3_holesIn 22 = .ok (.iload_n 2, 1) := by decide +kernel
theorem dX3_holesIn_23 : decode cX3_holesIn 23 = .ok (.iconst 1, 1) := by decide +kernel
theorem dX3_holesIn_24 : decode cX3_holesIn 24 = .ok (.iload_n 3, 1) := by decide +kernel
theorem dX3_holesIn_25 : decode cX3_holesIn 25 = .ok (.ishl, 1) := by decide +kernel
theorem dX3_holesIn_26 : decode cX3_holesIn 26 = .ok (.ior, 1) := by decide +kernel
theorem dX3_holesIn_27 : decode cX3_holesIn 27 = .ok (.istore_n 2, 1) := by decide +kernel
theorem dX3_holesIn_28 : decode cX3_holesIn 28 = .ok (.iinc 3 1, 3) := by decide +kernel
theorem dX3_holesIn_31 : decode cX3_holesIn 31 = .ok (.goto (-27), 3) := by decide +kernel
theorem dX3_holesIn_34 : decode cX3_holesIn 34 = .ok (.iload_n 2, 1) := by decide +kernel
theorem dX3_holesIn_35 : decode cX3_holesIn 35 = .ok (.ireturn, 1) := by decide +kernel
theorem dX3_openHoles_0 : decode cX3_openHoles 0 = .ok (.iconst 0, 1) := by decide +kernel
theorem dX3_openHoles_1 : decode cX3_openHoles 1 = .ok (.istore_n 1, 1) := by decide +kernel
theorem dX3_openHoles_2 : decode cX3_openHoles 2 = .ok (.iconst 0, 1) := by decide +kernel
theorem dX3_openHoles_3 : decode cX3_openHoles 3 = .ok (.istore_n 2, 1) := by decide +kernel
theorem dX3_openHoles_4 : decode cX3_openHoles 4 = .ok (.iload_n 2, 1) := by decide +kernel
theorem dX3_openHoles_5 : decode cX3_openHoles 5 = .ok (.aload_n 0, 1) := by decide +kernel
theorem dX3_openHoles_6 : decode cX3_openHoles 6 = .ok (.getfield 40, 3) := by decide +kernel
theorem dX3_openHoles_9 : decode cX3_openHoles 9 = .ok (.if_icmp .ge 24, 3) := by decide +kernel
theorem dX3_openHoles_12 : decode cX3_openHoles 12 = .ok (.aload_n 0, 1) := by decide +kernel
theorem dX3_openHoles_13 : decode cX3_openHoles 13 = .ok (.getfield 52, 3) := by decide +kernel
theorem dX3_openHoles_16 : decode cX3_openHoles 16 = .ok (.iload_n 2, 1) := by decide +kernel
theorem dX3_openHoles_17 : decode cX3_openHoles 17 = .ok (.iaload, 1) := by decide +kernel
theorem dX3_openHoles_18 : decode cX3_openHoles 18 = .ok (.ifCond .ne 9, 3) := by decide +kernel
theorem dX3_openHoles_21 : decode cX3_openHoles 21 = .ok (.iload_n 1, 1) := by decide +kernel
theorem dX3_openHoles_22 : decode cX3_openHoles 22 = .ok (.iconst 1, 1) := by decide +kernel
theorem dX3_openHoles_23 : decode cX3_openHoles 23 = .ok (.iload_n 2, 1) := by decide +kernel
theorem dX3_openHoles_24 : decode cX3_openHoles 24 = .ok (.ishl, 1) := by decide +kernel
theorem dX3_openHoles_25 : decode cX3_openHoles 25 = .ok (.ior, 1) := by decide +kernel
theorem dX3_openHoles_26 : decode cX3_openHoles 26 = .ok (.istore_n 1, 1) := by decide +kernel
theorem dX3_openHoles_27 : decode cX3_openHoles 27 = .ok (.iinc 2 1, 3) := by decide +kernel
theorem dX3_openHoles_30 : decode cX3_openHoles 30 = .ok (.goto (-26), 3) := by decide +kernel
theorem dX3_openHoles_33 : decode cX3_openHoles 33 = .ok (.iload_n 1, 1) := by decide +kernel
theorem dX3_openHoles_34 : decode cX3_openHoles 34 = .ok (.ireturn, 1) := by decide +kernel
theorem dX3_holesRungFor_0 : decode cX3_holesRungFor 0 = .ok (.iconst 0, 1) := by decide +kernel
theorem dX3_holesRungFor_1 : decode cX3_holesRungFor 1 = .ok (.istore_n 1, 1) := by decide +kernel
theorem dX3_holesRungFor_2 : decode cX3_holesRungFor 2 = .ok (.iconst 0, 1) := by decide +kernel
theorem dX3_holesRungFor_3 : decode cX3_holesRungFor 3 = .ok (.istore_n 2, 1) := by decide +kernel
theorem dX3_holesRungFor_4 : decode cX3_holesRungFor 4 = .ok (.iload_n 2, 1) := by decide +kernel
theorem dX3_holesRungFor_5 : decode cX3_holesRungFor 5 = .ok (.aload_n 0, 1) := by decide +kernel
theorem dX3_holesRungFor_6 : decode cX3_holesRungFor 6 = .ok (.getfield 40, 3) := by decide +kernel
theorem dX3_holesRungFor_9 : decode cX3_holesRungFor 9 = .ok (.if_icmp .ge 18, 3) := by decide +kernel
theorem dX3_holesRungFor_12 : decode cX3_holesRungFor 12 = .ok (.iload_n 1, 1) := by decide +kernel
theorem dX3_holesRungFor_13 : decode cX3_holesRungFor 13 = .ok (.aload_n 0, 1) := by decide +kernel
theorem dX3_holesRungFor_14 : decode cX3_holesRungFor 14 = .ok (.getfield 58, 3) := by decide +kernel
theorem dX3_holesRungFor_17 : decode cX3_holesRungFor 17 = .ok (.iload_n 2, 1) := by decide +kernel
theorem dX3_holesRungFor_18 : decode cX3_holesRungFor 18 = .ok (.iaload, 1) := by decide +kernel
theorem dX3_holesRungFor_19 : decode cX3_holesRungFor 19 = .ok (.iadd, 1) := by decide +kernel
theorem dX3_holesRungFor_20 : decode cX3_holesRungFor 20 = .ok (.istore_n 1, 1) := by decide +kernel
theorem dX3_holesRungFor_21 : decode cX3_holesRungFor 21 = .ok (.iinc 2 1, 3) := by decide +kernel
theorem dX3_holesRungFor_24 : decode cX3_holesRungFor 24 = .ok (.goto (-20), 3) := by decide +kernel
theorem dX3_holesRungFor_27 : decode cX3_holesRungFor 27 = .ok (.iload_n 1, 1) := by decide +kernel
theorem dX3_holesRungFor_28 : decode cX3_holesRungFor 28 = .ok (.ireturn, 1) := by decide +kernel
theorem dX3_openSize_0 : decode cX3_openSize 0 = .ok (.iconst 0, 1) := by decide +kernel
theorem dX3_openSize_1 : decode cX3_openSize 1 = .ok (.istore_n 1, 1) := by decide +kernel
theorem dX3_openSize_2 : decode cX3_openSize 2 = .ok (.iconst 0, 1) := by decide +kernel
theorem dX3_openSize_3 : decode cX3_openSize 3 = .ok (.istore_n 2, 1) := by decide +kernel
theorem dX3_openSize_4 : decode cX3_openSize 4 = .ok (.iload_n 2, 1) := by decide +kernel
theorem dX3_openSize_5 : decode cX3_openSize 5 = .ok (.aload_n 0, 1) := by decide +kernel
theorem dX3_openSize_6 : decode cX3_openSize 6 = .ok (.getfield 40, 3) := by decide +kernel
theorem dX3_openSize_9 : decode cX3_openSize 9 = .ok (.if_icmp .ge 27, 3) := by decide +kernel
theorem dX3_openSize_12 : decode cX3_openSize 12 = .ok (.aload_n 0, 1) := by decide +kernel
theorem dX3_openSize_13 : decode cX3_openSize 13 = .ok (.getfield 52, 3) := by decide +kernel
theorem dX3_openSize_16 : decode cX3_openSize 16 = .ok (.iload_n 2, 1) := by decide +kernel
theorem dX3_openSize_17 : decode cX3_openSize 17 = .ok (.iaload, 1) := by decide +kernel
theorem dX3_openSize_18 : decode cX3_openSize 18 = .ok (.ifCond .ne 12, 3) := by decide +kernel
theorem dX3_openSize_21 : decode cX3_openSize 21 = .ok (.iload_n 1, 1) := by decide +kernel
theorem dX3_openSize_22 : decode cX3_openSize 22 = .ok (.aload_n 0, 1) := by decide +kernel
theorem dX3_openSize_23 : decode cX3_openSize 23 = .ok (.getfield 49, 3) := by decide +kernel
theorem dX3_openSize_26 : decode cX3_openSize 26 = .ok (.iload_n 2, 1) := by decide +kernel
theorem dX3_openSize_27 : decode cX3_openSize 27 = .ok (.iaload, 1) := by decide +kernel
theorem dX3_openSize_28 : decode cX3_openSize 28 = .ok (.iadd, 1) := by decide +kernel
theorem dX3_openSize_29 : decode cX3_openSize 29 = .ok (.istore_n 1, 1) := by decide +kernel
theorem dX3_openSize_30 : decode cX3_openSize 30 = .ok (.iinc 2 1, 3) := by decide +kernel
theorem dX3_openSize_33 : decode cX3_openSize 33 = .ok (.goto (-29), 3) := by decide +kernel
theorem dX3_openSize_36 : decode cX3_openSize 36 = .ok (.iload_n 1, 1) := by decide +kernel
theorem dX3_openSize_37 : decode cX3_openSize 37 = .ok (.ireturn, 1) := by decide +kernel
theorem dX3_openSizeOf_0 : decode cX3_openSizeOf 0 = .ok (.iconst 0, 1) := by decide +kernel
theorem dX3_openSizeOf_1 : decode cX3_openSizeOf 1 = .ok (.istore_n 2, 1) := by decide +kernel
theorem dX3_openSizeOf_2 : decode cX3_openSizeOf 2 = .ok (.iconst 0, 1) := by decide +kernel
theorem dX3_openSizeOf_3 : decode cX3_openSizeOf 3 = .ok (.istore_n 3, 1) := by decide +kernel
theorem dX3_openSizeOf_4 : decode cX3_openSizeOf 4 = .ok (.iload_n 3, 1) := by decide +kernel
theorem dX3_openSizeOf_5 : decode cX3_openSizeOf 5 = .ok (.aload_n 0, 1) := by decide +kernel
theorem dX3_openSizeOf_6 : decode cX3_openSizeOf 6 = .ok (.getfield 40, 3) := by decide +kernel
theorem dX3_openSizeOf_9 : decode cX3_openSizeOf 9 = .ok (.if_icmp .ge 37, 3) := by decide +kernel
theorem dX3_openSizeOf_12 : decode cX3_openSizeOf 12 = .ok (.aload_n 0, 1) := by decide +kernel
theorem dX3_openSizeOf_13 : decode cX3_openSizeOf 13 = .ok (.getfield 52, 3) := by decide +kernel
theorem dX3_openSizeOf_16 : decode cX3_openSizeOf 16 = .ok (.iload_n 3, 1) := by decide +kernel
theorem dX3_openSizeOf_17 : decode cX3_openSizeOf 17 = .ok (.iaload, 1) := by decide +kernel
theorem dX3_openSizeOf_18 : decode cX3_openSizeOf 18 = .ok (.ifCond .ne 22, 3) := by decide +kernel
theorem dX3_openSizeOf_21 : decode cX3_openSizeOf 21 = .ok (.aload_n 0, 1) := by decide +kernel
theorem dX3_openSizeOf_22 : decode cX3_openSizeOf 22 = .ok (.getfield 46, 3) := by decide +kernel
theorem dX3_openSizeOf_25 : decode cX3_openSizeOf 25 = .ok (.iload_n 3, 1) := by decide +kernel
theorem dX3_openSizeOf_26 : decode cX3_openSizeOf 26 = .ok (.iaload, 1) := by decide +kernel
theorem dX3_openSizeOf_27 : decode cX3_openSizeOf 27 = .ok (.iload_n 1, 1) := by decide +kernel
theorem dX3_openSizeOf_28 : decode cX3_openSizeOf 28 = .ok (.if_icmp .ne 12, 3) := by decide +kernel
theorem dX3_openSizeOf_31 : decode cX3_openSizeOf 31 = .ok (.iload_n 2, 1) := by decide +kernel
theorem dX3_openSizeOf_32 : decode cX3_openSizeOf 32 = .ok (.aload_n 0, 1) := by decide +kernel
theorem dX3_openSizeOf_33 : decode cX3_openSizeOf 33 = .ok (.getfield 49, 3) := by decide +kernel
theorem dX3_openSizeOf_36 : decode cX3_openSizeOf 36 = .ok (.iload_n 3, 1) := by decide +kernel
theorem dX3_openSizeOf_37 : decode cX3_openSizeOf 37 = .ok (.iaload, 1) := by decide +kernel
theorem dX3_openSizeOf_38 : decode cX3_openSizeOf 38 = .ok (.iadd, 1) := by decide +kernel
theorem dX3_openSizeOf_39 : decode cX3_openSizeOf 39 = .ok (.istore_n 2, 1) := by decide +kernel
theorem dX3_openSizeOf_40 : decode cX3_openSizeOf 40 = .ok (.iinc 3 1, 3) := by decide +kernel
theorem dX3_openSizeOf_43 : decode cX3_openSizeOf 43 = .ok (.goto (-39), 3) := by decide +kernel
theorem dX3_openSizeOf_46 : decode cX3_openSizeOf 46 = .ok (.iload_n 2, 1) := by decide +kernel
theorem dX3_openSizeOf_47 : decode cX3_openSizeOf 47 = .ok (.ireturn, 1) := by decide +kernel
theorem dX4_readAll_0 : decode cX4_readAll 0 = .ok (.aload_n 0, 1) := by decide +kernel
theorem dX4_readAll_1 : decode cX4_readAll 1 = .ok (.invokevirtual 9, 3) := by decide +kernel
theorem dX4_readAll_4 : decode cX4_readAll 4 = .ok (.iconst 1, 1) := by decide +kernel
theorem dX4_readAll_5 : decode cX4_readAll 5 = .ok (.istore_n 2, 1) := by decide +kernel
theorem dX4_readAll_6 : decode cX4_readAll 6 = .ok (.iload_n 2, 1) := by decide +kernel
theorem dX4_readAll_7 : decode cX4_readAll 7 = .ok (.bipush 120, 2) := by decide +kernel
theorem dX4_readAll_9 : decode cX4_readAll 9 = .ok (.if_icmp .gt 44, 3) := by decide +kernel
theorem dX4_readAll_12 : decode cX4_readAll 12 = .ok (.aload_n 0, 1) := by decide +kernel
theorem dX4_readAll_13 : decode cX4_readAll 13 = .ok (.aload_n 1, 1) := by decide +kernel
theorem dX4_readAll_14 : decode cX4_readAll 14 = .ok (.invokestatic 14, 3) := by decide +kernel
theorem dX4_readAll_17 : decode cX4_readAll 17 = .ok (.ifCond .ne 6, 3) := by decide +kernel
theorem dX4_readAll_20 : decode cX4_readAll 20 = .ok (.goto 33, 3) := by decide +kernel
theorem dX4_readAll_23 : decode cX4_readAll 23 = .ok (.aload_n 0, 1) := by decide +kernel
theorem dX4_readAll_24 : decode cX4_readAll 24 = .ok (.getfield 20, 3) := by decide +kernel
theorem dX4_readAll_27 : decode cX4_readAll 27 = .ok (.ifCond .ne 5, 3) := by decide +kernel
theorem dX4_readAll_30 : decode cX4_readAll 30 = .ok (.iload_n 2, 1) := by decide +kernel
theorem dX4_readAll_31 : decode cX4_readAll 31 = .ok (.ireturn, 1) := by decide +kernel
theorem dX4_readAll_32 : decode cX4_readAll 32 = .ok (.aload_n 0, 1) := by decide +kernel
theorem dX4_readAll_33 : decode cX4_readAll 33 = .ok (.getfield 20, 3) := by decide +kernel
theorem dX4_readAll_36 : decode cX4_readAll 36 = .ok (.iconst 3, 1) := by decide +kernel
theorem dX4_readAll_37 : decode cX4_readAll 37 = .ok (.if_icmp .eq 6, 3) := by decide +kernel
theorem dX4_readAll_40 : decode cX4_readAll 40 = .ok (.goto 13, 3) := by decide +kernel
theorem dX4_readAll_43 : decode cX4_readAll 43 = .ok (.aload_n 0, 1) := by decide +kernel
theorem dX4_readAll_44 : decode cX4_readAll 44 = .ok (.invokevirtual 24, 3) := by decide +kernel
theorem dX4_readAll_47 : decode cX4_readAll 47 = .ok (.iinc 2 1, 3) := by decide +kernel
theorem dX4_readAll_50 : decode cX4_readAll 50 = .ok (.goto (-44), 3) := by decide +kernel
theorem dX4_readAll_53 : decode cX4_readAll 53 = .ok (.iconst (-1), 1) := by decide +kernel
theorem dX4_readAll_54 : decode cX4_readAll 54 = .ok (.aload_n 0, 1) := by decide +kernel
theorem dX4_readAll_55 : decode cX4_readAll 55 = .ok (.getfield 27, 3) := by decide +kernel
theorem dX4_readAll_58 : decode cX4_readAll 58 = .ok (.isub, 1) := by decide +kernel
theorem dX4_readAll_59 : decode cX4_readAll 59 = .ok (.ireturn, 1) := by decide +kernel
theorem dX4_readItem_0 : decode cX4_readItem 0 = .ok (.iconst 0, 1) := by decide +kernel
theorem dX4_readItem_1 : decode cX4_readItem 1 = .ok (.istore_n 2, 1) := by decide +kernel
theorem dX4_readItem_2 : decode cX4_readItem 2 = .ok (.iload_n 2, 1) := by decide +kernel
theorem dX4_readItem_3 : decode cX4_readItem 3 = .ok (.bipush 6, 2) := by decide +kernel
theorem dX4_readItem_5 : decode cX4_readItem 5 = .ok (.if_icmp .ge 27, 3) := by decide +kernel
theorem dX4_readItem_8 : decode cX4_readItem 8 = .ok (.aload_n 0, 1) := by decide +kernel
theorem dX4_readItem_9 : decode cX4_readItem 9 = .ok (.iload_n 2, 1) := by decide +kernel
theorem dX4_readItem_10 : decode cX4_readItem 10 = .ok (.invokestatic 30, 3) := by decide +kernel
theorem dX4_readItem_13 : decode cX4_readItem 13 = .ok (.invokevirtual 36, 3) := by decide +kernel
theorem dX4_readItem_16 : decode cX4_readItem 16 = .ok (.ifCond .eq 10, 3) := by decide +kernel
theorem dX4_readItem_19 : decode cX4_readItem 19 = .ok (.aload_n 0, 1) := by decide +kernel
theorem dX4_readItem_20 : decode cX4_readItem 20 = .ok (.aload_n 1, 1) := by decide +kernel
theorem dX4_readItem_21 : decode cX4_readItem 21 = .ok (.iload_n 2, 1) := by decide +kernel
theorem dX4_readItem_22 : decode cX4_readItem 22 = .ok (.invokestatic 40, 3) := by decide +kernel
theorem dX4_readItem_25 : decode cX4_readItem 25 = .ok (.ireturn, 1) := by decide +kernel
theorem dX4_readItem_26 : decode cX4_readItem 26 = .ok (.iinc 2 1, 3) := by decide +kernel
theorem dX4_readItem_29 : decode cX4_readItem 29 = .ok (.goto (-27), 3) := by decide +kernel
theorem dX4_readItem_32 : decode cX4_readItem 32 = .ok (.aload_n 0, 1) := by decide +kernel
theorem dX4_readItem_33 : decode cX4_readItem 33 = .ok (.ldc 44, 2) := by decide +kernel
theorem dX4_readItem_35 : decode cX4_readItem 35 = .ok (.invokevirtual 46, 3) := by decide +kernel
theorem dX4_readItem_38 : decode cX4_readItem 38 = .ok (.ifCond .eq 9, 3) := by decide +kernel
theorem dX4_readItem_41 : decode cX4_readItem 41 = .ok (.aload_n 0, 1) := by decide +kernel
theorem dX4_readItem_42 : decode cX4_readItem 42 = .ok (.aload_n 1, 1) := by decide +kernel
theorem dX4_readItem_43 : decode cX4_readItem 43 = .ok (.invokestatic 49, 3) := by decide +kernel
theorem dX4_readItem_46 : decode cX4_readItem 46 = .ok (.ireturn, 1) := by decide +kernel
theorem dX4_readItem_47 : decode cX4_readItem 47 = .ok (.aload_n 0, 1) := by decide +kernel
theorem dX4_readItem_48 : decode cX4_readItem 48 = .ok (.ldc 52, 2) := by decide +kernel
theorem dX4_readItem_50 : decode cX4_readItem 50 = .ok (.invokevirtual 46, 3) := by decide +kernel
theorem dX4_readItem_53 : decode cX4_readItem 53 = .ok (.ifCond .eq 28, 3) := by decide +kernel
theorem dX4_readItem_56 : decode cX4_readItem 56 = .ok (.aload_n 1, 1) := by decide +kernel
theorem dX4_readItem_57 : decode cX4_readItem 57 = .ok (.aload_n 0, 1) := by decide +kernel
theorem dX4_readItem_58 : decode cX4_readItem 58 = .ok (.sipush 9999, 3) := by decide +kernel
theorem dX4_readItem_61 : decode cX4_readItem 61 = .ok (.invokevirtual 54, 3) := by decide +kernel
theorem dX4_readItem_64 : decode cX4_readItem 64 = .ok (.putfield 58, 3) := by decide +kernel
theorem dX4_readItem_67 : decode cX4_readItem 67 = .ok (.aload_n 1, 1) := by decide +kernel
theorem dX4_readItem_68 : decode cX4_readItem 68 = .ok (.getfield 58, 3) := by decide +kernel
theorem dX4_readItem_71 : decode cX4_readItem 71 = .ok (.iconst (-1), 1) := by decide +kernel
theorem dX4_readItem_72 : decode cX4_readItem 72 = .ok (.if_icmp .eq 7, 3) := by decide +kernel
theorem dX4_readItem_75 : decode cX4_readItem 75 = .ok (.iconst 1, 1) := by decide +kernel
theorem dX4_readItem_76 : decode cX4_readItem 76 = .ok (.goto 4, 3) := by decide +kernel
theorem dX4_readItem_79 : decode cX4_readItem 79 = .ok (.iconst 0, 1) := by decide +kernel
theorem dX4_readItem_80 : decode cX4_readItem 80 = .ok (.ireturn, 1) := by decide +kernel
theorem dX4_readItem_81 : decode cX4_readItem 81 = .ok (.aload_n 0, 1) := by decide +kernel
theorem dX4_readItem_82 : decode cX4_readItem 82 = .ok (.ldc 62, 2) := by decide +kernel
theorem dX4_readItem_84 : decode cX4_readItem 84 = .ok (.invokevirtual 46, 3) := by decide +kernel
theorem dX4_readItem_87 : decode cX4_readItem 87 = .ok (.ifCond .eq 27, 3) := by decide +kernel
theorem dX4_readItem_90 : decode cX4_readItem 90 = .ok (.aload_n 1, 1) := by decide +kernel
theorem dX4_readItem_91 : decode cX4_readItem 91 = .ok (.aload_n 0, 1) := by decide +kernel
theorem dX4_readItem_92 : decode cX4_readItem 92 = .ok (.bipush 6, 2) := by decide +kernel
theorem dX4_readItem_94 : decode cX4_readItem 94 = .ok (.invokevirtual 54, 3) := by decide +kernel
theorem dX4_readItem_97 : decode cX4_readItem 97 = .ok (.putfield 64, 3) := by decide +kernel
theorem dX4_readItem_100 : decode cX4_readItem 100 = .ok (.aload_n 1, 1) := by decide +kernel
theorem dX4_readItem_101 : decode cX4_readItem 101 = .ok (.getfield 64, 3) := by decide +kernel
theorem dX4_readItem_104 : decode cX4_readItem 104 = .ok (.iconst (-1), 1) := by decide +kernel
theorem dX4_readItem_105 : decode cX4_readItem 105 = .ok (.if_icmp .eq 7, 3) := by decide +kernel
theorem dX4_readItem_108 : decode cX4_readItem 108 = .ok (.iconst 1, 1) := by decide +kernel
theorem dX4_readItem_109 : decode cX4_readItem 109 = .ok (.goto 4, 3) := by decide +kernel
theorem dX4_readItem_112 : decode cX4_readItem 112 = .ok (.iconst 0, 1) := by decide +kernel
theorem dX4_readItem_113 : decode cX4_readItem 113 = .ok (.ireturn, 1) := by decide +kernel
theorem dX4_readItem_114 : decode cX4_readItem 114 = .ok (.iconst 0, 1) := by decide +kernel
theorem dX4_readItem_115 : decode cX4_readItem 115 = .ok (.ireturn, 1) := by decide +kernel
theorem dX4_readHole_0 : decode cX4_readHole 0 = .ok (.aload_n 1, 1) := by decide +kernel
theorem dX4_readHole_1 : decode cX4_readHole 1 = .ok (.invokevirtual 66, 3) := by decide +kernel
theorem dX4_readHole_4 : decode cX4_readHole 4 = .ok (.ifCond .eq 5, 3) := by decide +kernel
theorem dX4_readHole_7 : decode cX4_readHole 7 = .ok (.iconst 0, 1) := by decide +kernel
theorem dX4_readHole_8 : decode cX4_readHole 8 = .ok (.ireturn, 1) := by decide +kernel
theorem dX4_readHole_9 : decode cX4_readHole 9 = .ok (.aload_n 0, 1) := by decide +kernel
theorem dX4_readHole_10 : decode cX4_readHole 10 = .ok (.invokevirtual 24, 3) := by decide +kernel
theorem dX4_readHole_13 : decode cX4_readHole 13 = .ok (.aload_n 0, 1) := by decide +kernel
theorem dX4_readHole_14 : decode cX4_readHole 14 = .ok (.ldc 70, 2) := by decide +kernel
theorem dX4_readHole_16 : decode cX4_readHole 16 = .ok (.invokevirtual 46, 3) := by decide +kernel
theorem dX4_readHole_19 : decode cX4_readHole 19 = .ok (.ifCond .eq 11, 3) := by decide +kernel
theorem dX4_readHole_22 : decode cX4_readHole 22 = .ok (.aload_n 0, 1) := by decide +kernel
theorem dX4_readHole_23 : decode cX4_readHole 23 = .ok (.iconst 5, 1) := by decide +kernel
theorem dX4_readHole_24 : decode cX4_readHole 24 = .ok (.invokevirtual 54, 3) := by decide +kernel
theorem dX4_readHole_27 : decode cX4_readHole 27 = .ok (.goto 4, 3) := by decide +kernel
theorem dX4_readHole_30 : decode cX4_readHole 30 = .ok (.iconst 0, 1) := by decide +kernel
theorem dX4_readHole_31 : decode cX4_readHole 31 = .ok (.istore_n 3, 1) := by decide +kernel
theorem dX4_readHole_32 : decode cX4_readHole 32 = .ok (.iload_n 3, 1) := by decide +kernel
theorem dX4_readHole_33 : decode cX4_readHole 33 = .ok (.iconst (-1), 1) := by decide +kernel
theorem dX4_readHole_34 : decode cX4_readHole 34 = .ok (.if_icmp .ne 5, 3) := by decide +kernel
theorem dX4_readHole_37 : decode cX4_readHole 37 = .ok (.iconst 0, 1) := by decide +kernel
theorem dX4_readHole_38 : decode cX4_readHole 38 = .ok (.ireturn, 1) := by decide +kernel
theorem dX4_readHole_39 : decode cX4_readHole 39 = .ok (.aload_n 0, 1) := by decide +kernel
theorem dX4_readHole_40 : decode cX4_readHole 40 = .ok (.ldc 72, 2) := by decide +kernel
theorem dX4_readHole_42 : decode cX4_readHole 42 = .ok (.invokevirtual 46, 3) := by decide +kernel
theorem dX4_readHole_45 : decode cX4_readHole 45 = .ok (.ifCond .eq 12, 3) := by decide +kernel
theorem dX4_readHole_48 : decode cX4_readHole 48 = .ok (.aload_n 0, 1) := by decide +kernel
theorem dX4_readHole_49 : decode cX4_readHole 49 = .ok (.bipush 99, 2) := by decide +kernel
theorem dX4_readHole_51 : decode cX4_readHole 51 = .ok (.invokevirtual 54, 3) := by decide +kernel
theorem dX4_readHole_54 : decode cX4_readHole 54 = .ok (.goto 4, 3) := by decide +kernel
theorem dX4_readHole_57 : decode cX4_readHole 57 = .ok (.iconst 5, 1) := by decide +kernel
theorem dX4_readHole_58 : decode cX4_readHole 58 = .ok (.istore 4, 2) := by decide +kernel
theorem dX4_readHole_60 : decode cX4_readHole 60 = .ok (.iload 4, 2) := by decide +kernel
theorem dX4_readHole_62 : decode cX4_readHole 62 = .ok (.iconst (-1), 1) := by decide +kernel
theorem dX4_readHole_63 : decode cX4_readHole 63 = .ok (.if_icmp .ne 5, 3) := by decide +kernel
theorem dX4_readHole_66 : decode cX4_readHole 66 = .ok (.iconst 0, 1) := by decide +kernel
theorem dX4_readHole_67 : decode cX4_readHole 67 = .ok (.ireturn, 1) := by decide +kernel
theorem dX4_readHole_68 : decode cX4_readHole 68 = .ok (.aload_n 1, 1) := by decide +kernel
theorem dX4_readHole_69 : decode cX4_readHole 69 = .ok (.iload_n 2, 1) := by decide +kernel
theorem dX4_readHole_70 : decode cX4_readHole 70 = .ok (.iload_n 3, 1) := by decide +kernel
theorem dX4_readHole_71 : decode cX4_readHole 71 = .ok (.invokevirtual 74, 3) := by decide +kernel
theorem dX4_readHole_74 : decode cX4_readHole 74 = .ok (.istore 5, 2) := by decide +kernel
theorem dX4_readHole_76 : decode cX4_readHole 76 = .ok (.aload_n 1, 1) := by decide +kernel
theorem dX4_readHole_77 : decode cX4_readHole 77 = .ok (.getfield 78, 3) := by decide +kernel
theorem dX4_readHole_80 : decode cX4_readHole 80 = .ok (.iload 5, 2) := by decide +kernel
theorem dX4_readHole_82 : decode cX4_readHole 82 = .ok (.iload 4, 2) := by decide +kernel
theorem dX4_readHole_84 : decode cX4_readHole 84 = .ok (.iastore, 1) := by decide +kernel
theorem dX4_readHole_85 : decode cX4_readHole 85 = .ok (.aload_n 0, 1) := by decide +kernel
theorem dX4_readHole_86 : decode cX4_readHole 86 = .ok (.ldc 82, 2) := by decide +kernel
theorem dX4_readHole_88 : decode cX4_readHole 88 = .ok (.invokevirtual 46, 3) := by decide +kernel
theorem dX4_readHole_91 : decode cX4_readHole 91 = .ok (.ifCond .eq 14, 3) := by decide +kernel
theorem dX4_readHole_94 : decode cX4_readHole 94 = .ok (.aload_n 1, 1) := by decide +kernel
theorem dX4_readHole_95 : decode cX4_readHole 95 = .ok (.getfield 84, 3) := by decide +kernel
theorem dX4_readHole_98 : decode cX4_readHole 98 = .ok (.iload 5, 2) := by decide +kernel
theorem dX4_readHole_100 : decode cX4_readHole 100 = .ok (.iconst 1, 1) := by decide +kernel
theorem dX4_readHole_101 : decode cX4_readHole 101 = .ok (.iastore, 1) := by decide +kernel
theorem dX4_readHole_102 : decode cX4_readHole 102 = .ok (.goto 20, 3) := by decide +kernel
theorem dX4_readHole_105 : decode cX4_readHole 105 = .ok (.aload_n 0, 1) := by decide +kernel
theorem dX4_readHole_106 : decode cX4_readHole 106 = .ok (.ldc 87, 2) := by decide +kernel
theorem dX4_readHole_108 : decode cX4_readHole 108 = .ok (.invokevirtual 46, 3) := by decide +kernel
theorem dX4_readHole_111 : decode cX4_readHole 111 = .ok (.ifCond .eq 11, 3) := by decide +kernel
theorem dX4_readHole_114 : decode cX4_readHole 114 = .ok (.aload_n 1, 1) := by decide +kernel
theorem dX4_readHole_115 : decode cX4_readHole 115 = .ok (.getfield 84, 3) := by decide +kernel
theorem dX4_readHole_118 : decode cX4_readHole 118 = .ok (.iload 5, 2) := by decide +kernel
theorem dX4_readHole_120 : decode cX4_readHole 120 = .ok (.iconst 2, 1) := by decide +kernel
theorem dX4_readHole_121 : decode cX4_readHole 121 = .ok (.iastore, 1) := by decide +kernel
theorem dX4_readHole_122 : decode cX4_readHole 122 = .ok (.aload_n 1, 1) := by decide +kernel
theorem dX4_readHole_123 : decode cX4_readHole 123 = .ok (.getfield 89, 3) := by decide +kernel
theorem dX4_readHole_126 : decode cX4_readHole 126 = .ok (.iload 5, 2) := by decide +kernel
theorem dX4_readHole_128 : decode cX4_readHole 128 = .ok (.aload_n 0, 1) := by decide +kernel
theorem dX4_readHole_129 : decode cX4_readHole 129 = .ok (.ldc 92, 2) := by decide +kernel
theorem dX4_readHole_131 : decode cX4_readHole 131 = .ok (.invokevirtual 46, 3) := by decide +kernel
theorem dX4_readHole_134 : decode cX4_readHole 134 = .ok (.ifCond .eq 7, 3) := by decide +kernel
theorem dX4_readHole_137 : decode cX4_readHole 137 = .ok (.iconst 1, 1) := by decide +kernel
theorem dX4_readHole_138 : decode cX4_readHole 138 = .ok (.goto 4, 3) := by decide +kernel
theorem dX4_readHole_141 : decode cX4_readHole 141 = .ok (.iconst 0, 1) := by decide +kernel
theorem dX4_readHole_142 : decode cX4_readHole 142 = .ok (.iastore, 1) := by decide +kernel
theorem dX4_readHole_143 : decode cX4_readHole 143 = .ok (.iconst 1, 1) := by decide +kernel
theorem dX4_readHole_144 : decode cX4_readHole 144 = .ok (.ireturn, 1) := by decide +kernel
theorem dX4_readStreet_0 : decode cX4_readStreet 0 = .ok (.aload_n 0, 1) := by decide +kernel
theorem dX4_readStreet_1 : decode cX4_readStreet 1 = .ok (.iconst 5, 1) := by decide +kernel
theorem dX4_readStreet_2 : decode cX4_readStreet 2 = .ok (.invokevirtual 54, 3) := by decide +kernel
theorem dX4_readStreet_5 : decode cX4_readStreet 5 = .ok (.istore_n 2, 1) := by decide +kernel
theorem dX4_readStreet_6 : decode cX4_readStreet 6 = .ok (.iload_n 2, 1) := by decide +kernel
theorem dX4_readStreet_7 : decode cX4_readStreet 7 = .ok (.invokestatic 94, 3) := by decide +kernel
theorem dX4_readStreet_10 : decode cX4_readStreet 10 = .ok (.ifCond .ne 5, 3) := by decide +kernel
theorem dX4_readStreet_13 : decode cX4_readStreet 13 = .ok (.iconst 0, 1) := by decide +kernel
theorem dX4_readStreet_14 : decode cX4_readStreet 14 = .ok (.ireturn, 1) := by decide +kernel
theorem dX4_readStreet_15 : decode cX4_readStreet 15 = .ok (.aload_n 0, 1) := by decide +kernel
theorem dX4_readStreet_16 : decode cX4_readStreet 16 = .ok (.ldc 98, 2) := by decide +kernel
theorem dX4_readStreet_18 : decode cX4_readStreet 18 = .ok (.invokevirtual 46, 3) := by decide +kernel
theorem dX4_readStreet_21 : decode cX4_readStreet 21 = .ok (.ifCond .eq 12, 3) := by decide +kernel
theorem dX4_readStreet_24 : decode cX4_readStreet 24 = .ok (.aload_n 0, 1) := by decide +kernel
theorem dX4_readStreet_25 : decode cX4_readStreet 25 = .ok (.bipush 99, 2) := by decide +kernel
theorem dX4_readStreet_27 : decode cX4_readStreet 27 = .ok (.invokevirtual 54, 3) := by decide +kernel
theorem dX4_readStreet_30 : decode cX4_readStreet 30 = .ok (.goto 9, 3) := by decide +kernel
theorem dX4_readStreet_33 : decode cX4_readStreet 33 = .ok (.aload_n 1, 1) := by decide +kernel
theorem dX4_readStreet_34 : decode cX4_readStreet 34 = .ok (.getfield 100, 3) := by decide +kernel
theorem dX4_readStreet_37 : decode cX4_readStreet 37 = .ok (.iload_n 2, 1) := by decide +kernel
theorem dX4_readStreet_38 : decode cX4_readStreet 38 = .ok (.iaload, 1) := by decide +kernel
theorem dX4_readStreet_39 : decode cX4_readStreet 39 = .ok (.istore_n 3, 1) := by decide +kernel
theorem dX4_readStreet_40 : decode cX4_readStreet 40 = .ok (.iload_n 3, 1) := by decide +kernel
theorem dX4_readStreet_41 : decode cX4_readStreet 41 = .ok (.iconst (-1), 1) := by decide +kernel
theorem dX4_readStreet_42 : decode cX4_readStreet 42 = .ok (.if_icmp .ne 5, 3) := by decide +kernel
theorem dX4_readStreet_45 : decode cX4_readStreet 45 = .ok (.iconst 0, 1) := by decide +kernel
theorem dX4_readStreet_46 : decode cX4_readStreet 46 = .ok (.ireturn, 1) := by decide +kernel
theorem dX4_readStreet_47 : decode cX4_readStreet 47 = .ok (.aload_n 1, 1) := by decide +kernel
theorem dX4_readStreet_48 : decode cX4_readStreet 48 = .ok (.getfield 100, 3) := by decide +kernel
theorem dX4_readStreet_51 : decode cX4_readStreet 51 = .ok (.iload_n 2, 1) := by decide +kernel
theorem dX4_readStreet_52 : decode cX4_readStreet 52 = .ok (.iload_n 3, 1) := by decide +kernel
theorem dX4_readStreet_53 : decode cX4_readStreet 53 = .ok (.iastore, 1) := by decide +kernel
theorem dX4_readStreet_54 : decode cX4_readStreet 54 = .ok (.aload_n 1, 1) := by decide +kernel
theorem dX4_readStreet_55 : decode cX4_readStreet 55 = .ok (.getfield 102, 3) := by decide +kernel
theorem dX4_readStreet_58 : decode cX4_readStreet 58 = .ok (.iload_n 2, 1) := by decide +kernel
theorem dX4_readStreet_59 : decode cX4_readStreet 59 = .ok (.aload_n 0, 1) := by decide +kernel
theorem dX4_readStreet_60 : decode cX4_readStreet 60 = .ok (.ldc 105, 2) := by decide +kernel
theorem dX4_readStreet_62 : decode cX4_readStreet 62 = .ok (.invokevirtual 46, 3) := by decide +kernel
theorem dX4_readStreet_65 : decode cX4_readStreet 65 = .ok (.ifCond .eq 7, 3) := by decide +kernel
theorem dX4_readStreet_68 : decode cX4_readStreet 68 = .ok (.iconst 1, 1) := by decide +kernel
theorem dX4_readStreet_69 : decode cX4_readStreet 69 = .ok (.goto 4, 3) := by decide +kernel
theorem dX4_readStreet_72 : decode cX4_readStreet 72 = .ok (.iconst 0, 1) := by decide +kernel
theorem dX4_readStreet_73 : decode cX4_readStreet 73 = .ok (.iastore, 1) := by decide +kernel
theorem dX4_readStreet_74 : decode cX4_readStreet 74 = .ok (.iconst 1, 1) := by decide +kernel
theorem dX4_readStreet_75 : decode cX4_readStreet 75 = .ok (.ireturn, 1) := by decide +kernel
theorem dJ6_bitCount_0f7a4_0 : decode cJ6_bitCount_0f7a4 0 = .ok (.iload_n 0, 1) := by decide +kernel
theorem dJ6_bitCount_0f7a4_1 : decode cJ6_bitCount_0f7a4 1 = .ok (.iload_n 0, 1) := by decide +kernel
theorem dJ6_bitCount_0f7a4_2 : decode cJ6_bitCount_0f7a4 2 = .ok (.iconst 1, 1) := by decide +kernel
theorem dJ6_bitCount_0f7a4_3 : decode cJ6_bitCount_0f7a4 3 = .ok (.iushr, 1) := by decide +kernel
theorem dJ6_bitCount_0f7a4_4 : decode cJ6_bitCount_0f7a4 4 = .ok (.ldc_w 265, 3) := by decide +kernel
theorem dJ6_bitCount_0f7a4_7 : decode cJ6_bitCount_0f7a4 7 = .ok (.iand, 1) := by decide +kernel
theorem dJ6_bitCount_0f7a4_8 : decode cJ6_bitCount_0f7a4 8 = .ok (.isub, 1) := by decide +kernel
theorem dJ6_bitCount_0f7a4_9 : decode cJ6_bitCount_0f7a4 9 = .ok (.istore_n 0, 1) := by decide +kernel
theorem dJ6_bitCount_0f7a4_10 : decode cJ6_bitCount_0f7a4 10 = .ok (.iload_n 0, 1) := by decide +kernel
theorem dJ6_bitCount_0f7a4_11 : decode cJ6_bitCount_0f7a4 11 = .ok (.ldc_w 266, 3) := by decide +kernel
theorem dJ6_bitCount_0f7a4_14 : decode cJ6_bitCount_0f7a4 14 = .ok (.iand, 1) := by decide +kernel
theorem dJ6_bitCount_0f7a4_15 : decode cJ6_bitCount_0f7a4 15 = .ok (.iload_n 0, 1) := by decide +kernel
theorem dJ6_bitCount_0f7a4_16 : decode cJ6_bitCount_0f7a4 16 = .ok (.iconst 2, 1) := by decide +kernel
theorem dJ6_bitCount_0f7a4_17 : decode cJ6_bitCount_0f7a4 17 = .ok (.iushr, 1) := by decide +kernel
theorem dJ6_bitCount_0f7a4_18 : decode cJ6_bitCount_0f7a4 18 = .ok (.ldc_w 266, 3) := by decide +kernel
theorem dJ6_bitCount_0f7a4_21 : decode cJ6_bitCount_0f7a4 21 = .ok (.iand, 1) := by decide +kernel
theorem dJ6_bitCount_0f7a4_22 : decode cJ6_bitCount_0f7a4 22 = .ok (.iadd, 1) := by decide +kernel
theorem dJ6_bitCount_0f7a4_23 : decode cJ6_bitCount_0f7a4 23 = .ok (.istore_n 0, 1) := by decide +kernel
theorem dJ6_bitCount_0f7a4_24 : decode cJ6_bitCount_0f7a4 24 = .ok (.iload_n 0, 1) := by decide +kernel
theorem dJ6_bitCount_0f7a4_25 : decode cJ6_bitCount_0f7a4 25 = .ok (.iload_n 0, 1) := by decide +kernel
theorem dJ6_bitCount_0f7a4_26 : decode cJ6_bitCount_0f7a4 26 = .ok (.iconst 4, 1) := by decide +kernel
theorem dJ6_bitCount_0f7a4_27 : decode cJ6_bitCount_0f7a4 27 = .ok (.iushr, 1) := by decide +kernel
theorem dJ6_bitCount_0f7a4_28 : decode cJ6_bitCount_0f7a4 28 = .ok (.iadd, 1) := by decide +kernel
theorem dJ6_bitCount_0f7a4_29 : decode cJ6_bitCount_0f7a4 29 = .ok (.ldc_w 267, 3) := by decide +kernel
theorem dJ6_bitCount_0f7a4_32 : decode cJ6_bitCount_0f7a4 32 = .ok (.iand, 1) := by decide +kernel
theorem dJ6_bitCount_0f7a4_33 : decode cJ6_bitCount_0f7a4 33 = .ok (.istore_n 0, 1) := by decide +kernel
theorem dJ6_bitCount_0f7a4_34 : decode cJ6_bitCount_0f7a4 34 = .ok (.iload_n 0, 1) := by decide +kernel
theorem dJ6_bitCount_0f7a4_35 : decode cJ6_bitCount_0f7a4 35 = .ok (.iload_n 0, 1) := by decide +kernel
theorem dJ6_bitCount_0f7a4_36 : decode cJ6_bitCount_0f7a4 36 = .ok (.bipush 8, 2) := by decide +kernel
theorem dJ6_bitCount_0f7a4_38 : decode cJ6_bitCount_0f7a4 38 = .ok (.iushr, 1) := by decide +kernel
theorem dJ6_bitCount_0f7a4_39 : decode cJ6_bitCount_0f7a4 39 = .ok (.iadd, 1) := by decide +kernel
theorem dJ6_bitCount_0f7a4_40 : decode cJ6_bitCount_0f7a4 40 = .ok (.istore_n 0, 1) := by decide +kernel
theorem dJ6_bitCount_0f7a4_41 : decode cJ6_bitCount_0f7a4 41 = .ok (.iload_n 0, 1) := by decide +kernel
theorem dJ6_bitCount_0f7a4_42 : decode cJ6_bitCount_0f7a4 42 = .ok (.iload_n 0, 1) := by decide +kernel
theorem dJ6_bitCount_0f7a4_43 : decode cJ6_bitCount_0f7a4 43 = .ok (.bipush 16, 2) := by decide +kernel
theorem dJ6_bitCount_0f7a4_45 : decode cJ6_bitCount_0f7a4 45 = .ok (.iushr, 1) := by decide +kernel
theorem dJ6_bitCount_0f7a4_46 : decode cJ6_bitCount_0f7a4 46 = .ok (.iadd, 1) := by decide +kernel
theorem dJ6_bitCount_0f7a4_47 : decode cJ6_bitCount_0f7a4 47 = .ok (.istore_n 0, 1) := by decide +kernel
theorem dJ6_bitCount_0f7a4_48 : decode cJ6_bitCount_0f7a4 48 = .ok (.iload_n 0, 1) := by decide +kernel
theorem dJ6_bitCount_0f7a4_49 : decode cJ6_bitCount_0f7a4 49 = .ok (.bipush 63, 2) := by decide +kernel
theorem dJ6_bitCount_0f7a4_51 : decode cJ6_bitCount_0f7a4 51 = .ok (.iand, 1) := by decide +kernel
theorem dJ6_bitCount_0f7a4_52 : decode cJ6_bitCount_0f7a4 52 = .ok (.ireturn, 1) := by decide +kernel
theorem dJ9_max_7cf53_0 : decode cJ9_max_7cf53 0 = .ok (.iload_n 0, 1) := by decide +kernel
theorem dJ9_max_7cf53_1 : decode cJ9_max_7cf53 1 = .ok (.iload_n 1, 1) := by decide +kernel
theorem dJ9_max_7cf53_2 : decode cJ9_max_7cf53 2 = .ok (.if_icmp .lt 7, 3) := by decide +kernel
theorem dJ9_max_7cf53_5 : decode cJ9_max_7cf53 5 = .ok (.iload_n 0, 1) := by decide +kernel
theorem dJ9_max_7cf53_6 : decode cJ9_max_7cf53 6 = .ok (.goto 4, 3) := by decide +kernel
theorem dJ9_max_7cf53_9 : decode cJ9_max_7cf53 9 = .ok (.iload_n 1, 1) := by decide +kernel
theorem dJ9_max_7cf53_10 : decode cJ9_max_7cf53 10 = .ok (.ireturn, 1) := by decide +kernel
theorem dJ9_min_7cf53_0 : decode cJ9_min_7cf53 0 = .ok (.iload_n 0, 1) := by decide +kernel
theorem dJ9_min_7cf53_1 : decode cJ9_min_7cf53 1 = .ok (.iload_n 1, 1) := by decide +kernel
theorem dJ9_min_7cf53_2 : decode cJ9_min_7cf53 2 = .ok (.if_icmp .gt 7, 3) := by decide +kernel
theorem dJ9_min_7cf53_5 : decode cJ9_min_7cf53 5 = .ok (.iload_n 0, 1) := by decide +kernel
theorem dJ9_min_7cf53_6 : decode cJ9_min_7cf53 6 = .ok (.goto 4, 3) := by decide +kernel
theorem dJ9_min_7cf53_9 : decode cJ9_min_7cf53 9 = .ok (.iload_n 1, 1) := by decide +kernel
theorem dJ9_min_7cf53_10 : decode cJ9_min_7cf53 10 = .ok (.ireturn, 1) := by decide +kernel
theorem dJ0_length_8abf5_0 : decode cJ0_length_8abf5 0 = .ok (.aload_n 0, 1) := by decide +kernel
theorem dJ0_length_8abf5_1 : decode cJ0_length_8abf5 1 = .ok (.getfield 9, 3) := by decide +kernel
theorem dJ0_length_8abf5_4 : decode cJ0_length_8abf5 4 = .ok (.arraylength, 1) := by decide +kernel
theorem dJ0_length_8abf5_5 : decode cJ0_length_8abf5 5 = .ok (.aload_n 0, 1) := by decide +kernel
theorem dJ0_length_8abf5_6 : decode cJ0_length_8abf5 6 = .ok (.invokevirtual 335, 3) := by decide +kernel
theorem dJ0_length_8abf5_9 : decode cJ0_length_8abf5 9 = .ok (.ishr, 1) := by decide +kernel
theorem dJ0_length_8abf5_10 : decode cJ0_length_8abf5 10 = .ok (.ireturn, 1) := by decide +kernel
theorem dJ0_charAt_5068e_0 : decode cJ0_charAt_5068e 0 = .ok (.aload_n 0, 1) := by decide +kernel
theorem dJ0_charAt_5068e_1 : decode cJ0_charAt_5068e 1 = .ok (.invokevirtual 492, 3) := by decide +kernel
theorem dJ0_charAt_5068e_4 : decode cJ0_charAt_5068e 4 = .ok (.ifCond .eq 12, 3) := by decide +kernel
theorem dJ0_charAt_5068e_7 : decode cJ0_charAt_5068e 7 = .ok (.aload_n 0, 1) := by decide +kernel
theorem dJ0_charAt_5068e_8 : decode cJ0_charAt_5068e 8 = .ok (.getfield 9, 3) := by decide +kernel
theorem dJ0_charAt_5068e_11 : decode cJ0_charAt_5068e 11 = .ok (.iload_n 1, 1) := by decide +kernel
theorem dJ0_charAt_5068e_12 : decode cJ0_charAt_5068e 12 = .ok (.invokestatic 495, 3) := by decide +kernel
theorem dJ0_charAt_5068e_15 : decode cJ0_charAt_5068e 15 = .ok (.ireturn, 1) := by decide +kernel
theorem dJ0_charAt_5068e_16 : decode cJ0_charAt_5068e 16 = .ok (.aload_n 0, 1) := by decide +kernel
theorem dJ0_charAt_5068e_17 : decode cJ0_charAt_5068e 17 = .ok (.getfield 9, 3) := by decide +kernel
theorem dJ0_charAt_5068e_20 : decode cJ0_charAt_5068e 20 = .ok (.iload_n 1, 1) := by decide +kernel
theorem dJ0_charAt_5068e_21 : decode cJ0_charAt_5068e 21 = .ok (.invokestatic 498, 3) := by decide +kernel
theorem dJ0_charAt_5068e_24 : decode cJ0_charAt_5068e 24 = .ok (.ireturn, 1) := by decide +kernel
theorem dJ0_coder_7d493_0 : decode cJ0_coder_7d493 0 = .ok (.getstatic 38, 3) := by decide +kernel
theorem dJ0_coder_7d493_3 : decode cJ0_coder_7d493 3 = .ok (.ifCond .eq 10, 3) := by decide +kernel
theorem dJ0_coder_7d493_6 : decode cJ0_coder_7d493 6 = .ok (.aload_n 0, 1) := by decide +kernel
theorem dJ0_coder_7d493_7 : decode cJ0_coder_7d493 7 = .ok (.getfield 15, 3) := by decide +kernel
theorem dJ0_coder_7d493_10 : decode cJ0_coder_7d493 10 = .ok (.goto 4, 3) := by decide +kernel
theorem dJ0_coder_7d493_13 : decode cJ0_coder_7d493 13 = .ok (.iconst 1, 1) := by decide +kernel
theorem dJ0_coder_7d493_14 : decode cJ0_coder_7d493 14 = .ok (.ireturn, 1) := by decide +kernel
theorem dJ0_isLatin1_aae02_0 : decode cJ0_isLatin1_aae02 0 = .ok (.getstatic 38, 3) := by decide +kernel
theorem dJ0_isLatin1_aae02_3 : decode cJ0_isLatin1_aae02 3 = .ok (.ifCond .eq 14, 3) := by decide +kernel
theorem dJ0_isLatin1_aae02_6 : decode cJ0_isLatin1_aae02 6 = .ok (.aload_n 0, 1) := by decide +kernel
theorem dJ0_isLatin1_aae02_7 : decode cJ0_isLatin1_aae02 7 = .ok (.getfield 15, 3) := by decide +kernel
theorem dJ0_isLatin1_aae02_10 : decode cJ0_isLatin1_aae02 10 = .ok (.ifCond .ne 7, 3) := by decide +kernel
theorem dJ0_isLatin1_aae02_13 : decode cJ0_isLatin1_aae02 13 = .ok (.iconst 1, 1) := by decide +kernel
theorem dJ0_isLatin1_aae02_14 : decode cJ0_isLatin1_aae02 14 = .ok (.goto 4, 3) := by decide +kernel
theorem dJ0_isLatin1_aae02_17 : decode cJ0_isLatin1_aae02 17 = .ok (.iconst 0, 1) := by decide +kernel
theorem dJ0_isLatin1_aae02_18 : decode cJ0_isLatin1_aae02 18 = .ok (.ireturn, 1) := by decide +kernel
theorem dJ0_checkIndex_df160_0 : decode cJ0_checkIndex_df160 0 = .ok (.iload_n 0, 1) := by decide +kernel
theorem dJ0_checkIndex_df160_1 : decode cJ0_checkIndex_df160 1 = .ok (.iload_n 1, 1) := by decide +kernel
theorem dJ0_checkIndex_df160_2 : decode cJ0_checkIndex_df160 2 = .ok (.getstatic 1053, 3) := by decide +kernel
theorem dJ0_checkIndex_df160_5 : decode cJ0_checkIndex_df160 5 = .ok (.invokestatic 1059, 3) := by decide +kernel
theorem dJ0_checkIndex_df160_8 : decode cJ0_checkIndex_df160 8 = .ok (.pop, 1) := by decide +kernel
theorem dJ0_checkIndex_df160_9 : decode cJ0_checkIndex_df160 9 = .ok (.return_, 1) := by decide +kernel
theorem dJ1_charAt_3b067_0 : decode cJ1_charAt_3b067 0 = .ok (.iload_n 1, 1) := by decide +kernel
theorem dJ1_charAt_3b067_1 : decode cJ1_charAt_3b067 1 = .ok (.aload_n 0, 1) := by decide +kernel
theorem dJ1_charAt_3b067_2 : decode cJ1_charAt_3b067 2 = .ok (.arraylength, 1) := by decide +kernel
theorem dJ1_charAt_3b067_3 : decode cJ1_charAt_3b067 3 = .ok (.invokestatic 9, 3) := by decide +kernel
theorem dJ1_charAt_3b067_6 : decode cJ1_charAt_3b067 6 = .ok (.aload_n 0, 1) := by decide +kernel
theorem dJ1_charAt_3b067_7 : decode cJ1_charAt_3b067 7 = .ok (.iload_n 1, 1) := by decide +kernel
theorem dJ1_charAt_3b067_8 : decode cJ1_charAt_3b067 8 = .ok (.baload, 1) := by decide +kernel
theorem dJ1_charAt_3b067_9 : decode cJ1_charAt_3b067 9 = .ok (.sipush 255, 3) := by decide +kernel
theorem dJ1_charAt_3b067_12 : decode cJ1_charAt_3b067 12 = .ok (.iand, 1) := by decide +kernel
theorem dJ1_charAt_3b067_13 : decode cJ1_charAt_3b067 13 = .ok (.i2c, 1) := by decide +kernel
theorem dJ1_charAt_3b067_14 : decode cJ1_charAt_3b067 14 = .ok (.ireturn, 1) := by decide +kernel
theorem dJ2_getChar_3b067_0 : decode cJ2_getChar_3b067 0 = .ok (.getstatic 44, 3) := by decide +kernel
theorem dJ2_getChar_3b067_3 : decode cJ2_getChar_3b067 3 = .ok (.ifCond .ne 25, 3) := by decide +kernel
theorem dJ2_getChar_3b067_6 : decode cJ2_getChar_3b067 6 = .ok (.iload_n 1, 1) := by decide +kernel
theorem dJ2_getChar_3b067_7 : decode cJ2_getChar_3b067 7 = .ok (.ifCond .lt 11, 3) := by decide +kernel
theorem dJ2_getChar_3b067_10 : decode cJ2_getChar_3b067 10 = .ok (.iload_n 1, 1) := by decide +kernel
theorem dJ2_getChar_3b067_11 : decode cJ2_getChar_3b067 11 = .ok (.aload_n 0, 1) := by decide +kernel
theorem dJ2_getChar_3b067_12 : decode cJ2_getChar_3b067 12 = .ok (.invokestatic 48, 3) := by decide +kernel
theorem dJ2_getChar_3b067_15 : decode cJ2_getChar_3b067 15 = .ok (.if_icmp .lt 13, 3) := by decide +kernel
theorem dJ2_getChar_3b067_18 : decode cJ2_getChar_3b067 18 = .ok (.new 52, 3) := by decide +kernel
theorem dJ2_getChar_3b067_21 : decode cJ2_getChar_3b067 21 = .ok (.dup, 1) := by decide +kernel
theorem dJ2_getChar_3b067_22 : decode cJ2_getChar_3b067 22 = .ok (.ldc 54, 2) := by decide +kernel
theorem dJ2_getChar_3b067_24 : decode cJ2_getChar_3b067 24 = .ok (.invokespecial 56, 3) := by decide +kernel
theorem dJ2_getChar_3b067_27 : decode cJ2_getChar_3b067 27 = .ok (.athrow, 1) := by decide +kernel
theorem dJ2_getChar_3b067_28 : decode cJ2_getChar_3b067 28 = .ok (.iload_n 1, 1) := by decide +kernel
theorem dJ2_getChar_3b067_29 : decode cJ2_getChar_3b067 29 = .ok (.iconst 1, 1) := by decide +kernel
theorem dJ2_getChar_3b067_30 : decode cJ2_getChar_3b067 30 = .ok (.ishl, 1) := by decide +kernel
theorem dJ2_getChar_3b067_31 : decode cJ2_getChar_3b067 31 = .ok (.istore_n 1, 1) := by decide +kernel
theorem dJ2_getChar_3b067_32 : decode cJ2_getChar_3b067 32 = .ok (.aload_n 0, 1) := by decide +kernel
theorem dJ2_getChar_3b067_33 : decode cJ2_getChar_3b067 33 = .ok (.iload_n 1, 1) := by decide +kernel
theorem dJ2_getChar_3b067_34 : decode cJ2_getChar_3b067 34 = .ok (.iinc 1 1, 3) := by decide +kernel
theorem dJ2_getChar_3b067_37 : decode cJ2_getChar_3b067 37 = .ok (.baload, 1) := by decide +kernel
theorem dJ2_getChar_3b067_38 : decode cJ2_getChar_3b067 38 = .ok (.sipush 255, 3) := by decide +kernel
theorem dJ2_getChar_3b067_41 : decode cJ2_getChar_3b067 41 = .ok (.iand, 1) := by decide +kernel
theorem dJ2_getChar_3b067_42 : decode cJ2_getChar_3b067 42 = .ok (.getstatic 59, 3) := by decide +kernel
theorem dJ2_getChar_3b067_45 : decode cJ2_getChar_3b067 45 = .ok (.ishl, 1) := by decide +kernel
theorem dJ2_getChar_3b067_46 : decode cJ2_getChar_3b067 46 = .ok (.aload_n 0, 1) := by decide +kernel
theorem dJ2_getChar_3b067_47 : decode cJ2_getChar_3b067 47 = .ok (.iload_n 1, 1) := by decide +kernel
theorem dJ2_getChar_3b067_48 : decode cJ2_getChar_3b067 48 = .ok (.baload, 1) := by decide +kernel
theorem dJ2_getChar_3b067_49 : decode cJ2_getChar_3b067 49 = .ok (.sipush 255, 3) := by decide +kernel
theorem dJ2_getChar_3b067_52 : decode cJ2_getChar_3b067 52 = .ok (.iand, 1) := by decide +kernel
theorem dJ2_getChar_3b067_53 : decode cJ2_getChar_3b067 53 = .ok (.getstatic 63, 3) := by decide +kernel
theorem dJ2_getChar_3b067_56 : decode cJ2_getChar_3b067 56 = .ok (.ishl, 1) := by decide +kernel
theorem dJ2_getChar_3b067_57 : decode cJ2_getChar_3b067 57 = .ok (.ior, 1) := by decide +kernel
theorem dJ2_getChar_3b067_58 : decode cJ2_getChar_3b067 58 = .ok (.i2c, 1) := by decide +kernel
theorem dJ2_getChar_3b067_59 : decode cJ2_getChar_3b067 59 = .ok (.ireturn, 1) := by decide +kernel
theorem dJ2_length_9d52b_0 : decode cJ2_length_9d52b 0 = .ok (.aload_n 0, 1) := by decide +kernel
theorem dJ2_length_9d52b_1 : decode cJ2_length_9d52b 1 = .ok (.arraylength, 1) := by decide +kernel
theorem dJ2_length_9d52b_2 : decode cJ2_length_9d52b 2 = .ok (.iconst 1, 1) := by decide +kernel
theorem dJ2_length_9d52b_3 : decode cJ2_length_9d52b 3 = .ok (.ishr, 1) := by decide +kernel
theorem dJ2_length_9d52b_4 : decode cJ2_length_9d52b 4 = .ok (.ireturn, 1) := by decide +kernel
theorem dJ2_charAt_3b067_0 : decode cJ2_charAt_3b067 0 = .ok (.iload_n 1, 1) := by decide +kernel
theorem dJ2_charAt_3b067_1 : decode cJ2_charAt_3b067 1 = .ok (.aload_n 0, 1) := by decide +kernel
theorem dJ2_charAt_3b067_2 : decode cJ2_charAt_3b067 2 = .ok (.invokestatic 67, 3) := by decide +kernel
theorem dJ2_charAt_3b067_5 : decode cJ2_charAt_3b067 5 = .ok (.aload_n 0, 1) := by decide +kernel
theorem dJ2_charAt_3b067_6 : decode cJ2_charAt_3b067 6 = .ok (.iload_n 1, 1) := by decide +kernel
theorem dJ2_charAt_3b067_7 : decode cJ2_charAt_3b067 7 = .ok (.invokestatic 71, 3) := by decide +kernel
theorem dJ2_charAt_3b067_10 : decode cJ2_charAt_3b067 10 = .ok (.ireturn, 1) := by decide +kernel
theorem dJ2_checkIndex_2214a_0 : decode cJ2_checkIndex_2214a 0 = .ok (.iload_n 0, 1) := by decide +kernel
theorem dJ2_checkIndex_2214a_1 : decode cJ2_checkIndex_2214a 1 = .ok (.aload_n 1, 1) := by decide +kernel
theorem dJ2_checkIndex_2214a_2 : decode cJ2_checkIndex_2214a 2 = .ok (.invokestatic 48, 3) := by decide +kernel
theorem dJ2_checkIndex_2214a_5 : decode cJ2_checkIndex_2214a 5 = .ok (.invokestatic 414, 3) := by decide +kernel
theorem dJ2_checkIndex_2214a_8 : decode cJ2_checkIndex_2214a 8 = .ok (.return_, 1) := by decide +kernel
theorem dJ3_checkIndex_8e157_0 : decode cJ3_checkIndex_8e157 0 = .ok (.iload_n 0, 1) := by decide +kernel
theorem dJ3_checkIndex_8e157_1 : decode cJ3_checkIndex_8e157 1 = .ok (.ifCond .lt 8, 3) := by decide +kernel
theorem dJ3_checkIndex_8e157_4 : decode cJ3_checkIndex_8e157 4 = .ok (.iload_n 0, 1) := by decide +kernel
theorem dJ3_checkIndex_8e157_5 : decode cJ3_checkIndex_8e157 5 = .ok (.iload_n 1, 1) := by decide +kernel
theorem dJ3_checkIndex_8e157_6 : decode cJ3_checkIndex_8e157 6 = .ok (.if_icmp .lt 10, 3) := by decide +kernel
theorem dJ3_checkIndex_8e157_9 : decode cJ3_checkIndex_8e157 9 = .ok (.aload_n 2, 1) := by decide +kernel
theorem dJ3_checkIndex_8e157_10 : decode cJ3_checkIndex_8e157 10 = .ok (.iload_n 0, 1) := by decide +kernel
theorem dJ3_checkIndex_8e157_11 : decode cJ3_checkIndex_8e157 11 = .ok (.iload_n 1, 1) := by decide +kernel
theorem dJ3_checkIndex_8e157_12 : decode cJ3_checkIndex_8e157 12 = .ok (.invokestatic 95, 3) := by decide +kernel
theorem dJ3_checkIndex_8e157_15 : decode cJ3_checkIndex_8e157 15 = .ok (.athrow, 1) := by decide +kernel
theorem dJ3_checkIndex_8e157_16 : decode cJ3_checkIndex_8e157 16 = .ok (.iload_n 0, 1) := by decide +kernel
theorem dJ3_checkIndex_8e157_17 : decode cJ3_checkIndex_8e157 17 = .ok (.ireturn, 1) := by decide +kernel
