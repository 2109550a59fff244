theorem dX6_init_0 : decode cX6_init 0 = .ok (.aload_n 0, 1) := by decide +kernel
theorem dX6_init_1 : decode cX6_init 1 = .ok (.invokespecial 1, 3) := by decide +kernel
theorem dX6_init_4 : decode cX6_init 4 = .ok (.aload_n 0, 1) := by decide +kernel
theorem dX6_init_5 : decode cX6_init 5 = .ok (.bipush 67, 2) := by decide +kernel
theorem dX6_init_7 : decode cX6_init 7 = .ok (.newarray .int, 2) := by decide +kernel
theorem dX6_init_9 : decode cX6_init 9 = .ok (.putfield 7, 3) := by decide +kernel
theorem dX6_init_12 : decode cX6_init 12 = .ok (.aload_n 0, 1) := by decide +kernel
theorem dX6_init_13 : decode cX6_init 13 = .ok (.bipush 67, 2) := by decide +kernel
theorem dX6_init_15 : decode cX6_init 15 = .ok (.newarray .int, 2) := by decide +kernel
theorem dX6_init_17 : decode cX6_init 17 = .ok (.putfield 13, 3) := by decide +kernel
theorem dX6_init_20 : decode cX6_init 20 = .ok (.aload_n 0, 1) := by decide +kernel
theorem dX6_init_21 : decode cX6_init 21 = .ok (.bipush 67, 2) := by decide +kernel
theorem dX6_init_23 : decode cX6_init 23 = .ok (.newarray .int, 2) := by decide +kernel
theorem dX6_init_25 : decode cX6_init 25 = .ok (.putfield 16, 3) := by decide +kernel
theorem dX6_init_28 : decode cX6_init 28 = .ok (.aload_n 0, 1) := by decide +kernel
theorem dX6_init_29 : decode cX6_init 29 = .ok (.bipush 67, 2) := by decide +kernel
theorem dX6_init_31 : decode cX6_init 31 = .ok (.newarray .int, 2) := by decide +kernel
theorem dX6_init_33 : decode cX6_init 33 = .ok (.putfield 19, 3) := by decide +kernel
theorem dX6_init_36 : decode cX6_init 36 = .ok (.aload_n 0, 1) := by decide +kernel
theorem dX6_init_37 : decode cX6_init 37 = .ok (.bipush 7, 2) := by decide +kernel
theorem dX6_init_39 : decode cX6_init 39 = .ok (.newarray .int, 2) := by decide +kernel
theorem dX6_init_41 : decode cX6_init 41 = .ok (.putfield 22, 3) := by decide +kernel
theorem dX6_init_44 : decode cX6_init 44 = .ok (.aload_n 0, 1) := by decide +kernel
theorem dX6_init_45 : decode cX6_init 45 = .ok (.bipush 120, 2) := by decide +kernel
theorem dX6_init_47 : decode cX6_init 47 = .ok (.newarray .int, 2) := by decide +kernel
theorem dX6_init_49 : decode cX6_init 49 = .ok (.putfield 25, 3) := by decide +kernel
theorem dX6_init_52 : decode cX6_init 52 = .ok (.aload_n 0, 1) := by decide +kernel
theorem dX6_init_53 : decode cX6_init 53 = .ok (.iconst 4, 1) := by decide +kernel
theorem dX6_init_54 : decode cX6_init 54 = .ok (.newarray .int, 2) := by decide +kernel
theorem dX6_init_56 : decode cX6_init 56 = .ok (.putfield 28, 3) := by decide +kernel
theorem dX6_init_59 : decode cX6_init 59 = .ok (.aload_n 0, 1) := by decide +kernel
theorem dX6_init_60 : decode cX6_init 60 = .ok (.iconst 4, 1) := by decide +kernel
theorem dX6_init_61 : decode cX6_init 61 = .ok (.newarray .int, 2) := by decide +kernel
theorem dX6_init_63 : decode cX6_init 63 = .ok (.putfield 31, 3) := by decide +kernel
theorem dX6_init_66 : decode cX6_init 66 = .ok (.aload_n 0, 1) := by decide +kernel
theorem dX6_init_67 : decode cX6_init 67 = .ok (.sipush 160, 3) := by decide +kernel
theorem dX6_init_70 : decode cX6_init 70 = .ok (.newarray .long, 2) := by decide +kernel
theorem dX6_init_72 : decode cX6_init 72 = .ok (.putfield 34, 3) := by decide +kernel
theorem dX6_init_75 : decode cX6_init 75 = .ok (.aload_n 0, 1) := by decide +kernel
theorem dX6_init_76 : decode cX6_init 76 = .ok (.bipush 40, 2) := by decide +kernel
theorem dX6_init_78 : decode cX6_init 78 = .ok (.newarray .long, 2) := by decide +kernel
theorem dX6_init_80 : decode cX6_init 80 = .ok (.putfield 38, 3) := by decide +kernel
theorem dX6_init_83 : decode cX6_init 83 = .ok (.aload_n 0, 1) := by decide +kernel
theorem dX6_init_84 : decode cX6_init 84 = .ok (.getfield 7, 3) := by decide +kernel
theorem dX6_init_87 : decode cX6_init 87 = .ok (.iconst 2, 1) := by decide +kernel
theorem dX6_init_88 : decode cX6_init 88 = .ok (.sipush 500, 3) := by decide +kernel
theorem dX6_init_91 : decode cX6_init 91 = .ok (.iastore, 1) := by decide +kernel
theorem dX6_init_92 : decode cX6_init 92 = .ok (.aload_n 0, 1) := by decide +kernel
theorem dX6_init_93 : decode cX6_init 93 = .ok (.getfield 7, 3) := by decide +kernel
theorem dX6_init_96 : decode cX6_init 96 = .ok (.iconst 3, 1) := by decide +kernel
theorem dX6_init_97 : decode cX6_init 97 = .ok (.sipush 500, 3) := by decide +kernel
theorem dX6_init_100 : decode cX6_init 100 = .ok (.iastore, 1) := by decide +kernel
theorem dX6_init_101 : decode cX6_init 101 = .ok (.aload_n 0, 1) := by decide +kernel
theorem dX6_init_102 : decode cX6_init 102 = .ok (.getfield 7, 3) := by decide +kernel
theorem dX6_init_105 : decode cX6_init 105 = .ok (.iconst 4, 1) := by decide +kernel
theorem dX6_init_106 : decode cX6_init 106 = .ok (.iconst 1, 1) := by decide +kernel
theorem dX6_init_107 : decode cX6_init 107 = .ok (.iastore, 1) := by decide +kernel
theorem dX6_init_108 : decode cX6_init 108 = .ok (.iconst 0, 1) := by decide +kernel
theorem dX6_init_109 : decode cX6_init 109 = .ok (.istore_n 1, 1) := by decide +kernel
theorem dX6_init_110 : decode cX6_init 110 = .ok (.iload_n 1, 1) := by decide +kernel
theorem dX6_init_111 : decode cX6_init 111 = .ok (.bipush 6, 2) := by decide +kernel
theorem dX6_init_113 : decode cX6_init 113 = .ok (.if_icmp .ge 21, 3) := by decide +kernel
theorem dX6_init_116 : decode cX6_init 116 = .ok (.aload_n 0, 1) := by decide +kernel
theorem dX6_init_117 : decode cX6_init 117 = .ok (.getfield 7, 3) := by decide +kernel
theorem dX6_init_120 : decode cX6_init 120 = .ok (.iload_n 1, 1) := by decide +kernel
theorem dX6_init_121 : decode cX6_init 121 = .ok (.iconst 0, 1) := by decide +kernel
theorem dX6_init_122 : decode cX6_init 122 = .ok (.invokestatic 41, 3) := by decide +kernel
theorem dX6_init_125 : decode cX6_init 125 = .ok (.bipush 20, 2) := by decide +kernel
theorem dX6_init_127 : decode cX6_init 127 = .ok (.iastore, 1) := by decide +kernel
theorem dX6_init_128 : decode cX6_init 128 = .ok (.iinc 1 1, 3) := by decide +kernel
theorem dX6_init_131 : decode cX6_init 131 = .ok (.goto (-21), 3) := by decide +kernel
theorem dX6_init_134 : decode cX6_init 134 = .ok (.return_, 1) := by decide +kernel
theorem dX6_in_0 : decode cX6_in 0 = .ok (.lload_n 0, 1) := by decide +kernel
theorem dX6_in_1 : decode cX6_in 1 = .ok (.lload_n 2, 1) := by decide +kernel
theorem dX6_in_2 : decode cX6_in 2 = .ok (.lcmp, 1) := by decide +kernel
theorem dX6_in_3 : decode cX6_in 3 = .ok (.ifCond .lt 14, 3) := by decide +kernel
theorem dX6_in_6 : decode cX6_in 6 = .ok (.lload_n 0, 1) := by decide +kernel
theorem dX6_in_7 : decode cX6_in 7 = .ok (.lload 4, 2) := by decide +kernel
theorem dX6_in_9 : decode cX6_in 9 = .ok (.lcmp, 1) := by decide +kernel
theorem dX6_in_10 : decode cX6_in 10 = .ok (.ifCond .gt 7, 3) := by decide +kernel
theorem dX6_in_13 : decode cX6_in 13 = .ok (.iconst 1, 1) := by decide +kernel
theorem dX6_in_14 : decode cX6_in 14 = .ok (.goto 4, 3) := by decide +kernel
theorem dX6_in_17 : decode cX6_in 17 = .ok (.iconst 0, 1) := by decide +kernel
theorem dX6_in_18 : decode cX6_in 18 = .ok (.ireturn, 1) := by decide +kernel
theorem dX6_finds_0 : decode cX6_finds 0 = .ok (.aload_n 0, 1) := by decide +kernel
theorem dX6_finds_1 : decode cX6_finds 1 = .ok (.getfield 22, 3) := by decide +kernel
theorem dX6_finds_4 : decode cX6_finds 4 = .ok (.ldc 45, 2) := by decide +kernel
theorem dX6_finds_6 : decode cX6_finds 6 = .ok (.iload_n 1, 1) := by decide +kernel
theorem dX6_finds_7 : decode cX6_finds 7 = .ok (.isub, 1) := by decide +kernel
theorem dX6_finds_8 : decode cX6_finds 8 = .ok (.dup2, 1) := by decide +kernel
theorem dX6_finds_9 : decode cX6_finds 9 = .ok (.iaload, 1) := by decide +kernel
theorem dX6_finds_10 : decode cX6_finds 10 = .ok (.iconst 1, 1) := by decide +kernel
theorem dX6_finds_11 : decode cX6_finds 11 = .ok (.iadd, 1) := by decide +kernel
theorem dX6_finds_12 : decode cX6_finds 12 = .ok (.iastore, 1) := by decide +kernel
theorem dX6_finds_13 : decode cX6_finds 13 = .ok (.iload_n 1, 1) := by decide +kernel
theorem dX6_finds_14 : decode cX6_finds 14 = .ok (.ireturn, 1) := by decide +kernel
theorem dX6_saves_0 : decode cX6_saves 0 = .ok (.iconst 0, 1) := by decide +kernel
theorem dX6_saves_1 : decode cX6_saves 1 = .ok (.istore_n 1, 1) := by decide +kernel
theorem dX6_saves_2 : decode cX6_saves 2 = .ok (.iload_n 1, 1) := by decide +kernel
theorem dX6_saves_3 : decode cX6_saves 3 = .ok (.bipush 67, 2) := by decide +kernel
theorem dX6_saves_5 : decode cX6_saves 5 = .ok (.if_icmp .ge 21, 3) := by decide +kernel
theorem dX6_saves_8 : decode cX6_saves 8 = .ok (.aload_n 0, 1) := by decide +kernel
theorem dX6_saves_9 : decode cX6_saves 9 = .ok (.getfield 16, 3) := by decide +kernel
theorem dX6_saves_12 : decode cX6_saves 12 = .ok (.iload_n 1, 1) := by decide +kernel
theorem dX6_saves_13 : decode cX6_saves 13 = .ok (.aload_n 0, 1) := by decide +kernel
theorem dX6_saves_14 : decode cX6_saves 14 = .ok (.getfield 7, 3) := by decide +kernel
theorem dX6_saves_17 : decode cX6_saves 17 = .ok (.iload_n 1, 1) := by decide +kernel
theorem dX6_saves_18 : decode cX6_saves 18 = .ok (.iaload, 1) := by decide +kernel
theorem dX6_saves_19 : decode cX6_saves 19 = .ok (.iastore, 1) := by decide +kernel
theorem dX6_saves_20 : decode cX6_saves 20 = .ok (.iinc 1 1, 3) := by decide +kernel
theorem dX6_saves_23 : decode cX6_saves 23 = .ok (.goto (-21), 3) := by decide +kernel
theorem dX6_saves_26 : decode cX6_saves 26 = .ok (.return_, 1) := by decide +kernel
theorem dX6_putsBack_0 : decode cX6_putsBack 0 = .ok (.iconst 0, 1) := by decide +kernel
theorem dX6_putsBack_1 : decode cX6_putsBack 1 = .ok (.istore_n 1, 1) := by decide +kernel
theorem dX6_putsBack_2 : decode cX6_putsBack 2 = .ok (.iload_n 1, 1) := by decide +kernel
theorem dX6_putsBack_3 : decode cX6_putsBack 3 = .ok (.bipush 67, 2) := by decide +kernel
theorem dX6_putsBack_5 : decode cX6_putsBack 5 = .ok (.if_icmp .ge 21, 3) := by decide +kernel
theorem dX6_putsBack_8 : decode cX6_putsBack 8 = .ok (.aload_n 0, 1) := by decide +kernel
theorem dX6_putsBack_9 : decode cX6_putsBack 9 = .ok (.getfield 7, 3) := by decide +kernel
theorem dX6_putsBack_12 : decode cX6_putsBack 12 = .ok (.iload_n 1, 1) := by decide +kernel
theorem dX6_putsBack_13 : decode cX6_putsBack 13 = .ok (.aload_n 0, 1) := by decide +kernel
theorem dX6_putsBack_14 : decode cX6_putsBack 14 = .ok (.getfield 16, 3) := by decide +kernel
theorem dX6_putsBack_17 : decode cX6_putsBack 17 = .ok (.iload_n 1, 1) := by decide +kernel
theorem dX6_putsBack_18 : decode cX6_putsBack 18 = .ok (.iaload, 1) := by decide +kernel
theorem dX6_putsBack_19 : decode cX6_putsBack 19 = .ok (.iastore, 1) := by decide +kernel
theorem dX6_putsBack_20 : decode cX6_putsBack 20 = .ok (.iinc 1 1, 3) := by decide +kernel
theorem dX6_putsBack_23 : decode cX6_putsBack 23 = .ok (.goto (-21), 3) := by decide +kernel
theorem dX6_putsBack_26 : decode cX6_putsBack 26 = .ok (.return_, 1) := by decide +kernel
theorem dX6_laysAside_0 : decode cX6_laysAside 0 = .ok (.iconst 0, 1) := by decide +kernel
theorem dX6_laysAside_1 : decode cX6_laysAside 1 = .ok (.istore_n 1, 1) := by decide +kernel
theorem dX6_laysAside_2 : decode cX6_laysAside 2 = .ok (.iload_n 1, 1) := by decide +kernel
theorem dX6_laysAside_3 : decode cX6_laysAside 3 = .ok (.bipush 67, 2) := by decide +kernel
theorem dX6_laysAside_5 : decode cX6_laysAside 5 = .ok (.if_icmp .ge 21, 3) := by decide +kernel
theorem dX6_laysAside_8 : decode cX6_laysAside 8 = .ok (.aload_n 0, 1) := by decide +kernel
theorem dX6_laysAside_9 : decode cX6_laysAside 9 = .ok (.getfield 19, 3) := by decide +kernel
theorem dX6_laysAside_12 : decode cX6_laysAside 12 = .ok (.iload_n 1, 1) := by decide +kernel
theorem dX6_laysAside_13 : decode cX6_laysAside 13 = .ok (.aload_n 0, 1) := by decide +kernel
theorem dX6_laysAside_14 : decode cX6_laysAside 14 = .ok (.getfield 7, 3) := by decide +kernel
theorem dX6_laysAside_17 : decode cX6_laysAside 17 = .ok (.iload_n 1, 1) := by decide +kernel
theorem dX6_laysAside_18 : decode cX6_laysAside 18 = .ok (.iaload, 1) := by decide +kernel
theorem dX6_laysAside_19 : decode cX6_laysAside 19 = .ok (.iastore, 1) := by decide +kernel
theorem dX6_laysAside_20 : decode cX6_laysAside 20 = .ok (.iinc 1 1, 3) := by decide +kernel
theorem dX6_laysAside_23 : decode cX6_laysAside 23 = .ok (.goto (-21), 3) := by decide +kernel
theorem dX6_laysAside_26 : decode cX6_laysAside 26 = .ok (.return_, 1) := by decide +kernel
theorem dX6_takesBack_0 : decode cX6_takesBack 0 = .ok (.iconst 0, 1) := by decide +kernel
theorem dX6_takesBack_1 : decode cX6_takesBack 1 = .ok (.istore_n 2, 1) := by decide +kernel
theorem dX6_takesBack_2 : decode cX6_takesBack 2 = .ok (.iload_n 2, 1) := by decide +kernel
theorem dX6_takesBack_3 : decode cX6_takesBack 3 = .ok (.bipush 67, 2) := by decide +kernel
theorem dX6_takesBack_5 : decode cX6_takesBack 5 = .ok (.if_icmp .ge 21, 3) := by decide +kernel
theorem dX6_takesBack_8 : decode cX6_takesBack 8 = .ok (.aload_n 0, 1) := by decide +kernel
theorem dX6_takesBack_9 : decode cX6_takesBack 9 = .ok (.getfield 7, 3) := by decide +kernel
theorem dX6_takesBack_12 : decode cX6_takesBack 12 = .ok (.iload_n 2, 1) := by decide +kernel
theorem dX6_takesBack_13 : decode cX6_takesBack 13 = .ok (.aload_n 0, 1) := by decide +kernel
theorem dX6_takesBack_14 : decode cX6_takesBack 14 = .ok (.getfield 19, 3) := by decide +kernel
theorem dX6_takesBack_17 : decode cX6_takesBack 17 = .ok (.iload_n 2, 1) := by decide +kernel
theorem dX6_takesBack_18 : decode cX6_takesBack 18 = .ok (.iaload, 1) := by decide +kernel
theorem dX6_takesBack_19 : decode cX6_takesBack 19 = .ok (.iastore, 1) := by decide +kernel
theorem dX6_takesBack_20 : decode cX6_takesBack 20 = .ok (.iinc 2 1, 3) := by decide +kernel
theorem dX6_takesBack_23 : decode cX6_takesBack 23 = .ok (.goto (-21), 3) := by decide +kernel
theorem dX6_takesBack_26 : decode cX6_takesBack 26 = .ok (.iload_n 1, 1) := by decide +kernel
theorem dX6_takesBack_27 : decode cX6_takesBack 27 = .ok (.ireturn, 1) := by decide +kernel
theorem dX6_becomes_0 : decode cX6_becomes 0 = .ok (.aload_n 0, 1) := by decide +kernel
theorem dX6_becomes_1 : decode cX6_becomes 1 = .ok (.getfield 7, 3) := by decide +kernel
theorem dX6_becomes_4 : decode cX6_becomes 4 = .ok (.iload_n 1, 1) := by decide +kernel
theorem dX6_becomes_5 : decode cX6_becomes 5 = .ok (.iaload, 1) := by decide +kernel
theorem dX6_becomes_6 : decode cX6_becomes 6 = .ok (.istore_n 3, 1) := by decide +kernel
theorem dX6_becomes_7 : decode cX6_becomes 7 = .ok (.aload_n 0, 1) := by decide +kernel
theorem dX6_becomes_8 : decode cX6_becomes 8 = .ok (.getfield 7, 3) := by decide +kernel
theorem dX6_becomes_11 : decode cX6_becomes 11 = .ok (.iload_n 1, 1) := by decide +kernel
theorem dX6_becomes_12 : decode cX6_becomes 12 = .ok (.iload_n 2, 1) := by decide +kernel
theorem dX6_becomes_13 : decode cX6_becomes 13 = .ok (.iastore, 1) := by decide +kernel
theorem dX6_becomes_14 : decode cX6_becomes 14 = .ok (.iload_n 3, 1) := by decide +kernel
theorem dX6_becomes_15 : decode cX6_becomes 15 = .ok (.ireturn, 1) := by decide +kernel
theorem dX6_isStreet_0 : decode cX6_isStreet 0 = .ok (.iload_n 0, 1) := by decide +kernel
theorem dX6_isStreet_1 : decode cX6_isStreet 1 = .ok (.i2l, 1) := by decide +kernel
theorem dX6_isStreet_2 : decode cX6_isStreet 2 = .ok (.lconst 0, 1) := by decide +kernel
theorem dX6_isStreet_3 : decode cX6_isStreet 3 = .ok (.ldc2_w 46, 3) := by decide +kernel
theorem dX6_isStreet_6 : decode cX6_isStreet 6 = .ok (.invokestatic 48, 3) := by decide +kernel
theorem dX6_isStreet_9 : decode cX6_isStreet 9 = .ok (.ireturn, 1) := by decide +kernel
theorem dX6_isHole_0 : decode cX6_isHole 0 = .ok (.iload_n 1, 1) := by decide +kernel
theorem dX6_isHole_1 : decode cX6_isHole 1 = .ok (.i2l, 1) := by decide +kernel
theorem dX6_isHole_2 : decode cX6_isHole 2 = .ok (.lconst 0, 1) := by decide +kernel
theorem dX6_isHole_3 : decode cX6_isHole 3 = .ok (.aload_n 0, 1) := by decide +kernel
theorem dX6_isHole_4 : decode cX6_isHole 4 = .ok (.getfield 7, 3) := by decide +kernel
theorem dX6_isHole_7 : decode cX6_isHole 7 = .ok (.iconst 0, 1) := by decide +kernel
theorem dX6_isHole_8 : decode cX6_isHole 8 = .ok (.iaload, 1) := by decide +kernel
theorem dX6_isHole_9 : decode cX6_isHole 9 = .ok (.iconst 1, 1) := by decide +kernel
theorem dX6_isHole_10 : decode cX6_isHole 10 = .ok (.isub, 1) := by decide +kernel
theorem dX6_isHole_11 : decode cX6_isHole 11 = .ok (.i2l, 1) := by decide +kernel
theorem dX6_isHole_12 : decode cX6_isHole 12 = .ok (.invokestatic 48, 3) := by decide +kernel
theorem dX6_isHole_15 : decode cX6_isHole 15 = .ok (.ireturn, 1) := by decide +kernel
theorem dX6_isKind_0 : decode cX6_isKind 0 = .ok (.iload_n 0, 1) := by decide +kernel
theorem dX6_isKind_1 : decode cX6_isKind 1 = .ok (.i2l, 1) := by decide +kernel
theorem dX6_isKind_2 : decode cX6_isKind 2 = .ok (.lconst 0, 1) := by decide +kernel
theorem dX6_isKind_3 : decode cX6_isKind 3 = .ok (.ldc2_w 46, 3) := by decide +kernel
theorem dX6_isKind_6 : decode cX6_isKind 6 = .ok (.invokestatic 48, 3) := by decide +kernel
theorem dX6_isKind_9 : decode cX6_isKind 9 = .ok (.ireturn, 1) := by decide +kernel
theorem dX6_roadOf_0 : decode cX6_roadOf 0 = .ok (.bipush 7, 2) := by decide +kernel
theorem dX6_roadOf_2 : decode cX6_roadOf 2 = .ok (.iconst 2, 1) := by decide +kernel
theorem dX6_roadOf_3 : decode cX6_roadOf 3 = .ok (.iload_n 0, 1) := by decide +kernel
theorem dX6_roadOf_4 : decode cX6_roadOf 4 = .ok (.imul, 1) := by decide +kernel
theorem dX6_roadOf_5 : decode cX6_roadOf 5 = .ok (.iadd, 1) := by decide +kernel
theorem dX6_roadOf_6 : decode cX6_roadOf 6 = .ok (.iload_n 1, 1) := by decide +kernel
theorem dX6_roadOf_7 : decode cX6_roadOf 7 = .ok (.iadd, 1) := by decide +kernel
theorem dX6_roadOf_8 : decode cX6_roadOf 8 = .ok (.ireturn, 1) := by decide +kernel
theorem dX6_spotOf_0 : decode cX6_spotOf 0 = .ok (.bipush 19, 2) := by decide +kernel
theorem dX6_spotOf_2 : decode cX6_spotOf 2 = .ok (.bipush 6, 2) := by decide +kernel
theorem dX6_spotOf_4 : decode cX6_spotOf 4 = .ok (.iload_n 0, 1) := by decide +kernel
theorem dX6_spotOf_5 : decode cX6_spotOf 5 = .ok (.imul, 1) := by decide +kernel
theorem dX6_spotOf_6 : decode cX6_spotOf 6 = .ok (.iadd, 1) := by decide +kernel
theorem dX6_spotOf_7 : decode cX6_spotOf 7 = .ok (.iload_n 1, 1) := by decide +kernel
theorem dX6_spotOf_8 : decode cX6_spotOf 8 = .ok (.iadd, 1) := by decide +kernel
theorem dX6_spotOf_9 : decode cX6_spotOf 9 = .ok (.ireturn, 1) := by decide +kernel
theorem dX6_its_0 : decode cX6_its 0 = .ok (.aload_n 0, 1) := by decide +kernel
theorem dX6_its_1 : decode cX6_its 1 = .ok (.getfield 7, 3) := by decide +kernel
theorem dX6_its_4 : decode cX6_its 4 = .ok (.iload_n 1, 1) := by decide +kernel
theorem dX6_its_5 : decode cX6_its 5 = .ok (.iload_n 2, 1) := by decide +kernel
theorem dX6_its_6 : decode cX6_its 6 = .ok (.invokestatic 52, 3) := by decide +kernel
theorem dX6_its_9 : decode cX6_its 9 = .ok (.iaload, 1) := by decide +kernel
theorem dX6_its_10 : decode cX6_its 10 = .ok (.ireturn, 1) := by decide +kernel
theorem dX6_heldTo_0 : decode cX6_heldTo 0 = .ok (.iload_n 0, 1) := by decide +kernel
theorem dX6_heldTo_1 : decode cX6_heldTo 1 = .ok (.iload_n 1, 1) := by decide +kernel
theorem dX6_heldTo_2 : decode cX6_heldTo 2 = .ok (.if_icmp .le 7, 3) := by decide +kernel
theorem dX6_heldTo_5 : decode cX6_heldTo 5 = .ok (.iload_n 1, 1) := by decide +kernel
theorem dX6_heldTo_6 : decode cX6_heldTo 6 = .ok (.goto 4, 3) := by decide +kernel
theorem dX6_heldTo_9 : decode cX6_heldTo 9 = .ok (.iload_n 0, 1) := by decide +kernel
theorem dX6_heldTo_10 : decode cX6_heldTo 10 = .ok (.ireturn, 1) := by decide +kernel
theorem dX6_ones_0 : decode cX6_ones 0 = .ok (.iconst 0, 1) := by decide +kernel
theorem dX6_ones_1 : decode cX6_ones 1 = .ok (.istore_n 1, 1) := by decide +kernel
theorem dX6_ones_2 : decode cX6_ones 2 = .ok (.iload_n 0, 1) := by decide +kernel
theorem dX6_ones_3 : decode cX6_ones 3 = .ok (.istore_n 2, 1) := by decide +kernel
theorem dX6_ones_4 : decode cX6_ones 4 = .ok (.iload_n 2, 1) := by decide +kernel
theorem dX6_ones_5 : decode cX6_ones 5 = .ok (.ifCond .eq 15, 3) := by decide +kernel
theorem dX6_ones_8 : decode cX6_ones 8 = .ok (.iinc 1 1, 3) := by decide +kernel
theorem dX6_ones_11 : decode cX6_ones 11 = .ok (.iload_n 2, 1) := by decide +kernel
theorem dX6_ones_12 : decode cX6_ones 12 = .ok (.iload_n 2, 1) := by decide +kernel
theorem dX6_ones_13 : decode cX6_ones 13 = .ok (.iconst 1, 1) := by decide +kernel
theorem dX6_ones_14 : decode cX6_ones 14 = .ok (.isub, 1) := by decide +kernel
theorem dX6_ones_15 : decode cX6_ones 15 = .ok (.iand, 1) := by decide +kernel
theorem dX6_ones_16 : decode cX6_ones 16 = .ok (.istore_n 2, 1) := by decide +kernel
theorem dX6_ones_17 : decode cX6_ones 17 = .ok (.goto (-13), 3) := by decide +kernel
theorem dX6_ones_20 : decode cX6_ones 20 = .ok (.iload_n 1, 1) := by decide +kernel
theorem dX6_ones_21 : decode cX6_ones 21 = .ok (.ireturn, 1) := by decide +kernel
theorem dX6_town_0 : decode cX6_town 0 = .ok (.iload_n 1, 1) := by decide +kernel
theorem dX6_town_1 : decode cX6_town 1 = .ok (.i2l, 1) := by decide +kernel
theorem dX6_town_2 : decode cX6_town 2 = .ok (.lconst 0, 1) := by decide +kernel
theorem dX6_town_3 : decode cX6_town 3 = .ok (.ldc2_w 55, 3) := by decide +kernel
theorem dX6_town_6 : decode cX6_town 6 = .ok (.invokestatic 48, 3) := by decide +kernel
theorem dX6_town_9 : decode cX6_town 9 = .ok (.ifCond .eq 39, 3) := by decide +kernel
theorem dX6_town_12 : decode cX6_town 12 = .ok (.iload_n 2, 1) := by decide +kernel
theorem dX6_town_13 : decode cX6_town 13 = .ok (.i2l, 1) := by decide +kernel
theorem dX6_town_14 : decode cX6_town 14 = .ok (.lconst 0, 1) := by decide +kernel
theorem dX6_town_15 : decode cX6_town 15 = .ok (.iload_n 1, 1) := by decide +kernel
theorem dX6_town_16 : decode cX6_town 16 = .ok (.iconst 2, 1) := by decide +kernel
theorem dX6_town_17 : decode cX6_town 17 = .ok (.if_icmp .ge 9, 3) := by decide +kernel
theorem dX6_town_20 : decode cX6_town 20 = .ok (.ldc2_w 57, 3) := by decide +kernel
theorem dX6_town_23 : decode cX6_town 23 = .ok (.goto 15, 3) := by decide +kernel
theorem dX6_town_26 : decode cX6_town 26 = .ok (.iload_n 1, 1) := by decide +kernel
theorem dX6_town_27 : decode cX6_town 27 = .ok (.iconst 2, 1) := by decide +kernel
theorem dX6_town_28 : decode cX6_town 28 = .ok (.if_icmp .ne 9, 3) := by decide +kernel
theorem dX6_town_31 : decode cX6_town 31 = .ok (.ldc2_w 59, 3) := by decide +kernel
theorem dX6_town_34 : decode cX6_town 34 = .ok (.goto 4, 3) := by decide +kernel
theorem dX6_town_37 : decode cX6_town 37 = .ok (.lconst 1, 1) := by decide +kernel
theorem dX6_town_38 : decode cX6_town 38 = .ok (.invokestatic 48, 3) := by decide +kernel
theorem dX6_town_41 : decode cX6_town 41 = .ok (.ifCond .eq 7, 3) := by decide +kernel
theorem dX6_town_44 : decode cX6_town 44 = .ok (.iconst 1, 1) := by decide +kernel
theorem dX6_town_45 : decode cX6_town 45 = .ok (.goto 4, 3) := by decide +kernel
theorem dX6_town_48 : decode cX6_town 48 = .ok (.iconst 0, 1) := by decide +kernel
theorem dX6_town_49 : decode cX6_town 49 = .ok (.istore_n 3, 1) := by decide +kernel
theorem dX6_town_50 : decode cX6_town 50 = .ok (.iload_n 3, 1) := by decide +kernel
theorem dX6_town_51 : decode cX6_town 51 = .ok (.ifCond .eq 14, 3) := by decide +kernel
theorem dX6_town_54 : decode cX6_town 54 = .ok (.aload_n 0, 1) := by decide +kernel
theorem dX6_town_55 : decode cX6_town 55 = .ok (.iconst 2, 1) := by decide +kernel
theorem dX6_town_56 : decode cX6_town 56 = .ok (.iload_n 1, 1) := by decide +kernel
theorem dX6_town_57 : decode cX6_town 57 = .ok (.iadd, 1) := by decide +kernel
theorem dX6_town_58 : decode cX6_town 58 = .ok (.iload_n 2, 1) := by decide +kernel
theorem dX6_town_59 : decode cX6_town 59 = .ok (.invokevirtual 61, 3) := by decide +kernel
theorem dX6_town_62 : decode cX6_town 62 = .ok (.goto 9, 3) := by decide +kernel
theorem dX6_town_65 : decode cX6_town 65 = .ok (.aload_n 0, 1) := by decide +kernel
theorem dX6_town_66 : decode cX6_town 66 = .ok (.ldc 45, 2) := by decide +kernel
theorem dX6_town_68 : decode cX6_town 68 = .ok (.invokevirtual 64, 3) := by decide +kernel
theorem dX6_town_71 : decode cX6_town 71 = .ok (.ireturn, 1) := by decide +kernel
theorem dX6_street_0 : decode cX6_street 0 = .ok (.iload_n 2, 1) := by decide +kernel
theorem dX6_street_1 : decode cX6_street 1 = .ok (.i2l, 1) := by decide +kernel
theorem dX6_street_2 : decode cX6_street 2 = .ok (.lconst 0, 1) := by decide +kernel
theorem dX6_street_3 : decode cX6_street 3 = .ok (.lconst 1, 1) := by decide +kernel
theorem dX6_street_4 : decode cX6_street 4 = .ok (.invokestatic 48, 3) := by decide +kernel
theorem dX6_street_7 : decode cX6_street 7 = .ok (.ifCond .eq 27, 3) := by decide +kernel
theorem dX6_street_10 : decode cX6_street 10 = .ok (.iload_n 3, 1) := by decide +kernel
theorem dX6_street_11 : decode cX6_street 11 = .ok (.i2l, 1) := by decide +kernel
theorem dX6_street_12 : decode cX6_street 12 = .ok (.lconst 0, 1) := by decide +kernel
theorem dX6_street_13 : decode cX6_street 13 = .ok (.iload_n 2, 1) := by decide +kernel
theorem dX6_street_14 : decode cX6_street 14 = .ok (.ifCond .ne 9, 3) := by decide +kernel
theorem dX6_street_17 : decode cX6_street 17 = .ok (.ldc2_w 68, 3) := by decide +kernel
theorem dX6_street_20 : decode cX6_street 20 = .ok (.goto 4, 3) := by decide +kernel
theorem dX6_street_23 : decode cX6_street 23 = .ok (.lconst 1, 1) := by decide +kernel
theorem dX6_street_24 : decode cX6_street 24 = .ok (.invokestatic 48, 3) := by decide +kernel
theorem dX6_street_27 : decode cX6_street 27 = .ok (.ifCond .eq 7, 3) := by decide +kernel
theorem dX6_street_30 : decode cX6_street 30 = .ok (.iconst 1, 1) := by decide +kernel
theorem dX6_street_31 : decode cX6_street 31 = .ok (.goto 4, 3) := by decide +kernel
theorem dX6_street_34 : decode cX6_street 34 = .ok (.iconst 0, 1) := by decide +kernel
theorem dX6_street_35 : decode cX6_street 35 = .ok (.istore 4, 2) := by decide +kernel
theorem dX6_street_37 : decode cX6_street 37 = .ok (.iload_n 1, 1) := by decide +kernel
theorem dX6_street_38 : decode cX6_street 38 = .ok (.invokestatic 70, 3) := by decide +kernel
theorem dX6_street_41 : decode cX6_street 41 = .ok (.ifCond .eq 21, 3) := by decide +kernel
theorem dX6_street_44 : decode cX6_street 44 = .ok (.iload 4, 2) := by decide +kernel
theorem dX6_street_46 : decode cX6_street 46 = .ok (.ifCond .eq 16, 3) := by decide +kernel
theorem dX6_street_49 : decode cX6_street 49 = .ok (.aload_n 0, 1) := by decide +kernel
theorem dX6_street_50 : decode cX6_street 50 = .ok (.iload_n 1, 1) := by decide +kernel
theorem dX6_street_51 : decode cX6_street 51 = .ok (.iload_n 2, 1) := by decide +kernel
theorem dX6_street_52 : decode cX6_street 52 = .ok (.invokestatic 41, 3) := by decide +kernel
theorem dX6_street_55 : decode cX6_street 55 = .ok (.iload_n 3, 1) := by decide +kernel
theorem dX6_street_56 : decode cX6_street 56 = .ok (.invokevirtual 61, 3) := by decide +kernel
theorem dX6_street_59 : decode cX6_street 59 = .ok (.goto 9, 3) := by decide +kernel
theorem dX6_street_62 : decode cX6_street 62 = .ok (.aload_n 0, 1) := by decide +kernel
theorem dX6_street_63 : decode cX6_street 63 = .ok (.ldc 45, 2) := by decide +kernel
theorem dX6_street_65 : decode cX6_street 65 = .ok (.invokevirtual 64, 3) := by decide +kernel
theorem dX6_street_68 : decode cX6_street 68 = .ok (.ireturn, 1) := by decide +kernel
theorem dX6_thoseAs_0 : decode cX6_thoseAs 0 = .ok (.iconst 0, 1) := by decide +kernel
theorem dX6_thoseAs_1 : decode cX6_thoseAs 1 = .ok (.istore_n 3, 1) := by decide +kernel
theorem dX6_thoseAs_2 : decode cX6_thoseAs 2 = .ok (.iconst 0, 1) := by decide +kernel
theorem dX6_thoseAs_3 : decode cX6_thoseAs 3 = .ok (.istore 4, 2) := by decide +kernel
theorem dX6_thoseAs_5 : decode cX6_thoseAs 5 = .ok (.iload 4, 2) := by decide +kernel
theorem dX6_thoseAs_7 : decode cX6_thoseAs 7 = .ok (.aload_n 0, 1) := by decide +kernel
theorem dX6_thoseAs_8 : decode cX6_thoseAs 8 = .ok (.getfield 7, 3) := by decide +kernel
theorem dX6_thoseAs_11 : decode cX6_thoseAs 11 = .ok (.iconst 0, 1) := by decide +kernel
theorem dX6_thoseAs_12 : decode cX6_thoseAs 12 = .ok (.iaload, 1) := by decide +kernel
theorem dX6_thoseAs_13 : decode cX6_thoseAs 13 = .ok (.if_icmp .ge 31, 3) := by decide +kernel
theorem dX6_thoseAs_16 : decode cX6_thoseAs 16 = .ok (.iload_n 3, 1) := by decide +kernel
theorem dX6_thoseAs_17 : decode cX6_thoseAs 17 = .ok (.aload_n 0, 1) := by decide +kernel
theorem dX6_thoseAs_18 : decode cX6_thoseAs 18 = .ok (.iload 4, 2) := by decide +kernel
theorem dX6_thoseAs_20 : decode cX6_thoseAs 20 = .ok (.iload_n 1, 1) := by decide +kernel
theorem dX6_thoseAs_21 : decode cX6_thoseAs 21 = .ok (.invokevirtual 74, 3) := by decide +kernel
theorem dX6_thoseAs_24 : decode cX6_thoseAs 24 = .ok (.iload_n 2, 1) := by decide +kernel
theorem dX6_thoseAs_25 : decode cX6_thoseAs 25 = .ok (.if_icmp .ne 10, 3) := by decide +kernel
theorem dX6_thoseAs_28 : decode cX6_thoseAs 28 = .ok (.iconst 1, 1) := by decide +kernel
theorem dX6_thoseAs_29 : decode cX6_thoseAs 29 = .ok (.iload 4, 2) := by decide +kernel
theorem dX6_thoseAs_31 : decode cX6_thoseAs 31 = .ok (.ishl, 1) := by decide +kernel
theorem dX6_thoseAs_32 : decode cX6_thoseAs 32 = .ok (.goto 4, 3) := by decide +kernel
theorem dX6_thoseAs_35 : decode cX6_thoseAs 35 = .ok (.iconst 0, 1) := by decide +kernel
theorem dX6_thoseAs_36 : decode cX6_thoseAs 36 = .ok (.ior, 1) := by decide +kernel
theorem dX6_thoseAs_37 : decode cX6_thoseAs 37 = .ok (.istore_n 3, 1) := by decide +kernel
theorem dX6_thoseAs_38 : decode cX6_thoseAs 38 = .ok (.iinc 4 1, 3) := by decide +kernel
theorem dX6_thoseAs_41 : decode cX6_thoseAs 41 = .ok (.goto (-36), 3) := by decide +kernel
theorem dX6_thoseAs_44 : decode cX6_thoseAs 44 = .ok (.iload_n 3, 1) := by decide +kernel
theorem dX6_thoseAs_45 : decode cX6_thoseAs 45 = .ok (.ireturn, 1) := by decide +kernel
theorem dX6_streetOf_0 : decode cX6_streetOf 0 = .ok (.iload_n 1, 1) := by decide +kernel
theorem dX6_streetOf_1 : decode cX6_streetOf 1 = .ok (.invokestatic 70, 3) := by decide +kernel
theorem dX6_streetOf_4 : decode cX6_streetOf 4 = .ok (.ifCond .eq 15, 3) := by decide +kernel
theorem dX6_streetOf_7 : decode cX6_streetOf 7 = .ok (.iload_n 2, 1) := by decide +kernel
theorem dX6_streetOf_8 : decode cX6_streetOf 8 = .ok (.i2l, 1) := by decide +kernel
theorem dX6_streetOf_9 : decode cX6_streetOf 9 = .ok (.lconst 0, 1) := by decide +kernel
theorem dX6_streetOf_10 : decode cX6_streetOf 10 = .ok (.ldc2_w 55, 3) := by decide +kernel
theorem dX6_streetOf_13 : decode cX6_streetOf 13 = .ok (.invokestatic 48, 3) := by decide +kernel
theorem dX6_streetOf_16 : decode cX6_streetOf 16 = .ok (.ifCond .ne 10, 3) := by decide +kernel
theorem dX6_streetOf_19 : decode cX6_streetOf 19 = .ok (.aload_n 0, 1) := by decide +kernel
theorem dX6_streetOf_20 : decode cX6_streetOf 20 = .ok (.ldc 45, 2) := by decide +kernel
theorem dX6_streetOf_22 : decode cX6_streetOf 22 = .ok (.invokevirtual 64, 3) := by decide +kernel
theorem dX6_streetOf_25 : decode cX6_streetOf 25 = .ok (.ireturn, 1) := by decide +kernel
theorem dX6_streetOf_26 : decode cX6_streetOf 26 = .ok (.aload_n 0, 1) := by decide +kernel
theorem dX6_streetOf_27 : decode cX6_streetOf 27 = .ok (.iconst 1, 1) := by decide +kernel
theorem dX6_streetOf_28 : decode cX6_streetOf 28 = .ok (.iload_n 1, 1) := by decide +kernel
theorem dX6_streetOf_29 : decode cX6_streetOf 29 = .ok (.invokevirtual 77, 3) := by decide +kernel
theorem dX6_streetOf_32 : decode cX6_streetOf 32 = .ok (.istore_n 3, 1) := by decide +kernel
theorem dX6_streetOf_33 : decode cX6_streetOf 33 = .ok (.iload_n 2, 1) := by decide +kernel
theorem dX6_streetOf_34 : decode cX6_streetOf 34 = .ok (.iconst 1, 1) := by decide +kernel
theorem dX6_streetOf_35 : decode cX6_streetOf 35 = .ok (.if_icmp .gt 16, 3) := by decide +kernel
theorem dX6_streetOf_38 : decode cX6_streetOf 38 = .ok (.aload_n 0, 1) := by decide +kernel
theorem dX6_streetOf_39 : decode cX6_streetOf 39 = .ok (.getfield 7, 3) := by decide +kernel
theorem dX6_streetOf_42 : decode cX6_streetOf 42 = .ok (.iload_n 1, 1) := by decide +kernel
theorem dX6_streetOf_43 : decode cX6_streetOf 43 = .ok (.iload_n 2, 1) := by decide +kernel
theorem dX6_streetOf_44 : decode cX6_streetOf 44 = .ok (.invokestatic 41, 3) := by decide +kernel
theorem dX6_streetOf_47 : decode cX6_streetOf 47 = .ok (.iaload, 1) := by decide +kernel
theorem dX6_streetOf_48 : decode cX6_streetOf 48 = .ok (.goto 20, 3) := by decide +kernel
theorem dX6_streetOf_51 : decode cX6_streetOf 51 = .ok (.iload_n 2, 1) := by decide +kernel
theorem dX6_streetOf_52 : decode cX6_streetOf 52 = .ok (.iconst 2, 1) := by decide +kernel
theorem dX6_streetOf_53 : decode cX6_streetOf 53 = .ok (.if_icmp .ne 7, 3) := by decide +kernel
theorem dX6_streetOf_56 : decode cX6_streetOf 56 = .ok (.iload_n 3, 1) := by decide +kernel
theorem dX6_streetOf_57 : decode cX6_streetOf 57 = .ok (.goto 11, 3) := by decide +kernel
theorem dX6_streetOf_60 : decode cX6_streetOf 60 = .ok (.iload_n 3, 1) := by decide +kernel
theorem dX6_streetOf_61 : decode cX6_streetOf 61 = .ok (.aload_n 0, 1) := by decide +kernel
theorem dX6_streetOf_62 : decode cX6_streetOf 62 = .ok (.iconst 3, 1) := by decide +kernel
theorem dX6_streetOf_63 : decode cX6_streetOf 63 = .ok (.iconst 0, 1) := by decide +kernel
theorem dX6_streetOf_64 : decode cX6_streetOf 64 = .ok (.invokevirtual 77, 3) := by decide +kernel
theorem dX6_streetOf_67 : decode cX6_streetOf 67 = .ok (.iand, 1) := by decide +kernel
theorem dX6_streetOf_68 : decode cX6_streetOf 68 = .ok (.ireturn, 1) := by decide +kernel
theorem dX6_adds_0 : decode cX6_adds 0 = .ok (.aload_n 0, 1) := by decide +kernel
theorem dX6_adds_1 : decode cX6_adds 1 = .ok (.getfield 7, 3) := by decide +kernel
theorem dX6_adds_4 : decode cX6_adds 4 = .ok (.iconst 0, 1) := by decide +kernel
theorem dX6_adds_5 : decode cX6_adds 5 = .ok (.iaload, 1) := by decide +kernel
theorem dX6_adds_6 : decode cX6_adds 6 = .ok (.istore_n 3, 1) := by decide +kernel
theorem dX6_adds_7 : decode cX6_adds 7 = .ok (.aload_n 0, 1) := by decide +kernel
theorem dX6_adds_8 : decode cX6_adds 8 = .ok (.getfield 7, 3) := by decide +kernel
theorem dX6_adds_11 : decode cX6_adds 11 = .ok (.iload_n 3, 1) := by decide +kernel
theorem dX6_adds_12 : decode cX6_adds 12 = .ok (.iconst 0, 1) := by decide +kernel
theorem dX6_adds_13 : decode cX6_adds 13 = .ok (.invokestatic 52, 3) := by decide +kernel
theorem dX6_adds_16 : decode cX6_adds 16 = .ok (.iload_n 1, 1) := by decide +kernel
theorem dX6_adds_17 : decode cX6_adds 17 = .ok (.iastore, 1) := by decide +kernel
theorem dX6_adds_18 : decode cX6_adds 18 = .ok (.aload_n 0, 1) := by decide +kernel
theorem dX6_adds_19 : decode cX6_adds 19 = .ok (.getfield 7, 3) := by decide +kernel
theorem dX6_adds_22 : decode cX6_adds 22 = .ok (.iload_n 3, 1) := by decide +kernel
theorem dX6_adds_23 : decode cX6_adds 23 = .ok (.iconst 1, 1) := by decide +kernel
theorem dX6_adds_24 : decode cX6_adds 24 = .ok (.invokestatic 52, 3) := by decide +kernel
theorem dX6_adds_27 : decode cX6_adds 27 = .ok (.iload_n 2, 1) := by decide +kernel
theorem dX6_adds_28 : decode cX6_adds 28 = .ok (.iastore, 1) := by decide +kernel
theorem dX6_adds_29 : decode cX6_adds 29 = .ok (.aload_n 0, 1) := by decide +kernel
theorem dX6_adds_30 : decode cX6_adds 30 = .ok (.getfield 7, 3) := by decide +kernel
theorem dX6_adds_33 : decode cX6_adds 33 = .ok (.iload_n 3, 1) := by decide +kernel
theorem dX6_adds_34 : decode cX6_adds 34 = .ok (.iconst 2, 1) := by decide +kernel
theorem dX6_adds_35 : decode cX6_adds 35 = .ok (.invokestatic 52, 3) := by decide +kernel
theorem dX6_adds_38 : decode cX6_adds 38 = .ok (.iconst 5, 1) := by decide +kernel
theorem dX6_adds_39 : decode cX6_adds 39 = .ok (.iastore, 1) := by decide +kernel
theorem dX6_adds_40 : decode cX6_adds 40 = .ok (.aload_n 0, 1) := by decide +kernel
theorem dX6_adds_41 : decode cX6_adds 41 = .ok (.getfield 7, 3) := by decide +kernel
theorem dX6_adds_44 : decode cX6_adds 44 = .ok (.iload_n 3, 1) := by decide +kernel
theorem dX6_adds_45 : decode cX6_adds 45 = .ok (.iconst 3, 1) := by decide +kernel
theorem dX6_adds_46 : decode cX6_adds 46 = .ok (.invokestatic 52, 3) := by decide +kernel
theorem dX6_adds_49 : decode cX6_adds 49 = .ok (.iconst 0, 1) := by decide +kernel
theorem dX6_adds_50 : decode cX6_adds 50 = .ok (.iastore, 1) := by decide +kernel
theorem dX6_adds_51 : decode cX6_adds 51 = .ok (.aload_n 0, 1) := by decide +kernel
theorem dX6_adds_52 : decode cX6_adds 52 = .ok (.getfield 7, 3) := by decide +kernel
theorem dX6_adds_55 : decode cX6_adds 55 = .ok (.iload_n 3, 1) := by decide +kernel
theorem dX6_adds_56 : decode cX6_adds 56 = .ok (.iconst 4, 1) := by decide +kernel
theorem dX6_adds_57 : decode cX6_adds 57 = .ok (.invokestatic 52, 3) := by decide +kernel
theorem dX6_adds_60 : decode cX6_adds 60 = .ok (.iconst 0, 1) := by decide +kernel
theorem dX6_adds_61 : decode cX6_adds 61 = .ok (.iastore, 1) := by decide +kernel
theorem dX6_adds_62 : decode cX6_adds 62 = .ok (.aload_n 0, 1) := by decide +kernel
theorem dX6_adds_63 : decode cX6_adds 63 = .ok (.getfield 7, 3) := by decide +kernel
theorem dX6_adds_66 : decode cX6_adds 66 = .ok (.iload_n 3, 1) := by decide +kernel
theorem dX6_adds_67 : decode cX6_adds 67 = .ok (.iconst 5, 1) := by decide +kernel
theorem dX6_adds_68 : decode cX6_adds 68 = .ok (.invokestatic 52, 3) := by decide +kernel
theorem dX6_adds_71 : decode cX6_adds 71 = .ok (.iconst 0, 1) := by decide +kernel
theorem dX6_adds_72 : decode cX6_adds 72 = .ok (.iastore, 1) := by decide +kernel
theorem dX6_adds_73 : decode cX6_adds 73 = .ok (.aload_n 0, 1) := by decide +kernel
theorem dX6_adds_74 : decode cX6_adds 74 = .ok (.getfield 7, 3) := by decide +kernel
theorem dX6_adds_77 : decode cX6_adds 77 = .ok (.iconst 0, 1) := by decide +kernel
theorem dX6_adds_78 : decode cX6_adds 78 = .ok (.dup2, 1) := by decide +kernel
theorem dX6_adds_79 : decode cX6_adds 79 = .ok (.iaload, 1) := by decide +kernel
theorem dX6_adds_80 : decode cX6_adds 80 = .ok (.iconst 1, 1) := by decide +kernel
theorem dX6_adds_81 : decode cX6_adds 81 = .ok (.iadd, 1) := by decide +kernel
theorem dX6_adds_82 : decode cX6_adds 82 = .ok (.iastore, 1) := by decide +kernel
theorem dX6_adds_83 : decode cX6_adds 83 = .ok (.iload_n 3, 1) := by decide +kernel
theorem dX6_adds_84 : decode cX6_adds 84 = .ok (.ireturn, 1) := by decide +kernel
theorem dX6_hole_0 : decode cX6_hole 0 = .ok (.iload_n 1, 1) := by decide +kernel
theorem dX6_hole_1 : decode cX6_hole 1 = .ok (.invokestatic 80, 3) := by decide +kernel
theorem dX6_hole_4 : decode cX6_hole 4 = .ok (.ifCond .eq 10, 3) := by decide +kernel
theorem dX6_hole_7 : decode cX6_hole 7 = .ok (.iload_n 2, 1) := by decide +kernel
theorem dX6_hole_8 : decode cX6_hole 8 = .ok (.invokestatic 70, 3) := by decide +kernel
theorem dX6_hole_11 : decode cX6_hole 11 = .ok (.ifCond .ne 10, 3) := by decide +kernel
theorem dX6_hole_14 : decode cX6_hole 14 = .ok (.aload_n 0, 1) := by decide +kernel
theorem dX6_hole_15 : decode cX6_hole 15 = .ok (.ldc 45, 2) := by decide +kernel
theorem dX6_hole_17 : decode cX6_hole 17 = .ok (.invokevirtual 64, 3) := by decide +kernel
theorem dX6_hole_20 : decode cX6_hole 20 = .ok (.ireturn, 1) := by decide +kernel
theorem dX6_hole_21 : decode cX6_hole 21 = .ok (.aload_n 0, 1) := by decide +kernel
theorem dX6_hole_22 : decode cX6_hole 22 = .ok (.getfield 7, 3) := by decide +kernel
theorem dX6_hole_25 : decode cX6_hole 25 = .ok (.iconst 0, 1) := by decide +kernel
theorem dX6_hole_26 : decode cX6_hole 26 = .ok (.iaload, 1) := by decide +kernel
theorem dX6_hole_27 : decode cX6_hole 27 = .ok (.bipush 8, 2) := by decide +kernel
theorem dX6_hole_29 : decode cX6_hole 29 = .ok (.if_icmp .ne 12, 3) := by decide +kernel
theorem dX6_hole_32 : decode cX6_hole 32 = .ok (.aload_n 0, 1) := by decide +kernel
theorem dX6_hole_33 : decode cX6_hole 33 = .ok (.ldc 83, 2) := by decide +kernel
theorem dX6_hole_35 : decode cX6_hole 35 = .ok (.invokevirtual 64, 3) := by decide +kernel
theorem dX6_hole_38 : decode cX6_hole 38 = .ok (.goto 9, 3) := by decide +kernel
theorem dX6_hole_41 : decode cX6_hole 41 = .ok (.aload_n 0, 1) := by decide +kernel
theorem dX6_hole_42 : decode cX6_hole 42 = .ok (.iload_n 1, 1) := by decide +kernel
theorem dX6_hole_43 : decode cX6_hole 43 = .ok (.iload_n 2, 1) := by decide +kernel
theorem dX6_hole_44 : decode cX6_hole 44 = .ok (.invokevirtual 84, 3) := by decide +kernel
theorem dX6_hole_47 : decode cX6_hole 47 = .ok (.ireturn, 1) := by decide +kernel
theorem dX6_weekOfYear_0 : decode cX6_weekOfYear 0 = .ok (.aload_n 0, 1) := by decide +kernel
theorem dX6_weekOfYear_1 : decode cX6_weekOfYear 1 = .ok (.getfield 7, 3) := by decide +kernel
theorem dX6_weekOfYear_4 : decode cX6_weekOfYear 4 = .ok (.iconst 1, 1) := by decide +kernel
theorem dX6_weekOfYear_5 : decode cX6_weekOfYear 5 = .ok (.iaload, 1) := by decide +kernel
theorem dX6_weekOfYear_6 : decode cX6_weekOfYear 6 = .ok (.bipush 52, 2) := by decide +kernel
theorem dX6_weekOfYear_8 : decode cX6_weekOfYear 8 = .ok (.irem, 1) := by decide +kernel
theorem dX6_weekOfYear_9 : decode cX6_weekOfYear 9 = .ok (.ireturn, 1) := by decide +kernel
theorem dX6_isFrost_0 : decode cX6_isFrost 0 = .ok (.aload_n 0, 1) := by decide +kernel
theorem dX6_isFrost_1 : decode cX6_isFrost 1 = .ok (.invokevirtual 87, 3) := by decide +kernel
theorem dX6_isFrost_4 : decode cX6_isFrost 4 = .ok (.bipush 10, 2) := by decide +kernel
theorem dX6_isFrost_6 : decode cX6_isFrost 6 = .ok (.if_icmp .lt 12, 3) := by decide +kernel
theorem dX6_isFrost_9 : decode cX6_isFrost 9 = .ok (.aload_n 0, 1) := by decide +kernel
theorem dX6_isFrost_10 : decode cX6_isFrost 10 = .ok (.invokevirtual 87, 3) := by decide +kernel
theorem dX6_isFrost_13 : decode cX6_isFrost 13 = .ok (.bipush 46, 2) := by decide +kernel
theorem dX6_isFrost_15 : decode cX6_isFrost 15 = .ok (.if_icmp .lt 7, 3) := by decide +kernel
theorem dX6_isFrost_18 : decode cX6_isFrost 18 = .ok (.iconst 1, 1) := by decide +kernel
theorem dX6_isFrost_19 : decode cX6_isFrost 19 = .ok (.goto 4, 3) := by decide +kernel
theorem dX6_isFrost_22 : decode cX6_isFrost 22 = .ok (.iconst 0, 1) := by decide +kernel
theorem dX6_isFrost_23 : decode cX6_isFrost 23 = .ok (.ireturn, 1) := by decide +kernel
theorem dX6_growsOf_0 : decode cX6_growsOf 0 = .ok (.iconst 1, 1) := by decide +kernel
theorem dX6_growsOf_1 : decode cX6_growsOf 1 = .ok (.aload_n 0, 1) := by decide +kernel
theorem dX6_growsOf_2 : decode cX6_growsOf 2 = .ok (.getfield 7, 3) := by decide +kernel
theorem dX6_growsOf_5 : decode cX6_growsOf 5 = .ok (.aload_n 0, 1) := by decide +kernel
theorem dX6_growsOf_6 : decode cX6_growsOf 6 = .ok (.iload_n 1, 1) := by decide +kernel
theorem dX6_growsOf_7 : decode cX6_growsOf 7 = .ok (.iconst 1, 1) := by decide +kernel
theorem dX6_growsOf_8 : decode cX6_growsOf 8 = .ok (.invokevirtual 74, 3) := by decide +kernel
theorem dX6_growsOf_11 : decode cX6_growsOf 11 = .ok (.iconst 0, 1) := by decide +kernel
theorem dX6_growsOf_12 : decode cX6_growsOf 12 = .ok (.invokestatic 41, 3) := by decide +kernel
theorem dX6_growsOf_15 : decode cX6_growsOf 15 = .ok (.iaload, 1) := by decide +kernel
theorem dX6_growsOf_16 : decode cX6_growsOf 16 = .ok (.bipush 10, 2) := by decide +kernel
theorem dX6_growsOf_18 : decode cX6_growsOf 18 = .ok (.idiv, 1) := by decide +kernel
theorem dX6_growsOf_19 : decode cX6_growsOf 19 = .ok (.iadd, 1) := by decide +kernel
theorem dX6_growsOf_20 : decode cX6_growsOf 20 = .ok (.istore_n 2, 1) := by decide +kernel
theorem dX6_growsOf_21 : decode cX6_growsOf 21 = .ok (.aload_n 0, 1) := by decide +kernel
theorem dX6_growsOf_22 : decode cX6_growsOf 22 = .ok (.invokevirtual 91, 3) := by decide +kernel
theorem dX6_growsOf_25 : decode cX6_growsOf 25 = .ok (.ifCond .eq 9, 3) := by decide +kernel
theorem dX6_growsOf_28 : decode cX6_growsOf 28 = .ok (.iload_n 2, 1) := by decide +kernel
theorem dX6_growsOf_29 : decode cX6_growsOf 29 = .ok (.iconst 2, 1) := by decide +kernel
theorem dX6_growsOf_30 : decode cX6_growsOf 30 = .ok (.iadd, 1) := by decide +kernel
theorem dX6_growsOf_31 : decode cX6_growsOf 31 = .ok (.goto 4, 3) := by decide +kernel
theorem dX6_growsOf_34 : decode cX6_growsOf 34 = .ok (.iload_n 2, 1) := by decide +kernel
theorem dX6_growsOf_35 : decode cX6_growsOf 35 = .ok (.istore_n 2, 1) := by decide +kernel
theorem dX6_growsOf_36 : decode cX6_growsOf 36 = .ok (.iload_n 2, 1) := by decide +kernel
theorem dX6_growsOf_37 : decode cX6_growsOf 37 = .ok (.aload_n 0, 1) := by decide +kernel
theorem dX6_growsOf_38 : decode cX6_growsOf 38 = .ok (.iload_n 1, 1) := by decide +kernel
theorem dX6_growsOf_39 : decode cX6_growsOf 39 = .ok (.iconst 2, 1) := by decide +kernel
theorem dX6_growsOf_40 : decode cX6_growsOf 40 = .ok (.invokevirtual 74, 3) := by decide +kernel
theorem dX6_growsOf_43 : decode cX6_growsOf 43 = .ok (.bipush 20, 2) := by decide +kernel
theorem dX6_growsOf_45 : decode cX6_growsOf 45 = .ok (.idiv, 1) := by decide +kernel
theorem dX6_growsOf_46 : decode cX6_growsOf 46 = .ok (.iadd, 1) := by decide +kernel
theorem dX6_growsOf_47 : decode cX6_growsOf 47 = .ok (.istore_n 3, 1) := by decide +kernel
theorem dX6_growsOf_48 : decode cX6_growsOf 48 = .ok (.aload_n 0, 1) := by decide +kernel
theorem dX6_growsOf_49 : decode cX6_growsOf 49 = .ok (.iload_n 1, 1) := by decide +kernel
theorem dX6_growsOf_50 : decode cX6_growsOf 50 = .ok (.iconst 0, 1) := by decide +kernel
theorem dX6_growsOf_51 : decode cX6_growsOf 51 = .ok (.invokevirtual 74, 3) := by decide +kernel
theorem dX6_growsOf_54 : decode cX6_growsOf 54 = .ok (.tableswitch 73 1 5 #[34, 36, 38, 56, 60], 34) := by decide +kernel
theorem dX6_growsOf_88 : decode cX6_growsOf 88 = .ok (.iload_n 3, 1) := by decide +kernel
theorem dX6_growsOf_89 : decode cX6_growsOf 89 = .ok (.ireturn, 1) := by decide +kernel
theorem dX6_growsOf_90 : decode cX6_growsOf 90 = .ok (.iconst 1, 1) := by decide +kernel
theorem dX6_growsOf_91 : decode cX6_growsOf 91 = .ok (.ireturn, 1) := by decide +kernel
theorem dX6_growsOf_92 : decode cX6_growsOf 92 = .ok (.aload_n 0, 1) := by decide +kernel
theorem dX6_growsOf_93 : decode cX6_growsOf 93 = .ok (.invokevirtual 87, 3) := by decide +kernel
theorem dX6_growsOf_96 : decode cX6_growsOf 96 = .ok (.bipush 9, 2) := by decide +kernel
theorem dX6_growsOf_98 : decode cX6_growsOf 98 = .ok (.irem, 1) := by decide +kernel
theorem dX6_growsOf_99 : decode cX6_growsOf 99 = .ok (.ifCond .ne 9, 3) := by decide +kernel
theorem dX6_growsOf_102 : decode cX6_growsOf 102 = .ok (.iload_n 2, 1) := by decide +kernel
theorem dX6_growsOf_103 : decode cX6_growsOf 103 = .ok (.iconst 3, 1) := by decide +kernel
theorem dX6_growsOf_104 : decode cX6_growsOf 104 = .ok (.iadd, 1) := by decide +kernel
theorem dX6_growsOf_105 : decode cX6_growsOf 105 = .ok (.goto 4, 3) := by decide +kernel
theorem dX6_growsOf_108 : decode cX6_growsOf 108 = .ok (.iload_n 2, 1) := by decide +kernel
theorem dX6_growsOf_109 : decode cX6_growsOf 109 = .ok (.ireturn, 1) := by decide +kernel
theorem dX6_growsOf_110 : decode cX6_growsOf 110 = .ok (.iload_n 3, 1) := by decide +kernel
theorem dX6_growsOf_111 : decode cX6_growsOf 111 = .ok (.iconst 1, 1) := by decide +kernel
theorem dX6_growsOf_112 : decode cX6_growsOf 112 = .ok (.isub, 1) := by decide +kernel
theorem dX6_growsOf_113 : decode cX6_growsOf 113 = .ok (.ireturn, 1) := by decide +kernel
theorem dX6_growsOf_114 : decode cX6_growsOf 114 = .ok (.aload_n 0, 1) := by decide +kernel
theorem dX6_growsOf_115 : decode cX6_growsOf 115 = .ok (.invokevirtual 91, 3) := by decide +kernel
theorem dX6_growsOf_118 : decode cX6_growsOf 118 = .ok (.ifCond .eq 7, 3) := by decide +kernel
theorem dX6_growsOf_121 : decode cX6_growsOf 121 = .ok (.iconst 2, 1) := by decide +kernel
theorem dX6_growsOf_122 : decode cX6_growsOf 122 = .ok (.goto 4, 3) := by decide +kernel
theorem dX6_growsOf_125 : decode cX6_growsOf 125 = .ok (.iconst 1, 1) := by decide +kernel
theorem dX6_growsOf_126 : decode cX6_growsOf 126 = .ok (.ireturn, 1) := by decide +kernel
theorem dX6_growsOf_127 : decode cX6_growsOf 127 = .ok (.iload_n 2, 1) := by decide +kernel
theorem dX6_growsOf_128 : decode cX6_growsOf 128 = .ok (.ireturn, 1) := by decide +kernel
theorem dX6_holdsOf_0 : decode cX6_holdsOf 0 = .ok (.iload_n 2, 1) := by decide +kernel
theorem dX6_holdsOf_1 : decode cX6_holdsOf 1 = .ok (.ifCond .eq 8, 3) := by decide +kernel
theorem dX6_holdsOf_4 : decode cX6_holdsOf 4 = .ok (.bipush 40, 2) := by decide +kernel
theorem dX6_holdsOf_6 : decode cX6_holdsOf 6 = .ok (.goto 4, 3) := by decide +kernel
theorem dX6_holdsOf_9 : decode cX6_holdsOf 9 = .ok (.iconst 3, 1) := by decide +kernel
theorem dX6_holdsOf_10 : decode cX6_holdsOf 10 = .ok (.istore_n 3, 1) := by decide +kernel
theorem dX6_holdsOf_11 : decode cX6_holdsOf 11 = .ok (.aload_n 0, 1) := by decide +kernel
theorem dX6_holdsOf_12 : decode cX6_holdsOf 12 = .ok (.iload_n 1, 1) := by decide +kernel
theorem dX6_holdsOf_13 : decode cX6_holdsOf 13 = .ok (.iconst 0, 1) := by decide +kernel
theorem dX6_holdsOf_14 : decode cX6_holdsOf 14 = .ok (.invokevirtual 74, 3) := by decide +kernel
theorem dX6_holdsOf_17 : decode cX6_holdsOf 17 = .ok (.tableswitch 53 1 5 #[35, 39, 43, 35, 47], 35) := by decide +kernel
theorem dX6_holdsOf_52 : decode cX6_holdsOf 52 = .ok (.iload_n 3, 1) := by decide +kernel
theorem dX6_holdsOf_53 : decode cX6_holdsOf 53 = .ok (.iconst 1, 1) := by decide +kernel
theorem dX6_holdsOf_54 : decode cX6_holdsOf 54 = .ok (.isub, 1) := by decide +kernel
theorem dX6_holdsOf_55 : decode cX6_holdsOf 55 = .ok (.ireturn, 1) := by decide +kernel
theorem dX6_holdsOf_56 : decode cX6_holdsOf 56 = .ok (.iload_n 3, 1) := by decide +kernel
theorem dX6_holdsOf_57 : decode cX6_holdsOf 57 = .ok (.iconst 5, 1) := by decide +kernel
theorem dX6_holdsOf_58 : decode cX6_holdsOf 58 = .ok (.iadd, 1) := by decide +kernel
theorem dX6_holdsOf_59 : decode cX6_holdsOf 59 = .ok (.ireturn, 1) := by decide +kernel
theorem dX6_holdsOf_60 : decode cX6_holdsOf 60 = .ok (.iload_n 3, 1) := by decide +kernel
theorem dX6_holdsOf_61 : decode cX6_holdsOf 61 = .ok (.iconst 2, 1) := by decide +kernel
theorem dX6_holdsOf_62 : decode cX6_holdsOf 62 = .ok (.idiv, 1) := by decide +kernel
theorem dX6_holdsOf_63 : decode cX6_holdsOf 63 = .ok (.ireturn, 1) := by decide +kernel
theorem dX6_holdsOf_64 : decode cX6_holdsOf 64 = .ok (.iconst 2, 1) := by decide +kernel
theorem dX6_holdsOf_65 : decode cX6_holdsOf 65 = .ok (.iload_n 3, 1) := by decide +kernel
theorem dX6_holdsOf_66 : decode cX6_holdsOf 66 = .ok (.iconst 5, 1) := by decide +kernel
theorem dX6_holdsOf_67 : decode cX6_holdsOf 67 = .ok (.iadd, 1) := by decide +kernel
theorem dX6_holdsOf_68 : decode cX6_holdsOf 68 = .ok (.imul, 1) := by decide +kernel
theorem dX6_holdsOf_69 : decode cX6_holdsOf 69 = .ok (.ireturn, 1) := by decide +kernel
theorem dX6_holdsOf_70 : decode cX6_holdsOf 70 = .ok (.iload_n 3, 1) := by decide +kernel
theorem dX6_holdsOf_71 : decode cX6_holdsOf 71 = .ok (.ireturn, 1) := by decide +kernel
theorem dX6_costsOf_0 : decode cX6_costsOf 0 = .ok (.iconst 5, 1) := by decide +kernel
theorem dX6_costsOf_1 : decode cX6_costsOf 1 = .ok (.aload_n 0, 1) := by decide +kernel
theorem dX6_costsOf_2 : decode cX6_costsOf 2 = .ok (.iload_n 1, 1) := by decide +kernel
theorem dX6_costsOf_3 : decode cX6_costsOf 3 = .ok (.iconst 2, 1) := by decide +kernel
theorem dX6_costsOf_4 : decode cX6_costsOf 4 = .ok (.invokevirtual 74, 3) := by decide +kernel
theorem dX6_costsOf_7 : decode cX6_costsOf 7 = .ok (.bipush 10, 2) := by decide +kernel
theorem dX6_costsOf_9 : decode cX6_costsOf 9 = .ok (.idiv, 1) := by decide +kernel
theorem dX6_costsOf_10 : decode cX6_costsOf 10 = .ok (.iadd, 1) := by decide +kernel
theorem dX6_costsOf_11 : decode cX6_costsOf 11 = .ok (.istore_n 2, 1) := by decide +kernel
theorem dX6_costsOf_12 : decode cX6_costsOf 12 = .ok (.aload_n 0, 1) := by decide +kernel
theorem dX6_costsOf_13 : decode cX6_costsOf 13 = .ok (.iload_n 1, 1) := by decide +kernel
theorem dX6_costsOf_14 : decode cX6_costsOf 14 = .ok (.iconst 0, 1) := by decide +kernel
theorem dX6_costsOf_15 : decode cX6_costsOf 15 = .ok (.invokevirtual 74, 3) := by decide +kernel
theorem dX6_costsOf_18 : decode cX6_costsOf 18 = .ok (.tableswitch 46 1 5 #[34, 38, 46, 40, 44], 34) := by decide +kernel
theorem dX6_costsOf_52 : decode cX6_costsOf 52 = .ok (.iload_n 2, 1) := by decide +kernel
theorem dX6_costsOf_53 : decode cX6_costsOf 53 = .ok (.iconst 3, 1) := by decide +kernel
theorem dX6_costsOf_54 : decode cX6_costsOf 54 = .ok (.iadd, 1) := by decide +kernel
theorem dX6_costsOf_55 : decode cX6_costsOf 55 = .ok (.ireturn, 1) := by decide +kernel
theorem dX6_costsOf_56 : decode cX6_costsOf 56 = .ok (.iconst 2, 1) := by decide +kernel
theorem dX6_costsOf_57 : decode cX6_costsOf 57 = .ok (.ireturn, 1) := by decide +kernel
theorem dX6_costsOf_58 : decode cX6_costsOf 58 = .ok (.iload_n 2, 1) := by decide +kernel
theorem dX6_costsOf_59 : decode cX6_costsOf 59 = .ok (.iconst 1, 1) := by decide +kernel
theorem dX6_costsOf_60 : decode cX6_costsOf 60 = .ok (.iadd, 1) := by decide +kernel
theorem dX6_costsOf_61 : decode cX6_costsOf 61 = .ok (.ireturn, 1) := by decide +kernel
theorem dX6_costsOf_62 : decode cX6_costsOf 62 = .ok (.iconst 3, 1) := by decide +kernel
theorem dX6_costsOf_63 : decode cX6_costsOf 63 = .ok (.ireturn, 1) := by decide +kernel
theorem dX6_costsOf_64 : decode cX6_costsOf 64 = .ok (.iload_n 2, 1) := by decide +kernel
theorem dX6_costsOf_65 : decode cX6_costsOf 65 = .ok (.ireturn, 1) := by decide +kernel
theorem dX6_priceOf_0 : decode cX6_priceOf 0 = .ok (.iload_n 2, 1) := by decide +kernel
theorem dX6_priceOf_1 : decode cX6_priceOf 1 = .ok (.iconst 1, 1) := by decide +kernel
theorem dX6_priceOf_2 : decode cX6_priceOf 2 = .ok (.if_icmp .ne 14, 3) := by decide +kernel
theorem dX6_priceOf_5 : decode cX6_priceOf 5 = .ok (.bipush 11, 2) := by decide +kernel
theorem dX6_priceOf_7 : decode cX6_priceOf 7 = .ok (.aload_n 0, 1) := by decide +kernel
theorem dX6_priceOf_8 : decode cX6_priceOf 8 = .ok (.iload_n 1, 1) := by decide +kernel
theorem dX6_priceOf_9 : decode cX6_priceOf 9 = .ok (.invokevirtual 95, 3) := by decide +kernel
theorem dX6_priceOf_12 : decode cX6_priceOf 12 = .ok (.imul, 1) := by decide +kernel
theorem dX6_priceOf_13 : decode cX6_priceOf 13 = .ok (.goto 8, 3) := by decide +kernel
theorem dX6_priceOf_16 : decode cX6_priceOf 16 = .ok (.aload_n 0, 1) := by decide +kernel
theorem dX6_priceOf_17 : decode cX6_priceOf 17 = .ok (.iload_n 1, 1) := by decide +kernel
theorem dX6_priceOf_18 : decode cX6_priceOf 18 = .ok (.invokevirtual 95, 3) := by decide +kernel
theorem dX6_priceOf_21 : decode cX6_priceOf 21 = .ok (.ireturn, 1) := by decide +kernel
theorem dX6_of_0 : decode cX6_of 0 = .ok (.aload_n 0, 1) := by decide +kernel
theorem dX6_of_1 : decode cX6_of 1 = .ok (.iload_n 1, 1) := by decide +kernel
theorem dX6_of_2 : decode cX6_of 2 = .ok (.invokevirtual 98, 3) := by decide +kernel
theorem dX6_of_5 : decode cX6_of 5 = .ok (.ifCond .eq 15, 3) := by decide +kernel
theorem dX6_of_8 : decode cX6_of 8 = .ok (.iload_n 2, 1) := by decide +kernel
theorem dX6_of_9 : decode cX6_of 9 = .ok (.i2l, 1) := by decide +kernel
theorem dX6_of_10 : decode cX6_of 10 = .ok (.lconst 0, 1) := by decide +kernel
theorem dX6_of_11 : decode cX6_of 11 = .ok (.ldc2_w 101, 3) := by decide +kernel
theorem dX6_of_14 : decode cX6_of 14 = .ok (.invokestatic 48, 3) := by decide +kernel
theorem dX6_of_17 : decode cX6_of 17 = .ok (.ifCond .ne 10, 3) := by decide +kernel
theorem dX6_of_20 : decode cX6_of 20 = .ok (.aload_n 0, 1) := by decide +kernel
theorem dX6_of_21 : decode cX6_of 21 = .ok (.ldc 45, 2) := by decide +kernel
theorem dX6_of_23 : decode cX6_of 23 = .ok (.invokevirtual 64, 3) := by decide +kernel
theorem dX6_of_26 : decode cX6_of 26 = .ok (.ireturn, 1) := by decide +kernel
theorem dX6_of_27 : decode cX6_of 27 = .ok (.iload_n 2, 1) := by decide +kernel
theorem dX6_of_28 : decode cX6_of 28 = .ok (.tableswitch 58 6 9 #[32, 38, 44, 51], 32) := by decide +kernel
theorem dX6_of_60 : decode cX6_of 60 = .ok (.aload_n 0, 1) := by decide +kernel
theorem dX6_of_61 : decode cX6_of 61 = .ok (.iload_n 1, 1) := by decide +kernel
theorem dX6_of_62 : decode cX6_of 62 = .ok (.invokevirtual 103, 3) := by decide +kernel
theorem dX6_of_65 : decode cX6_of 65 = .ok (.ireturn, 1) := by decide +kernel
theorem dX6_of_66 : decode cX6_of 66 = .ok (.aload_n 0, 1) := by decide +kernel
theorem dX6_of_67 : decode cX6_of 67 = .ok (.iload_n 1, 1) := by decide +kernel
theorem dX6_of_68 : decode cX6_of 68 = .ok (.invokevirtual 95, 3) := by decide +kernel
theorem dX6_of_71 : decode cX6_of 71 = .ok (.ireturn, 1) := by decide +kernel
theorem dX6_of_72 : decode cX6_of 72 = .ok (.aload_n 0, 1) := by decide +kernel
theorem dX6_of_73 : decode cX6_of 73 = .ok (.iload_n 1, 1) := by decide +kernel
theorem dX6_of_74 : decode cX6_of 74 = .ok (.iconst 0, 1) := by decide +kernel
theorem dX6_of_75 : decode cX6_of 75 = .ok (.invokevirtual 106, 3) := by decide +kernel
theorem dX6_of_78 : decode cX6_of 78 = .ok (.ireturn, 1) := by decide +kernel
theorem dX6_of_79 : decode cX6_of 79 = .ok (.aload_n 0, 1) := by decide +kernel
theorem dX6_of_80 : decode cX6_of 80 = .ok (.iload_n 1, 1) := by decide +kernel
theorem dX6_of_81 : decode cX6_of 81 = .ok (.iconst 1, 1) := by decide +kernel
theorem dX6_of_82 : decode cX6_of 82 = .ok (.invokevirtual 106, 3) := by decide +kernel
theorem dX6_of_85 : decode cX6_of 85 = .ok (.ireturn, 1) := by decide +kernel
theorem dX6_of_86 : decode cX6_of 86 = .ok (.aload_n 0, 1) := by decide +kernel
theorem dX6_of_87 : decode cX6_of 87 = .ok (.iload_n 1, 1) := by decide +kernel
theorem dX6_of_88 : decode cX6_of 88 = .ok (.iload_n 2, 1) := by decide +kernel
theorem dX6_of_89 : decode cX6_of 89 = .ok (.invokevirtual 74, 3) := by decide +kernel
theorem dX6_of_92 : decode cX6_of 92 = .ok (.ireturn, 1) := by decide +kernel
theorem dX6_isPart_0 : decode cX6_isPart 0 = .ok (.iload_n 0, 1) := by decide +kernel
theorem dX6_isPart_1 : decode cX6_isPart 1 = .ok (.tableswitch 66 1 4 #[31, 36, 46, 56], 31) := by decide +kernel
theorem dX6_isPart_32 : decode cX6_isPart 32 = .ok (.iload_n 1, 1) := by decide +kernel
theorem dX6_isPart_33 : decode cX6_isPart 33 = .ok (.invokestatic 70, 3) := by decide +kernel
theorem dX6_isPart_36 : decode cX6_isPart 36 = .ok (.ireturn, 1) := by decide +kernel
theorem dX6_isPart_37 : decode cX6_isPart 37 = .ok (.iload_n 1, 1) := by decide +kernel
theorem dX6_isPart_38 : decode cX6_isPart 38 = .ok (.i2l, 1) := by decide +kernel
theorem dX6_isPart_39 : decode cX6_isPart 39 = .ok (.lconst 0, 1) := by decide +kernel
theorem dX6_isPart_40 : decode cX6_isPart 40 = .ok (.ldc2_w 68, 3) := by decide +kernel
theorem dX6_isPart_43 : decode cX6_isPart 43 = .ok (.invokestatic 48, 3) := by decide +kernel
theorem dX6_isPart_46 : decode cX6_isPart 46 = .ok (.ireturn, 1) := by decide +kernel
theorem dX6_isPart_47 : decode cX6_isPart 47 = .ok (.iload_n 1, 1) := by decide +kernel
theorem dX6_isPart_48 : decode cX6_isPart 48 = .ok (.i2l, 1) := by decide +kernel
theorem dX6_isPart_49 : decode cX6_isPart 49 = .ok (.lconst 0, 1) := by decide +kernel
theorem dX6_isPart_50 : decode cX6_isPart 50 = .ok (.ldc2_w 110, 3) := by decide +kernel
theorem dX6_isPart_53 : decode cX6_isPart 53 = .ok (.invokestatic 48, 3) := by decide +kernel
theorem dX6_isPart_56 : decode cX6_isPart 56 = .ok (.ireturn, 1) := by decide +kernel
theorem dX6_isPart_57 : decode cX6_isPart 57 = .ok (.iload_n 1, 1) := by decide +kernel
theorem dX6_isPart_58 : decode cX6_isPart 58 = .ok (.i2l, 1) := by decide +kernel
theorem dX6_isPart_59 : decode cX6_isPart 59 = .ok (.lconst 0, 1) := by decide +kernel
theorem dX6_isPart_60 : decode cX6_isPart 60 = .ok (.ldc2_w 112, 3) := by decide +kernel
theorem dX6_isPart_63 : decode cX6_isPart 63 = .ok (.invokestatic 48, 3) := by decide +kernel
theorem dX6_isPart_66 : decode cX6_isPart 66 = .ok (.ireturn, 1) := by decide +kernel
theorem dX6_isPart_67 : decode cX6_isPart 67 = .ok (.iload_n 0, 1) := by decide +kernel
theorem dX6_isPart_68 : decode cX6_isPart 68 = .ok (.iconst 5, 1) := by decide +kernel
theorem dX6_isPart_69 : decode cX6_isPart 69 = .ok (.if_icmp .ne 17, 3) := by decide +kernel
theorem dX6_isPart_72 : decode cX6_isPart 72 = .ok (.iload_n 1, 1) := by decide +kernel
theorem dX6_isPart_73 : decode cX6_isPart 73 = .ok (.i2l, 1) := by decide +kernel
theorem dX6_isPart_74 : decode cX6_isPart 74 = .ok (.lconst 0, 1) := by decide +kernel
theorem dX6_isPart_75 : decode cX6_isPart 75 = .ok (.lconst 1, 1) := by decide +kernel
theorem dX6_isPart_76 : decode cX6_isPart 76 = .ok (.invokestatic 48, 3) := by decide +kernel
theorem dX6_isPart_79 : decode cX6_isPart 79 = .ok (.ifCond .eq 7, 3) := by decide +kernel
theorem dX6_isPart_82 : decode cX6_isPart 82 = .ok (.iconst 1, 1) := by decide +kernel
theorem dX6_isPart_83 : decode cX6_isPart 83 = .ok (.goto 4, 3) := by decide +kernel
theorem dX6_isPart_86 : decode cX6_isPart 86 = .ok (.iconst 0, 1) := by decide +kernel
theorem dX6_isPart_87 : decode cX6_isPart 87 = .ok (.ireturn, 1) := by decide +kernel
theorem dX6_set_0 : decode cX6_set 0 = .ok (.aload_n 0, 1) := by decide +kernel
theorem dX6_set_1 : decode cX6_set 1 = .ok (.iload_n 1, 1) := by decide +kernel
theorem dX6_set_2 : decode cX6_set 2 = .ok (.invokevirtual 98, 3) := by decide +kernel
theorem dX6_set_5 : decode cX6_set 5 = .ok (.ifCond .eq 24, 3) := by decide +kernel
theorem dX6_set_8 : decode cX6_set 8 = .ok (.iload_n 2, 1) := by decide +kernel
theorem dX6_set_9 : decode cX6_set 9 = .ok (.iload_n 3, 1) := by decide +kernel
theorem dX6_set_10 : decode cX6_set 10 = .ok (.invokestatic 114, 3) := by decide +kernel
theorem dX6_set_13 : decode cX6_set 13 = .ok (.ifCond .eq 16, 3) := by decide +kernel
theorem dX6_set_16 : decode cX6_set 16 = .ok (.aload_n 0, 1) := by decide +kernel
theorem dX6_set_17 : decode cX6_set 17 = .ok (.iload_n 1, 1) := by decide +kernel
theorem dX6_set_18 : decode cX6_set 18 = .ok (.iload_n 2, 1) := by decide +kernel
theorem dX6_set_19 : decode cX6_set 19 = .ok (.invokestatic 52, 3) := by decide +kernel
theorem dX6_set_22 : decode cX6_set 22 = .ok (.iload_n 3, 1) := by decide +kernel
theorem dX6_set_23 : decode cX6_set 23 = .ok (.invokevirtual 61, 3) := by decide +kernel
theorem dX6_set_26 : decode cX6_set 26 = .ok (.goto 9, 3) := by decide +kernel
theorem dX6_set_29 : decode cX6_set 29 = .ok (.aload_n 0, 1) := by decide +kernel
theorem dX6_set_30 : decode cX6_set 30 = .ok (.ldc 45, 2) := by decide +kernel
theorem dX6_set_32 : decode cX6_set 32 = .ok (.invokevirtual 64, 3) := by decide +kernel
theorem dX6_set_35 : decode cX6_set 35 = .ok (.ireturn, 1) := by decide +kernel
theorem dX6_turn_0 : decode cX6_turn 0 = .ok (.aload_n 0, 1) := by decide +kernel
theorem dX6_turn_1 : decode cX6_turn 1 = .ok (.iload_n 1, 1) := by decide +kernel
theorem dX6_turn_2 : decode cX6_turn 2 = .ok (.invokevirtual 98, 3) := by decide +kernel
theorem dX6_turn_5 : decode cX6_turn 5 = .ok (.ifCond .eq 23, 3) := by decide +kernel
theorem dX6_turn_8 : decode cX6_turn 8 = .ok (.iload_n 2, 1) := by decide +kernel
theorem dX6_turn_9 : decode cX6_turn 9 = .ok (.invokestatic 80, 3) := by decide +kernel
theorem dX6_turn_12 : decode cX6_turn 12 = .ok (.ifCond .eq 16, 3) := by decide +kernel
theorem dX6_turn_15 : decode cX6_turn 15 = .ok (.aload_n 0, 1) := by decide +kernel
theorem dX6_turn_16 : decode cX6_turn 16 = .ok (.iload_n 1, 1) := by decide +kernel
theorem dX6_turn_17 : decode cX6_turn 17 = .ok (.iconst 0, 1) := by decide +kernel
theorem dX6_turn_18 : decode cX6_turn 18 = .ok (.invokestatic 52, 3) := by decide +kernel
theorem dX6_turn_21 : decode cX6_turn 21 = .ok (.iload_n 2, 1) := by decide +kernel
theorem dX6_turn_22 : decode cX6_turn 22 = .ok (.invokevirtual 61, 3) := by decide +kernel
theorem dX6_turn_25 : decode cX6_turn 25 = .ok (.goto 9, 3) := by decide +kernel
theorem dX6_turn_28 : decode cX6_turn 28 = .ok (.aload_n 0, 1) := by decide +kernel
theorem dX6_turn_29 : decode cX6_turn 29 = .ok (.ldc 45, 2) := by decide +kernel
theorem dX6_turn_31 : decode cX6_turn 31 = .ok (.invokevirtual 64, 3) := by decide +kernel
theorem dX6_turn_34 : decode cX6_turn 34 = .ok (.ireturn, 1) := by decide +kernel
theorem dX6_isUnder_0 : decode cX6_isUnder 0 = .ok (.iload_n 1, 1) := by decide +kernel
theorem dX6_isUnder_1 : decode cX6_isUnder 1 = .ok (.ifCond .eq 20, 3) := by decide +kernel
theorem dX6_isUnder_4 : decode cX6_isUnder 4 = .ok (.iload_n 0, 1) := by decide +kernel
theorem dX6_isUnder_5 : decode cX6_isUnder 5 = .ok (.iload_n 1, 1) := by decide +kernel
theorem dX6_isUnder_6 : decode cX6_isUnder 6 = .ok (.if_icmp .eq 15, 3) := by decide +kernel
theorem dX6_isUnder_9 : decode cX6_isUnder 9 = .ok (.iload_n 0, 1) := by decide +kernel
theorem dX6_isUnder_10 : decode cX6_isUnder 10 = .ok (.iconst 3, 1) := by decide +kernel
theorem dX6_isUnder_11 : decode cX6_isUnder 11 = .ok (.if_icmp .le 14, 3) := by decide +kernel
theorem dX6_isUnder_14 : decode cX6_isUnder 14 = .ok (.iload_n 0, 1) := by decide +kernel
theorem dX6_isUnder_15 : decode cX6_isUnder 15 = .ok (.iconst 3, 1) := by decide +kernel
theorem dX6_isUnder_16 : decode cX6_isUnder 16 = .ok (.isub, 1) := by decide +kernel
theorem dX6_isUnder_17 : decode cX6_isUnder 17 = .ok (.iload_n 1, 1) := by decide +kernel
theorem dX6_isUnder_18 : decode cX6_isUnder 18 = .ok (.if_icmp .ne 7, 3) := by decide +kernel
theorem dX6_isUnder_21 : decode cX6_isUnder 21 = .ok (.iconst 1, 1) := by decide +kernel
theorem dX6_isUnder_22 : decode cX6_isUnder 22 = .ok (.goto 4, 3) := by decide +kernel
theorem dX6_isUnder_25 : decode cX6_isUnder 25 = .ok (.iconst 0, 1) := by decide +kernel
theorem dX6_isUnder_26 : decode cX6_isUnder 26 = .ok (.ireturn, 1) := by decide +kernel
theorem dX6_as_0 : decode cX6_as 0 = .ok (.aload_n 0, 1) := by decide +kernel
theorem dX6_as_1 : decode cX6_as 1 = .ok (.iload_n 1, 1) := by decide +kernel
theorem dX6_as_2 : decode cX6_as 2 = .ok (.invokevirtual 98, 3) := by decide +kernel
theorem dX6_as_5 : decode cX6_as 5 = .ok (.ifCond .eq 10, 3) := by decide +kernel
theorem dX6_as_8 : decode cX6_as 8 = .ok (.iload_n 2, 1) := by decide +kernel
theorem dX6_as_9 : decode cX6_as 9 = .ok (.invokestatic 80, 3) := by decide +kernel
theorem dX6_as_12 : decode cX6_as 12 = .ok (.ifCond .ne 10, 3) := by decide +kernel
theorem dX6_as_15 : decode cX6_as 15 = .ok (.aload_n 0, 1) := by decide +kernel
theorem dX6_as_16 : decode cX6_as 16 = .ok (.ldc 45, 2) := by decide +kernel
theorem dX6_as_18 : decode cX6_as 18 = .ok (.invokevirtual 64, 3) := by decide +kernel
theorem dX6_as_21 : decode cX6_as 21 = .ok (.ireturn, 1) := by decide +kernel
theorem dX6_as_22 : decode cX6_as 22 = .ok (.aload_n 0, 1) := by decide +kernel
theorem dX6_as_23 : decode cX6_as 23 = .ok (.iload_n 1, 1) := by decide +kernel
theorem dX6_as_24 : decode cX6_as 24 = .ok (.iconst 0, 1) := by decide +kernel
theorem dX6_as_25 : decode cX6_as 25 = .ok (.invokevirtual 74, 3) := by decide +kernel
theorem dX6_as_28 : decode cX6_as 28 = .ok (.iload_n 2, 1) := by decide +kernel
theorem dX6_as_29 : decode cX6_as 29 = .ok (.invokestatic 118, 3) := by decide +kernel
theorem dX6_as_32 : decode cX6_as 32 = .ok (.ifCond .eq 12, 3) := by decide +kernel
theorem dX6_as_35 : decode cX6_as 35 = .ok (.aload_n 0, 1) := by decide +kernel
theorem dX6_as_36 : decode cX6_as 36 = .ok (.iload_n 1, 1) := by decide +kernel
theorem dX6_as_37 : decode cX6_as 37 = .ok (.iconst 2, 1) := by decide +kernel
theorem dX6_as_38 : decode cX6_as 38 = .ok (.invokevirtual 74, 3) := by decide +kernel
theorem dX6_as_41 : decode cX6_as 41 = .ok (.goto 9, 3) := by decide +kernel
theorem dX6_as_44 : decode cX6_as 44 = .ok (.aload_n 0, 1) := by decide +kernel
theorem dX6_as_45 : decode cX6_as 45 = .ok (.ldc 121, 2) := by decide +kernel
theorem dX6_as_47 : decode cX6_as 47 = .ok (.invokevirtual 64, 3) := by decide +kernel
theorem dX6_as_50 : decode cX6_as 50 = .ok (.ireturn, 1) := by decide +kernel
theorem dX6_mayFill_0 : decode cX6_mayFill 0 = .ok (.aload_n 0, 1) := by decide +kernel
theorem dX6_mayFill_1 : decode cX6_mayFill 1 = .ok (.iload_n 1, 1) := by decide +kernel
theorem dX6_mayFill_2 : decode cX6_mayFill 2 = .ok (.iconst 3, 1) := by decide +kernel
theorem dX6_mayFill_3 : decode cX6_mayFill 3 = .ok (.invokevirtual 74, 3) := by decide +kernel
theorem dX6_mayFill_6 : decode cX6_mayFill 6 = .ok (.ifCond .ne 22, 3) := by decide +kernel
theorem dX6_mayFill_9 : decode cX6_mayFill 9 = .ok (.aload_n 0, 1) := by decide +kernel
theorem dX6_mayFill_10 : decode cX6_mayFill 10 = .ok (.iload_n 1, 1) := by decide +kernel
theorem dX6_mayFill_11 : decode cX6_mayFill 11 = .ok (.iload_n 2, 1) := by decide +kernel
theorem dX6_mayFill_12 : decode cX6_mayFill 12 = .ok (.invokevirtual 122, 3) := by decide +kernel
theorem dX6_mayFill_15 : decode cX6_mayFill 15 = .ok (.aload_n 0, 1) := by decide +kernel
theorem dX6_mayFill_16 : decode cX6_mayFill 16 = .ok (.getfield 7, 3) := by decide +kernel
theorem dX6_mayFill_19 : decode cX6_mayFill 19 = .ok (.iconst 2, 1) := by decide +kernel
theorem dX6_mayFill_20 : decode cX6_mayFill 20 = .ok (.iaload, 1) := by decide +kernel
theorem dX6_mayFill_21 : decode cX6_mayFill 21 = .ok (.if_icmp .gt 7, 3) := by decide +kernel
theorem dX6_mayFill_24 : decode cX6_mayFill 24 = .ok (.iconst 1, 1) := by decide +kernel
theorem dX6_mayFill_25 : decode cX6_mayFill 25 = .ok (.goto 4, 3) := by decide +kernel
theorem dX6_mayFill_28 : decode cX6_mayFill 28 = .ok (.iconst 0, 1) := by decide +kernel
theorem dX6_mayFill_29 : decode cX6_mayFill 29 = .ok (.ireturn, 1) := by decide +kernel
theorem dX6_fills_0 : decode cX6_fills 0 = .ok (.aload_n 0, 1) := by decide +kernel
theorem dX6_fills_1 : decode cX6_fills 1 = .ok (.iload_n 1, 1) := by decide +kernel
theorem dX6_fills_2 : decode cX6_fills 2 = .ok (.iload_n 2, 1) := by decide +kernel
theorem dX6_fills_3 : decode cX6_fills 3 = .ok (.invokevirtual 122, 3) := by decide +kernel
theorem dX6_fills_6 : decode cX6_fills 6 = .ok (.istore_n 3, 1) := by decide +kernel
theorem dX6_fills_7 : decode cX6_fills 7 = .ok (.aload_n 0, 1) := by decide +kernel
theorem dX6_fills_8 : decode cX6_fills 8 = .ok (.getfield 7, 3) := by decide +kernel
theorem dX6_fills_11 : decode cX6_fills 11 = .ok (.iconst 2, 1) := by decide +kernel
theorem dX6_fills_12 : decode cX6_fills 12 = .ok (.dup2, 1) := by decide +kernel
theorem dX6_fills_13 : decode cX6_fills 13 = .ok (.iaload, 1) := by decide +kernel
theorem dX6_fills_14 : decode cX6_fills 14 = .ok (.iload_n 3, 1) := by decide +kernel
theorem dX6_fills_15 : decode cX6_fills 15 = .ok (.isub, 1) := by decide +kernel
theorem dX6_fills_16 : decode cX6_fills 16 = .ok (.iastore, 1) := by decide +kernel
theorem dX6_fills_17 : decode cX6_fills 17 = .ok (.aload_n 0, 1) := by decide +kernel
theorem dX6_fills_18 : decode cX6_fills 18 = .ok (.getfield 7, 3) := by decide +kernel
theorem dX6_fills_21 : decode cX6_fills 21 = .ok (.bipush 6, 2) := by decide +kernel
theorem dX6_fills_23 : decode cX6_fills 23 = .ok (.aload_n 0, 1) := by decide +kernel
theorem dX6_fills_24 : decode cX6_fills 24 = .ok (.getfield 7, 3) := by decide +kernel
theorem dX6_fills_27 : decode cX6_fills 27 = .ok (.bipush 6, 2) := by decide +kernel
theorem dX6_fills_29 : decode cX6_fills 29 = .ok (.iaload, 1) := by decide +kernel
theorem dX6_fills_30 : decode cX6_fills 30 = .ok (.iload_n 3, 1) := by decide +kernel
theorem dX6_fills_31 : decode cX6_fills 31 = .ok (.iadd, 1) := by decide +kernel
theorem dX6_fills_32 : decode cX6_fills 32 = .ok (.ldc 125, 2) := by decide +kernel
theorem dX6_fills_34 : decode cX6_fills 34 = .ok (.invokestatic 126, 3) := by decide +kernel
theorem dX6_fills_37 : decode cX6_fills 37 = .ok (.iastore, 1) := by decide +kernel
theorem dX6_fills_38 : decode cX6_fills 38 = .ok (.aload_n 0, 1) := by decide +kernel
theorem dX6_fills_39 : decode cX6_fills 39 = .ok (.getfield 7, 3) := by decide +kernel
theorem dX6_fills_42 : decode cX6_fills 42 = .ok (.iload_n 1, 1) := by decide +kernel
theorem dX6_fills_43 : decode cX6_fills 43 = .ok (.iconst 3, 1) := by decide +kernel
theorem dX6_fills_44 : decode cX6_fills 44 = .ok (.invokestatic 52, 3) := by decide +kernel
theorem dX6_fills_47 : decode cX6_fills 47 = .ok (.iconst 1, 1) := by decide +kernel
theorem dX6_fills_48 : decode cX6_fills 48 = .ok (.iload_n 2, 1) := by decide +kernel
theorem dX6_fills_49 : decode cX6_fills 49 = .ok (.iadd, 1) := by decide +kernel
theorem dX6_fills_50 : decode cX6_fills 50 = .ok (.iastore, 1) := by decide +kernel
theorem dX6_fills_51 : decode cX6_fills 51 = .ok (.aload_n 0, 1) := by decide +kernel
theorem dX6_fills_52 : decode cX6_fills 52 = .ok (.getfield 7, 3) := by decide +kernel
theorem dX6_fills_55 : decode cX6_fills 55 = .ok (.iload_n 1, 1) := by decide +kernel
theorem dX6_fills_56 : decode cX6_fills 56 = .ok (.iconst 4, 1) := by decide +kernel
theorem dX6_fills_57 : decode cX6_fills 57 = .ok (.invokestatic 52, 3) := by decide +kernel
theorem dX6_fills_60 : decode cX6_fills 60 = .ok (.iconst 0, 1) := by decide +kernel
theorem dX6_fills_61 : decode cX6_fills 61 = .ok (.iastore, 1) := by decide +kernel
theorem dX6_fills_62 : decode cX6_fills 62 = .ok (.aload_n 0, 1) := by decide +kernel
theorem dX6_fills_63 : decode cX6_fills 63 = .ok (.getfield 7, 3) := by decide +kernel
theorem dX6_fills_66 : decode cX6_fills 66 = .ok (.iload_n 1, 1) := by decide +kernel
theorem dX6_fills_67 : decode cX6_fills 67 = .ok (.iconst 5, 1) := by decide +kernel
theorem dX6_fills_68 : decode cX6_fills 68 = .ok (.invokestatic 52, 3) := by decide +kernel
theorem dX6_fills_71 : decode cX6_fills 71 = .ok (.iconst 0, 1) := by decide +kernel
theorem dX6_fills_72 : decode cX6_fills 72 = .ok (.iastore, 1) := by decide +kernel
theorem dX6_fills_73 : decode cX6_fills 73 = .ok (.iload_n 3, 1) := by decide +kernel
theorem dX6_fills_74 : decode cX6_fills 74 = .ok (.ireturn, 1) := by decide +kernel
theorem dX6_fill_0 : decode cX6_fill 0 = .ok (.aload_n 0, 1) := by decide +kernel
theorem dX6_fill_1 : decode cX6_fill 1 = .ok (.iload_n 1, 1) := by decide +kernel
theorem dX6_fill_2 : decode cX6_fill 2 = .ok (.invokevirtual 98, 3) := by decide +kernel
theorem dX6_fill_5 : decode cX6_fill 5 = .ok (.ifCond .eq 13, 3) := by decide +kernel
theorem dX6_fill_8 : decode cX6_fill 8 = .ok (.iload_n 2, 1) := by decide +kernel
theorem dX6_fill_9 : decode cX6_fill 9 = .ok (.i2l, 1) := by decide +kernel
theorem dX6_fill_10 : decode cX6_fill 10 = .ok (.lconst 0, 1) := by decide +kernel
theorem dX6_fill_11 : decode cX6_fill 11 = .ok (.lconst 1, 1) := by decide +kernel
theorem dX6_fill_12 : decode cX6_fill 12 = .ok (.invokestatic 48, 3) := by decide +kernel
theorem dX6_fill_15 : decode cX6_fill 15 = .ok (.ifCond .ne 10, 3) := by decide +kernel
theorem dX6_fill_18 : decode cX6_fill 18 = .ok (.aload_n 0, 1) := by decide +kernel
theorem dX6_fill_19 : decode cX6_fill 19 = .ok (.ldc 45, 2) := by decide +kernel
theorem dX6_fill_21 : decode cX6_fill 21 = .ok (.invokevirtual 64, 3) := by decide +kernel
theorem dX6_fill_24 : decode cX6_fill 24 = .ok (.ireturn, 1) := by decide +kernel
theorem dX6_fill_25 : decode cX6_fill 25 = .ok (.aload_n 0, 1) := by decide +kernel
theorem dX6_fill_26 : decode cX6_fill 26 = .ok (.iload_n 1, 1) := by decide +kernel
theorem dX6_fill_27 : decode cX6_fill 27 = .ok (.iload_n 2, 1) := by decide +kernel
theorem dX6_fill_28 : decode cX6_fill 28 = .ok (.invokevirtual 129, 3) := by decide +kernel
theorem dX6_fill_31 : decode cX6_fill 31 = .ok (.ifCond .eq 12, 3) := by decide +kernel
theorem dX6_fill_34 : decode cX6_fill 34 = .ok (.aload_n 0, 1) := by decide +kernel
theorem dX6_fill_35 : decode cX6_fill 35 = .ok (.iload_n 1, 1) := by decide +kernel
theorem dX6_fill_36 : decode cX6_fill 36 = .ok (.iload_n 2, 1) := by decide +kernel
theorem dX6_fill_37 : decode cX6_fill 37 = .ok (.invokevirtual 132, 3) := by decide +kernel
theorem dX6_fill_40 : decode cX6_fill 40 = .ok (.goto 9, 3) := by decide +kernel
theorem dX6_fill_43 : decode cX6_fill 43 = .ok (.aload_n 0, 1) := by decide +kernel
theorem dX6_fill_44 : decode cX6_fill 44 = .ok (.ldc 135, 2) := by decide +kernel
theorem dX6_fill_46 : decode cX6_fill 46 = .ok (.invokevirtual 64, 3) := by decide +kernel
theorem dX6_fill_49 : decode cX6_fill 49 = .ok (.ireturn, 1) := by decide +kernel
theorem dX6_isAhead_0 : decode cX6_isAhead 0 = .ok (.aload_n 0, 1) := by decide +kernel
theorem dX6_isAhead_1 : decode cX6_isAhead 1 = .ok (.iload_n 1, 1) := by decide +kernel
theorem dX6_isAhead_2 : decode cX6_isAhead 2 = .ok (.iconst 0, 1) := by decide +kernel
theorem dX6_isAhead_3 : decode cX6_isAhead 3 = .ok (.invokevirtual 74, 3) := by decide +kernel
theorem dX6_isAhead_6 : decode cX6_isAhead 6 = .ok (.iconst 4, 1) := by decide +kernel
theorem dX6_isAhead_7 : decode cX6_isAhead 7 = .ok (.if_icmp .ne 7, 3) := by decide +kernel
theorem dX6_isAhead_10 : decode cX6_isAhead 10 = .ok (.iconst 1, 1) := by decide +kernel
theorem dX6_isAhead_11 : decode cX6_isAhead 11 = .ok (.goto 4, 3) := by decide +kernel
theorem dX6_isAhead_14 : decode cX6_isAhead 14 = .ok (.iconst 0, 1) := by decide +kernel
theorem dX6_isAhead_15 : decode cX6_isAhead 15 = .ok (.istore_n 3, 1) := by decide +kernel
theorem dX6_isAhead_16 : decode cX6_isAhead 16 = .ok (.iload_n 3, 1) := by decide +kernel
theorem dX6_isAhead_17 : decode cX6_isAhead 17 = .ok (.aload_n 0, 1) := by decide +kernel
theorem dX6_isAhead_18 : decode cX6_isAhead 18 = .ok (.iload_n 2, 1) := by decide +kernel
theorem dX6_isAhead_19 : decode cX6_isAhead 19 = .ok (.iconst 0, 1) := by decide +kernel
theorem dX6_isAhead_20 : decode cX6_isAhead 20 = .ok (.invokevirtual 74, 3) := by decide +kernel
theorem dX6_isAhead_23 : decode cX6_isAhead 23 = .ok (.iconst 4, 1) := by decide +kernel
theorem dX6_isAhead_24 : decode cX6_isAhead 24 = .ok (.if_icmp .ne 7, 3) := by decide +kernel
theorem dX6_isAhead_27 : decode cX6_isAhead 27 = .ok (.iconst 1, 1) := by decide +kernel
theorem dX6_isAhead_28 : decode cX6_isAhead 28 = .ok (.goto 4, 3) := by decide +kernel
theorem dX6_isAhead_31 : decode cX6_isAhead 31 = .ok (.iconst 0, 1) := by decide +kernel
theorem dX6_isAhead_32 : decode cX6_isAhead 32 = .ok (.if_icmp .eq 5, 3) := by decide +kernel
theorem dX6_isAhead_35 : decode cX6_isAhead 35 = .ok (.iload_n 3, 1) := by decide +kernel
theorem dX6_isAhead_36 : decode cX6_isAhead 36 = .ok (.ireturn, 1) := by decide +kernel
theorem dX6_isAhead_37 : decode cX6_isAhead 37 = .ok (.aload_n 0, 1) := by decide +kernel
theorem dX6_isAhead_38 : decode cX6_isAhead 38 = .ok (.iload_n 1, 1) := by decide +kernel
theorem dX6_isAhead_39 : decode cX6_isAhead 39 = .ok (.iconst 5, 1) := by decide +kernel
theorem dX6_isAhead_40 : decode cX6_isAhead 40 = .ok (.invokevirtual 74, 3) := by decide +kernel
theorem dX6_isAhead_43 : decode cX6_isAhead 43 = .ok (.aload_n 0, 1) := by decide +kernel
theorem dX6_isAhead_44 : decode cX6_isAhead 44 = .ok (.iload_n 2, 1) := by decide +kernel
theorem dX6_isAhead_45 : decode cX6_isAhead 45 = .ok (.iconst 5, 1) := by decide +kernel
theorem dX6_isAhead_46 : decode cX6_isAhead 46 = .ok (.invokevirtual 74, 3) := by decide +kernel
theorem dX6_isAhead_49 : decode cX6_isAhead 49 = .ok (.if_icmp .eq 19, 3) := by decide +kernel
theorem dX6_isAhead_52 : decode cX6_isAhead 52 = .ok (.aload_n 0, 1) := by decide +kernel
theorem dX6_isAhead_53 : decode cX6_isAhead 53 = .ok (.iload_n 1, 1) := by decide +kernel
theorem dX6_isAhead_54 : decode cX6_isAhead 54 = .ok (.iconst 5, 1) := by decide +kernel
theorem dX6_isAhead_55 : decode cX6_isAhead 55 = .ok (.invokevirtual 74, 3) := by decide +kernel
theorem dX6_isAhead_58 : decode cX6_isAhead 58 = .ok (.iconst 1, 1) := by decide +kernel
theorem dX6_isAhead_59 : decode cX6_isAhead 59 = .ok (.if_icmp .ne 7, 3) := by decide +kernel
theorem dX6_isAhead_62 : decode cX6_isAhead 62 = .ok (.iconst 1, 1) := by decide +kernel
theorem dX6_isAhead_63 : decode cX6_isAhead 63 = .ok (.goto 4, 3) := by decide +kernel
theorem dX6_isAhead_66 : decode cX6_isAhead 66 = .ok (.iconst 0, 1) := by decide +kernel
theorem dX6_isAhead_67 : decode cX6_isAhead 67 = .ok (.ireturn, 1) := by decide +kernel
theorem dX6_isAhead_68 : decode cX6_isAhead 68 = .ok (.aload_n 0, 1) := by decide +kernel
theorem dX6_isAhead_69 : decode cX6_isAhead 69 = .ok (.iload_n 1, 1) := by decide +kernel
theorem dX6_isAhead_70 : decode cX6_isAhead 70 = .ok (.iconst 2, 1) := by decide +kernel
theorem dX6_isAhead_71 : decode cX6_isAhead 71 = .ok (.invokevirtual 74, 3) := by decide +kernel
theorem dX6_isAhead_74 : decode cX6_isAhead 74 = .ok (.aload_n 0, 1) := by decide +kernel
theorem dX6_isAhead_75 : decode cX6_isAhead 75 = .ok (.iload_n 2, 1) := by decide +kernel
theorem dX6_isAhead_76 : decode cX6_isAhead 76 = .ok (.iconst 2, 1) := by decide +kernel
theorem dX6_isAhead_77 : decode cX6_isAhead 77 = .ok (.invokevirtual 74, 3) := by decide +kernel
theorem dX6_isAhead_80 : decode cX6_isAhead 80 = .ok (.if_icmp .lt 7, 3) := by decide +kernel
theorem dX6_isAhead_83 : decode cX6_isAhead 83 = .ok (.iconst 1, 1) := by decide +kernel
theorem dX6_isAhead_84 : decode cX6_isAhead 84 = .ok (.goto 4, 3) := by decide +kernel
theorem dX6_isAhead_87 : decode cX6_isAhead 87 = .ok (.iconst 0, 1) := by decide +kernel
theorem dX6_isAhead_88 : decode cX6_isAhead 88 = .ok (.ireturn, 1) := by decide +kernel
theorem dX6_nextOne_0 : decode cX6_nextOne 0 = .ok (.iconst (-1), 1) := by decide +kernel
theorem dX6_nextOne_1 : decode cX6_nextOne 1 = .ok (.istore_n 1, 1) := by decide +kernel
theorem dX6_nextOne_2 : decode cX6_nextOne 2 = .ok (.iconst 0, 1) := by decide +kernel
theorem dX6_nextOne_3 : decode cX6_nextOne 3 = .ok (.istore_n 2, 1) := by decide +kernel
theorem dX6_nextOne_4 : decode cX6_nextOne 4 = .ok (.iload_n 2, 1) := by decide +kernel
theorem dX6_nextOne_5 : decode cX6_nextOne 5 = .ok (.aload_n 0, 1) := by decide +kernel
theorem dX6_nextOne_6 : decode cX6_nextOne 6 = .ok (.getfield 7, 3) := by decide +kernel
theorem dX6_nextOne_9 : decode cX6_nextOne 9 = .ok (.iconst 0, 1) := by decide +kernel
theorem dX6_nextOne_10 : decode cX6_nextOne 10 = .ok (.iaload, 1) := by decide +kernel
theorem dX6_nextOne_11 : decode cX6_nextOne 11 = .ok (.if_icmp .ge 70, 3) := by decide +kernel
theorem dX6_nextOne_14 : decode cX6_nextOne 14 = .ok (.aload_n 0, 1) := by decide +kernel
theorem dX6_nextOne_15 : decode cX6_nextOne 15 = .ok (.iload_n 2, 1) := by decide +kernel
theorem dX6_nextOne_16 : decode cX6_nextOne 16 = .ok (.aload_n 0, 1) := by decide +kernel
theorem dX6_nextOne_17 : decode cX6_nextOne 17 = .ok (.getfield 7, 3) := by decide +kernel
theorem dX6_nextOne_20 : decode cX6_nextOne 20 = .ok (.iconst 5, 1) := by decide +kernel
theorem dX6_nextOne_21 : decode cX6_nextOne 21 = .ok (.iaload, 1) := by decide +kernel
theorem dX6_nextOne_22 : decode cX6_nextOne 22 = .ok (.invokevirtual 129, 3) := by decide +kernel
theorem dX6_nextOne_25 : decode cX6_nextOne 25 = .ok (.ifCond .eq 25, 3) := by decide +kernel
theorem dX6_nextOne_28 : decode cX6_nextOne 28 = .ok (.aload_n 0, 1) := by decide +kernel
theorem dX6_nextOne_29 : decode cX6_nextOne 29 = .ok (.getfield 7, 3) := by decide +kernel
theorem dX6_nextOne_32 : decode cX6_nextOne 32 = .ok (.aload_n 0, 1) := by decide +kernel
theorem dX6_nextOne_33 : decode cX6_nextOne 33 = .ok (.iload_n 2, 1) := by decide +kernel
theorem dX6_nextOne_34 : decode cX6_nextOne 34 = .ok (.iconst 1, 1) := by decide +kernel
theorem dX6_nextOne_35 : decode cX6_nextOne 35 = .ok (.invokevirtual 74, 3) := by decide +kernel
theorem dX6_nextOne_38 : decode cX6_nextOne 38 = .ok (.iconst 1, 1) := by decide +kernel
theorem dX6_nextOne_39 : decode cX6_nextOne 39 = .ok (.invokestatic 41, 3) := by decide +kernel
theorem dX6_nextOne_42 : decode cX6_nextOne 42 = .ok (.iaload, 1) := by decide +kernel
theorem dX6_nextOne_43 : decode cX6_nextOne 43 = .ok (.ifCond .ne 7, 3) := by decide +kernel
theorem dX6_nextOne_46 : decode cX6_nextOne 46 = .ok (.iconst 1, 1) := by decide +kernel
theorem dX6_nextOne_47 : decode cX6_nextOne 47 = .ok (.goto 4, 3) := by decide +kernel
theorem dX6_nextOne_50 : decode cX6_nextOne 50 = .ok (.iconst 0, 1) := by decide +kernel
theorem dX6_nextOne_51 : decode cX6_nextOne 51 = .ok (.istore_n 3, 1) := by decide +kernel
theorem dX6_nextOne_52 : decode cX6_nextOne 52 = .ok (.iload_n 3, 1) := by decide +kernel
theorem dX6_nextOne_53 : decode cX6_nextOne 53 = .ok (.ifCond .eq 20, 3) := by decide +kernel
theorem dX6_nextOne_56 : decode cX6_nextOne 56 = .ok (.iload_n 1, 1) := by decide +kernel
theorem dX6_nextOne_57 : decode cX6_nextOne 57 = .ok (.ifCond .lt 12, 3) := by decide +kernel
theorem dX6_nextOne_60 : decode cX6_nextOne 60 = .ok (.aload_n 0, 1) := by decide +kernel
theorem dX6_nextOne_61 : decode cX6_nextOne 61 = .ok (.iload_n 1, 1) := by decide +kernel
theorem dX6_nextOne_62 : decode cX6_nextOne 62 = .ok (.iload_n 2, 1) := by decide +kernel
theorem dX6_nextOne_63 : decode cX6_nextOne 63 = .ok (.invokevirtual 136, 3) := by decide +kernel
theorem dX6_nextOne_66 : decode cX6_nextOne 66 = .ok (.ifCond .ne 7, 3) := by decide +kernel
theorem dX6_nextOne_69 : decode cX6_nextOne 69 = .ok (.iload_n 2, 1) := by decide +kernel
theorem dX6_nextOne_70 : decode cX6_nextOne 70 = .ok (.goto 4, 3) := by decide +kernel
theorem dX6_nextOne_73 : decode cX6_nextOne 73 = .ok (.iload_n 1, 1) := by decide +kernel
theorem dX6_nextOne_74 : decode cX6_nextOne 74 = .ok (.istore_n 1, 1) := by decide +kernel
theorem dX6_nextOne_75 : decode cX6_nextOne 75 = .ok (.iinc 2 1, 3) := by decide +kernel
theorem dX6_nextOne_78 : decode cX6_nextOne 78 = .ok (.goto (-74), 3) := by decide +kernel
theorem dX6_nextOne_81 : decode cX6_nextOne 81 = .ok (.iload_n 1, 1) := by decide +kernel
theorem dX6_nextOne_82 : decode cX6_nextOne 82 = .ok (.ireturn, 1) := by decide +kernel
theorem dX6_next_0 : decode cX6_next 0 = .ok (.aload_n 0, 1) := by decide +kernel
theorem dX6_next_1 : decode cX6_next 1 = .ok (.invokevirtual 139, 3) := by decide +kernel
theorem dX6_next_4 : decode cX6_next 4 = .ok (.istore_n 1, 1) := by decide +kernel
theorem dX6_next_5 : decode cX6_next 5 = .ok (.iload_n 1, 1) := by decide +kernel
theorem dX6_next_6 : decode cX6_next 6 = .ok (.ifCond .ge 12, 3) := by decide +kernel
theorem dX6_next_9 : decode cX6_next 9 = .ok (.aload_n 0, 1) := by decide +kernel
theorem dX6_next_10 : decode cX6_next 10 = .ok (.ldc 142, 2) := by decide +kernel
theorem dX6_next_12 : decode cX6_next 12 = .ok (.invokevirtual 64, 3) := by decide +kernel
theorem dX6_next_15 : decode cX6_next 15 = .ok (.goto 4, 3) := by decide +kernel
theorem dX6_next_18 : decode cX6_next 18 = .ok (.iload_n 1, 1) := by decide +kernel
theorem dX6_next_19 : decode cX6_next 19 = .ok (.ireturn, 1) := by decide +kernel
theorem dX6_ages_0 : decode cX6_ages 0 = .ok (.aload_n 0, 1) := by decide +kernel
theorem dX6_ages_1 : decode cX6_ages 1 = .ok (.getfield 7, 3) := by decide +kernel
theorem dX6_ages_4 : decode cX6_ages 4 = .ok (.iload_n 1, 1) := by decide +kernel
theorem dX6_ages_5 : decode cX6_ages 5 = .ok (.iconst 4, 1) := by decide +kernel
theorem dX6_ages_6 : decode cX6_ages 6 = .ok (.invokestatic 52, 3) := by decide +kernel
theorem dX6_ages_9 : decode cX6_ages 9 = .ok (.aload_n 0, 1) := by decide +kernel
theorem dX6_ages_10 : decode cX6_ages 10 = .ok (.iload_n 1, 1) := by decide +kernel
theorem dX6_ages_11 : decode cX6_ages 11 = .ok (.iconst 4, 1) := by decide +kernel
theorem dX6_ages_12 : decode cX6_ages 12 = .ok (.invokevirtual 74, 3) := by decide +kernel
