theorem dX7_init_0 : decode cX7_init 0 = .ok (.aload_n 0, 1) := by decide +kernel
theorem dX7_init_1 : decode cX7_init 1 = .ok (.invokespecial 1, 3) := by decide +kernel
theorem dX7_init_4 : decode cX7_init 4 = .ok (.aload_n 0, 1) := by decide +kernel
theorem dX7_init_5 : decode cX7_init 5 = .ok (.bipush 24, 2) := by decide +kernel
theorem dX7_init_7 : decode cX7_init 7 = .ok (.newarray .int, 2) := by decide +kernel
theorem dX7_init_9 : decode cX7_init 9 = .ok (.putfield 7, 3) := by decide +kernel
theorem dX7_init_12 : decode cX7_init 12 = .ok (.aload_n 0, 1) := by decide +kernel
theorem dX7_init_13 : decode cX7_init 13 = .ok (.bipush 24, 2) := by decide +kernel
theorem dX7_init_15 : decode cX7_init 15 = .ok (.newarray .int, 2) := by decide +kernel
theorem dX7_init_17 : decode cX7_init 17 = .ok (.putfield 13, 3) := by decide +kernel
theorem dX7_init_20 : decode cX7_init 20 = .ok (.aload_n 0, 1) := by decide +kernel
theorem dX7_init_21 : decode cX7_init 21 = .ok (.iconst 4, 1) := by decide +kernel
theorem dX7_init_22 : decode cX7_init 22 = .ok (.newarray .int, 2) := by decide +kernel
theorem dX7_init_24 : decode cX7_init 24 = .ok (.putfield 16, 3) := by decide +kernel
theorem dX7_init_27 : decode cX7_init 27 = .ok (.aload_n 0, 1) := by decide +kernel
theorem dX7_init_28 : decode cX7_init 28 = .ok (.iconst 4, 1) := by decide +kernel
theorem dX7_init_29 : decode cX7_init 29 = .ok (.newarray .int, 2) := by decide +kernel
theorem dX7_init_31 : decode cX7_init 31 = .ok (.putfield 19, 3) := by decide +kernel
theorem dX7_init_34 : decode cX7_init 34 = .ok (.aload_n 0, 1) := by decide +kernel
theorem dX7_init_35 : decode cX7_init 35 = .ok (.iconst 4, 1) := by decide +kernel
theorem dX7_init_36 : decode cX7_init 36 = .ok (.newarray .int, 2) := by decide +kernel
theorem dX7_init_38 : decode cX7_init 38 = .ok (.putfield 22, 3) := by decide +kernel
theorem dX7_init_41 : decode cX7_init 41 = .ok (.aload_n 0, 1) := by decide +kernel
theorem dX7_init_42 : decode cX7_init 42 = .ok (.iconst 4, 1) := by decide +kernel
theorem dX7_init_43 : decode cX7_init 43 = .ok (.newarray .int, 2) := by decide +kernel
theorem dX7_init_45 : decode cX7_init 45 = .ok (.putfield 25, 3) := by decide +kernel
theorem dX7_init_48 : decode cX7_init 48 = .ok (.aload_n 0, 1) := by decide +kernel
theorem dX7_init_49 : decode cX7_init 49 = .ok (.iconst 4, 1) := by decide +kernel
theorem dX7_init_50 : decode cX7_init 50 = .ok (.newarray .int, 2) := by decide +kernel
theorem dX7_init_52 : decode cX7_init 52 = .ok (.putfield 28, 3) := by decide +kernel
theorem dX7_init_55 : decode cX7_init 55 = .ok (.aload_n 0, 1) := by decide +kernel
theorem dX7_init_56 : decode cX7_init 56 = .ok (.iconst 4, 1) := by decide +kernel
theorem dX7_init_57 : decode cX7_init 57 = .ok (.newarray .long, 2) := by decide +kernel
theorem dX7_init_59 : decode cX7_init 59 = .ok (.putfield 31, 3) := by decide +kernel
theorem dX7_init_62 : decode cX7_init 62 = .ok (.aload_n 0, 1) := by decide +kernel
theorem dX7_init_63 : decode cX7_init 63 = .ok (.iconst 4, 1) := by decide +kernel
theorem dX7_init_64 : decode cX7_init 64 = .ok (.newarray .boolean, 2) := by decide +kernel
theorem dX7_init_66 : decode cX7_init 66 = .ok (.putfield 35, 3) := by decide +kernel
theorem dX7_init_69 : decode cX7_init 69 = .ok (.aload_n 0, 1) := by decide +kernel
theorem dX7_init_70 : decode cX7_init 70 = .ok (.iconst 4, 1) := by decide +kernel
theorem dX7_init_71 : decode cX7_init 71 = .ok (.newarray .boolean, 2) := by decide +kernel
theorem dX7_init_73 : decode cX7_init 73 = .ok (.putfield 39, 3) := by decide +kernel
theorem dX7_init_76 : decode cX7_init 76 = .ok (.aload_n 0, 1) := by decide +kernel
theorem dX7_init_77 : decode cX7_init 77 = .ok (.iconst 4, 1) := by decide +kernel
theorem dX7_init_78 : decode cX7_init 78 = .ok (.newarray .boolean, 2) := by decide +kernel
theorem dX7_init_80 : decode cX7_init 80 = .ok (.putfield 42, 3) := by decide +kernel
theorem dX7_init_83 : decode cX7_init 83 = .ok (.aload_n 0, 1) := by decide +kernel
theorem dX7_init_84 : decode cX7_init 84 = .ok (.iconst 2, 1) := by decide +kernel
theorem dX7_init_85 : decode cX7_init 85 = .ok (.newarray .int, 2) := by decide +kernel
theorem dX7_init_87 : decode cX7_init 87 = .ok (.putfield 45, 3) := by decide +kernel
theorem dX7_init_90 : decode cX7_init 90 = .ok (.aload_n 0, 1) := by decide +kernel
theorem dX7_init_91 : decode cX7_init 91 = .ok (.iconst 2, 1) := by decide +kernel
theorem dX7_init_92 : decode cX7_init 92 = .ok (.newarray .int, 2) := by decide +kernel
theorem dX7_init_94 : decode cX7_init 94 = .ok (.putfield 48, 3) := by decide +kernel
theorem dX7_init_97 : decode cX7_init 97 = .ok (.aload_n 0, 1) := by decide +kernel
theorem dX7_init_98 : decode cX7_init 98 = .ok (.iconst 2, 1) := by decide +kernel
theorem dX7_init_99 : decode cX7_init 99 = .ok (.newarray .int, 2) := by decide +kernel
theorem dX7_init_101 : decode cX7_init 101 = .ok (.putfield 51, 3) := by decide +kernel
theorem dX7_init_104 : decode cX7_init 104 = .ok (.aload_n 0, 1) := by decide +kernel
theorem dX7_init_105 : decode cX7_init 105 = .ok (.bipush 8, 2) := by decide +kernel
theorem dX7_init_107 : decode cX7_init 107 = .ok (.newarray .int, 2) := by decide +kernel
theorem dX7_init_109 : decode cX7_init 109 = .ok (.putfield 54, 3) := by decide +kernel
theorem dX7_init_112 : decode cX7_init 112 = .ok (.aload_n 0, 1) := by decide +kernel
theorem dX7_init_113 : decode cX7_init 113 = .ok (.iconst 5, 1) := by decide +kernel
theorem dX7_init_114 : decode cX7_init 114 = .ok (.newarray .long, 2) := by decide +kernel
theorem dX7_init_116 : decode cX7_init 116 = .ok (.putfield 57, 3) := by decide +kernel
theorem dX7_init_119 : decode cX7_init 119 = .ok (.aload_n 0, 1) := by decide +kernel
theorem dX7_init_120 : decode cX7_init 120 = .ok (.sipush 15005, 3) := by decide +kernel
theorem dX7_init_123 : decode cX7_init 123 = .ok (.newarray .long, 2) := by decide +kernel
theorem dX7_init_125 : decode cX7_init 125 = .ok (.putfield 60, 3) := by decide +kernel
theorem dX7_init_128 : decode cX7_init 128 = .ok (.aload_n 0, 1) := by decide +kernel
theorem dX7_init_129 : decode cX7_init 129 = .ok (.sipush 3001, 3) := by decide +kernel
theorem dX7_init_132 : decode cX7_init 132 = .ok (.newarray .long, 2) := by decide +kernel
theorem dX7_init_134 : decode cX7_init 134 = .ok (.putfield 63, 3) := by decide +kernel
theorem dX7_init_137 : decode cX7_init 137 = .ok (.aload_n 0, 1) := by decide +kernel
theorem dX7_init_138 : decode cX7_init 138 = .ok (.iconst 4, 1) := by decide +kernel
theorem dX7_init_139 : decode cX7_init 139 = .ok (.newarray .boolean, 2) := by decide +kernel
theorem dX7_init_141 : decode cX7_init 141 = .ok (.putfield 66, 3) := by decide +kernel
theorem dX7_init_144 : decode cX7_init 144 = .ok (.aload_n 0, 1) := by decide +kernel
theorem dX7_init_145 : decode cX7_init 145 = .ok (.iload_n 1, 1) := by decide +kernel
theorem dX7_init_146 : decode cX7_init 146 = .ok (.iconst 1, 1) := by decide +kernel
theorem dX7_init_147 : decode cX7_init 147 = .ok (.if_icmp .ne 7, 3) := by decide +kernel
theorem dX7_init_150 : decode cX7_init 150 = .ok (.iconst 1, 1) := by decide +kernel
theorem dX7_init_151 : decode cX7_init 151 = .ok (.goto 4, 3) := by decide +kernel
theorem dX7_init_154 : decode cX7_init 154 = .ok (.iconst 0, 1) := by decide +kernel
theorem dX7_init_155 : decode cX7_init 155 = .ok (.putfield 69, 3) := by decide +kernel
theorem dX7_init_158 : decode cX7_init 158 = .ok (.aload_n 0, 1) := by decide +kernel
theorem dX7_init_159 : decode cX7_init 159 = .ok (.invokevirtual 73, 3) := by decide +kernel
theorem dX7_init_162 : decode cX7_init 162 = .ok (.pop, 1) := by decide +kernel
theorem dX7_init_163 : decode cX7_init 163 = .ok (.return_, 1) := by decide +kernel
theorem dX7_out_0 : decode cX7_out 0 = .ok (.iload_n 0, 1) := by decide +kernel
theorem dX7_out_1 : decode cX7_out 1 = .ok (.ifCond .lt 8, 3) := by decide +kernel
theorem dX7_out_4 : decode cX7_out 4 = .ok (.iload_n 0, 1) := by decide +kernel
theorem dX7_out_5 : decode cX7_out 5 = .ok (.iload_n 1, 1) := by decide +kernel
theorem dX7_out_6 : decode cX7_out 6 = .ok (.if_icmp .lt 7, 3) := by decide +kernel
theorem dX7_out_9 : decode cX7_out 9 = .ok (.iconst 1, 1) := by decide +kernel
theorem dX7_out_10 : decode cX7_out 10 = .ok (.goto 4, 3) := by decide +kernel
theorem dX7_out_13 : decode cX7_out 13 = .ok (.iconst 0, 1) := by decide +kernel
theorem dX7_out_14 : decode cX7_out 14 = .ok (.ireturn, 1) := by decide +kernel
theorem dX7_first_0 : decode cX7_first 0 = .ok (.iconst 0, 1) := by decide +kernel
theorem dX7_first_1 : decode cX7_first 1 = .ok (.istore_n 1, 1) := by decide +kernel
theorem dX7_first_2 : decode cX7_first 2 = .ok (.iload_n 1, 1) := by decide +kernel
theorem dX7_first_3 : decode cX7_first 3 = .ok (.iconst 4, 1) := by decide +kernel
theorem dX7_first_4 : decode cX7_first 4 = .ok (.if_icmp .ge 78, 3) := by decide +kernel
theorem dX7_first_7 : decode cX7_first 7 = .ok (.aload_n 0, 1) := by decide +kernel
theorem dX7_first_8 : decode cX7_first 8 = .ok (.getfield 19, 3) := by decide +kernel
theorem dX7_first_11 : decode cX7_first 11 = .ok (.iload_n 1, 1) := by decide +kernel
theorem dX7_first_12 : decode cX7_first 12 = .ok (.aload_n 0, 1) := by decide +kernel
theorem dX7_first_13 : decode cX7_first 13 = .ok (.getfield 25, 3) := by decide +kernel
theorem dX7_first_16 : decode cX7_first 16 = .ok (.iload_n 1, 1) := by decide +kernel
theorem dX7_first_17 : decode cX7_first 17 = .ok (.aload_n 0, 1) := by decide +kernel
theorem dX7_first_18 : decode cX7_first 18 = .ok (.getfield 28, 3) := by decide +kernel
theorem dX7_first_21 : decode cX7_first 21 = .ok (.iload_n 1, 1) := by decide +kernel
theorem dX7_first_22 : decode cX7_first 22 = .ok (.iconst 0, 1) := by decide +kernel
theorem dX7_first_23 : decode cX7_first 23 = .ok (.dup_x2, 1) := by decide +kernel
theorem dX7_first_24 : decode cX7_first 24 = .ok (.iastore, 1) := by decide +kernel
theorem dX7_first_25 : decode cX7_first 25 = .ok (.dup_x2, 1) := by decide +kernel
theorem dX7_first_26 : decode cX7_first 26 = .ok (.iastore, 1) := by decide +kernel
theorem dX7_first_27 : decode cX7_first 27 = .ok (.iastore, 1) := by decide +kernel
theorem dX7_first_28 : decode cX7_first 28 = .ok (.aload_n 0, 1) := by decide +kernel
theorem dX7_first_29 : decode cX7_first 29 = .ok (.getfield 31, 3) := by decide +kernel
theorem dX7_first_32 : decode cX7_first 32 = .ok (.iload_n 1, 1) := by decide +kernel
theorem dX7_first_33 : decode cX7_first 33 = .ok (.lconst 0, 1) := by decide +kernel
theorem dX7_first_34 : decode cX7_first 34 = .ok (.lastore, 1) := by decide +kernel
theorem dX7_first_35 : decode cX7_first 35 = .ok (.aload_n 0, 1) := by decide +kernel
theorem dX7_first_36 : decode cX7_first 36 = .ok (.getfield 22, 3) := by decide +kernel
theorem dX7_first_39 : decode cX7_first 39 = .ok (.iload_n 1, 1) := by decide +kernel
theorem dX7_first_40 : decode cX7_first 40 = .ok (.aload_n 0, 1) := by decide +kernel
theorem dX7_first_41 : decode cX7_first 41 = .ok (.getfield 16, 3) := by decide +kernel
theorem dX7_first_44 : decode cX7_first 44 = .ok (.iload_n 1, 1) := by decide +kernel
theorem dX7_first_45 : decode cX7_first 45 = .ok (.iaload, 1) := by decide +kernel
theorem dX7_first_46 : decode cX7_first 46 = .ok (.ifCond .ne 7, 3) := by decide +kernel
theorem dX7_first_49 : decode cX7_first 49 = .ok (.iconst 4, 1) := by decide +kernel
theorem dX7_first_50 : decode cX7_first 50 = .ok (.goto 4, 3) := by decide +kernel
theorem dX7_first_53 : decode cX7_first 53 = .ok (.iconst 0, 1) := by decide +kernel
theorem dX7_first_54 : decode cX7_first 54 = .ok (.iastore, 1) := by decide +kernel
theorem dX7_first_55 : decode cX7_first 55 = .ok (.aload_n 0, 1) := by decide +kernel
theorem dX7_first_56 : decode cX7_first 56 = .ok (.getfield 35, 3) := by decide +kernel
theorem dX7_first_59 : decode cX7_first 59 = .ok (.iload_n 1, 1) := by decide +kernel
theorem dX7_first_60 : decode cX7_first 60 = .ok (.aload_n 0, 1) := by decide +kernel
theorem dX7_first_61 : decode cX7_first 61 = .ok (.getfield 39, 3) := by decide +kernel
theorem dX7_first_64 : decode cX7_first 64 = .ok (.iload_n 1, 1) := by decide +kernel
theorem dX7_first_65 : decode cX7_first 65 = .ok (.aload_n 0, 1) := by decide +kernel
theorem dX7_first_66 : decode cX7_first 66 = .ok (.getfield 42, 3) := by decide +kernel
theorem dX7_first_69 : decode cX7_first 69 = .ok (.iload_n 1, 1) := by decide +kernel
theorem dX7_first_70 : decode cX7_first 70 = .ok (.iconst 0, 1) := by decide +kernel
theorem dX7_first_71 : decode cX7_first 71 = .ok (.dup_x2, 1) := by decide +kernel
theorem dX7_first_72 : decode cX7_first 72 = .ok (.bastore, 1) := by decide +kernel
theorem dX7_first_73 : decode cX7_first 73 = .ok (.dup_x2, 1) := by decide +kernel
theorem dX7_first_74 : decode cX7_first 74 = .ok (.bastore, 1) := by decide +kernel
theorem dX7_first_75 : decode cX7_first 75 = .ok (.bastore, 1) := by decide +kernel
theorem dX7_first_76 : decode cX7_first 76 = .ok (.iinc 1 1, 3) := by decide +kernel
theorem dX7_first_79 : decode cX7_first 79 = .ok (.goto (-77), 3) := by decide +kernel
theorem dX7_first_82 : decode cX7_first 82 = .ok (.iconst 0, 1) := by decide +kernel
theorem dX7_first_83 : decode cX7_first 83 = .ok (.istore_n 1, 1) := by decide +kernel
theorem dX7_first_84 : decode cX7_first 84 = .ok (.iload_n 1, 1) := by decide +kernel
theorem dX7_first_85 : decode cX7_first 85 = .ok (.iconst 2, 1) := by decide +kernel
theorem dX7_first_86 : decode cX7_first 86 = .ok (.if_icmp .ge 30, 3) := by decide +kernel
theorem dX7_first_89 : decode cX7_first 89 = .ok (.aload_n 0, 1) := by decide +kernel
theorem dX7_first_90 : decode cX7_first 90 = .ok (.getfield 45, 3) := by decide +kernel
theorem dX7_first_93 : decode cX7_first 93 = .ok (.iload_n 1, 1) := by decide +kernel
theorem dX7_first_94 : decode cX7_first 94 = .ok (.iconst (-1), 1) := by decide +kernel
theorem dX7_first_95 : decode cX7_first 95 = .ok (.iastore, 1) := by decide +kernel
theorem dX7_first_96 : decode cX7_first 96 = .ok (.aload_n 0, 1) := by decide +kernel
theorem dX7_first_97 : decode cX7_first 97 = .ok (.getfield 48, 3) := by decide +kernel
theorem dX7_first_100 : decode cX7_first 100 = .ok (.iload_n 1, 1) := by decide +kernel
theorem dX7_first_101 : decode cX7_first 101 = .ok (.aload_n 0, 1) := by decide +kernel
theorem dX7_first_102 : decode cX7_first 102 = .ok (.getfield 51, 3) := by decide +kernel
theorem dX7_first_105 : decode cX7_first 105 = .ok (.iload_n 1, 1) := by decide +kernel
theorem dX7_first_106 : decode cX7_first 106 = .ok (.iconst 0, 1) := by decide +kernel
theorem dX7_first_107 : decode cX7_first 107 = .ok (.dup_x2, 1) := by decide +kernel
theorem dX7_first_108 : decode cX7_first 108 = .ok (.iastore, 1) := by decide +kernel
theorem dX7_first_109 : decode cX7_first 109 = .ok (.iastore, 1) := by decide +kernel
theorem dX7_first_110 : decode cX7_first 110 = .ok (.iinc 1 1, 3) := by decide +kernel
theorem dX7_first_113 : decode cX7_first 113 = .ok (.goto (-29), 3) := by decide +kernel
theorem dX7_first_116 : decode cX7_first 116 = .ok (.return_, 1) := by decide +kernel
theorem dX7_threadPacked_0 : decode cX7_threadPacked 0 = .ok (.aload_n 0, 1) := by decide +kernel
theorem dX7_threadPacked_1 : decode cX7_threadPacked 1 = .ok (.getfield 31, 3) := by decide +kernel
theorem dX7_threadPacked_4 : decode cX7_threadPacked 4 = .ok (.iload_n 1, 1) := by decide +kernel
theorem dX7_threadPacked_5 : decode cX7_threadPacked 5 = .ok (.laload, 1) := by decide +kernel
theorem dX7_threadPacked_6 : decode cX7_threadPacked 6 = .ok (.lstore_n 2, 1) := by decide +kernel
theorem dX7_threadPacked_7 : decode cX7_threadPacked 7 = .ok (.lload_n 2, 1) := by decide +kernel
theorem dX7_threadPacked_8 : decode cX7_threadPacked 8 = .ok (.ldc2_w 77, 3) := by decide +kernel
theorem dX7_threadPacked_11 : decode cX7_threadPacked 11 = .ok (.lmul, 1) := by decide +kernel
theorem dX7_threadPacked_12 : decode cX7_threadPacked 12 = .ok (.aload_n 0, 1) := by decide +kernel
theorem dX7_threadPacked_13 : decode cX7_threadPacked 13 = .ok (.getfield 28, 3) := by decide +kernel
theorem dX7_threadPacked_16 : decode cX7_threadPacked 16 = .ok (.iload_n 1, 1) := by decide +kernel
theorem dX7_threadPacked_17 : decode cX7_threadPacked 17 = .ok (.iaload, 1) := by decide +kernel
theorem dX7_threadPacked_18 : decode cX7_threadPacked 18 = .ok (.i2l, 1) := by decide +kernel
theorem dX7_threadPacked_19 : decode cX7_threadPacked 19 = .ok (.ladd, 1) := by decide +kernel
theorem dX7_threadPacked_20 : decode cX7_threadPacked 20 = .ok (.lstore_n 2, 1) := by decide +kernel
theorem dX7_threadPacked_21 : decode cX7_threadPacked 21 = .ok (.lload_n 2, 1) := by decide +kernel
theorem dX7_threadPacked_22 : decode cX7_threadPacked 22 = .ok (.ldc2_w 77, 3) := by decide +kernel
theorem dX7_threadPacked_25 : decode cX7_threadPacked 25 = .ok (.lmul, 1) := by decide +kernel
theorem dX7_threadPacked_26 : decode cX7_threadPacked 26 = .ok (.aload_n 0, 1) := by decide +kernel
theorem dX7_threadPacked_27 : decode cX7_threadPacked 27 = .ok (.getfield 19, 3) := by decide +kernel
theorem dX7_threadPacked_30 : decode cX7_threadPacked 30 = .ok (.iload_n 1, 1) := by decide +kernel
theorem dX7_threadPacked_31 : decode cX7_threadPacked 31 = .ok (.iaload, 1) := by decide +kernel
theorem dX7_threadPacked_32 : decode cX7_threadPacked 32 = .ok (.i2l, 1) := by decide +kernel
theorem dX7_threadPacked_33 : decode cX7_threadPacked 33 = .ok (.ladd, 1) := by decide +kernel
theorem dX7_threadPacked_34 : decode cX7_threadPacked 34 = .ok (.lstore_n 2, 1) := by decide +kernel
theorem dX7_threadPacked_35 : decode cX7_threadPacked 35 = .ok (.lload_n 2, 1) := by decide +kernel
theorem dX7_threadPacked_36 : decode cX7_threadPacked 36 = .ok (.ldc2_w 77, 3) := by decide +kernel
theorem dX7_threadPacked_39 : decode cX7_threadPacked 39 = .ok (.lmul, 1) := by decide +kernel
theorem dX7_threadPacked_40 : decode cX7_threadPacked 40 = .ok (.aload_n 0, 1) := by decide +kernel
theorem dX7_threadPacked_41 : decode cX7_threadPacked 41 = .ok (.getfield 22, 3) := by decide +kernel
theorem dX7_threadPacked_44 : decode cX7_threadPacked 44 = .ok (.iload_n 1, 1) := by decide +kernel
theorem dX7_threadPacked_45 : decode cX7_threadPacked 45 = .ok (.iaload, 1) := by decide +kernel
theorem dX7_threadPacked_46 : decode cX7_threadPacked 46 = .ok (.i2l, 1) := by decide +kernel
theorem dX7_threadPacked_47 : decode cX7_threadPacked 47 = .ok (.ladd, 1) := by decide +kernel
theorem dX7_threadPacked_48 : decode cX7_threadPacked 48 = .ok (.lstore_n 2, 1) := by decide +kernel
theorem dX7_threadPacked_49 : decode cX7_threadPacked 49 = .ok (.lload_n 2, 1) := by decide +kernel
theorem dX7_threadPacked_50 : decode cX7_threadPacked 50 = .ok (.ldc2_w 77, 3) := by decide +kernel
theorem dX7_threadPacked_53 : decode cX7_threadPacked 53 = .ok (.lmul, 1) := by decide +kernel
theorem dX7_threadPacked_54 : decode cX7_threadPacked 54 = .ok (.aload_n 0, 1) := by decide +kernel
theorem dX7_threadPacked_55 : decode cX7_threadPacked 55 = .ok (.getfield 25, 3) := by decide +kernel
theorem dX7_threadPacked_58 : decode cX7_threadPacked 58 = .ok (.iload_n 1, 1) := by decide +kernel
theorem dX7_threadPacked_59 : decode cX7_threadPacked 59 = .ok (.iaload, 1) := by decide +kernel
theorem dX7_threadPacked_60 : decode cX7_threadPacked 60 = .ok (.i2l, 1) := by decide +kernel
theorem dX7_threadPacked_61 : decode cX7_threadPacked 61 = .ok (.ladd, 1) := by decide +kernel
theorem dX7_threadPacked_62 : decode cX7_threadPacked 62 = .ok (.lstore_n 2, 1) := by decide +kernel
theorem dX7_threadPacked_63 : decode cX7_threadPacked 63 = .ok (.lload_n 2, 1) := by decide +kernel
theorem dX7_threadPacked_64 : decode cX7_threadPacked 64 = .ok (.ldc2_w 77, 3) := by decide +kernel
theorem dX7_threadPacked_67 : decode cX7_threadPacked 67 = .ok (.lmul, 1) := by decide +kernel
theorem dX7_threadPacked_68 : decode cX7_threadPacked 68 = .ok (.aload_n 0, 1) := by decide +kernel
theorem dX7_threadPacked_69 : decode cX7_threadPacked 69 = .ok (.getfield 35, 3) := by decide +kernel
theorem dX7_threadPacked_72 : decode cX7_threadPacked 72 = .ok (.iload_n 1, 1) := by decide +kernel
theorem dX7_threadPacked_73 : decode cX7_threadPacked 73 = .ok (.baload, 1) := by decide +kernel
theorem dX7_threadPacked_74 : decode cX7_threadPacked 74 = .ok (.ifCond .eq 7, 3) := by decide +kernel
theorem dX7_threadPacked_77 : decode cX7_threadPacked 77 = .ok (.iconst 1, 1) := by decide +kernel
theorem dX7_threadPacked_78 : decode cX7_threadPacked 78 = .ok (.goto 4, 3) := by decide +kernel
theorem dX7_threadPacked_81 : decode cX7_threadPacked 81 = .ok (.iconst 0, 1) := by decide +kernel
theorem dX7_threadPacked_82 : decode cX7_threadPacked 82 = .ok (.i2l, 1) := by decide +kernel
theorem dX7_threadPacked_83 : decode cX7_threadPacked 83 = .ok (.ladd, 1) := by decide +kernel
theorem dX7_threadPacked_84 : decode cX7_threadPacked 84 = .ok (.aload_n 0, 1) := by decide +kernel
theorem dX7_threadPacked_85 : decode cX7_threadPacked 85 = .ok (.getfield 39, 3) := by decide +kernel
theorem dX7_threadPacked_88 : decode cX7_threadPacked 88 = .ok (.iload_n 1, 1) := by decide +kernel
theorem dX7_threadPacked_89 : decode cX7_threadPacked 89 = .ok (.baload, 1) := by decide +kernel
theorem dX7_threadPacked_90 : decode cX7_threadPacked 90 = .ok (.ifCond .eq 7, 3) := by decide +kernel
theorem dX7_threadPacked_93 : decode cX7_threadPacked 93 = .ok (.iconst 2, 1) := by decide +kernel
theorem dX7_threadPacked_94 : decode cX7_threadPacked 94 = .ok (.goto 4, 3) := by decide +kernel
theorem dX7_threadPacked_97 : decode cX7_threadPacked 97 = .ok (.iconst 0, 1) := by decide +kernel
theorem dX7_threadPacked_98 : decode cX7_threadPacked 98 = .ok (.i2l, 1) := by decide +kernel
theorem dX7_threadPacked_99 : decode cX7_threadPacked 99 = .ok (.ladd, 1) := by decide +kernel
theorem dX7_threadPacked_100 : decode cX7_threadPacked 100 = .ok (.aload_n 0, 1) := by decide +kernel
theorem dX7_threadPacked_101 : decode cX7_threadPacked 101 = .ok (.getfield 42, 3) := by decide +kernel
theorem dX7_threadPacked_104 : decode cX7_threadPacked 104 = .ok (.iload_n 1, 1) := by decide +kernel
theorem dX7_threadPacked_105 : decode cX7_threadPacked 105 = .ok (.baload, 1) := by decide +kernel
theorem dX7_threadPacked_106 : decode cX7_threadPacked 106 = .ok (.ifCond .eq 7, 3) := by decide +kernel
theorem dX7_threadPacked_109 : decode cX7_threadPacked 109 = .ok (.iconst 4, 1) := by decide +kernel
theorem dX7_threadPacked_110 : decode cX7_threadPacked 110 = .ok (.goto 4, 3) := by decide +kernel
theorem dX7_threadPacked_113 : decode cX7_threadPacked 113 = .ok (.iconst 0, 1) := by decide +kernel
theorem dX7_threadPacked_114 : decode cX7_threadPacked 114 = .ok (.i2l, 1) := by decide +kernel
theorem dX7_threadPacked_115 : decode cX7_threadPacked 115 = .ok (.ladd, 1) := by decide +kernel
theorem dX7_threadPacked_116 : decode cX7_threadPacked 116 = .ok (.lreturn, 1) := by decide +kernel
theorem dX7_threadUnpacked_0 : decode cX7_threadUnpacked 0 = .ok (.lload_n 2, 1) := by decide +kernel
theorem dX7_threadUnpacked_1 : decode cX7_threadUnpacked 1 = .ok (.lstore 4, 2) := by decide +kernel
theorem dX7_threadUnpacked_3 : decode cX7_threadUnpacked 3 = .ok (.aload_n 0, 1) := by decide +kernel
theorem dX7_threadUnpacked_4 : decode cX7_threadUnpacked 4 = .ok (.getfield 35, 3) := by decide +kernel
theorem dX7_threadUnpacked_7 : decode cX7_threadUnpacked 7 = .ok (.iload_n 1, 1) := by decide +kernel
theorem dX7_threadUnpacked_8 : decode cX7_threadUnpacked 8 = .ok (.lload 4, 2) := by decide +kernel
theorem dX7_threadUnpacked_10 : decode cX7_threadUnpacked 10 = .ok (.lconst 1, 1) := by decide +kernel
theorem dX7_threadUnpacked_11 : decode cX7_threadUnpacked 11 = .ok (.land, 1) := by decide +kernel
theorem dX7_threadUnpacked_12 : decode cX7_threadUnpacked 12 = .ok (.lconst 1, 1) := by decide +kernel
theorem dX7_threadUnpacked_13 : decode cX7_threadUnpacked 13 = .ok (.lcmp, 1) := by decide +kernel
theorem dX7_threadUnpacked_14 : decode cX7_threadUnpacked 14 = .ok (.ifCond .ne 7, 3) := by decide +kernel
theorem dX7_threadUnpacked_17 : decode cX7_threadUnpacked 17 = .ok (.iconst 1, 1) := by decide +kernel
theorem dX7_threadUnpacked_18 : decode cX7_threadUnpacked 18 = .ok (.goto 4, 3) := by decide +kernel
theorem dX7_threadUnpacked_21 : decode cX7_threadUnpacked 21 = .ok (.iconst 0, 1) := by decide +kernel
theorem dX7_threadUnpacked_22 : decode cX7_threadUnpacked 22 = .ok (.bastore, 1) := by decide +kernel
theorem dX7_threadUnpacked_23 : decode cX7_threadUnpacked 23 = .ok (.aload_n 0, 1) := by decide +kernel
theorem dX7_threadUnpacked_24 : decode cX7_threadUnpacked 24 = .ok (.getfield 39, 3) := by decide +kernel
theorem dX7_threadUnpacked_27 : decode cX7_threadUnpacked 27 = .ok (.iload_n 1, 1) := by decide +kernel
theorem dX7_threadUnpacked_28 : decode cX7_threadUnpacked 28 = .ok (.lload 4, 2) := by decide +kernel
theorem dX7_threadUnpacked_30 : decode cX7_threadUnpacked 30 = .ok (.ldc2_w 79, 3) := by decide +kernel
theorem dX7_threadUnpacked_33 : decode cX7_threadUnpacked 33 = .ok (.land, 1) := by decide +kernel
theorem dX7_threadUnpacked_34 : decode cX7_threadUnpacked 34 = .ok (.ldc2_w 79, 3) := by decide +kernel
theorem dX7_threadUnpacked_37 : decode cX7_threadUnpacked 37 = .ok (.lcmp, 1) := by decide +kernel
theorem dX7_threadUnpacked_38 : decode cX7_threadUnpacked 38 = .ok (.ifCond .ne 7, 3) := by decide +kernel
theorem dX7_threadUnpacked_41 : decode cX7_threadUnpacked 41 = .ok (.iconst 1, 1) := by decide +kernel
theorem dX7_threadUnpacked_42 : decode cX7_threadUnpacked 42 = .ok (.goto 4, 3) := by decide +kernel
theorem dX7_threadUnpacked_45 : decode cX7_threadUnpacked 45 = .ok (.iconst 0, 1) := by decide +kernel
theorem dX7_threadUnpacked_46 : decode cX7_threadUnpacked 46 = .ok (.bastore, 1) := by decide +kernel
theorem dX7_threadUnpacked_47 : decode cX7_threadUnpacked 47 = .ok (.aload_n 0, 1) := by decide +kernel
theorem dX7_threadUnpacked_48 : decode cX7_threadUnpacked 48 = .ok (.getfield 42, 3) := by decide +kernel
theorem dX7_threadUnpacked_51 : decode cX7_threadUnpacked 51 = .ok (.iload_n 1, 1) := by decide +kernel
theorem dX7_threadUnpacked_52 : decode cX7_threadUnpacked 52 = .ok (.lload 4, 2) := by decide +kernel
theorem dX7_threadUnpacked_54 : decode cX7_threadUnpacked 54 = .ok (.ldc2_w 81, 3) := by decide +kernel
theorem dX7_threadUnpacked_57 : decode cX7_threadUnpacked 57 = .ok (.land, 1) := by decide +kernel
theorem dX7_threadUnpacked_58 : decode cX7_threadUnpacked 58 = .ok (.ldc2_w 81, 3) := by decide +kernel
theorem dX7_threadUnpacked_61 : decode cX7_threadUnpacked 61 = .ok (.lcmp, 1) := by decide +kernel
theorem dX7_threadUnpacked_62 : decode cX7_threadUnpacked 62 = .ok (.ifCond .ne 7, 3) := by decide +kernel
theorem dX7_threadUnpacked_65 : decode cX7_threadUnpacked 65 = .ok (.iconst 1, 1) := by decide +kernel
theorem dX7_threadUnpacked_66 : decode cX7_threadUnpacked 66 = .ok (.goto 4, 3) := by decide +kernel
theorem dX7_threadUnpacked_69 : decode cX7_threadUnpacked 69 = .ok (.iconst 0, 1) := by decide +kernel
theorem dX7_threadUnpacked_70 : decode cX7_threadUnpacked 70 = .ok (.bastore, 1) := by decide +kernel
theorem dX7_threadUnpacked_71 : decode cX7_threadUnpacked 71 = .ok (.aload_n 0, 1) := by decide +kernel
theorem dX7_threadUnpacked_72 : decode cX7_threadUnpacked 72 = .ok (.getfield 25, 3) := by decide +kernel
theorem dX7_threadUnpacked_75 : decode cX7_threadUnpacked 75 = .ok (.iload_n 1, 1) := by decide +kernel
theorem dX7_threadUnpacked_76 : decode cX7_threadUnpacked 76 = .ok (.lload 4, 2) := by decide +kernel
theorem dX7_threadUnpacked_78 : decode cX7_threadUnpacked 78 = .ok (.iconst 3, 1) := by decide +kernel
theorem dX7_threadUnpacked_79 : decode cX7_threadUnpacked 79 = .ok (.lshr, 1) := by decide +kernel
theorem dX7_threadUnpacked_80 : decode cX7_threadUnpacked 80 = .ok (.l2i, 1) := by decide +kernel
theorem dX7_threadUnpacked_81 : decode cX7_threadUnpacked 81 = .ok (.bipush 7, 2) := by decide +kernel
theorem dX7_threadUnpacked_83 : decode cX7_threadUnpacked 83 = .ok (.iand, 1) := by decide +kernel
theorem dX7_threadUnpacked_84 : decode cX7_threadUnpacked 84 = .ok (.iastore, 1) := by decide +kernel
theorem dX7_threadUnpacked_85 : decode cX7_threadUnpacked 85 = .ok (.aload_n 0, 1) := by decide +kernel
theorem dX7_threadUnpacked_86 : decode cX7_threadUnpacked 86 = .ok (.getfield 22, 3) := by decide +kernel
theorem dX7_threadUnpacked_89 : decode cX7_threadUnpacked 89 = .ok (.iload_n 1, 1) := by decide +kernel
theorem dX7_threadUnpacked_90 : decode cX7_threadUnpacked 90 = .ok (.lload 4, 2) := by decide +kernel
theorem dX7_threadUnpacked_92 : decode cX7_threadUnpacked 92 = .ok (.bipush 6, 2) := by decide +kernel
theorem dX7_threadUnpacked_94 : decode cX7_threadUnpacked 94 = .ok (.lshr, 1) := by decide +kernel
theorem dX7_threadUnpacked_95 : decode cX7_threadUnpacked 95 = .ok (.l2i, 1) := by decide +kernel
theorem dX7_threadUnpacked_96 : decode cX7_threadUnpacked 96 = .ok (.bipush 7, 2) := by decide +kernel
theorem dX7_threadUnpacked_98 : decode cX7_threadUnpacked 98 = .ok (.iand, 1) := by decide +kernel
theorem dX7_threadUnpacked_99 : decode cX7_threadUnpacked 99 = .ok (.iastore, 1) := by decide +kernel
theorem dX7_threadUnpacked_100 : decode cX7_threadUnpacked 100 = .ok (.aload_n 0, 1) := by decide +kernel
theorem dX7_threadUnpacked_101 : decode cX7_threadUnpacked 101 = .ok (.getfield 19, 3) := by decide +kernel
theorem dX7_threadUnpacked_104 : decode cX7_threadUnpacked 104 = .ok (.iload_n 1, 1) := by decide +kernel
theorem dX7_threadUnpacked_105 : decode cX7_threadUnpacked 105 = .ok (.lload 4, 2) := by decide +kernel
theorem dX7_threadUnpacked_107 : decode cX7_threadUnpacked 107 = .ok (.bipush 9, 2) := by decide +kernel
theorem dX7_threadUnpacked_109 : decode cX7_threadUnpacked 109 = .ok (.lshr, 1) := by decide +kernel
theorem dX7_threadUnpacked_110 : decode cX7_threadUnpacked 110 = .ok (.l2i, 1) := by decide +kernel
theorem dX7_threadUnpacked_111 : decode cX7_threadUnpacked 111 = .ok (.bipush 7, 2) := by decide +kernel
theorem dX7_threadUnpacked_113 : decode cX7_threadUnpacked 113 = .ok (.iand, 1) := by decide +kernel
theorem dX7_threadUnpacked_114 : decode cX7_threadUnpacked 114 = .ok (.iastore, 1) := by decide +kernel
theorem dX7_threadUnpacked_115 : decode cX7_threadUnpacked 115 = .ok (.aload_n 0, 1) := by decide +kernel
theorem dX7_threadUnpacked_116 : decode cX7_threadUnpacked 116 = .ok (.getfield 28, 3) := by decide +kernel
theorem dX7_threadUnpacked_119 : decode cX7_threadUnpacked 119 = .ok (.iload_n 1, 1) := by decide +kernel
theorem dX7_threadUnpacked_120 : decode cX7_threadUnpacked 120 = .ok (.lload 4, 2) := by decide +kernel
theorem dX7_threadUnpacked_122 : decode cX7_threadUnpacked 122 = .ok (.bipush 12, 2) := by decide +kernel
theorem dX7_threadUnpacked_124 : decode cX7_threadUnpacked 124 = .ok (.lshr, 1) := by decide +kernel
theorem dX7_threadUnpacked_125 : decode cX7_threadUnpacked 125 = .ok (.l2i, 1) := by decide +kernel
theorem dX7_threadUnpacked_126 : decode cX7_threadUnpacked 126 = .ok (.bipush 7, 2) := by decide +kernel
theorem dX7_threadUnpacked_128 : decode cX7_threadUnpacked 128 = .ok (.iand, 1) := by decide +kernel
theorem dX7_threadUnpacked_129 : decode cX7_threadUnpacked 129 = .ok (.iastore, 1) := by decide +kernel
theorem dX7_threadUnpacked_130 : decode cX7_threadUnpacked 130 = .ok (.aload_n 0, 1) := by decide +kernel
theorem dX7_threadUnpacked_131 : decode cX7_threadUnpacked 131 = .ok (.getfield 31, 3) := by decide +kernel
theorem dX7_threadUnpacked_134 : decode cX7_threadUnpacked 134 = .ok (.iload_n 1, 1) := by decide +kernel
theorem dX7_threadUnpacked_135 : decode cX7_threadUnpacked 135 = .ok (.lload 4, 2) := by decide +kernel
theorem dX7_threadUnpacked_137 : decode cX7_threadUnpacked 137 = .ok (.bipush 15, 2) := by decide +kernel
theorem dX7_threadUnpacked_139 : decode cX7_threadUnpacked 139 = .ok (.lshr, 1) := by decide +kernel
theorem dX7_threadUnpacked_140 : decode cX7_threadUnpacked 140 = .ok (.lastore, 1) := by decide +kernel
theorem dX7_threadUnpacked_141 : decode cX7_threadUnpacked 141 = .ok (.return_, 1) := by decide +kernel
theorem dX7_pack_0 : decode cX7_pack 0 = .ok (.iconst 0, 1) := by decide +kernel
theorem dX7_pack_1 : decode cX7_pack 1 = .ok (.istore_n 3, 1) := by decide +kernel
theorem dX7_pack_2 : decode cX7_pack 2 = .ok (.iload_n 3, 1) := by decide +kernel
theorem dX7_pack_3 : decode cX7_pack 3 = .ok (.iconst 4, 1) := by decide +kernel
theorem dX7_pack_4 : decode cX7_pack 4 = .ok (.if_icmp .ge 19, 3) := by decide +kernel
theorem dX7_pack_7 : decode cX7_pack 7 = .ok (.aload_n 1, 1) := by decide +kernel
theorem dX7_pack_8 : decode cX7_pack 8 = .ok (.iload_n 2, 1) := by decide +kernel
theorem dX7_pack_9 : decode cX7_pack 9 = .ok (.iload_n 3, 1) := by decide +kernel
theorem dX7_pack_10 : decode cX7_pack 10 = .ok (.iadd, 1) := by decide +kernel
theorem dX7_pack_11 : decode cX7_pack 11 = .ok (.aload_n 0, 1) := by decide +kernel
theorem dX7_pack_12 : decode cX7_pack 12 = .ok (.iload_n 3, 1) := by decide +kernel
theorem dX7_pack_13 : decode cX7_pack 13 = .ok (.invokevirtual 83, 3) := by decide +kernel
theorem dX7_pack_16 : decode cX7_pack 16 = .ok (.lastore, 1) := by decide +kernel
theorem dX7_pack_17 : decode cX7_pack 17 = .ok (.iinc 3 1, 3) := by decide +kernel
theorem dX7_pack_20 : decode cX7_pack 20 = .ok (.goto (-18), 3) := by decide +kernel
theorem dX7_pack_23 : decode cX7_pack 23 = .ok (.lconst 0, 1) := by decide +kernel
theorem dX7_pack_24 : decode cX7_pack 24 = .ok (.lstore_n 3, 1) := by decide +kernel
theorem dX7_pack_25 : decode cX7_pack 25 = .ok (.iconst 0, 1) := by decide +kernel
theorem dX7_pack_26 : decode cX7_pack 26 = .ok (.istore 5, 2) := by decide +kernel
theorem dX7_pack_28 : decode cX7_pack 28 = .ok (.iload 5, 2) := by decide +kernel
theorem dX7_pack_30 : decode cX7_pack 30 = .ok (.iconst 2, 1) := by decide +kernel
theorem dX7_pack_31 : decode cX7_pack 31 = .ok (.if_icmp .ge 105, 3) := by decide +kernel
theorem dX7_pack_34 : decode cX7_pack 34 = .ok (.lload_n 3, 1) := by decide +kernel
theorem dX7_pack_35 : decode cX7_pack 35 = .ok (.ldc2_w 77, 3) := by decide +kernel
theorem dX7_pack_38 : decode cX7_pack 38 = .ok (.lmul, 1) := by decide +kernel
theorem dX7_pack_39 : decode cX7_pack 39 = .ok (.aload_n 0, 1) := by decide +kernel
theorem dX7_pack_40 : decode cX7_pack 40 = .ok (.getfield 45, 3) := by decide +kernel
theorem dX7_pack_43 : decode cX7_pack 43 = .ok (.iload 5, 2) := by decide +kernel
theorem dX7_pack_45 : decode cX7_pack 45 = .ok (.iaload, 1) := by decide +kernel
theorem dX7_pack_46 : decode cX7_pack 46 = .ok (.i2l, 1) := by decide +kernel
theorem dX7_pack_47 : decode cX7_pack 47 = .ok (.ladd, 1) := by decide +kernel
theorem dX7_pack_48 : decode cX7_pack 48 = .ok (.lconst 1, 1) := by decide +kernel
theorem dX7_pack_49 : decode cX7_pack 49 = .ok (.ladd, 1) := by decide +kernel
theorem dX7_pack_50 : decode cX7_pack 50 = .ok (.ldc2_w 77, 3) := by decide +kernel
theorem dX7_pack_53 : decode cX7_pack 53 = .ok (.lmul, 1) := by decide +kernel
theorem dX7_pack_54 : decode cX7_pack 54 = .ok (.aload_n 0, 1) := by decide +kernel
theorem dX7_pack_55 : decode cX7_pack 55 = .ok (.getfield 48, 3) := by decide +kernel
theorem dX7_pack_58 : decode cX7_pack 58 = .ok (.iload 5, 2) := by decide +kernel
theorem dX7_pack_60 : decode cX7_pack 60 = .ok (.iaload, 1) := by decide +kernel
theorem dX7_pack_61 : decode cX7_pack 61 = .ok (.i2l, 1) := by decide +kernel
theorem dX7_pack_62 : decode cX7_pack 62 = .ok (.ladd, 1) := by decide +kernel
theorem dX7_pack_63 : decode cX7_pack 63 = .ok (.lstore_n 3, 1) := by decide +kernel
theorem dX7_pack_64 : decode cX7_pack 64 = .ok (.lload_n 3, 1) := by decide +kernel
theorem dX7_pack_65 : decode cX7_pack 65 = .ok (.ldc2_w 77, 3) := by decide +kernel
theorem dX7_pack_68 : decode cX7_pack 68 = .ok (.lmul, 1) := by decide +kernel
theorem dX7_pack_69 : decode cX7_pack 69 = .ok (.aload_n 0, 1) := by decide +kernel
theorem dX7_pack_70 : decode cX7_pack 70 = .ok (.getfield 51, 3) := by decide +kernel
theorem dX7_pack_73 : decode cX7_pack 73 = .ok (.iload 5, 2) := by decide +kernel
theorem dX7_pack_75 : decode cX7_pack 75 = .ok (.iaload, 1) := by decide +kernel
theorem dX7_pack_76 : decode cX7_pack 76 = .ok (.i2l, 1) := by decide +kernel
theorem dX7_pack_77 : decode cX7_pack 77 = .ok (.ladd, 1) := by decide +kernel
theorem dX7_pack_78 : decode cX7_pack 78 = .ok (.lstore_n 3, 1) := by decide +kernel
theorem dX7_pack_79 : decode cX7_pack 79 = .ok (.iconst 0, 1) := by decide +kernel
theorem dX7_pack_80 : decode cX7_pack 80 = .ok (.istore 6, 2) := by decide +kernel
theorem dX7_pack_82 : decode cX7_pack 82 = .ok (.iload 6, 2) := by decide +kernel
theorem dX7_pack_84 : decode cX7_pack 84 = .ok (.iconst 4, 1) := by decide +kernel
theorem dX7_pack_85 : decode cX7_pack 85 = .ok (.if_icmp .ge 45, 3) := by decide +kernel
theorem dX7_pack_88 : decode cX7_pack 88 = .ok (.lload_n 3, 1) := by decide +kernel
theorem dX7_pack_89 : decode cX7_pack 89 = .ok (.ldc2_w 81, 3) := by decide +kernel
theorem dX7_pack_92 : decode cX7_pack 92 = .ok (.lmul, 1) := by decide +kernel
theorem dX7_pack_93 : decode cX7_pack 93 = .ok (.iload 6, 2) := by decide +kernel
theorem dX7_pack_95 : decode cX7_pack 95 = .ok (.aload_n 0, 1) := by decide +kernel
theorem dX7_pack_96 : decode cX7_pack 96 = .ok (.getfield 51, 3) := by decide +kernel
theorem dX7_pack_99 : decode cX7_pack 99 = .ok (.iload 5, 2) := by decide +kernel
theorem dX7_pack_101 : decode cX7_pack 101 = .ok (.iaload, 1) := by decide +kernel
theorem dX7_pack_102 : decode cX7_pack 102 = .ok (.if_icmp .ge 18, 3) := by decide +kernel
theorem dX7_pack_105 : decode cX7_pack 105 = .ok (.aload_n 0, 1) := by decide +kernel
theorem dX7_pack_106 : decode cX7_pack 106 = .ok (.getfield 54, 3) := by decide +kernel
theorem dX7_pack_109 : decode cX7_pack 109 = .ok (.iconst 4, 1) := by decide +kernel
theorem dX7_pack_110 : decode cX7_pack 110 = .ok (.iload 5, 2) := by decide +kernel
theorem dX7_pack_112 : decode cX7_pack 112 = .ok (.imul, 1) := by decide +kernel
theorem dX7_pack_113 : decode cX7_pack 113 = .ok (.iload 6, 2) := by decide +kernel
theorem dX7_pack_115 : decode cX7_pack 115 = .ok (.iadd, 1) := by decide +kernel
theorem dX7_pack_116 : decode cX7_pack 116 = .ok (.iaload, 1) := by decide +kernel
theorem dX7_pack_117 : decode cX7_pack 117 = .ok (.goto 4, 3) := by decide +kernel
theorem dX7_pack_120 : decode cX7_pack 120 = .ok (.iconst 0, 1) := by decide +kernel
theorem dX7_pack_121 : decode cX7_pack 121 = .ok (.i2l, 1) := by decide +kernel
theorem dX7_pack_122 : decode cX7_pack 122 = .ok (.ladd, 1) := by decide +kernel
theorem dX7_pack_123 : decode cX7_pack 123 = .ok (.lstore_n 3, 1) := by decide +kernel
theorem dX7_pack_124 : decode cX7_pack 124 = .ok (.iinc 6 1, 3) := by decide +kernel
theorem dX7_pack_127 : decode cX7_pack 127 = .ok (.goto (-45), 3) := by decide +kernel
theorem dX7_pack_130 : decode cX7_pack 130 = .ok (.iinc 5 1, 3) := by decide +kernel
theorem dX7_pack_133 : decode cX7_pack 133 = .ok (.goto (-105), 3) := by decide +kernel
theorem dX7_pack_136 : decode cX7_pack 136 = .ok (.aload_n 1, 1) := by decide +kernel
theorem dX7_pack_137 : decode cX7_pack 137 = .ok (.iload_n 2, 1) := by decide +kernel
theorem dX7_pack_138 : decode cX7_pack 138 = .ok (.iconst 4, 1) := by decide +kernel
theorem dX7_pack_139 : decode cX7_pack 139 = .ok (.iadd, 1) := by decide +kernel
theorem dX7_pack_140 : decode cX7_pack 140 = .ok (.lload_n 3, 1) := by decide +kernel
theorem dX7_pack_141 : decode cX7_pack 141 = .ok (.lastore, 1) := by decide +kernel
theorem dX7_pack_142 : decode cX7_pack 142 = .ok (.return_, 1) := by decide +kernel
theorem dX7_unpack_0 : decode cX7_unpack 0 = .ok (.iconst 0, 1) := by decide +kernel
theorem dX7_unpack_1 : decode cX7_unpack 1 = .ok (.istore_n 3, 1) := by decide +kernel
theorem dX7_unpack_2 : decode cX7_unpack 2 = .ok (.iload_n 3, 1) := by decide +kernel
theorem dX7_unpack_3 : decode cX7_unpack 3 = .ok (.iconst 4, 1) := by decide +kernel
theorem dX7_unpack_4 : decode cX7_unpack 4 = .ok (.if_icmp .ge 19, 3) := by decide +kernel
theorem dX7_unpack_7 : decode cX7_unpack 7 = .ok (.aload_n 0, 1) := by decide +kernel
theorem dX7_unpack_8 : decode cX7_unpack 8 = .ok (.iload_n 3, 1) := by decide +kernel
theorem dX7_unpack_9 : decode cX7_unpack 9 = .ok (.aload_n 1, 1) := by decide +kernel
theorem dX7_unpack_10 : decode cX7_unpack 10 = .ok (.iload_n 2, 1) := by decide +kernel
theorem dX7_unpack_11 : decode cX7_unpack 11 = .ok (.iload_n 3, 1) := by decide +kernel
theorem dX7_unpack_12 : decode cX7_unpack 12 = .ok (.iadd, 1) := by decide +kernel
theorem dX7_unpack_13 : decode cX7_unpack 13 = .ok (.laload, 1) := by decide +kernel
theorem dX7_unpack_14 : decode cX7_unpack 14 = .ok (.invokevirtual 87, 3) := by decide +kernel
theorem dX7_unpack_17 : decode cX7_unpack 17 = .ok (.iinc 3 1, 3) := by decide +kernel
theorem dX7_unpack_20 : decode cX7_unpack 20 = .ok (.goto (-18), 3) := by decide +kernel
theorem dX7_unpack_23 : decode cX7_unpack 23 = .ok (.aload_n 1, 1) := by decide +kernel
theorem dX7_unpack_24 : decode cX7_unpack 24 = .ok (.iload_n 2, 1) := by decide +kernel
theorem dX7_unpack_25 : decode cX7_unpack 25 = .ok (.iconst 4, 1) := by decide +kernel
theorem dX7_unpack_26 : decode cX7_unpack 26 = .ok (.iadd, 1) := by decide +kernel
theorem dX7_unpack_27 : decode cX7_unpack 27 = .ok (.laload, 1) := by decide +kernel
theorem dX7_unpack_28 : decode cX7_unpack 28 = .ok (.lstore_n 3, 1) := by decide +kernel
theorem dX7_unpack_29 : decode cX7_unpack 29 = .ok (.iconst 1, 1) := by decide +kernel
theorem dX7_unpack_30 : decode cX7_unpack 30 = .ok (.istore 5, 2) := by decide +kernel
theorem dX7_unpack_32 : decode cX7_unpack 32 = .ok (.iload 5, 2) := by decide +kernel
theorem dX7_unpack_34 : decode cX7_unpack 34 = .ok (.ifCond .lt 91, 3) := by decide +kernel
theorem dX7_unpack_37 : decode cX7_unpack 37 = .ok (.iconst 3, 1) := by decide +kernel
theorem dX7_unpack_38 : decode cX7_unpack 38 = .ok (.istore 6, 2) := by decide +kernel
theorem dX7_unpack_40 : decode cX7_unpack 40 = .ok (.iload 6, 2) := by decide +kernel
theorem dX7_unpack_42 : decode cX7_unpack 42 = .ok (.ifCond .lt 29, 3) := by decide +kernel
theorem dX7_unpack_45 : decode cX7_unpack 45 = .ok (.aload_n 0, 1) := by decide +kernel
theorem dX7_unpack_46 : decode cX7_unpack 46 = .ok (.getfield 54, 3) := by decide +kernel
theorem dX7_unpack_49 : decode cX7_unpack 49 = .ok (.iconst 4, 1) := by decide +kernel
theorem dX7_unpack_50 : decode cX7_unpack 50 = .ok (.iload 5, 2) := by decide +kernel
theorem dX7_unpack_52 : decode cX7_unpack 52 = .ok (.imul, 1) := by decide +kernel
theorem dX7_unpack_53 : decode cX7_unpack 53 = .ok (.iload 6, 2) := by decide +kernel
theorem dX7_unpack_55 : decode cX7_unpack 55 = .ok (.iadd, 1) := by decide +kernel
theorem dX7_unpack_56 : decode cX7_unpack 56 = .ok (.lload_n 3, 1) := by decide +kernel
theorem dX7_unpack_57 : decode cX7_unpack 57 = .ok (.l2i, 1) := by decide +kernel
theorem dX7_unpack_58 : decode cX7_unpack 58 = .ok (.iconst 3, 1) := by decide +kernel
theorem dX7_unpack_59 : decode cX7_unpack 59 = .ok (.iand, 1) := by decide +kernel
theorem dX7_unpack_60 : decode cX7_unpack 60 = .ok (.iastore, 1) := by decide +kernel
theorem dX7_unpack_61 : decode cX7_unpack 61 = .ok (.lload_n 3, 1) := by decide +kernel
theorem dX7_unpack_62 : decode cX7_unpack 62 = .ok (.iconst 2, 1) := by decide +kernel
theorem dX7_unpack_63 : decode cX7_unpack 63 = .ok (.lshr, 1) := by decide +kernel
theorem dX7_unpack_64 : decode cX7_unpack 64 = .ok (.lstore_n 3, 1) := by decide +kernel
theorem dX7_unpack_65 : decode cX7_unpack 65 = .ok (.iinc 6 (-1), 3) := by decide +kernel
theorem dX7_unpack_68 : decode cX7_unpack 68 = .ok (.goto (-28), 3) := by decide +kernel
theorem dX7_unpack_71 : decode cX7_unpack 71 = .ok (.aload_n 0, 1) := by decide +kernel
theorem dX7_unpack_72 : decode cX7_unpack 72 = .ok (.getfield 51, 3) := by decide +kernel
theorem dX7_unpack_75 : decode cX7_unpack 75 = .ok (.iload 5, 2) := by decide +kernel
theorem dX7_unpack_77 : decode cX7_unpack 77 = .ok (.lload_n 3, 1) := by decide +kernel
theorem dX7_unpack_78 : decode cX7_unpack 78 = .ok (.l2i, 1) := by decide +kernel
theorem dX7_unpack_79 : decode cX7_unpack 79 = .ok (.bipush 7, 2) := by decide +kernel
theorem dX7_unpack_81 : decode cX7_unpack 81 = .ok (.iand, 1) := by decide +kernel
theorem dX7_unpack_82 : decode cX7_unpack 82 = .ok (.iastore, 1) := by decide +kernel
theorem dX7_unpack_83 : decode cX7_unpack 83 = .ok (.aload_n 0, 1) := by decide +kernel
theorem dX7_unpack_84 : decode cX7_unpack 84 = .ok (.getfield 48, 3) := by decide +kernel
theorem dX7_unpack_87 : decode cX7_unpack 87 = .ok (.iload 5, 2) := by decide +kernel
theorem dX7_unpack_89 : decode cX7_unpack 89 = .ok (.lload_n 3, 1) := by decide +kernel
theorem dX7_unpack_90 : decode cX7_unpack 90 = .ok (.iconst 3, 1) := by decide +kernel
theorem dX7_unpack_91 : decode cX7_unpack 91 = .ok (.lshr, 1) := by decide +kernel
theorem dX7_unpack_92 : decode cX7_unpack 92 = .ok (.l2i, 1) := by decide +kernel
theorem dX7_unpack_93 : decode cX7_unpack 93 = .ok (.bipush 7, 2) := by decide +kernel
theorem dX7_unpack_95 : decode cX7_unpack 95 = .ok (.iand, 1) := by decide +kernel
theorem dX7_unpack_96 : decode cX7_unpack 96 = .ok (.iastore, 1) := by decide +kernel
theorem dX7_unpack_97 : decode cX7_unpack 97 = .ok (.aload_n 0, 1) := by decide +kernel
theorem dX7_unpack_98 : decode cX7_unpack 98 = .ok (.getfield 45, 3) := by decide +kernel
theorem dX7_unpack_101 : decode cX7_unpack 101 = .ok (.iload 5, 2) := by decide +kernel
theorem dX7_unpack_103 : decode cX7_unpack 103 = .ok (.lload_n 3, 1) := by decide +kernel
theorem dX7_unpack_104 : decode cX7_unpack 104 = .ok (.bipush 6, 2) := by decide +kernel
theorem dX7_unpack_106 : decode cX7_unpack 106 = .ok (.lshr, 1) := by decide +kernel
theorem dX7_unpack_107 : decode cX7_unpack 107 = .ok (.l2i, 1) := by decide +kernel
theorem dX7_unpack_108 : decode cX7_unpack 108 = .ok (.bipush 7, 2) := by decide +kernel
theorem dX7_unpack_110 : decode cX7_unpack 110 = .ok (.iand, 1) := by decide +kernel
theorem dX7_unpack_111 : decode cX7_unpack 111 = .ok (.iconst 1, 1) := by decide +kernel
theorem dX7_unpack_112 : decode cX7_unpack 112 = .ok (.isub, 1) := by decide +kernel
theorem dX7_unpack_113 : decode cX7_unpack 113 = .ok (.iastore, 1) := by decide +kernel
theorem dX7_unpack_114 : decode cX7_unpack 114 = .ok (.lload_n 3, 1) := by decide +kernel
theorem dX7_unpack_115 : decode cX7_unpack 115 = .ok (.bipush 9, 2) := by decide +kernel
theorem dX7_unpack_117 : decode cX7_unpack 117 = .ok (.lshr, 1) := by decide +kernel
theorem dX7_unpack_118 : decode cX7_unpack 118 = .ok (.lstore_n 3, 1) := by decide +kernel
theorem dX7_unpack_119 : decode cX7_unpack 119 = .ok (.iinc 5 (-1), 3) := by decide +kernel
theorem dX7_unpack_122 : decode cX7_unpack 122 = .ok (.goto (-90), 3) := by decide +kernel
theorem dX7_unpack_125 : decode cX7_unpack 125 = .ok (.return_, 1) := by decide +kernel
theorem dX7_action_0 : decode cX7_action 0 = .ok (.aload_n 0, 1) := by decide +kernel
theorem dX7_action_1 : decode cX7_action 1 = .ok (.getfield 7, 3) := by decide +kernel
theorem dX7_action_4 : decode cX7_action 4 = .ok (.bipush 6, 2) := by decide +kernel
theorem dX7_action_6 : decode cX7_action 6 = .ok (.iload_n 1, 1) := by decide +kernel
theorem dX7_action_7 : decode cX7_action 7 = .ok (.imul, 1) := by decide +kernel
theorem dX7_action_8 : decode cX7_action 8 = .ok (.aload_n 0, 1) := by decide +kernel
theorem dX7_action_9 : decode cX7_action 9 = .ok (.getfield 19, 3) := by decide +kernel
theorem dX7_action_12 : decode cX7_action 12 = .ok (.iload_n 1, 1) := by decide +kernel
theorem dX7_action_13 : decode cX7_action 13 = .ok (.iaload, 1) := by decide +kernel
theorem dX7_action_14 : decode cX7_action 14 = .ok (.iadd, 1) := by decide +kernel
theorem dX7_action_15 : decode cX7_action 15 = .ok (.iaload, 1) := by decide +kernel
theorem dX7_action_16 : decode cX7_action 16 = .ok (.ireturn, 1) := by decide +kernel
theorem dX7_operand_0 : decode cX7_operand 0 = .ok (.aload_n 0, 1) := by decide +kernel
theorem dX7_operand_1 : decode cX7_operand 1 = .ok (.getfield 13, 3) := by decide +kernel
theorem dX7_operand_4 : decode cX7_operand 4 = .ok (.bipush 6, 2) := by decide +kernel
theorem dX7_operand_6 : decode cX7_operand 6 = .ok (.iload_n 1, 1) := by decide +kernel
theorem dX7_operand_7 : decode cX7_operand 7 = .ok (.imul, 1) := by decide +kernel
theorem dX7_operand_8 : decode cX7_operand 8 = .ok (.aload_n 0, 1) := by decide +kernel
theorem dX7_operand_9 : decode cX7_operand 9 = .ok (.getfield 19, 3) := by decide +kernel
theorem dX7_operand_12 : decode cX7_operand 12 = .ok (.iload_n 1, 1) := by decide +kernel
theorem dX7_operand_13 : decode cX7_operand 13 = .ok (.iaload, 1) := by decide +kernel
theorem dX7_operand_14 : decode cX7_operand 14 = .ok (.iadd, 1) := by decide +kernel
theorem dX7_operand_15 : decode cX7_operand 15 = .ok (.iaload, 1) := by decide +kernel
theorem dX7_operand_16 : decode cX7_operand 16 = .ok (.ireturn, 1) := by decide +kernel
theorem dX7_waitedOn_0 : decode cX7_waitedOn 0 = .ok (.aload_n 0, 1) := by decide +kernel
theorem dX7_waitedOn_1 : decode cX7_waitedOn 1 = .ok (.getfield 13, 3) := by decide +kernel
theorem dX7_waitedOn_4 : decode cX7_waitedOn 4 = .ok (.bipush 6, 2) := by decide +kernel
theorem dX7_waitedOn_6 : decode cX7_waitedOn 6 = .ok (.iload_n 1, 1) := by decide +kernel
theorem dX7_waitedOn_7 : decode cX7_waitedOn 7 = .ok (.imul, 1) := by decide +kernel
theorem dX7_waitedOn_8 : decode cX7_waitedOn 8 = .ok (.aload_n 0, 1) := by decide +kernel
theorem dX7_waitedOn_9 : decode cX7_waitedOn 9 = .ok (.getfield 19, 3) := by decide +kernel
theorem dX7_waitedOn_12 : decode cX7_waitedOn 12 = .ok (.iload_n 1, 1) := by decide +kernel
theorem dX7_waitedOn_13 : decode cX7_waitedOn 13 = .ok (.iaload, 1) := by decide +kernel
theorem dX7_waitedOn_14 : decode cX7_waitedOn 14 = .ok (.iadd, 1) := by decide +kernel
theorem dX7_waitedOn_15 : decode cX7_waitedOn 15 = .ok (.iconst 1, 1) := by decide +kernel
theorem dX7_waitedOn_16 : decode cX7_waitedOn 16 = .ok (.isub, 1) := by decide +kernel
theorem dX7_waitedOn_17 : decode cX7_waitedOn 17 = .ok (.iaload, 1) := by decide +kernel
theorem dX7_waitedOn_18 : decode cX7_waitedOn 18 = .ok (.ireturn, 1) := by decide +kernel
theorem dX7_timed_0 : decode cX7_timed 0 = .ok (.aload_n 0, 1) := by decide +kernel
theorem dX7_timed_1 : decode cX7_timed 1 = .ok (.getfield 7, 3) := by decide +kernel
theorem dX7_timed_4 : decode cX7_timed 4 = .ok (.bipush 6, 2) := by decide +kernel
theorem dX7_timed_6 : decode cX7_timed 6 = .ok (.iload_n 1, 1) := by decide +kernel
theorem dX7_timed_7 : decode cX7_timed 7 = .ok (.imul, 1) := by decide +kernel
theorem dX7_timed_8 : decode cX7_timed 8 = .ok (.aload_n 0, 1) := by decide +kernel
theorem dX7_timed_9 : decode cX7_timed 9 = .ok (.getfield 19, 3) := by decide +kernel
theorem dX7_timed_12 : decode cX7_timed 12 = .ok (.iload_n 1, 1) := by decide +kernel
theorem dX7_timed_13 : decode cX7_timed 13 = .ok (.iaload, 1) := by decide +kernel
theorem dX7_timed_14 : decode cX7_timed 14 = .ok (.iadd, 1) := by decide +kernel
theorem dX7_timed_15 : decode cX7_timed 15 = .ok (.iconst 1, 1) := by decide +kernel
theorem dX7_timed_16 : decode cX7_timed 16 = .ok (.isub, 1) := by decide +kernel
theorem dX7_timed_17 : decode cX7_timed 17 = .ok (.iaload, 1) := by decide +kernel
theorem dX7_timed_18 : decode cX7_timed 18 = .ok (.iconst 3, 1) := by decide +kernel
theorem dX7_timed_19 : decode cX7_timed 19 = .ok (.if_icmp .ne 7, 3) := by decide +kernel
theorem dX7_timed_22 : decode cX7_timed 22 = .ok (.iconst 1, 1) := by decide +kernel
theorem dX7_timed_23 : decode cX7_timed 23 = .ok (.goto 4, 3) := by decide +kernel
theorem dX7_timed_26 : decode cX7_timed 26 = .ok (.iconst 0, 1) := by decide +kernel
theorem dX7_timed_27 : decode cX7_timed 27 = .ok (.ireturn, 1) := by decide +kernel
theorem dX7_runningMay_0 : decode cX7_runningMay 0 = .ok (.aload_n 0, 1) := by decide +kernel
theorem dX7_runningMay_1 : decode cX7_runningMay 1 = .ok (.iload_n 1, 1) := by decide +kernel
theorem dX7_runningMay_2 : decode cX7_runningMay 2 = .ok (.invokevirtual 91, 3) := by decide +kernel
theorem dX7_runningMay_5 : decode cX7_runningMay 5 = .ok (.istore_n 3, 1) := by decide +kernel
theorem dX7_runningMay_6 : decode cX7_runningMay 6 = .ok (.aload_n 0, 1) := by decide +kernel
theorem dX7_runningMay_7 : decode cX7_runningMay 7 = .ok (.iload_n 1, 1) := by decide +kernel
theorem dX7_runningMay_8 : decode cX7_runningMay 8 = .ok (.invokevirtual 95, 3) := by decide +kernel
theorem dX7_runningMay_11 : decode cX7_runningMay 11 = .ok (.istore 4, 2) := by decide +kernel
theorem dX7_runningMay_13 : decode cX7_runningMay 13 = .ok (.iload_n 3, 1) := by decide +kernel
theorem dX7_runningMay_14 : decode cX7_runningMay 14 = .ok (.iconst 4, 1) := by decide +kernel
theorem dX7_runningMay_15 : decode cX7_runningMay 15 = .ok (.if_icmp .ne 64, 3) := by decide +kernel
theorem dX7_runningMay_18 : decode cX7_runningMay 18 = .ok (.aload_n 0, 1) := by decide +kernel
theorem dX7_runningMay_19 : decode cX7_runningMay 19 = .ok (.getfield 45, 3) := by decide +kernel
theorem dX7_runningMay_22 : decode cX7_runningMay 22 = .ok (.iload 4, 2) := by decide +kernel
theorem dX7_runningMay_24 : decode cX7_runningMay 24 = .ok (.iaload, 1) := by decide +kernel
theorem dX7_runningMay_25 : decode cX7_runningMay 25 = .ok (.iload_n 1, 1) := by decide +kernel
theorem dX7_runningMay_26 : decode cX7_runningMay 26 = .ok (.if_icmp .ne 17, 3) := by decide +kernel
theorem dX7_runningMay_29 : decode cX7_runningMay 29 = .ok (.aload_n 0, 1) := by decide +kernel
theorem dX7_runningMay_30 : decode cX7_runningMay 30 = .ok (.getfield 51, 3) := by decide +kernel
theorem dX7_runningMay_33 : decode cX7_runningMay 33 = .ok (.iload 4, 2) := by decide +kernel
theorem dX7_runningMay_35 : decode cX7_runningMay 35 = .ok (.iaload, 1) := by decide +kernel
theorem dX7_runningMay_36 : decode cX7_runningMay 36 = .ok (.ifCond .le 7, 3) := by decide +kernel
theorem dX7_runningMay_39 : decode cX7_runningMay 39 = .ok (.iconst 1, 1) := by decide +kernel
theorem dX7_runningMay_40 : decode cX7_runningMay 40 = .ok (.goto 4, 3) := by decide +kernel
theorem dX7_runningMay_43 : decode cX7_runningMay 43 = .ok (.iconst 0, 1) := by decide +kernel
theorem dX7_runningMay_44 : decode cX7_runningMay 44 = .ok (.istore 5, 2) := by decide +kernel
theorem dX7_runningMay_46 : decode cX7_runningMay 46 = .ok (.iload 5, 2) := by decide +kernel
theorem dX7_runningMay_48 : decode cX7_runningMay 48 = .ok (.ifCond .eq 21, 3) := by decide +kernel
theorem dX7_runningMay_51 : decode cX7_runningMay 51 = .ok (.iload_n 2, 1) := by decide +kernel
theorem dX7_runningMay_52 : decode cX7_runningMay 52 = .ok (.iconst 1, 1) := by decide +kernel
theorem dX7_runningMay_53 : decode cX7_runningMay 53 = .ok (.if_icmp .eq 8, 3) := by decide +kernel
theorem dX7_runningMay_56 : decode cX7_runningMay 56 = .ok (.iload_n 2, 1) := by decide +kernel
theorem dX7_runningMay_57 : decode cX7_runningMay 57 = .ok (.iconst 2, 1) := by decide +kernel
theorem dX7_runningMay_58 : decode cX7_runningMay 58 = .ok (.if_icmp .ne 7, 3) := by decide +kernel
theorem dX7_runningMay_61 : decode cX7_runningMay 61 = .ok (.iconst 1, 1) := by decide +kernel
theorem dX7_runningMay_62 : decode cX7_runningMay 62 = .ok (.goto 16, 3) := by decide +kernel
theorem dX7_runningMay_65 : decode cX7_runningMay 65 = .ok (.iconst 0, 1) := by decide +kernel
theorem dX7_runningMay_66 : decode cX7_runningMay 66 = .ok (.goto 12, 3) := by decide +kernel
theorem dX7_runningMay_69 : decode cX7_runningMay 69 = .ok (.iload_n 2, 1) := by decide +kernel
theorem dX7_runningMay_70 : decode cX7_runningMay 70 = .ok (.ifCond .ne 7, 3) := by decide +kernel
theorem dX7_runningMay_73 : decode cX7_runningMay 73 = .ok (.iconst 1, 1) := by decide +kernel
theorem dX7_runningMay_74 : decode cX7_runningMay 74 = .ok (.goto 4, 3) := by decide +kernel
theorem dX7_runningMay_77 : decode cX7_runningMay 77 = .ok (.iconst 0, 1) := by decide +kernel
theorem dX7_runningMay_78 : decode cX7_runningMay 78 = .ok (.ireturn, 1) := by decide +kernel
theorem dX7_runningMay_79 : decode cX7_runningMay 79 = .ok (.iload_n 2, 1) := by decide +kernel
theorem dX7_runningMay_80 : decode cX7_runningMay 80 = .ok (.ifCond .eq 5, 3) := by decide +kernel
theorem dX7_runningMay_83 : decode cX7_runningMay 83 = .ok (.iconst 0, 1) := by decide +kernel
theorem dX7_runningMay_84 : decode cX7_runningMay 84 = .ok (.ireturn, 1) := by decide +kernel
theorem dX7_runningMay_85 : decode cX7_runningMay 85 = .ok (.iload_n 3, 1) := by decide +kernel
theorem dX7_runningMay_86 : decode cX7_runningMay 86 = .ok (.ifCond .ne 30, 3) := by decide +kernel
theorem dX7_runningMay_89 : decode cX7_runningMay 89 = .ok (.aload_n 0, 1) := by decide +kernel
theorem dX7_runningMay_90 : decode cX7_runningMay 90 = .ok (.getfield 45, 3) := by decide +kernel
theorem dX7_runningMay_93 : decode cX7_runningMay 93 = .ok (.iload 4, 2) := by decide +kernel
theorem dX7_runningMay_95 : decode cX7_runningMay 95 = .ok (.iaload, 1) := by decide +kernel
theorem dX7_runningMay_96 : decode cX7_runningMay 96 = .ok (.ifCond .lt 14, 3) := by decide +kernel
theorem dX7_runningMay_99 : decode cX7_runningMay 99 = .ok (.aload_n 0, 1) := by decide +kernel
theorem dX7_runningMay_100 : decode cX7_runningMay 100 = .ok (.getfield 45, 3) := by decide +kernel
theorem dX7_runningMay_103 : decode cX7_runningMay 103 = .ok (.iload 4, 2) := by decide +kernel
theorem dX7_runningMay_105 : decode cX7_runningMay 105 = .ok (.iaload, 1) := by decide +kernel
theorem dX7_runningMay_106 : decode cX7_runningMay 106 = .ok (.iload_n 1, 1) := by decide +kernel
theorem dX7_runningMay_107 : decode cX7_runningMay 107 = .ok (.if_icmp .ne 7, 3) := by decide +kernel
theorem dX7_runningMay_110 : decode cX7_runningMay 110 = .ok (.iconst 1, 1) := by decide +kernel
theorem dX7_runningMay_111 : decode cX7_runningMay 111 = .ok (.goto 4, 3) := by decide +kernel
theorem dX7_runningMay_114 : decode cX7_runningMay 114 = .ok (.iconst 0, 1) := by decide +kernel
theorem dX7_runningMay_115 : decode cX7_runningMay 115 = .ok (.ireturn, 1) := by decide +kernel
theorem dX7_runningMay_116 : decode cX7_runningMay 116 = .ok (.iload_n 3, 1) := by decide +kernel
theorem dX7_runningMay_117 : decode cX7_runningMay 117 = .ok (.bipush 9, 2) := by decide +kernel
theorem dX7_runningMay_119 : decode cX7_runningMay 119 = .ok (.if_icmp .ne 23, 3) := by decide +kernel
theorem dX7_runningMay_122 : decode cX7_runningMay 122 = .ok (.aload_n 0, 1) := by decide +kernel
theorem dX7_runningMay_123 : decode cX7_runningMay 123 = .ok (.getfield 35, 3) := by decide +kernel
theorem dX7_runningMay_126 : decode cX7_runningMay 126 = .ok (.iload_n 1, 1) := by decide +kernel
theorem dX7_runningMay_127 : decode cX7_runningMay 127 = .ok (.baload, 1) := by decide +kernel
theorem dX7_runningMay_128 : decode cX7_runningMay 128 = .ok (.ifCond .ne 14, 3) := by decide +kernel
theorem dX7_runningMay_131 : decode cX7_runningMay 131 = .ok (.aload_n 0, 1) := by decide +kernel
theorem dX7_runningMay_132 : decode cX7_runningMay 132 = .ok (.getfield 22, 3) := by decide +kernel
theorem dX7_runningMay_135 : decode cX7_runningMay 135 = .ok (.iload 4, 2) := by decide +kernel
theorem dX7_runningMay_137 : decode cX7_runningMay 137 = .ok (.iaload, 1) := by decide +kernel
theorem dX7_runningMay_138 : decode cX7_runningMay 138 = .ok (.iconst 4, 1) := by decide +kernel
theorem dX7_runningMay_139 : decode cX7_runningMay 139 = .ok (.if_icmp .ne 7, 3) := by decide +kernel
theorem dX7_runningMay_142 : decode cX7_runningMay 142 = .ok (.iconst 1, 1) := by decide +kernel
theorem dX7_runningMay_143 : decode cX7_runningMay 143 = .ok (.goto 4, 3) := by decide +kernel
theorem dX7_runningMay_146 : decode cX7_runningMay 146 = .ok (.iconst 0, 1) := by decide +kernel
theorem dX7_runningMay_147 : decode cX7_runningMay 147 = .ok (.ireturn, 1) := by decide +kernel
theorem dX7_may_0 : decode cX7_may 0 = .ok (.aload_n 0, 1) := by decide +kernel
theorem dX7_may_1 : decode cX7_may 1 = .ok (.getfield 22, 3) := by decide +kernel
theorem dX7_may_4 : decode cX7_may 4 = .ok (.iload_n 1, 1) := by decide +kernel
theorem dX7_may_5 : decode cX7_may 5 = .ok (.iaload, 1) := by decide +kernel
theorem dX7_may_6 : decode cX7_may 6 = .ok (.tableswitch 163 0 3 #[30, 37, 99, 122], 30) := by decide +kernel
theorem dX7_may_36 : decode cX7_may 36 = .ok (.aload_n 0, 1) := by decide +kernel
theorem dX7_may_37 : decode cX7_may 37 = .ok (.iload_n 1, 1) := by decide +kernel
theorem dX7_may_38 : decode cX7_may 38 = .ok (.iload_n 2, 1) := by decide +kernel
theorem dX7_may_39 : decode cX7_may 39 = .ok (.invokevirtual 98, 3) := by decide +kernel
theorem dX7_may_42 : decode cX7_may 42 = .ok (.ireturn, 1) := by decide +kernel
theorem dX7_may_43 : decode cX7_may 43 = .ok (.iload_n 2, 1) := by decide +kernel
theorem dX7_may_44 : decode cX7_may 44 = .ok (.iconst 1, 1) := by decide +kernel
theorem dX7_may_45 : decode cX7_may 45 = .ok (.if_icmp .ne 12, 3) := by decide +kernel
theorem dX7_may_48 : decode cX7_may 48 = .ok (.aload_n 0, 1) := by decide +kernel
theorem dX7_may_49 : decode cX7_may 49 = .ok (.getfield 35, 3) := by decide +kernel
theorem dX7_may_52 : decode cX7_may 52 = .ok (.iload_n 1, 1) := by decide +kernel
theorem dX7_may_53 : decode cX7_may 53 = .ok (.baload, 1) := by decide +kernel
theorem dX7_may_54 : decode cX7_may 54 = .ok (.goto 50, 3) := by decide +kernel
theorem dX7_may_57 : decode cX7_may 57 = .ok (.iload_n 2, 1) := by decide +kernel
theorem dX7_may_58 : decode cX7_may 58 = .ok (.iconst 2, 1) := by decide +kernel
theorem dX7_may_59 : decode cX7_may 59 = .ok (.if_icmp .ne 27, 3) := by decide +kernel
theorem dX7_may_62 : decode cX7_may 62 = .ok (.aload_n 0, 1) := by decide +kernel
theorem dX7_may_63 : decode cX7_may 63 = .ok (.getfield 69, 3) := by decide +kernel
theorem dX7_may_66 : decode cX7_may 66 = .ok (.ifCond .eq 16, 3) := by decide +kernel
theorem dX7_may_69 : decode cX7_may 69 = .ok (.aload_n 0, 1) := by decide +kernel
theorem dX7_may_70 : decode cX7_may 70 = .ok (.getfield 42, 3) := by decide +kernel
theorem dX7_may_73 : decode cX7_may 73 = .ok (.iload_n 1, 1) := by decide +kernel
theorem dX7_may_74 : decode cX7_may 74 = .ok (.baload, 1) := by decide +kernel
theorem dX7_may_75 : decode cX7_may 75 = .ok (.ifCond .ne 7, 3) := by decide +kernel
theorem dX7_may_78 : decode cX7_may 78 = .ok (.iconst 1, 1) := by decide +kernel
theorem dX7_may_79 : decode cX7_may 79 = .ok (.goto 25, 3) := by decide +kernel
theorem dX7_may_82 : decode cX7_may 82 = .ok (.iconst 0, 1) := by decide +kernel
theorem dX7_may_83 : decode cX7_may 83 = .ok (.goto 21, 3) := by decide +kernel
theorem dX7_may_86 : decode cX7_may 86 = .ok (.iload_n 2, 1) := by decide +kernel
theorem dX7_may_87 : decode cX7_may 87 = .ok (.iconst 3, 1) := by decide +kernel
theorem dX7_may_88 : decode cX7_may 88 = .ok (.if_icmp .ne 15, 3) := by decide +kernel
theorem dX7_may_91 : decode cX7_may 91 = .ok (.aload_n 0, 1) := by decide +kernel
theorem dX7_may_92 : decode cX7_may 92 = .ok (.iload_n 1, 1) := by decide +kernel
theorem dX7_may_93 : decode cX7_may 93 = .ok (.invokevirtual 102, 3) := by decide +kernel
theorem dX7_may_96 : decode cX7_may 96 = .ok (.ifCond .eq 7, 3) := by decide +kernel
theorem dX7_may_99 : decode cX7_may 99 = .ok (.iconst 1, 1) := by decide +kernel
theorem dX7_may_100 : decode cX7_may 100 = .ok (.goto 4, 3) := by decide +kernel
theorem dX7_may_103 : decode cX7_may 103 = .ok (.iconst 0, 1) := by decide +kernel
theorem dX7_may_104 : decode cX7_may 104 = .ok (.ireturn, 1) := by decide +kernel
theorem dX7_may_105 : decode cX7_may 105 = .ok (.iload_n 2, 1) := by decide +kernel
theorem dX7_may_106 : decode cX7_may 106 = .ok (.ifCond .ne 20, 3) := by decide +kernel
theorem dX7_may_109 : decode cX7_may 109 = .ok (.aload_n 0, 1) := by decide +kernel
theorem dX7_may_110 : decode cX7_may 110 = .ok (.getfield 45, 3) := by decide +kernel
theorem dX7_may_113 : decode cX7_may 113 = .ok (.aload_n 0, 1) := by decide +kernel
theorem dX7_may_114 : decode cX7_may 114 = .ok (.iload_n 1, 1) := by decide +kernel
theorem dX7_may_115 : decode cX7_may 115 = .ok (.invokevirtual 106, 3) := by decide +kernel
theorem dX7_may_118 : decode cX7_may 118 = .ok (.iaload, 1) := by decide +kernel
theorem dX7_may_119 : decode cX7_may 119 = .ok (.ifCond .ge 7, 3) := by decide +kernel
theorem dX7_may_122 : decode cX7_may 122 = .ok (.iconst 1, 1) := by decide +kernel
theorem dX7_may_123 : decode cX7_may 123 = .ok (.goto 4, 3) := by decide +kernel
theorem dX7_may_126 : decode cX7_may 126 = .ok (.iconst 0, 1) := by decide +kernel
theorem dX7_may_127 : decode cX7_may 127 = .ok (.ireturn, 1) := by decide +kernel
theorem dX7_may_128 : decode cX7_may 128 = .ok (.iload_n 2, 1) := by decide +kernel
theorem dX7_may_129 : decode cX7_may 129 = .ok (.iconst 1, 1) := by decide +kernel
theorem dX7_may_130 : decode cX7_may 130 = .ok (.if_icmp .ne 12, 3) := by decide +kernel
theorem dX7_may_133 : decode cX7_may 133 = .ok (.aload_n 0, 1) := by decide +kernel
theorem dX7_may_134 : decode cX7_may 134 = .ok (.getfield 35, 3) := by decide +kernel
theorem dX7_may_137 : decode cX7_may 137 = .ok (.iload_n 1, 1) := by decide +kernel
theorem dX7_may_138 : decode cX7_may 138 = .ok (.baload, 1) := by decide +kernel
theorem dX7_may_139 : decode cX7_may 139 = .ok (.goto 29, 3) := by decide +kernel
theorem dX7_may_142 : decode cX7_may 142 = .ok (.iload_n 2, 1) := by decide +kernel
theorem dX7_may_143 : decode cX7_may 143 = .ok (.iconst 3, 1) := by decide +kernel
theorem dX7_may_144 : decode cX7_may 144 = .ok (.if_icmp .ne 23, 3) := by decide +kernel
theorem dX7_may_147 : decode cX7_may 147 = .ok (.aload_n 0, 1) := by decide +kernel
theorem dX7_may_148 : decode cX7_may 148 = .ok (.getfield 69, 3) := by decide +kernel
theorem dX7_may_151 : decode cX7_may 151 = .ok (.ifCond .eq 16, 3) := by decide +kernel
theorem dX7_may_154 : decode cX7_may 154 = .ok (.aload_n 0, 1) := by decide +kernel
theorem dX7_may_155 : decode cX7_may 155 = .ok (.getfield 42, 3) := by decide +kernel
theorem dX7_may_158 : decode cX7_may 158 = .ok (.iload_n 1, 1) := by decide +kernel
theorem dX7_may_159 : decode cX7_may 159 = .ok (.baload, 1) := by decide +kernel
theorem dX7_may_160 : decode cX7_may 160 = .ok (.ifCond .ne 7, 3) := by decide +kernel
theorem dX7_may_163 : decode cX7_may 163 = .ok (.iconst 1, 1) := by decide +kernel
theorem dX7_may_164 : decode cX7_may 164 = .ok (.goto 4, 3) := by decide +kernel
theorem dX7_may_167 : decode cX7_may 167 = .ok (.iconst 0, 1) := by decide +kernel
theorem dX7_may_168 : decode cX7_may 168 = .ok (.ireturn, 1) := by decide +kernel
theorem dX7_may_169 : decode cX7_may 169 = .ok (.iconst 0, 1) := by decide +kernel
theorem dX7_may_170 : decode cX7_may 170 = .ok (.ireturn, 1) := by decide +kernel
theorem dX7_put_0 : decode cX7_put 0 = .ok (.aload_n 0, 1) := by decide +kernel
theorem dX7_put_1 : decode cX7_put 1 = .ok (.getfield 31, 3) := by decide +kernel
theorem dX7_put_4 : decode cX7_put 4 = .ok (.iload_n 1, 1) := by decide +kernel
theorem dX7_put_5 : decode cX7_put 5 = .ok (.ldc2_w 109, 3) := by decide +kernel
theorem dX7_put_8 : decode cX7_put 8 = .ok (.aload_n 0, 1) := by decide +kernel
theorem dX7_put_9 : decode cX7_put 9 = .ok (.getfield 31, 3) := by decide +kernel
theorem dX7_put_12 : decode cX7_put 12 = .ok (.iload_n 1, 1) := by decide +kernel
theorem dX7_put_13 : decode cX7_put 13 = .ok (.laload, 1) := by decide +kernel
theorem dX7_put_14 : decode cX7_put 14 = .ok (.lmul, 1) := by decide +kernel
theorem dX7_put_15 : decode cX7_put 15 = .ok (.iload_n 2, 1) := by decide +kernel
theorem dX7_put_16 : decode cX7_put 16 = .ok (.i2l, 1) := by decide +kernel
theorem dX7_put_17 : decode cX7_put 17 = .ok (.ladd, 1) := by decide +kernel
theorem dX7_put_18 : decode cX7_put 18 = .ok (.lastore, 1) := by decide +kernel
theorem dX7_put_19 : decode cX7_put 19 = .ok (.aload_n 0, 1) := by decide +kernel
theorem dX7_put_20 : decode cX7_put 20 = .ok (.getfield 28, 3) := by decide +kernel
theorem dX7_put_23 : decode cX7_put 23 = .ok (.iload_n 1, 1) := by decide +kernel
theorem dX7_put_24 : decode cX7_put 24 = .ok (.dup2, 1) := by decide +kernel
theorem dX7_put_25 : decode cX7_put 25 = .ok (.iaload, 1) := by decide +kernel
theorem dX7_put_26 : decode cX7_put 26 = .ok (.iconst 1, 1) := by decide +kernel
theorem dX7_put_27 : decode cX7_put 27 = .ok (.iadd, 1) := by decide +kernel
theorem dX7_put_28 : decode cX7_put 28 = .ok (.iastore, 1) := by decide +kernel
theorem dX7_put_29 : decode cX7_put 29 = .ok (.return_, 1) := by decide +kernel
theorem dX7_run_0 : decode cX7_run 0 = .ok (.aload_n 0, 1) := by decide +kernel
theorem dX7_run_1 : decode cX7_run 1 = .ok (.getfield 22, 3) := by decide +kernel
theorem dX7_run_4 : decode cX7_run 4 = .ok (.iload_n 1, 1) := by decide +kernel
theorem dX7_run_5 : decode cX7_run 5 = .ok (.aload_n 0, 1) := by decide +kernel
theorem dX7_run_6 : decode cX7_run 6 = .ok (.getfield 19, 3) := by decide +kernel
theorem dX7_run_9 : decode cX7_run 9 = .ok (.iload_n 1, 1) := by decide +kernel
theorem dX7_run_10 : decode cX7_run 10 = .ok (.iaload, 1) := by decide +kernel
theorem dX7_run_11 : decode cX7_run 11 = .ok (.aload_n 0, 1) := by decide +kernel
theorem dX7_run_12 : decode cX7_run 12 = .ok (.getfield 16, 3) := by decide +kernel
theorem dX7_run_15 : decode cX7_run 15 = .ok (.iload_n 1, 1) := by decide +kernel
theorem dX7_run_16 : decode cX7_run 16 = .ok (.iaload, 1) := by decide +kernel
theorem dX7_run_17 : decode cX7_run 17 = .ok (.if_icmp .ne 7, 3) := by decide +kernel
theorem dX7_run_20 : decode cX7_run 20 = .ok (.iconst 4, 1) := by decide +kernel
theorem dX7_run_21 : decode cX7_run 21 = .ok (.goto 4, 3) := by decide +kernel
theorem dX7_run_24 : decode cX7_run 24 = .ok (.iconst 0, 1) := by decide +kernel
theorem dX7_run_25 : decode cX7_run 25 = .ok (.iastore, 1) := by decide +kernel
theorem dX7_run_26 : decode cX7_run 26 = .ok (.return_, 1) := by decide +kernel
theorem dX7_leaveSet_0 : decode cX7_leaveSet 0 = .ok (.aload_n 0, 1) := by decide +kernel
theorem dX7_leaveSet_1 : decode cX7_leaveSet 1 = .ok (.iload_n 1, 1) := by decide +kernel
theorem dX7_leaveSet_2 : decode cX7_leaveSet 2 = .ok (.invokevirtual 106, 3) := by decide +kernel
theorem dX7_leaveSet_5 : decode cX7_leaveSet 5 = .ok (.istore_n 2, 1) := by decide +kernel
theorem dX7_leaveSet_6 : decode cX7_leaveSet 6 = .ok (.iconst 0, 1) := by decide +kernel
theorem dX7_leaveSet_7 : decode cX7_leaveSet 7 = .ok (.istore_n 3, 1) := by decide +kernel
theorem dX7_leaveSet_8 : decode cX7_leaveSet 8 = .ok (.aload_n 0, 1) := by decide +kernel
theorem dX7_leaveSet_9 : decode cX7_leaveSet 9 = .ok (.getfield 54, 3) := by decide +kernel
theorem dX7_leaveSet_12 : decode cX7_leaveSet 12 = .ok (.iconst 4, 1) := by decide +kernel
theorem dX7_leaveSet_13 : decode cX7_leaveSet 13 = .ok (.iload_n 2, 1) := by decide +kernel
theorem dX7_leaveSet_14 : decode cX7_leaveSet 14 = .ok (.imul, 1) := by decide +kernel
theorem dX7_leaveSet_15 : decode cX7_leaveSet 15 = .ok (.iload_n 3, 1) := by decide +kernel
theorem dX7_leaveSet_16 : decode cX7_leaveSet 16 = .ok (.iadd, 1) := by decide +kernel
theorem dX7_leaveSet_17 : decode cX7_leaveSet 17 = .ok (.iaload, 1) := by decide +kernel
theorem dX7_leaveSet_18 : decode cX7_leaveSet 18 = .ok (.iload_n 1, 1) := by decide +kernel
theorem dX7_leaveSet_19 : decode cX7_leaveSet 19 = .ok (.if_icmp .eq 9, 3) := by decide +kernel
theorem dX7_leaveSet_22 : decode cX7_leaveSet 22 = .ok (.iinc 3 1, 3) := by decide +kernel
theorem dX7_leaveSet_25 : decode cX7_leaveSet 25 = .ok (.goto (-17), 3) := by decide +kernel
theorem dX7_leaveSet_28 : decode cX7_leaveSet 28 = .ok (.aload_n 0, 1) := by decide +kernel
theorem dX7_leaveSet_29 : decode cX7_leaveSet 29 = .ok (.getfield 51, 3) := by decide +kernel
theorem dX7_leaveSet_32 : decode cX7_leaveSet 32 = .ok (.iload_n 2, 1) := by decide +kernel
theorem dX7_leaveSet_33 : decode cX7_leaveSet 33 = .ok (.dup2, 1) := by decide +kernel
theorem dX7_leaveSet_34 : decode cX7_leaveSet 34 = .ok (.iaload, 1) := by decide +kernel
theorem dX7_leaveSet_35 : decode cX7_leaveSet 35 = .ok (.iconst 1, 1) := by decide +kernel
theorem dX7_leaveSet_36 : decode cX7_leaveSet 36 = .ok (.isub, 1) := by decide +kernel
theorem dX7_leaveSet_37 : decode cX7_leaveSet 37 = .ok (.iastore, 1) := by decide +kernel
theorem dX7_leaveSet_38 : decode cX7_leaveSet 38 = .ok (.iload_n 3, 1) := by decide +kernel
theorem dX7_leaveSet_39 : decode cX7_leaveSet 39 = .ok (.istore 4, 2) := by decide +kernel
theorem dX7_leaveSet_41 : decode cX7_leaveSet 41 = .ok (.iload 4, 2) := by decide +kernel
theorem dX7_leaveSet_43 : decode cX7_leaveSet 43 = .ok (.aload_n 0, 1) := by decide +kernel
theorem dX7_leaveSet_44 : decode cX7_leaveSet 44 = .ok (.getfield 51, 3) := by decide +kernel
theorem dX7_leaveSet_47 : decode cX7_leaveSet 47 = .ok (.iload_n 2, 1) := by decide +kernel
theorem dX7_leaveSet_48 : decode cX7_leaveSet 48 = .ok (.iaload, 1) := by decide +kernel
theorem dX7_leaveSet_49 : decode cX7_leaveSet 49 = .ok (.if_icmp .ge 33, 3) := by decide +kernel
theorem dX7_leaveSet_52 : decode cX7_leaveSet 52 = .ok (.aload_n 0, 1) := by decide +kernel
theorem dX7_leaveSet_53 : decode cX7_leaveSet 53 = .ok (.getfield 54, 3) := by decide +kernel
theorem dX7_leaveSet_56 : decode cX7_leaveSet 56 = .ok (.iconst 4, 1) := by decide +kernel
theorem dX7_leaveSet_57 : decode cX7_leaveSet 57 = .ok (.iload_n 2, 1) := by decide +kernel
theorem dX7_leaveSet_58 : decode cX7_leaveSet 58 = .ok (.imul, 1) := by decide +kernel
theorem dX7_leaveSet_59 : decode cX7_leaveSet 59 = .ok (.iload 4, 2) := by decide +kernel
theorem dX7_leaveSet_61 : decode cX7_leaveSet 61 = .ok (.iadd, 1) := by decide +kernel
theorem dX7_leaveSet_62 : decode cX7_leaveSet 62 = .ok (.aload_n 0, 1) := by decide +kernel
theorem dX7_leaveSet_63 : decode cX7_leaveSet 63 = .ok (.getfield 54, 3) := by decide +kernel
theorem dX7_leaveSet_66 : decode cX7_leaveSet 66 = .ok (.iconst 4, 1) := by decide +kernel
theorem dX7_leaveSet_67 : decode cX7_leaveSet 67 = .ok (.iload_n 2, 1) := by decide +kernel
theorem dX7_leaveSet_68 : decode cX7_leaveSet 68 = .ok (.imul, 1) := by decide +kernel
theorem dX7_leaveSet_69 : decode cX7_leaveSet 69 = .ok (.iload 4, 2) := by decide +kernel
theorem dX7_leaveSet_71 : decode cX7_leaveSet 71 = .ok (.iadd, 1) := by decide +kernel
theorem dX7_leaveSet_72 : decode cX7_leaveSet 72 = .ok (.iconst 1, 1) := by decide +kernel
theorem dX7_leaveSet_73 : decode cX7_leaveSet 73 = .ok (.iadd, 1) := by decide +kernel
theorem dX7_leaveSet_74 : decode cX7_leaveSet 74 = .ok (.iaload, 1) := by decide +kernel
theorem dX7_leaveSet_75 : decode cX7_leaveSet 75 = .ok (.iastore, 1) := by decide +kernel
theorem dX7_leaveSet_76 : decode cX7_leaveSet 76 = .ok (.iinc 4 1, 3) := by decide +kernel
theorem dX7_leaveSet_79 : decode cX7_leaveSet 79 = .ok (.goto (-38), 3) := by decide +kernel
theorem dX7_leaveSet_82 : decode cX7_leaveSet 82 = .ok (.aload_n 0, 1) := by decide +kernel
theorem dX7_leaveSet_83 : decode cX7_leaveSet 83 = .ok (.getfield 22, 3) := by decide +kernel
theorem dX7_leaveSet_86 : decode cX7_leaveSet 86 = .ok (.iload_n 1, 1) := by decide +kernel
theorem dX7_leaveSet_87 : decode cX7_leaveSet 87 = .ok (.iconst 2, 1) := by decide +kernel
theorem dX7_leaveSet_88 : decode cX7_leaveSet 88 = .ok (.iastore, 1) := by decide +kernel
theorem dX7_leaveSet_89 : decode cX7_leaveSet 89 = .ok (.return_, 1) := by decide +kernel
theorem dX7_notified_0 : decode cX7_notified 0 = .ok (.aload_n 0, 1) := by decide +kernel
theorem dX7_notified_1 : decode cX7_notified 1 = .ok (.iload_n 1, 1) := by decide +kernel
theorem dX7_notified_2 : decode cX7_notified 2 = .ok (.invokevirtual 111, 3) := by decide +kernel
theorem dX7_notified_5 : decode cX7_notified 5 = .ok (.aload_n 0, 1) := by decide +kernel
theorem dX7_notified_6 : decode cX7_notified 6 = .ok (.iload_n 1, 1) := by decide +kernel
theorem dX7_notified_7 : decode cX7_notified 7 = .ok (.iconst 2, 1) := by decide +kernel
theorem dX7_notified_8 : decode cX7_notified 8 = .ok (.invokevirtual 115, 3) := by decide +kernel
theorem dX7_notified_11 : decode cX7_notified 11 = .ok (.return_, 1) := by decide +kernel
theorem dX7_waitOn_0 : decode cX7_waitOn 0 = .ok (.aload_n 0, 1) := by decide +kernel
theorem dX7_waitOn_1 : decode cX7_waitOn 1 = .ok (.getfield 35, 3) := by decide +kernel
theorem dX7_waitOn_4 : decode cX7_waitOn 4 = .ok (.iload_n 1, 1) := by decide +kernel
theorem dX7_waitOn_5 : decode cX7_waitOn 5 = .ok (.baload, 1) := by decide +kernel
theorem dX7_waitOn_6 : decode cX7_waitOn 6 = .ok (.ifCond .eq 17, 3) := by decide +kernel
theorem dX7_waitOn_9 : decode cX7_waitOn 9 = .ok (.aload_n 0, 1) := by decide +kernel
theorem dX7_waitOn_10 : decode cX7_waitOn 10 = .ok (.getfield 35, 3) := by decide +kernel
theorem dX7_waitOn_13 : decode cX7_waitOn 13 = .ok (.iload_n 1, 1) := by decide +kernel
theorem dX7_waitOn_14 : decode cX7_waitOn 14 = .ok (.iconst 0, 1) := by decide +kernel
theorem dX7_waitOn_15 : decode cX7_waitOn 15 = .ok (.bastore, 1) := by decide +kernel
theorem dX7_waitOn_16 : decode cX7_waitOn 16 = .ok (.aload_n 0, 1) := by decide +kernel
theorem dX7_waitOn_17 : decode cX7_waitOn 17 = .ok (.iload_n 1, 1) := by decide +kernel
theorem dX7_waitOn_18 : decode cX7_waitOn 18 = .ok (.iconst 1, 1) := by decide +kernel
theorem dX7_waitOn_19 : decode cX7_waitOn 19 = .ok (.invokevirtual 115, 3) := by decide +kernel
theorem dX7_waitOn_22 : decode cX7_waitOn 22 = .ok (.return_, 1) := by decide +kernel
theorem dX7_waitOn_23 : decode cX7_waitOn 23 = .ok (.aload_n 0, 1) := by decide +kernel
theorem dX7_waitOn_24 : decode cX7_waitOn 24 = .ok (.getfield 25, 3) := by decide +kernel
theorem dX7_waitOn_27 : decode cX7_waitOn 27 = .ok (.iload_n 1, 1) := by decide +kernel
theorem dX7_waitOn_28 : decode cX7_waitOn 28 = .ok (.aload_n 0, 1) := by decide +kernel
theorem dX7_waitOn_29 : decode cX7_waitOn 29 = .ok (.getfield 48, 3) := by decide +kernel
theorem dX7_waitOn_32 : decode cX7_waitOn 32 = .ok (.iload_n 2, 1) := by decide +kernel
theorem dX7_waitOn_33 : decode cX7_waitOn 33 = .ok (.iaload, 1) := by decide +kernel
theorem dX7_waitOn_34 : decode cX7_waitOn 34 = .ok (.iastore, 1) := by decide +kernel
theorem dX7_waitOn_35 : decode cX7_waitOn 35 = .ok (.aload_n 0, 1) := by decide +kernel
theorem dX7_waitOn_36 : decode cX7_waitOn 36 = .ok (.getfield 45, 3) := by decide +kernel
theorem dX7_waitOn_39 : decode cX7_waitOn 39 = .ok (.iload_n 2, 1) := by decide +kernel
theorem dX7_waitOn_40 : decode cX7_waitOn 40 = .ok (.iconst (-1), 1) := by decide +kernel
theorem dX7_waitOn_41 : decode cX7_waitOn 41 = .ok (.iastore, 1) := by decide +kernel
theorem dX7_waitOn_42 : decode cX7_waitOn 42 = .ok (.aload_n 0, 1) := by decide +kernel
theorem dX7_waitOn_43 : decode cX7_waitOn 43 = .ok (.getfield 48, 3) := by decide +kernel
theorem dX7_waitOn_46 : decode cX7_waitOn 46 = .ok (.iload_n 2, 1) := by decide +kernel
theorem dX7_waitOn_47 : decode cX7_waitOn 47 = .ok (.iconst 0, 1) := by decide +kernel
theorem dX7_waitOn_48 : decode cX7_waitOn 48 = .ok (.iastore, 1) := by decide +kernel
theorem dX7_waitOn_49 : decode cX7_waitOn 49 = .ok (.aload_n 0, 1) := by decide +kernel
theorem dX7_waitOn_50 : decode cX7_waitOn 50 = .ok (.getfield 54, 3) := by decide +kernel
theorem dX7_waitOn_53 : decode cX7_waitOn 53 = .ok (.iconst 4, 1) := by decide +kernel
theorem dX7_waitOn_54 : decode cX7_waitOn 54 = .ok (.iload_n 2, 1) := by decide +kernel
theorem dX7_waitOn_55 : decode cX7_waitOn 55 = .ok (.imul, 1) := by decide +kernel
theorem dX7_waitOn_56 : decode cX7_waitOn 56 = .ok (.aload_n 0, 1) := by decide +kernel
theorem dX7_waitOn_57 : decode cX7_waitOn 57 = .ok (.getfield 51, 3) := by decide +kernel
theorem dX7_waitOn_60 : decode cX7_waitOn 60 = .ok (.iload_n 2, 1) := by decide +kernel
theorem dX7_waitOn_61 : decode cX7_waitOn 61 = .ok (.iaload, 1) := by decide +kernel
theorem dX7_waitOn_62 : decode cX7_waitOn 62 = .ok (.iadd, 1) := by decide +kernel
theorem dX7_waitOn_63 : decode cX7_waitOn 63 = .ok (.iload_n 1, 1) := by decide +kernel
theorem dX7_waitOn_64 : decode cX7_waitOn 64 = .ok (.iastore, 1) := by decide +kernel
theorem dX7_waitOn_65 : decode cX7_waitOn 65 = .ok (.aload_n 0, 1) := by decide +kernel
theorem dX7_waitOn_66 : decode cX7_waitOn 66 = .ok (.getfield 51, 3) := by decide +kernel
theorem dX7_waitOn_69 : decode cX7_waitOn 69 = .ok (.iload_n 2, 1) := by decide +kernel
theorem dX7_waitOn_70 : decode cX7_waitOn 70 = .ok (.dup2, 1) := by decide +kernel
theorem dX7_waitOn_71 : decode cX7_waitOn 71 = .ok (.iaload, 1) := by decide +kernel
theorem dX7_waitOn_72 : decode cX7_waitOn 72 = .ok (.iconst 1, 1) := by decide +kernel
theorem dX7_waitOn_73 : decode cX7_waitOn 73 = .ok (.iadd, 1) := by decide +kernel
theorem dX7_waitOn_74 : decode cX7_waitOn 74 = .ok (.iastore, 1) := by decide +kernel
theorem dX7_waitOn_75 : decode cX7_waitOn 75 = .ok (.aload_n 0, 1) := by decide +kernel
theorem dX7_waitOn_76 : decode cX7_waitOn 76 = .ok (.getfield 22, 3) := by decide +kernel
theorem dX7_waitOn_79 : decode cX7_waitOn 79 = .ok (.iload_n 1, 1) := by decide +kernel
theorem dX7_waitOn_80 : decode cX7_waitOn 80 = .ok (.iconst 1, 1) := by decide +kernel
theorem dX7_waitOn_81 : decode cX7_waitOn 81 = .ok (.iastore, 1) := by decide +kernel
theorem dX7_waitOn_82 : decode cX7_waitOn 82 = .ok (.return_, 1) := by decide +kernel
theorem dX7_monitorAction_0 : decode cX7_monitorAction 0 = .ok (.iload_n 2, 1) := by decide +kernel
theorem dX7_monitorAction_1 : decode cX7_monitorAction 1 = .ok (.ifCond .ne 23, 3) := by decide +kernel
theorem dX7_monitorAction_4 : decode cX7_monitorAction 4 = .ok (.aload_n 0, 1) := by decide +kernel
theorem dX7_monitorAction_5 : decode cX7_monitorAction 5 = .ok (.getfield 45, 3) := by decide +kernel
theorem dX7_monitorAction_8 : decode cX7_monitorAction 8 = .ok (.iload_n 3, 1) := by decide +kernel
theorem dX7_monitorAction_9 : decode cX7_monitorAction 9 = .ok (.iload_n 1, 1) := by decide +kernel
theorem dX7_monitorAction_10 : decode cX7_monitorAction 10 = .ok (.iastore, 1) := by decide +kernel
theorem dX7_monitorAction_11 : decode cX7_monitorAction 11 = .ok (.aload_n 0, 1) := by decide +kernel
theorem dX7_monitorAction_12 : decode cX7_monitorAction 12 = .ok (.getfield 48, 3) := by decide +kernel
theorem dX7_monitorAction_15 : decode cX7_monitorAction 15 = .ok (.iload_n 3, 1) := by decide +kernel
theorem dX7_monitorAction_16 : decode cX7_monitorAction 16 = .ok (.dup2, 1) := by decide +kernel
theorem dX7_monitorAction_17 : decode cX7_monitorAction 17 = .ok (.iaload, 1) := by decide +kernel
theorem dX7_monitorAction_18 : decode cX7_monitorAction 18 = .ok (.iconst 1, 1) := by decide +kernel
theorem dX7_monitorAction_19 : decode cX7_monitorAction 19 = .ok (.iadd, 1) := by decide +kernel
theorem dX7_monitorAction_20 : decode cX7_monitorAction 20 = .ok (.iastore, 1) := by decide +kernel
theorem dX7_monitorAction_21 : decode cX7_monitorAction 21 = .ok (.goto 138, 3) := by decide +kernel
theorem dX7_monitorAction_24 : decode cX7_monitorAction 24 = .ok (.aload_n 0, 1) := by decide +kernel
theorem dX7_monitorAction_25 : decode cX7_monitorAction 25 = .ok (.getfield 45, 3) := by decide +kernel
theorem dX7_monitorAction_28 : decode cX7_monitorAction 28 = .ok (.iload_n 3, 1) := by decide +kernel
theorem dX7_monitorAction_29 : decode cX7_monitorAction 29 = .ok (.iaload, 1) := by decide +kernel
theorem dX7_monitorAction_30 : decode cX7_monitorAction 30 = .ok (.iload_n 1, 1) := by decide +kernel
theorem dX7_monitorAction_31 : decode cX7_monitorAction 31 = .ok (.if_icmp .eq 12, 3) := by decide +kernel
theorem dX7_monitorAction_34 : decode cX7_monitorAction 34 = .ok (.aload_n 0, 1) := by decide +kernel
theorem dX7_monitorAction_35 : decode cX7_monitorAction 35 = .ok (.iload_n 1, 1) := by decide +kernel
theorem dX7_monitorAction_36 : decode cX7_monitorAction 36 = .ok (.iconst 0, 1) := by decide +kernel
theorem dX7_monitorAction_37 : decode cX7_monitorAction 37 = .ok (.invokevirtual 115, 3) := by decide +kernel
theorem dX7_monitorAction_40 : decode cX7_monitorAction 40 = .ok (.goto 119, 3) := by decide +kernel
theorem dX7_monitorAction_43 : decode cX7_monitorAction 43 = .ok (.iload_n 2, 1) := by decide +kernel
theorem dX7_monitorAction_44 : decode cX7_monitorAction 44 = .ok (.iconst 1, 1) := by decide +kernel
theorem dX7_monitorAction_45 : decode cX7_monitorAction 45 = .ok (.if_icmp .ne 32, 3) := by decide +kernel
theorem dX7_monitorAction_48 : decode cX7_monitorAction 48 = .ok (.aload_n 0, 1) := by decide +kernel
theorem dX7_monitorAction_49 : decode cX7_monitorAction 49 = .ok (.getfield 48, 3) := by decide +kernel
theorem dX7_monitorAction_52 : decode cX7_monitorAction 52 = .ok (.iload_n 3, 1) := by decide +kernel
theorem dX7_monitorAction_53 : decode cX7_monitorAction 53 = .ok (.dup2, 1) := by decide +kernel
theorem dX7_monitorAction_54 : decode cX7_monitorAction 54 = .ok (.iaload, 1) := by decide +kernel
theorem dX7_monitorAction_55 : decode cX7_monitorAction 55 = .ok (.iconst 1, 1) := by decide +kernel
theorem dX7_monitorAction_56 : decode cX7_monitorAction 56 = .ok (.isub, 1) := by decide +kernel
theorem dX7_monitorAction_57 : decode cX7_monitorAction 57 = .ok (.iastore, 1) := by decide +kernel
theorem dX7_monitorAction_58 : decode cX7_monitorAction 58 = .ok (.aload_n 0, 1) := by decide +kernel
theorem dX7_monitorAction_59 : decode cX7_monitorAction 59 = .ok (.getfield 48, 3) := by decide +kernel
theorem dX7_monitorAction_62 : decode cX7_monitorAction 62 = .ok (.iload_n 3, 1) := by decide +kernel
theorem dX7_monitorAction_63 : decode cX7_monitorAction 63 = .ok (.iaload, 1) := by decide +kernel
theorem dX7_monitorAction_64 : decode cX7_monitorAction 64 = .ok (.ifCond .ne 95, 3) := by decide +kernel
theorem dX7_monitorAction_67 : decode cX7_monitorAction 67 = .ok (.aload_n 0, 1) := by decide +kernel
theorem dX7_monitorAction_68 : decode cX7_monitorAction 68 = .ok (.getfield 45, 3) := by decide +kernel
theorem dX7_monitorAction_71 : decode cX7_monitorAction 71 = .ok (.iload_n 3, 1) := by decide +kernel
theorem dX7_monitorAction_72 : decode cX7_monitorAction 72 = .ok (.iconst (-1), 1) := by decide +kernel
theorem dX7_monitorAction_73 : decode cX7_monitorAction 73 = .ok (.iastore, 1) := by decide +kernel
theorem dX7_monitorAction_74 : decode cX7_monitorAction 74 = .ok (.goto 85, 3) := by decide +kernel
theorem dX7_monitorAction_77 : decode cX7_monitorAction 77 = .ok (.iload_n 2, 1) := by decide +kernel
theorem dX7_monitorAction_78 : decode cX7_monitorAction 78 = .ok (.iconst 4, 1) := by decide +kernel
theorem dX7_monitorAction_79 : decode cX7_monitorAction 79 = .ok (.if_icmp .ge 12, 3) := by decide +kernel
theorem dX7_monitorAction_82 : decode cX7_monitorAction 82 = .ok (.aload_n 0, 1) := by decide +kernel
theorem dX7_monitorAction_83 : decode cX7_monitorAction 83 = .ok (.iload_n 1, 1) := by decide +kernel
theorem dX7_monitorAction_84 : decode cX7_monitorAction 84 = .ok (.iload_n 3, 1) := by decide +kernel
theorem dX7_monitorAction_85 : decode cX7_monitorAction 85 = .ok (.invokevirtual 119, 3) := by decide +kernel
theorem dX7_monitorAction_88 : decode cX7_monitorAction 88 = .ok (.goto 71, 3) := by decide +kernel
theorem dX7_monitorAction_91 : decode cX7_monitorAction 91 = .ok (.iload_n 2, 1) := by decide +kernel
theorem dX7_monitorAction_92 : decode cX7_monitorAction 92 = .ok (.iconst 4, 1) := by decide +kernel
theorem dX7_monitorAction_93 : decode cX7_monitorAction 93 = .ok (.if_icmp .ne 42, 3) := by decide +kernel
theorem dX7_monitorAction_96 : decode cX7_monitorAction 96 = .ok (.iload 4, 2) := by decide +kernel
theorem dX7_monitorAction_98 : decode cX7_monitorAction 98 = .ok (.ifCond .le 61, 3) := by decide +kernel
theorem dX7_monitorAction_101 : decode cX7_monitorAction 101 = .ok (.aload_n 0, 1) := by decide +kernel
theorem dX7_monitorAction_102 : decode cX7_monitorAction 102 = .ok (.aload_n 0, 1) := by decide +kernel
theorem dX7_monitorAction_103 : decode cX7_monitorAction 103 = .ok (.getfield 54, 3) := by decide +kernel
theorem dX7_monitorAction_106 : decode cX7_monitorAction 106 = .ok (.iconst 4, 1) := by decide +kernel
theorem dX7_monitorAction_107 : decode cX7_monitorAction 107 = .ok (.iload_n 3, 1) := by decide +kernel
theorem dX7_monitorAction_108 : decode cX7_monitorAction 108 = .ok (.imul, 1) := by decide +kernel
theorem dX7_monitorAction_109 : decode cX7_monitorAction 109 = .ok (.iload 4, 2) := by decide +kernel
theorem dX7_monitorAction_111 : decode cX7_monitorAction 111 = .ok (.iconst 1, 1) := by decide +kernel
theorem dX7_monitorAction_112 : decode cX7_monitorAction 112 = .ok (.if_icmp .ne 7, 3) := by decide +kernel
theorem dX7_monitorAction_115 : decode cX7_monitorAction 115 = .ok (.iconst 0, 1) := by decide +kernel
theorem dX7_monitorAction_116 : decode cX7_monitorAction 116 = .ok (.goto 11, 3) := by decide +kernel
theorem dX7_monitorAction_119 : decode cX7_monitorAction 119 = .ok (.aload_n 0, 1) := by decide +kernel
theorem dX7_monitorAction_120 : decode cX7_monitorAction 120 = .ok (.getfield 51, 3) := by decide +kernel
theorem dX7_monitorAction_123 : decode cX7_monitorAction 123 = .ok (.iload_n 3, 1) := by decide +kernel
theorem dX7_monitorAction_124 : decode cX7_monitorAction 124 = .ok (.iaload, 1) := by decide +kernel
theorem dX7_monitorAction_125 : decode cX7_monitorAction 125 = .ok (.iconst 1, 1) := by decide +kernel
theorem dX7_monitorAction_126 : decode cX7_monitorAction 126 = .ok (.isub, 1) := by decide +kernel
theorem dX7_monitorAction_127 : decode cX7_monitorAction 127 = .ok (.iadd, 1) := by decide +kernel
theorem dX7_monitorAction_128 : decode cX7_monitorAction 128 = .ok (.iaload, 1) := by decide +kernel
theorem dX7_monitorAction_129 : decode cX7_monitorAction 129 = .ok (.invokevirtual 122, 3) := by decide +kernel
theorem dX7_monitorAction_132 : decode cX7_monitorAction 132 = .ok (.goto 27, 3) := by decide +kernel
theorem dX7_monitorAction_135 : decode cX7_monitorAction 135 = .ok (.aload_n 0, 1) := by decide +kernel
theorem dX7_monitorAction_136 : decode cX7_monitorAction 136 = .ok (.getfield 51, 3) := by decide +kernel
theorem dX7_monitorAction_139 : decode cX7_monitorAction 139 = .ok (.iload_n 3, 1) := by decide +kernel
theorem dX7_monitorAction_140 : decode cX7_monitorAction 140 = .ok (.iaload, 1) := by decide +kernel
theorem dX7_monitorAction_141 : decode cX7_monitorAction 141 = .ok (.ifCond .le 18, 3) := by decide +kernel
theorem dX7_monitorAction_144 : decode cX7_monitorAction 144 = .ok (.aload_n 0, 1) := by decide +kernel
theorem dX7_monitorAction_145 : decode cX7_monitorAction 145 = .ok (.aload_n 0, 1) := by decide +kernel
theorem dX7_monitorAction_146 : decode cX7_monitorAction 146 = .ok (.getfield 54, 3) := by decide +kernel
theorem dX7_monitorAction_149 : decode cX7_monitorAction 149 = .ok (.iconst 4, 1) := by decide +kernel
theorem dX7_monitorAction_150 : decode cX7_monitorAction 150 = .ok (.iload_n 3, 1) := by decide +kernel
theorem dX7_monitorAction_151 : decode cX7_monitorAction 151 = .ok (.imul, 1) := by decide +kernel
theorem dX7_monitorAction_152 : decode cX7_monitorAction 152 = .ok (.iaload, 1) := by decide +kernel
theorem dX7_monitorAction_153 : decode cX7_monitorAction 153 = .ok (.invokevirtual 122, 3) := by decide +kernel
theorem dX7_monitorAction_156 : decode cX7_monitorAction 156 = .ok (.goto (-21), 3) := by decide +kernel
theorem dX7_monitorAction_159 : decode cX7_monitorAction 159 = .ok (.return_, 1) := by decide +kernel
theorem dX7_brokenOr_0 : decode cX7_brokenOr 0 = .ok (.aload_n 0, 1) := by decide +kernel
theorem dX7_brokenOr_1 : decode cX7_brokenOr 1 = .ok (.getfield 35, 3) := by decide +kernel
theorem dX7_brokenOr_4 : decode cX7_brokenOr 4 = .ok (.iload_n 1, 1) := by decide +kernel
theorem dX7_brokenOr_5 : decode cX7_brokenOr 5 = .ok (.baload, 1) := by decide +kernel
theorem dX7_brokenOr_6 : decode cX7_brokenOr 6 = .ok (.ifCond .eq 20, 3) := by decide +kernel
theorem dX7_brokenOr_9 : decode cX7_brokenOr 9 = .ok (.aload_n 0, 1) := by decide +kernel
theorem dX7_brokenOr_10 : decode cX7_brokenOr 10 = .ok (.iload_n 1, 1) := by decide +kernel
theorem dX7_brokenOr_11 : decode cX7_brokenOr 11 = .ok (.iload_n 2, 1) := by decide +kernel
theorem dX7_brokenOr_12 : decode cX7_brokenOr 12 = .ok (.ifCond .eq 7, 3) := by decide +kernel
theorem dX7_brokenOr_15 : decode cX7_brokenOr 15 = .ok (.iconst 4, 1) := by decide +kernel
theorem dX7_brokenOr_16 : decode cX7_brokenOr 16 = .ok (.goto 4, 3) := by decide +kernel
theorem dX7_brokenOr_19 : decode cX7_brokenOr 19 = .ok (.iconst 1, 1) := by decide +kernel
theorem dX7_brokenOr_20 : decode cX7_brokenOr 20 = .ok (.invokevirtual 115, 3) := by decide +kernel
theorem dX7_brokenOr_23 : decode cX7_brokenOr 23 = .ok (.goto 13, 3) := by decide +kernel
theorem dX7_brokenOr_26 : decode cX7_brokenOr 26 = .ok (.iload_n 2, 1) := by decide +kernel
theorem dX7_brokenOr_27 : decode cX7_brokenOr 27 = .ok (.ifCond .eq 9, 3) := by decide +kernel
theorem dX7_brokenOr_30 : decode cX7_brokenOr 30 = .ok (.aload_n 0, 1) := by decide +kernel
theorem dX7_brokenOr_31 : decode cX7_brokenOr 31 = .ok (.iload_n 1, 1) := by decide +kernel
theorem dX7_brokenOr_32 : decode cX7_brokenOr 32 = .ok (.iconst 5, 1) := by decide +kernel
theorem dX7_brokenOr_33 : decode cX7_brokenOr 33 = .ok (.invokevirtual 115, 3) := by decide +kernel
theorem dX7_brokenOr_36 : decode cX7_brokenOr 36 = .ok (.aload_n 0, 1) := by decide +kernel
theorem dX7_brokenOr_37 : decode cX7_brokenOr 37 = .ok (.getfield 35, 3) := by decide +kernel
theorem dX7_brokenOr_40 : decode cX7_brokenOr 40 = .ok (.iload_n 1, 1) := by decide +kernel
theorem dX7_brokenOr_41 : decode cX7_brokenOr 41 = .ok (.iconst 0, 1) := by decide +kernel
theorem dX7_brokenOr_42 : decode cX7_brokenOr 42 = .ok (.bastore, 1) := by decide +kernel
theorem dX7_brokenOr_43 : decode cX7_brokenOr 43 = .ok (.return_, 1) := by decide +kernel
theorem dX7_otherAction_0 : decode cX7_otherAction 0 = .ok (.iload_n 2, 1) := by decide +kernel
theorem dX7_otherAction_1 : decode cX7_otherAction 1 = .ok (.tableswitch 117 6 12 #[43, 61, 94, 117, 117, 100, 110], 43) := by decide +kernel
theorem dX7_otherAction_44 : decode cX7_otherAction 44 = .ok (.aload_n 0, 1) := by decide +kernel
theorem dX7_otherAction_45 : decode cX7_otherAction 45 = .ok (.getfield 22, 3) := by decide +kernel
theorem dX7_otherAction_48 : decode cX7_otherAction 48 = .ok (.iload_n 3, 1) := by decide +kernel
theorem dX7_otherAction_49 : decode cX7_otherAction 49 = .ok (.iaload, 1) := by decide +kernel
theorem dX7_otherAction_50 : decode cX7_otherAction 50 = .ok (.iconst 4, 1) := by decide +kernel
theorem dX7_otherAction_51 : decode cX7_otherAction 51 = .ok (.if_icmp .eq 10, 3) := by decide +kernel
theorem dX7_otherAction_54 : decode cX7_otherAction 54 = .ok (.aload_n 0, 1) := by decide +kernel
theorem dX7_otherAction_55 : decode cX7_otherAction 55 = .ok (.getfield 35, 3) := by decide +kernel
theorem dX7_otherAction_58 : decode cX7_otherAction 58 = .ok (.iload_n 3, 1) := by decide +kernel
theorem dX7_otherAction_59 : decode cX7_otherAction 59 = .ok (.iconst 1, 1) := by decide +kernel
theorem dX7_otherAction_60 : decode cX7_otherAction 60 = .ok (.bastore, 1) := by decide +kernel
theorem dX7_otherAction_61 : decode cX7_otherAction 61 = .ok (.return_, 1) := by decide +kernel
theorem dX7_otherAction_62 : decode cX7_otherAction 62 = .ok (.aload_n 0, 1) := by decide +kernel
theorem dX7_otherAction_63 : decode cX7_otherAction 63 = .ok (.getfield 39, 3) := by decide +kernel
theorem dX7_otherAction_66 : decode cX7_otherAction 66 = .ok (.iload_n 1, 1) := by decide +kernel
theorem dX7_otherAction_67 : decode cX7_otherAction 67 = .ok (.baload, 1) := by decide +kernel
theorem dX7_otherAction_68 : decode cX7_otherAction 68 = .ok (.ifCond .ne 19, 3) := by decide +kernel
theorem dX7_otherAction_71 : decode cX7_otherAction 71 = .ok (.aload_n 0, 1) := by decide +kernel
theorem dX7_otherAction_72 : decode cX7_otherAction 72 = .ok (.getfield 35, 3) := by decide +kernel
theorem dX7_otherAction_75 : decode cX7_otherAction 75 = .ok (.iload_n 1, 1) := by decide +kernel
theorem dX7_otherAction_76 : decode cX7_otherAction 76 = .ok (.baload, 1) := by decide +kernel
theorem dX7_otherAction_77 : decode cX7_otherAction 77 = .ok (.ifCond .ne 10, 3) := by decide +kernel
theorem dX7_otherAction_80 : decode cX7_otherAction 80 = .ok (.aload_n 0, 1) := by decide +kernel
theorem dX7_otherAction_81 : decode cX7_otherAction 81 = .ok (.getfield 22, 3) := by decide +kernel
theorem dX7_otherAction_84 : decode cX7_otherAction 84 = .ok (.iload_n 1, 1) := by decide +kernel
theorem dX7_otherAction_85 : decode cX7_otherAction 85 = .ok (.iconst 3, 1) := by decide +kernel
theorem dX7_otherAction_86 : decode cX7_otherAction 86 = .ok (.iastore, 1) := by decide +kernel
theorem dX7_otherAction_87 : decode cX7_otherAction 87 = .ok (.aload_n 0, 1) := by decide +kernel
theorem dX7_otherAction_88 : decode cX7_otherAction 88 = .ok (.getfield 39, 3) := by decide +kernel
theorem dX7_otherAction_91 : decode cX7_otherAction 91 = .ok (.iload_n 1, 1) := by decide +kernel
theorem dX7_otherAction_92 : decode cX7_otherAction 92 = .ok (.iconst 0, 1) := by decide +kernel
theorem dX7_otherAction_93 : decode cX7_otherAction 93 = .ok (.bastore, 1) := by decide +kernel
theorem dX7_otherAction_94 : decode cX7_otherAction 94 = .ok (.return_, 1) := by decide +kernel
theorem dX7_otherAction_95 : decode cX7_otherAction 95 = .ok (.aload_n 0, 1) := by decide +kernel
theorem dX7_otherAction_96 : decode cX7_otherAction 96 = .ok (.iload_n 3, 1) := by decide +kernel
theorem dX7_otherAction_97 : decode cX7_otherAction 97 = .ok (.invokevirtual 125, 3) := by decide +kernel
theorem dX7_otherAction_100 : decode cX7_otherAction 100 = .ok (.return_, 1) := by decide +kernel
theorem dX7_otherAction_101 : decode cX7_otherAction 101 = .ok (.aload_n 0, 1) := by decide +kernel
theorem dX7_otherAction_102 : decode cX7_otherAction 102 = .ok (.iload_n 1, 1) := by decide +kernel
theorem dX7_otherAction_103 : decode cX7_otherAction 103 = .ok (.bipush 8, 2) := by decide +kernel
theorem dX7_otherAction_105 : decode cX7_otherAction 105 = .ok (.iload_n 3, 1) := by decide +kernel
theorem dX7_otherAction_106 : decode cX7_otherAction 106 = .ok (.iadd, 1) := by decide +kernel
theorem dX7_otherAction_107 : decode cX7_otherAction 107 = .ok (.invokevirtual 115, 3) := by decide +kernel
theorem dX7_otherAction_110 : decode cX7_otherAction 110 = .ok (.return_, 1) := by decide +kernel
theorem dX7_otherAction_111 : decode cX7_otherAction 111 = .ok (.aload_n 0, 1) := by decide +kernel
theorem dX7_otherAction_112 : decode cX7_otherAction 112 = .ok (.iload_n 1, 1) := by decide +kernel
theorem dX7_otherAction_113 : decode cX7_otherAction 113 = .ok (.iconst 1, 1) := by decide +kernel
theorem dX7_otherAction_114 : decode cX7_otherAction 114 = .ok (.invokevirtual 128, 3) := by decide +kernel
theorem dX7_otherAction_117 : decode cX7_otherAction 117 = .ok (.return_, 1) := by decide +kernel
theorem dX7_otherAction_118 : decode cX7_otherAction 118 = .ok (.aload_n 0, 1) := by decide +kernel
theorem dX7_otherAction_119 : decode cX7_otherAction 119 = .ok (.iload_n 1, 1) := by decide +kernel
theorem dX7_otherAction_120 : decode cX7_otherAction 120 = .ok (.iconst 0, 1) := by decide +kernel
theorem dX7_otherAction_121 : decode cX7_otherAction 121 = .ok (.invokevirtual 128, 3) := by decide +kernel
theorem dX7_otherAction_124 : decode cX7_otherAction 124 = .ok (.return_, 1) := by decide +kernel
theorem dX7_unpark_0 : decode cX7_unpark 0 = .ok (.aload_n 0, 1) := by decide +kernel
theorem dX7_unpark_1 : decode cX7_unpark 1 = .ok (.getfield 22, 3) := by decide +kernel
theorem dX7_unpark_4 : decode cX7_unpark 4 = .ok (.iload_n 1, 1) := by decide +kernel
theorem dX7_unpark_5 : decode cX7_unpark 5 = .ok (.iaload, 1) := by decide +kernel
theorem dX7_unpark_6 : decode cX7_unpark 6 = .ok (.iconst 3, 1) := by decide +kernel
theorem dX7_unpark_7 : decode cX7_unpark 7 = .ok (.if_icmp .ne 11, 3) := by decide +kernel
theorem dX7_unpark_10 : decode cX7_unpark 10 = .ok (.aload_n 0, 1) := by decide +kernel
theorem dX7_unpark_11 : decode cX7_unpark 11 = .ok (.iload_n 1, 1) := by decide +kernel
theorem dX7_unpark_12 : decode cX7_unpark 12 = .ok (.invokevirtual 132, 3) := by decide +kernel
theorem dX7_unpark_15 : decode cX7_unpark 15 = .ok (.goto 20, 3) := by decide +kernel
theorem dX7_unpark_18 : decode cX7_unpark 18 = .ok (.aload_n 0, 1) := by decide +kernel
theorem dX7_unpark_19 : decode cX7_unpark 19 = .ok (.getfield 22, 3) := by decide +kernel
theorem dX7_unpark_22 : decode cX7_unpark 22 = .ok (.iload_n 1, 1) := by decide +kernel
theorem dX7_unpark_23 : decode cX7_unpark 23 = .ok (.iaload, 1) := by decide +kernel
theorem dX7_unpark_24 : decode cX7_unpark 24 = .ok (.iconst 4, 1) := by decide +kernel
theorem dX7_unpark_25 : decode cX7_unpark 25 = .ok (.if_icmp .eq 10, 3) := by decide +kernel
theorem dX7_unpark_28 : decode cX7_unpark 28 = .ok (.aload_n 0, 1) := by decide +kernel
theorem dX7_unpark_29 : decode cX7_unpark 29 = .ok (.getfield 39, 3) := by decide +kernel
theorem dX7_unpark_32 : decode cX7_unpark 32 = .ok (.iload_n 1, 1) := by decide +kernel
theorem dX7_unpark_33 : decode cX7_unpark 33 = .ok (.iconst 1, 1) := by decide +kernel
theorem dX7_unpark_34 : decode cX7_unpark 34 = .ok (.bastore, 1) := by decide +kernel
theorem dX7_unpark_35 : decode cX7_unpark 35 = .ok (.return_, 1) := by decide +kernel
theorem dX7_doAction_0 : decode cX7_doAction 0 = .ok (.aload_n 0, 1) := by decide +kernel
theorem dX7_doAction_1 : decode cX7_doAction 1 = .ok (.iload_n 1, 1) := by decide +kernel
theorem dX7_doAction_2 : decode cX7_doAction 2 = .ok (.invokevirtual 91, 3) := by decide +kernel
theorem dX7_doAction_5 : decode cX7_doAction 5 = .ok (.istore_n 3, 1) := by decide +kernel
theorem dX7_doAction_6 : decode cX7_doAction 6 = .ok (.aload_n 0, 1) := by decide +kernel
theorem dX7_doAction_7 : decode cX7_doAction 7 = .ok (.iload_n 1, 1) := by decide +kernel
theorem dX7_doAction_8 : decode cX7_doAction 8 = .ok (.invokevirtual 95, 3) := by decide +kernel
theorem dX7_doAction_11 : decode cX7_doAction 11 = .ok (.istore 4, 2) := by decide +kernel
theorem dX7_doAction_13 : decode cX7_doAction 13 = .ok (.aload_n 0, 1) := by decide +kernel
theorem dX7_doAction_14 : decode cX7_doAction 14 = .ok (.getfield 19, 3) := by decide +kernel
theorem dX7_doAction_17 : decode cX7_doAction 17 = .ok (.iload_n 1, 1) := by decide +kernel
theorem dX7_doAction_18 : decode cX7_doAction 18 = .ok (.dup2, 1) := by decide +kernel
theorem dX7_doAction_19 : decode cX7_doAction 19 = .ok (.iaload, 1) := by decide +kernel
theorem dX7_doAction_20 : decode cX7_doAction 20 = .ok (.iconst 1, 1) := by decide +kernel
theorem dX7_doAction_21 : decode cX7_doAction 21 = .ok (.iadd, 1) := by decide +kernel
theorem dX7_doAction_22 : decode cX7_doAction 22 = .ok (.iastore, 1) := by decide +kernel
theorem dX7_doAction_23 : decode cX7_doAction 23 = .ok (.iload_n 3, 1) := by decide +kernel
theorem dX7_doAction_24 : decode cX7_doAction 24 = .ok (.bipush 6, 2) := by decide +kernel
theorem dX7_doAction_26 : decode cX7_doAction 26 = .ok (.if_icmp .ge 15, 3) := by decide +kernel
theorem dX7_doAction_29 : decode cX7_doAction 29 = .ok (.aload_n 0, 1) := by decide +kernel
theorem dX7_doAction_30 : decode cX7_doAction 30 = .ok (.iload_n 1, 1) := by decide +kernel
theorem dX7_doAction_31 : decode cX7_doAction 31 = .ok (.iload_n 3, 1) := by decide +kernel
theorem dX7_doAction_32 : decode cX7_doAction 32 = .ok (.iload 4, 2) := by decide +kernel
theorem dX7_doAction_34 : decode cX7_doAction 34 = .ok (.iload_n 2, 1) := by decide +kernel
theorem dX7_doAction_35 : decode cX7_doAction 35 = .ok (.invokevirtual 135, 3) := by decide +kernel
theorem dX7_doAction_38 : decode cX7_doAction 38 = .ok (.goto 11, 3) := by decide +kernel
theorem dX7_doAction_41 : decode cX7_doAction 41 = .ok (.aload_n 0, 1) := by decide +kernel
theorem dX7_doAction_42 : decode cX7_doAction 42 = .ok (.iload_n 1, 1) := by decide +kernel
theorem dX7_doAction_43 : decode cX7_doAction 43 = .ok (.iload_n 3, 1) := by decide +kernel
theorem dX7_doAction_44 : decode cX7_doAction 44 = .ok (.iload 4, 2) := by decide +kernel
theorem dX7_doAction_46 : decode cX7_doAction 46 = .ok (.invokevirtual 139, 3) := by decide +kernel
theorem dX7_doAction_49 : decode cX7_doAction 49 = .ok (.aload_n 0, 1) := by decide +kernel
theorem dX7_doAction_50 : decode cX7_doAction 50 = .ok (.getfield 22, 3) := by decide +kernel
theorem dX7_doAction_53 : decode cX7_doAction 53 = .ok (.iload_n 1, 1) := by decide +kernel
theorem dX7_doAction_54 : decode cX7_doAction 54 = .ok (.iaload, 1) := by decide +kernel
theorem dX7_doAction_55 : decode cX7_doAction 55 = .ok (.ifCond .ne 8, 3) := by decide +kernel
theorem dX7_doAction_58 : decode cX7_doAction 58 = .ok (.aload_n 0, 1) := by decide +kernel
theorem dX7_doAction_59 : decode cX7_doAction 59 = .ok (.iload_n 1, 1) := by decide +kernel
theorem dX7_doAction_60 : decode cX7_doAction 60 = .ok (.invokevirtual 132, 3) := by decide +kernel
theorem dX7_doAction_63 : decode cX7_doAction 63 = .ok (.return_, 1) := by decide +kernel
theorem dX7_perform_0 : decode cX7_perform 0 = .ok (.aload_n 0, 1) := by decide +kernel
theorem dX7_perform_1 : decode cX7_perform 1 = .ok (.getfield 22, 3) := by decide +kernel
theorem dX7_perform_4 : decode cX7_perform 4 = .ok (.iload_n 1, 1) := by decide +kernel
theorem dX7_perform_5 : decode cX7_perform 5 = .ok (.iaload, 1) := by decide +kernel
theorem dX7_perform_6 : decode cX7_perform 6 = .ok (.ifCond .ne 12, 3) := by decide +kernel
theorem dX7_perform_9 : decode cX7_perform 9 = .ok (.aload_n 0, 1) := by decide +kernel
theorem dX7_perform_10 : decode cX7_perform 10 = .ok (.iload_n 1, 1) := by decide +kernel
theorem dX7_perform_11 : decode cX7_perform 11 = .ok (.iload_n 2, 1) := by decide +kernel
theorem dX7_perform_12 : decode cX7_perform 12 = .ok (.invokevirtual 143, 3) := by decide +kernel
theorem dX7_perform_15 : decode cX7_perform 15 = .ok (.goto 132, 3) := by decide +kernel
theorem dX7_perform_18 : decode cX7_perform 18 = .ok (.aload_n 0, 1) := by decide +kernel
theorem dX7_perform_19 : decode cX7_perform 19 = .ok (.getfield 22, 3) := by decide +kernel
theorem dX7_perform_22 : decode cX7_perform 22 = .ok (.iload_n 1, 1) := by decide +kernel
theorem dX7_perform_23 : decode cX7_perform 23 = .ok (.iaload, 1) := by decide +kernel
theorem dX7_perform_24 : decode cX7_perform 24 = .ok (.iconst 2, 1) := by decide +kernel
theorem dX7_perform_25 : decode cX7_perform 25 = .ok (.if_icmp .ne 43, 3) := by decide +kernel
theorem dX7_perform_28 : decode cX7_perform 28 = .ok (.aload_n 0, 1) := by decide +kernel
theorem dX7_perform_29 : decode cX7_perform 29 = .ok (.iload_n 1, 1) := by decide +kernel
theorem dX7_perform_30 : decode cX7_perform 30 = .ok (.invokevirtual 106, 3) := by decide +kernel
theorem dX7_perform_33 : decode cX7_perform 33 = .ok (.istore_n 3, 1) := by decide +kernel
theorem dX7_perform_34 : decode cX7_perform 34 = .ok (.aload_n 0, 1) := by decide +kernel
theorem dX7_perform_35 : decode cX7_perform 35 = .ok (.getfield 45, 3) := by decide +kernel
theorem dX7_perform_38 : decode cX7_perform 38 = .ok (.iload_n 3, 1) := by decide +kernel
theorem dX7_perform_39 : decode cX7_perform 39 = .ok (.iload_n 1, 1) := by decide +kernel
theorem dX7_perform_40 : decode cX7_perform 40 = .ok (.iastore, 1) := by decide +kernel
theorem dX7_perform_41 : decode cX7_perform 41 = .ok (.aload_n 0, 1) := by decide +kernel
theorem dX7_perform_42 : decode cX7_perform 42 = .ok (.getfield 48, 3) := by decide +kernel
theorem dX7_perform_45 : decode cX7_perform 45 = .ok (.iload_n 3, 1) := by decide +kernel
theorem dX7_perform_46 : decode cX7_perform 46 = .ok (.aload_n 0, 1) := by decide +kernel
theorem dX7_perform_47 : decode cX7_perform 47 = .ok (.getfield 25, 3) := by decide +kernel
theorem dX7_perform_50 : decode cX7_perform 50 = .ok (.iload_n 1, 1) := by decide +kernel
theorem dX7_perform_51 : decode cX7_perform 51 = .ok (.iaload, 1) := by decide +kernel
theorem dX7_perform_52 : decode cX7_perform 52 = .ok (.iastore, 1) := by decide +kernel
theorem dX7_perform_53 : decode cX7_perform 53 = .ok (.aload_n 0, 1) := by decide +kernel
theorem dX7_perform_54 : decode cX7_perform 54 = .ok (.getfield 25, 3) := by decide +kernel
theorem dX7_perform_57 : decode cX7_perform 57 = .ok (.iload_n 1, 1) := by decide +kernel
theorem dX7_perform_58 : decode cX7_perform 58 = .ok (.iconst 0, 1) := by decide +kernel
theorem dX7_perform_59 : decode cX7_perform 59 = .ok (.iastore, 1) := by decide +kernel
theorem dX7_perform_60 : decode cX7_perform 60 = .ok (.aload_n 0, 1) := by decide +kernel
theorem dX7_perform_61 : decode cX7_perform 61 = .ok (.iload_n 1, 1) := by decide +kernel
theorem dX7_perform_62 : decode cX7_perform 62 = .ok (.invokevirtual 132, 3) := by decide +kernel
theorem dX7_perform_65 : decode cX7_perform 65 = .ok (.goto 82, 3) := by decide +kernel
theorem dX7_perform_68 : decode cX7_perform 68 = .ok (.aload_n 0, 1) := by decide +kernel
theorem dX7_perform_69 : decode cX7_perform 69 = .ok (.getfield 22, 3) := by decide +kernel
theorem dX7_perform_72 : decode cX7_perform 72 = .ok (.iload_n 1, 1) := by decide +kernel
theorem dX7_perform_73 : decode cX7_perform 73 = .ok (.iaload, 1) := by decide +kernel
theorem dX7_perform_74 : decode cX7_perform 74 = .ok (.iconst 3, 1) := by decide +kernel
theorem dX7_perform_75 : decode cX7_perform 75 = .ok (.if_icmp .ne 23, 3) := by decide +kernel
theorem dX7_perform_78 : decode cX7_perform 78 = .ok (.iload_n 2, 1) := by decide +kernel
theorem dX7_perform_79 : decode cX7_perform 79 = .ok (.iconst 3, 1) := by decide +kernel
theorem dX7_perform_80 : decode cX7_perform 80 = .ok (.if_icmp .ne 10, 3) := by decide +kernel
theorem dX7_perform_83 : decode cX7_perform 83 = .ok (.aload_n 0, 1) := by decide +kernel
theorem dX7_perform_84 : decode cX7_perform 84 = .ok (.getfield 42, 3) := by decide +kernel
theorem dX7_perform_87 : decode cX7_perform 87 = .ok (.iload_n 1, 1) := by decide +kernel
theorem dX7_perform_88 : decode cX7_perform 88 = .ok (.iconst 1, 1) := by decide +kernel
theorem dX7_perform_89 : decode cX7_perform 89 = .ok (.bastore, 1) := by decide +kernel
theorem dX7_perform_90 : decode cX7_perform 90 = .ok (.aload_n 0, 1) := by decide +kernel
theorem dX7_perform_91 : decode cX7_perform 91 = .ok (.iload_n 1, 1) := by decide +kernel
theorem dX7_perform_92 : decode cX7_perform 92 = .ok (.invokevirtual 132, 3) := by decide +kernel
theorem dX7_perform_95 : decode cX7_perform 95 = .ok (.goto 52, 3) := by decide +kernel
theorem dX7_perform_98 : decode cX7_perform 98 = .ok (.aload_n 0, 1) := by decide +kernel
theorem dX7_perform_99 : decode cX7_perform 99 = .ok (.iload_n 1, 1) := by decide +kernel
theorem dX7_perform_100 : decode cX7_perform 100 = .ok (.invokevirtual 111, 3) := by decide +kernel
theorem dX7_perform_103 : decode cX7_perform 103 = .ok (.iload_n 2, 1) := by decide +kernel
theorem dX7_perform_104 : decode cX7_perform 104 = .ok (.iconst 1, 1) := by decide +kernel
theorem dX7_perform_105 : decode cX7_perform 105 = .ok (.if_icmp .ne 10, 3) := by decide +kernel
theorem dX7_perform_108 : decode cX7_perform 108 = .ok (.aload_n 0, 1) := by decide +kernel
theorem dX7_perform_109 : decode cX7_perform 109 = .ok (.getfield 35, 3) := by decide +kernel
theorem dX7_perform_112 : decode cX7_perform 112 = .ok (.iload_n 1, 1) := by decide +kernel
theorem dX7_perform_113 : decode cX7_perform 113 = .ok (.iconst 0, 1) := by decide +kernel
theorem dX7_perform_114 : decode cX7_perform 114 = .ok (.bastore, 1) := by decide +kernel
theorem dX7_perform_115 : decode cX7_perform 115 = .ok (.iload_n 2, 1) := by decide +kernel
theorem dX7_perform_116 : decode cX7_perform 116 = .ok (.iconst 2, 1) := by decide +kernel
theorem dX7_perform_117 : decode cX7_perform 117 = .ok (.if_icmp .ne 10, 3) := by decide +kernel
theorem dX7_perform_120 : decode cX7_perform 120 = .ok (.aload_n 0, 1) := by decide +kernel
theorem dX7_perform_121 : decode cX7_perform 121 = .ok (.getfield 42, 3) := by decide +kernel
theorem dX7_perform_124 : decode cX7_perform 124 = .ok (.iload_n 1, 1) := by decide +kernel
theorem dX7_perform_125 : decode cX7_perform 125 = .ok (.iconst 1, 1) := by decide +kernel
theorem dX7_perform_126 : decode cX7_perform 126 = .ok (.bastore, 1) := by decide +kernel
theorem dX7_perform_127 : decode cX7_perform 127 = .ok (.iload_n 2, 1) := by decide +kernel
theorem dX7_perform_128 : decode cX7_perform 128 = .ok (.iconst 2, 1) := by decide +kernel
theorem dX7_perform_129 : decode cX7_perform 129 = .ok (.if_icmp .eq 18, 3) := by decide +kernel
theorem dX7_perform_132 : decode cX7_perform 132 = .ok (.aload_n 0, 1) := by decide +kernel
theorem dX7_perform_133 : decode cX7_perform 133 = .ok (.iload_n 1, 1) := by decide +kernel
theorem dX7_perform_134 : decode cX7_perform 134 = .ok (.iload_n 2, 1) := by decide +kernel
theorem dX7_perform_135 : decode cX7_perform 135 = .ok (.iconst 1, 1) := by decide +kernel
theorem dX7_perform_136 : decode cX7_perform 136 = .ok (.if_icmp .ne 7, 3) := by decide +kernel
theorem dX7_perform_139 : decode cX7_perform 139 = .ok (.iconst 1, 1) := by decide +kernel
theorem dX7_perform_140 : decode cX7_perform 140 = .ok (.goto 4, 3) := by decide +kernel
theorem dX7_perform_143 : decode cX7_perform 143 = .ok (.iconst 3, 1) := by decide +kernel
theorem dX7_perform_144 : decode cX7_perform 144 = .ok (.invokevirtual 115, 3) := by decide +kernel
theorem dX7_perform_147 : decode cX7_perform 147 = .ok (.return_, 1) := by decide +kernel
theorem dX7_act_0 : decode cX7_act 0 = .ok (.iload_n 1, 1) := by decide +kernel
theorem dX7_act_1 : decode cX7_act 1 = .ok (.iconst 4, 1) := by decide +kernel
theorem dX7_act_2 : decode cX7_act 2 = .ok (.invokestatic 146, 3) := by decide +kernel
theorem dX7_act_5 : decode cX7_act 5 = .ok (.ifCond .ne 12, 3) := by decide +kernel
theorem dX7_act_8 : decode cX7_act 8 = .ok (.iload_n 2, 1) := by decide +kernel
theorem dX7_act_9 : decode cX7_act 9 = .ok (.bipush 13, 2) := by decide +kernel
theorem dX7_act_11 : decode cX7_act 11 = .ok (.invokestatic 146, 3) := by decide +kernel
theorem dX7_act_14 : decode cX7_act 14 = .ok (.ifCond .eq 5, 3) := by decide +kernel
theorem dX7_act_17 : decode cX7_act 17 = .ok (.iconst (-1), 1) := by decide +kernel
theorem dX7_act_18 : decode cX7_act 18 = .ok (.ireturn, 1) := by decide +kernel
theorem dX7_act_19 : decode cX7_act 19 = .ok (.iload_n 2, 1) := by decide +kernel
theorem dX7_act_20 : decode cX7_act 20 = .ok (.bipush 6, 2) := by decide +kernel
theorem dX7_act_22 : decode cX7_act 22 = .ok (.if_icmp .ge 11, 3) := by decide +kernel
theorem dX7_act_25 : decode cX7_act 25 = .ok (.iload_n 3, 1) := by decide +kernel
theorem dX7_act_26 : decode cX7_act 26 = .ok (.iconst 2, 1) := by decide +kernel
theorem dX7_act_27 : decode cX7_act 27 = .ok (.invokestatic 146, 3) := by decide +kernel
theorem dX7_act_30 : decode cX7_act 30 = .ok (.ifCond .ne 35, 3) := by decide +kernel
theorem dX7_act_33 : decode cX7_act 33 = .ok (.iload_n 2, 1) := by decide +kernel
theorem dX7_act_34 : decode cX7_act 34 = .ok (.bipush 6, 2) := by decide +kernel
theorem dX7_act_36 : decode cX7_act 36 = .ok (.if_icmp .eq 21, 3) := by decide +kernel
theorem dX7_act_39 : decode cX7_act 39 = .ok (.iload_n 2, 1) := by decide +kernel
theorem dX7_act_40 : decode cX7_act 40 = .ok (.bipush 8, 2) := by decide +kernel
theorem dX7_act_42 : decode cX7_act 42 = .ok (.if_icmp .eq 15, 3) := by decide +kernel
theorem dX7_act_45 : decode cX7_act 45 = .ok (.iload_n 2, 1) := by decide +kernel
theorem dX7_act_46 : decode cX7_act 46 = .ok (.bipush 9, 2) := by decide +kernel
theorem dX7_act_48 : decode cX7_act 48 = .ok (.if_icmp .eq 9, 3) := by decide +kernel
theorem dX7_act_51 : decode cX7_act 51 = .ok (.iload_n 2, 1) := by decide +kernel
theorem dX7_act_52 : decode cX7_act 52 = .ok (.bipush 11, 2) := by decide +kernel
theorem dX7_act_54 : decode cX7_act 54 = .ok (.if_icmp .ne 13, 3) := by decide +kernel
theorem dX7_act_57 : decode cX7_act 57 = .ok (.iload_n 3, 1) := by decide +kernel
theorem dX7_act_58 : decode cX7_act 58 = .ok (.iconst 4, 1) := by decide +kernel
theorem dX7_act_59 : decode cX7_act 59 = .ok (.invokestatic 146, 3) := by decide +kernel
theorem dX7_act_62 : decode cX7_act 62 = .ok (.ifCond .eq 5, 3) := by decide +kernel
theorem dX7_act_65 : decode cX7_act 65 = .ok (.iconst (-1), 1) := by decide +kernel
theorem dX7_act_66 : decode cX7_act 66 = .ok (.ireturn, 1) := by decide +kernel
theorem dX7_act_67 : decode cX7_act 67 = .ok (.aload_n 0, 1) := by decide +kernel
theorem dX7_act_68 : decode cX7_act 68 = .ok (.getfield 16, 3) := by decide +kernel
theorem dX7_act_71 : decode cX7_act 71 = .ok (.iload_n 1, 1) := by decide +kernel
theorem dX7_act_72 : decode cX7_act 72 = .ok (.iaload, 1) := by decide +kernel
theorem dX7_act_73 : decode cX7_act 73 = .ok (.istore 4, 2) := by decide +kernel
theorem dX7_act_75 : decode cX7_act 75 = .ok (.iload 4, 2) := by decide +kernel
theorem dX7_act_77 : decode cX7_act 77 = .ok (.bipush 6, 2) := by decide +kernel
theorem dX7_act_79 : decode cX7_act 79 = .ok (.if_icmp .ne 6, 3) := by decide +kernel
theorem dX7_act_82 : decode cX7_act 82 = .ok (.bipush (-2), 2) := by decide +kernel
theorem dX7_act_84 : decode cX7_act 84 = .ok (.ireturn, 1) := by decide +kernel
theorem dX7_act_85 : decode cX7_act 85 = .ok (.aload_n 0, 1) := by decide +kernel
theorem dX7_act_86 : decode cX7_act 86 = .ok (.getfield 7, 3) := by decide +kernel
theorem dX7_act_89 : decode cX7_act 89 = .ok (.bipush 6, 2) := by decide +kernel
theorem dX7_act_91 : decode cX7_act 91 = .ok (.iload_n 1, 1) := by decide +kernel
theorem dX7_act_92 : decode cX7_act 92 = .ok (.imul, 1) := by decide +kernel
theorem dX7_act_93 : decode cX7_act 93 = .ok (.iload 4, 2) := by decide +kernel
theorem dX7_act_95 : decode cX7_act 95 = .ok (.iadd, 1) := by decide +kernel
theorem dX7_act_96 : decode cX7_act 96 = .ok (.iload_n 2, 1) := by decide +kernel
theorem dX7_act_97 : decode cX7_act 97 = .ok (.iastore, 1) := by decide +kernel
theorem dX7_act_98 : decode cX7_act 98 = .ok (.aload_n 0, 1) := by decide +kernel
theorem dX7_act_99 : decode cX7_act 99 = .ok (.getfield 13, 3) := by decide +kernel
theorem dX7_act_102 : decode cX7_act 102 = .ok (.bipush 6, 2) := by decide +kernel
theorem dX7_act_104 : decode cX7_act 104 = .ok (.iload_n 1, 1) := by decide +kernel
theorem dX7_act_105 : decode cX7_act 105 = .ok (.imul, 1) := by decide +kernel
theorem dX7_act_106 : decode cX7_act 106 = .ok (.iload 4, 2) := by decide +kernel
theorem dX7_act_108 : decode cX7_act 108 = .ok (.iadd, 1) := by decide +kernel
theorem dX7_act_109 : decode cX7_act 109 = .ok (.iload_n 3, 1) := by decide +kernel
theorem dX7_act_110 : decode cX7_act 110 = .ok (.iastore, 1) := by decide +kernel
theorem dX7_act_111 : decode cX7_act 111 = .ok (.aload_n 0, 1) := by decide +kernel
theorem dX7_act_112 : decode cX7_act 112 = .ok (.getfield 16, 3) := by decide +kernel
theorem dX7_act_115 : decode cX7_act 115 = .ok (.iload_n 1, 1) := by decide +kernel
theorem dX7_act_116 : decode cX7_act 116 = .ok (.dup2, 1) := by decide +kernel
theorem dX7_act_117 : decode cX7_act 117 = .ok (.iaload, 1) := by decide +kernel
theorem dX7_act_118 : decode cX7_act 118 = .ok (.iconst 1, 1) := by decide +kernel
theorem dX7_act_119 : decode cX7_act 119 = .ok (.iadd, 1) := by decide +kernel
theorem dX7_act_120 : decode cX7_act 120 = .ok (.iastore, 1) := by decide +kernel
theorem dX7_act_121 : decode cX7_act 121 = .ok (.aload_n 0, 1) := by decide +kernel
theorem dX7_act_122 : decode cX7_act 122 = .ok (.invokevirtual 73, 3) := by decide +kernel
theorem dX7_act_125 : decode cX7_act 125 = .ok (.pop, 1) := by decide +kernel
theorem dX7_act_126 : decode cX7_act 126 = .ok (.aload_n 0, 1) := by decide +kernel
theorem dX7_act_127 : decode cX7_act 127 = .ok (.invokevirtual 149, 3) := by decide +kernel
theorem dX7_act_130 : decode cX7_act 130 = .ok (.iload 4, 2) := by decide +kernel
theorem dX7_act_132 : decode cX7_act 132 = .ok (.iconst 1, 1) := by decide +kernel
theorem dX7_act_133 : decode cX7_act 133 = .ok (.iadd, 1) := by decide +kernel
theorem dX7_act_134 : decode cX7_act 134 = .ok (.ireturn, 1) := by decide +kernel
theorem dX7_forget_0 : decode cX7_forget 0 = .ok (.aload_n 0, 1) := by decide +kernel
theorem dX7_forget_1 : decode cX7_forget 1 = .ok (.aload_n 0, 1) := by decide +kernel
theorem dX7_forget_2 : decode cX7_forget 2 = .ok (.aload_n 0, 1) := by decide +kernel
theorem dX7_forget_3 : decode cX7_forget 3 = .ok (.aload_n 0, 1) := by decide +kernel
theorem dX7_forget_4 : decode cX7_forget 4 = .ok (.aload_n 0, 1) := by decide +kernel
theorem dX7_forget_5 : decode cX7_forget 5 = .ok (.iconst 0, 1) := by decide +kernel
theorem dX7_forget_6 : decode cX7_forget 6 = .ok (.dup_x1, 1) := by decide +kernel
theorem dX7_forget_7 : decode cX7_forget 7 = .ok (.putfield 152, 3) := by decide +kernel
theorem dX7_forget_10 : decode cX7_forget 10 = .ok (.dup_x1, 1) := by decide +kernel
theorem dX7_forget_11 : decode cX7_forget 11 = .ok (.putfield 156, 3) := by decide +kernel
theorem dX7_forget_14 : decode cX7_forget 14 = .ok (.dup_x1, 1) := by decide +kernel
theorem dX7_forget_15 : decode cX7_forget 15 = .ok (.putfield 159, 3) := by decide +kernel
theorem dX7_forget_18 : decode cX7_forget 18 = .ok (.dup_x1, 1) := by decide +kernel
theorem dX7_forget_19 : decode cX7_forget 19 = .ok (.putfield 162, 3) := by decide +kernel
theorem dX7_forget_22 : decode cX7_forget 22 = .ok (.putfield 165, 3) := by decide +kernel
theorem dX7_forget_25 : decode cX7_forget 25 = .ok (.iconst 0, 1) := by decide +kernel
theorem dX7_forget_26 : decode cX7_forget 26 = .ok (.istore_n 1, 1) := by decide +kernel
theorem dX7_forget_27 : decode cX7_forget 27 = .ok (.iload_n 1, 1) := by decide +kernel
theorem dX7_forget_28 : decode cX7_forget 28 = .ok (.iconst 4, 1) := by decide +kernel
theorem dX7_forget_29 : decode cX7_forget 29 = .ok (.if_icmp .ge 16, 3) := by decide +kernel
theorem dX7_forget_32 : decode cX7_forget 32 = .ok (.aload_n 0, 1) := by decide +kernel
theorem dX7_forget_33 : decode cX7_forget 33 = .ok (.getfield 66, 3) := by decide +kernel
theorem dX7_forget_36 : decode cX7_forget 36 = .ok (.iload_n 1, 1) := by decide +kernel
theorem dX7_forget_37 : decode cX7_forget 37 = .ok (.iconst 0, 1) := by decide +kernel
theorem dX7_forget_38 : decode cX7_forget 38 = .ok (.bastore, 1) := by decide +kernel
theorem dX7_forget_39 : decode cX7_forget 39 = .ok (.iinc 1 1, 3) := by decide +kernel
theorem dX7_forget_42 : decode cX7_forget 42 = .ok (.goto (-15), 3) := by decide +kernel
theorem dX7_forget_45 : decode cX7_forget 45 = .ok (.return_, 1) := by decide +kernel
theorem dX7_choose_0 : decode cX7_choose 0 = .ok (.iload_n 1, 1) := by decide +kernel
theorem dX7_choose_1 : decode cX7_choose 1 = .ok (.iconst 4, 1) := by decide +kernel
theorem dX7_choose_2 : decode cX7_choose 2 = .ok (.invokestatic 146, 3) := by decide +kernel
theorem dX7_choose_5 : decode cX7_choose 5 = .ok (.ifCond .ne 11, 3) := by decide +kernel
theorem dX7_choose_8 : decode cX7_choose 8 = .ok (.iload_n 2, 1) := by decide +kernel
theorem dX7_choose_9 : decode cX7_choose 9 = .ok (.iconst 4, 1) := by decide +kernel
theorem dX7_choose_10 : decode cX7_choose 10 = .ok (.invokestatic 146, 3) := by decide +kernel
theorem dX7_choose_13 : decode cX7_choose 13 = .ok (.ifCond .eq 5, 3) := by decide +kernel
theorem dX7_choose_16 : decode cX7_choose 16 = .ok (.iconst (-1), 1) := by decide +kernel
theorem dX7_choose_17 : decode cX7_choose 17 = .ok (.ireturn, 1) := by decide +kernel
theorem dX7_choose_18 : decode cX7_choose 18 = .ok (.aload_n 0, 1) := by decide +kernel
theorem dX7_choose_19 : decode cX7_choose 19 = .ok (.aload_n 0, 1) := by decide +kernel
theorem dX7_choose_20 : decode cX7_choose 20 = .ok (.getfield 57, 3) := by decide +kernel
theorem dX7_choose_23 : decode cX7_choose 23 = .ok (.iconst 0, 1) := by decide +kernel
theorem dX7_choose_24 : decode cX7_choose 24 = .ok (.invokevirtual 168, 3) := by decide +kernel
theorem dX7_choose_27 : decode cX7_choose 27 = .ok (.aload_n 0, 1) := by decide +kernel
theorem dX7_choose_28 : decode cX7_choose 28 = .ok (.iload_n 1, 1) := by decide +kernel
theorem dX7_choose_29 : decode cX7_choose 29 = .ok (.iload_n 2, 1) := by decide +kernel
theorem dX7_choose_30 : decode cX7_choose 30 = .ok (.invokevirtual 172, 3) := by decide +kernel
theorem dX7_choose_33 : decode cX7_choose 33 = .ok (.ifCond .ne 5, 3) := by decide +kernel
theorem dX7_choose_36 : decode cX7_choose 36 = .ok (.iconst 0, 1) := by decide +kernel
theorem dX7_choose_37 : decode cX7_choose 37 = .ok (.ireturn, 1) := by decide +kernel
theorem dX7_choose_38 : decode cX7_choose 38 = .ok (.aload_n 0, 1) := by decide +kernel
theorem dX7_choose_39 : decode cX7_choose 39 = .ok (.iload_n 1, 1) := by decide +kernel
theorem dX7_choose_40 : decode cX7_choose 40 = .ok (.iload_n 2, 1) := by decide +kernel
theorem dX7_choose_41 : decode cX7_choose 41 = .ok (.invokevirtual 175, 3) := by decide +kernel
theorem dX7_choose_44 : decode cX7_choose 44 = .ok (.aload_n 0, 1) := by decide +kernel
theorem dX7_choose_45 : decode cX7_choose 45 = .ok (.aload_n 0, 1) := by decide +kernel
theorem dX7_choose_46 : decode cX7_choose 46 = .ok (.getfield 57, 3) := by decide +kernel
theorem dX7_choose_49 : decode cX7_choose 49 = .ok (.iconst 0, 1) := by decide +kernel
theorem dX7_choose_50 : decode cX7_choose 50 = .ok (.invokevirtual 178, 3) := by decide +kernel
theorem dX7_choose_53 : decode cX7_choose 53 = .ok (.aload_n 0, 1) := by decide +kernel
theorem dX7_choose_54 : decode cX7_choose 54 = .ok (.dup, 1) := by decide +kernel
theorem dX7_choose_55 : decode cX7_choose 55 = .ok (.getfield 181, 3) := by decide +kernel
theorem dX7_choose_58 : decode cX7_choose 58 = .ok (.iconst 1, 1) := by decide +kernel
theorem dX7_choose_59 : decode cX7_choose 59 = .ok (.iadd, 1) := by decide +kernel
theorem dX7_choose_60 : decode cX7_choose 60 = .ok (.putfield 181, 3) := by decide +kernel
theorem dX7_choose_63 : decode cX7_choose 63 = .ok (.iconst 1, 1) := by decide +kernel
theorem dX7_choose_64 : decode cX7_choose 64 = .ok (.ireturn, 1) := by decide +kernel
theorem dX7_allowed_0 : decode cX7_allowed 0 = .ok (.aload_n 0, 1) := by decide +kernel
theorem dX7_allowed_1 : decode cX7_allowed 1 = .ok (.aload_n 0, 1) := by decide +kernel
theorem dX7_allowed_2 : decode cX7_allowed 2 = .ok (.getfield 57, 3) := by decide +kernel
theorem dX7_allowed_5 : decode cX7_allowed 5 = .ok (.iconst 0, 1) := by decide +kernel
theorem dX7_allowed_6 : decode cX7_allowed 6 = .ok (.invokevirtual 168, 3) := by decide +kernel
theorem dX7_allowed_9 : decode cX7_allowed 9 = .ok (.iload_n 1, 1) := by decide +kernel
theorem dX7_allowed_10 : decode cX7_allowed 10 = .ok (.iconst 4, 1) := by decide +kernel
theorem dX7_allowed_11 : decode cX7_allowed 11 = .ok (.invokestatic 146, 3) := by decide +kernel
theorem dX7_allowed_14 : decode cX7_allowed 14 = .ok (.ifCond .ne 24, 3) := by decide +kernel
theorem dX7_allowed_17 : decode cX7_allowed 17 = .ok (.iload_n 2, 1) := by decide +kernel
theorem dX7_allowed_18 : decode cX7_allowed 18 = .ok (.iconst 4, 1) := by decide +kernel
theorem dX7_allowed_19 : decode cX7_allowed 19 = .ok (.invokestatic 146, 3) := by decide +kernel
theorem dX7_allowed_22 : decode cX7_allowed 22 = .ok (.ifCond .ne 16, 3) := by decide +kernel
theorem dX7_allowed_25 : decode cX7_allowed 25 = .ok (.aload_n 0, 1) := by decide +kernel
theorem dX7_allowed_26 : decode cX7_allowed 26 = .ok (.iload_n 1, 1) := by decide +kernel
theorem dX7_allowed_27 : decode cX7_allowed 27 = .ok (.iload_n 2, 1) := by decide +kernel
theorem dX7_allowed_28 : decode cX7_allowed 28 = .ok (.invokevirtual 172, 3) := by decide +kernel
theorem dX7_allowed_31 : decode cX7_allowed 31 = .ok (.ifCond .eq 7, 3) := by decide +kernel
theorem dX7_allowed_34 : decode cX7_allowed 34 = .ok (.iconst 1, 1) := by decide +kernel
theorem dX7_allowed_35 : decode cX7_allowed 35 = .ok (.goto 4, 3) := by decide +kernel
theorem dX7_allowed_38 : decode cX7_allowed 38 = .ok (.iconst 0, 1) := by decide +kernel
theorem dX7_allowed_39 : decode cX7_allowed 39 = .ok (.ireturn, 1) := by decide +kernel
theorem dX7_reset_0 : decode cX7_reset 0 = .ok (.aload_n 0, 1) := by decide +kernel
theorem dX7_reset_1 : decode cX7_reset 1 = .ok (.getfield 181, 3) := by decide +kernel
theorem dX7_reset_4 : decode cX7_reset 4 = .ok (.istore_n 1, 1) := by decide +kernel
theorem dX7_reset_5 : decode cX7_reset 5 = .ok (.aload_n 0, 1) := by decide +kernel
theorem dX7_reset_6 : decode cX7_reset 6 = .ok (.iconst 0, 1) := by decide +kernel
theorem dX7_reset_7 : decode cX7_reset 7 = .ok (.putfield 181, 3) := by decide +kernel
theorem dX7_reset_10 : decode cX7_reset 10 = .ok (.aload_n 0, 1) := by decide +kernel
theorem dX7_reset_11 : decode cX7_reset 11 = .ok (.invokevirtual 184, 3) := by decide +kernel
theorem dX7_reset_14 : decode cX7_reset 14 = .ok (.aload_n 0, 1) := by decide +kernel
theorem dX7_reset_15 : decode cX7_reset 15 = .ok (.aload_n 0, 1) := by decide +kernel
theorem dX7_reset_16 : decode cX7_reset 16 = .ok (.getfield 57, 3) := by decide +kernel
theorem dX7_reset_19 : decode cX7_reset 19 = .ok (.iconst 0, 1) := by decide +kernel
theorem dX7_reset_20 : decode cX7_reset 20 = .ok (.invokevirtual 178, 3) := by decide +kernel
theorem dX7_reset_23 : decode cX7_reset 23 = .ok (.iload_n 1, 1) := by decide +kernel
theorem dX7_reset_24 : decode cX7_reset 24 = .ok (.ireturn, 1) := by decide +kernel
theorem dX7_state_0 : decode cX7_state 0 = .ok (.iload_n 1, 1) := by decide +kernel
theorem dX7_state_1 : decode cX7_state 1 = .ok (.iconst 4, 1) := by decide +kernel
theorem dX7_state_2 : decode cX7_state 2 = .ok (.invokestatic 146, 3) := by decide +kernel
theorem dX7_state_5 : decode cX7_state 5 = .ok (.ifCond .eq 5, 3) := by decide +kernel
theorem dX7_state_8 : decode cX7_state 8 = .ok (.iconst (-1), 1) := by decide +kernel
theorem dX7_state_9 : decode cX7_state 9 = .ok (.ireturn, 1) := by decide +kernel
theorem dX7_state_10 : decode cX7_state 10 = .ok (.aload_n 0, 1) := by decide +kernel
theorem dX7_state_11 : decode cX7_state 11 = .ok (.aload_n 0, 1) := by decide +kernel
theorem dX7_state_12 : decode cX7_state 12 = .ok (.getfield 57, 3) := by decide +kernel
theorem dX7_state_15 : decode cX7_state 15 = .ok (.iconst 0, 1) := by decide +kernel
theorem dX7_state_16 : decode cX7_state 16 = .ok (.invokevirtual 168, 3) := by decide +kernel
theorem dX7_state_19 : decode cX7_state 19 = .ok (.aload_n 0, 1) := by decide +kernel
theorem dX7_state_20 : decode cX7_state 20 = .ok (.getfield 22, 3) := by decide +kernel
theorem dX7_state_23 : decode cX7_state 23 = .ok (.iload_n 1, 1) := by decide +kernel
theorem dX7_state_24 : decode cX7_state 24 = .ok (.iaload, 1) := by decide +kernel
theorem dX7_state_25 : decode cX7_state 25 = .ok (.aload_n 0, 1) := by decide +kernel
theorem dX7_state_26 : decode cX7_state 26 = .ok (.getfield 35, 3) := by decide +kernel
theorem dX7_state_29 : decode cX7_state 29 = .ok (.iload_n 1, 1) := by decide +kernel
theorem dX7_state_30 : decode cX7_state 30 = .ok (.baload, 1) := by decide +kernel
theorem dX7_state_31 : decode cX7_state 31 = .ok (.ifCond .eq 8, 3) := by decide +kernel
theorem dX7_state_34 : decode cX7_state 34 = .ok (.bipush 8, 2) := by decide +kernel
theorem dX7_state_36 : decode cX7_state 36 = .ok (.goto 4, 3) := by decide +kernel
theorem dX7_state_39 : decode cX7_state 39 = .ok (.iconst 0, 1) := by decide +kernel
theorem dX7_state_40 : decode cX7_state 40 = .ok (.iadd, 1) := by decide +kernel
theorem dX7_state_41 : decode cX7_state 41 = .ok (.aload_n 0, 1) := by decide +kernel
theorem dX7_state_42 : decode cX7_state 42 = .ok (.getfield 39, 3) := by decide +kernel
theorem dX7_state_45 : decode cX7_state 45 = .ok (.iload_n 1, 1) := by decide +kernel
theorem dX7_state_46 : decode cX7_state 46 = .ok (.baload, 1) := by decide +kernel
theorem dX7_state_47 : decode cX7_state 47 = .ok (.ifCond .eq 8, 3) := by decide +kernel
theorem dX7_state_50 : decode cX7_state 50 = .ok (.bipush 16, 2) := by decide +kernel
theorem dX7_state_52 : decode cX7_state 52 = .ok (.goto 4, 3) := by decide +kernel
theorem dX7_state_55 : decode cX7_state 55 = .ok (.iconst 0, 1) := by decide +kernel
theorem dX7_state_56 : decode cX7_state 56 = .ok (.iadd, 1) := by decide +kernel
theorem dX7_state_57 : decode cX7_state 57 = .ok (.ireturn, 1) := by decide +kernel
theorem dX7_letter_0 : decode cX7_letter 0 = .ok (.iload_n 1, 1) := by decide +kernel
theorem dX7_letter_1 : decode cX7_letter 1 = .ok (.iconst 4, 1) := by decide +kernel
theorem dX7_letter_2 : decode cX7_letter 2 = .ok (.invokestatic 146, 3) := by decide +kernel
theorem dX7_letter_5 : decode cX7_letter 5 = .ok (.ifCond .eq 5, 3) := by decide +kernel
theorem dX7_letter_8 : decode cX7_letter 8 = .ok (.iconst (-1), 1) := by decide +kernel
theorem dX7_letter_9 : decode cX7_letter 9 = .ok (.ireturn, 1) := by decide +kernel
theorem dX7_letter_10 : decode cX7_letter 10 = .ok (.aload_n 0, 1) := by decide +kernel
theorem dX7_letter_11 : decode cX7_letter 11 = .ok (.aload_n 0, 1) := by decide +kernel
theorem dX7_letter_12 : decode cX7_letter 12 = .ok (.getfield 57, 3) := by decide +kernel
theorem dX7_letter_15 : decode cX7_letter 15 = .ok (.iconst 0, 1) := by decide +kernel
theorem dX7_letter_16 : decode cX7_letter 16 = .ok (.invokevirtual 168, 3) := by decide +kernel
theorem dX7_letter_19 : decode cX7_letter 19 = .ok (.iload_n 2, 1) := by decide +kernel
theorem dX7_letter_20 : decode cX7_letter 20 = .ok (.aload_n 0, 1) := by decide +kernel
theorem dX7_letter_21 : decode cX7_letter 21 = .ok (.getfield 28, 3) := by decide +kernel
theorem dX7_letter_24 : decode cX7_letter 24 = .ok (.iload_n 1, 1) := by decide +kernel
theorem dX7_letter_25 : decode cX7_letter 25 = .ok (.iaload, 1) := by decide +kernel
theorem dX7_letter_26 : decode cX7_letter 26 = .ok (.invokestatic 146, 3) := by decide +kernel
theorem dX7_letter_29 : decode cX7_letter 29 = .ok (.ifCond .eq 5, 3) := by decide +kernel
theorem dX7_letter_32 : decode cX7_letter 32 = .ok (.iconst (-1), 1) := by decide +kernel
theorem dX7_letter_33 : decode cX7_letter 33 = .ok (.ireturn, 1) := by decide +kernel
theorem dX7_letter_34 : decode cX7_letter 34 = .ok (.aload_n 0, 1) := by decide +kernel
theorem dX7_letter_35 : decode cX7_letter 35 = .ok (.getfield 31, 3) := by decide +kernel
theorem dX7_letter_38 : decode cX7_letter 38 = .ok (.iload_n 1, 1) := by decide +kernel
theorem dX7_letter_39 : decode cX7_letter 39 = .ok (.laload, 1) := by decide +kernel
theorem dX7_letter_40 : decode cX7_letter 40 = .ok (.lstore_n 3, 1) := by decide +kernel
theorem dX7_letter_41 : decode cX7_letter 41 = .ok (.iload_n 2, 1) := by decide +kernel
theorem dX7_letter_42 : decode cX7_letter 42 = .ok (.iconst 1, 1) := by decide +kernel
theorem dX7_letter_43 : decode cX7_letter 43 = .ok (.iadd, 1) := by decide +kernel
theorem dX7_letter_44 : decode cX7_letter 44 = .ok (.istore 5, 2) := by decide +kernel
theorem dX7_letter_46 : decode cX7_letter 46 = .ok (.iload 5, 2) := by decide +kernel
theorem dX7_letter_48 : decode cX7_letter 48 = .ok (.aload_n 0, 1) := by decide +kernel
theorem dX7_letter_49 : decode cX7_letter 49 = .ok (.getfield 28, 3) := by decide +kernel
theorem dX7_letter_52 : decode cX7_letter 52 = .ok (.iload_n 1, 1) := by decide +kernel
theorem dX7_letter_53 : decode cX7_letter 53 = .ok (.iaload, 1) := by decide +kernel
theorem dX7_letter_54 : decode cX7_letter 54 = .ok (.if_icmp .ge 15, 3) := by decide +kernel
theorem dX7_letter_57 : decode cX7_letter 57 = .ok (.lload_n 3, 1) := by decide +kernel
theorem dX7_letter_58 : decode cX7_letter 58 = .ok (.ldc2_w 109, 3) := by decide +kernel
theorem dX7_letter_61 : decode cX7_letter 61 = .ok (.ldiv, 1) := by decide +kernel
theorem dX7_letter_62 : decode cX7_letter 62 = .ok (.lstore_n 3, 1) := by decide +kernel
theorem dX7_letter_63 : decode cX7_letter 63 = .ok (.iinc 5 1, 3) := by decide +kernel
theorem dX7_letter_66 : decode cX7_letter 66 = .ok (.goto (-20), 3) := by decide +kernel
theorem dX7_letter_69 : decode cX7_letter 69 = .ok (.lload_n 3, 1) := by decide +kernel
theorem dX7_letter_70 : decode cX7_letter 70 = .ok (.ldc2_w 109, 3) := by decide +kernel
theorem dX7_letter_73 : decode cX7_letter 73 = .ok (.lrem, 1) := by decide +kernel
theorem dX7_letter_74 : decode cX7_letter 74 = .ok (.l2i, 1) := by decide +kernel
theorem dX7_letter_75 : decode cX7_letter 75 = .ok (.ireturn, 1) := by decide +kernel
theorem dX7_owner_0 : decode cX7_owner 0 = .ok (.aload_n 0, 1) := by decide +kernel
theorem dX7_owner_1 : decode cX7_owner 1 = .ok (.aload_n 0, 1) := by decide +kernel
theorem dX7_owner_2 : decode cX7_owner 2 = .ok (.getfield 57, 3) := by decide +kernel
theorem dX7_owner_5 : decode cX7_owner 5 = .ok (.iconst 0, 1) := by decide +kernel
theorem dX7_owner_6 : decode cX7_owner 6 = .ok (.invokevirtual 168, 3) := by decide +kernel
theorem dX7_owner_9 : decode cX7_owner 9 = .ok (.iload_n 1, 1) := by decide +kernel
theorem dX7_owner_10 : decode cX7_owner 10 = .ok (.iconst 2, 1) := by decide +kernel
theorem dX7_owner_11 : decode cX7_owner 11 = .ok (.invokestatic 146, 3) := by decide +kernel
theorem dX7_owner_14 : decode cX7_owner 14 = .ok (.ifCond .eq 7, 3) := by decide +kernel
theorem dX7_owner_17 : decode cX7_owner 17 = .ok (.iconst (-1), 1) := by decide +kernel
theorem dX7_owner_18 : decode cX7_owner 18 = .ok (.goto 9, 3) := by decide +kernel
theorem dX7_owner_21 : decode cX7_owner 21 = .ok (.aload_n 0, 1) := by decide +kernel
theorem dX7_owner_22 : decode cX7_owner 22 = .ok (.getfield 45, 3) := by decide +kernel
theorem dX7_owner_25 : decode cX7_owner 25 = .ok (.iload_n 1, 1) := by decide +kernel
theorem dX7_owner_26 : decode cX7_owner 26 = .ok (.iaload, 1) := by decide +kernel
theorem dX7_owner_27 : decode cX7_owner 27 = .ok (.ireturn, 1) := by decide +kernel
theorem dX7_held_0 : decode cX7_held 0 = .ok (.aload_n 0, 1) := by decide +kernel
theorem dX7_held_1 : decode cX7_held 1 = .ok (.aload_n 0, 1) := by decide +kernel
theorem dX7_held_2 : decode cX7_held 2 = .ok (.getfield 57, 3) := by decide +kernel
theorem dX7_held_5 : decode cX7_held 5 = .ok (.iconst 0, 1) := by decide +kernel
theorem dX7_held_6 : decode cX7_held 6 = .ok (.invokevirtual 168, 3) := by decide +kernel
theorem dX7_held_9 : decode cX7_held 9 = .ok (.iload_n 1, 1) := by decide +kernel
theorem dX7_held_10 : decode cX7_held 10 = .ok (.iconst 2, 1) := by decide +kernel
theorem dX7_held_11 : decode cX7_held 11 = .ok (.invokestatic 146, 3) := by decide +kernel
theorem dX7_held_14 : decode cX7_held 14 = .ok (.ifCond .eq 7, 3) := by decide +kernel
theorem dX7_held_17 : decode cX7_held 17 = .ok (.iconst 0, 1) := by decide +kernel
theorem dX7_held_18 : decode cX7_held 18 = .ok (.goto 9, 3) := by decide +kernel
theorem dX7_held_21 : decode cX7_held 21 = .ok (.aload_n 0, 1) := by decide +kernel
theorem dX7_held_22 : decode cX7_held 22 = .ok (.getfield 48, 3) := by decide +kernel
theorem dX7_held_25 : decode cX7_held 25 = .ok (.iload_n 1, 1) := by decide +kernel
theorem dX7_held_26 : decode cX7_held 26 = .ok (.iaload, 1) := by decide +kernel
theorem dX7_held_27 : decode cX7_held 27 = .ok (.ireturn, 1) := by decide +kernel
theorem dX7_inSet_0 : decode cX7_inSet 0 = .ok (.aload_n 0, 1) := by decide +kernel
theorem dX7_inSet_1 : decode cX7_inSet 1 = .ok (.aload_n 0, 1) := by decide +kernel
theorem dX7_inSet_2 : decode cX7_inSet 2 = .ok (.getfield 57, 3) := by decide +kernel
theorem dX7_inSet_5 : decode cX7_inSet 5 = .ok (.iconst 0, 1) := by decide +kernel
theorem dX7_inSet_6 : decode cX7_inSet 6 = .ok (.invokevirtual 168, 3) := by decide +kernel
theorem dX7_inSet_9 : decode cX7_inSet 9 = .ok (.iload_n 1, 1) := by decide +kernel
theorem dX7_inSet_10 : decode cX7_inSet 10 = .ok (.iconst 2, 1) := by decide +kernel
theorem dX7_inSet_11 : decode cX7_inSet 11 = .ok (.invokestatic 146, 3) := by decide +kernel
theorem dX7_inSet_14 : decode cX7_inSet 14 = .ok (.ifCond .ne 16, 3) := by decide +kernel
theorem dX7_inSet_17 : decode cX7_inSet 17 = .ok (.iload_n 2, 1) := by decide +kernel
theorem dX7_inSet_18 : decode cX7_inSet 18 = .ok (.aload_n 0, 1) := by decide +kernel
theorem dX7_inSet_19 : decode cX7_inSet 19 = .ok (.getfield 51, 3) := by decide +kernel
theorem dX7_inSet_22 : decode cX7_inSet 22 = .ok (.iload_n 1, 1) := by decide +kernel
theorem dX7_inSet_23 : decode cX7_inSet 23 = .ok (.iaload, 1) := by decide +kernel
theorem dX7_inSet_24 : decode cX7_inSet 24 = .ok (.invokestatic 146, 3) := by decide +kernel
theorem dX7_inSet_27 : decode cX7_inSet 27 = .ok (.ifCond .eq 7, 3) := by decide +kernel
theorem dX7_inSet_30 : decode cX7_inSet 30 = .ok (.iconst (-1), 1) := by decide +kernel
theorem dX7_inSet_31 : decode cX7_inSet 31 = .ok (.goto 13, 3) := by decide +kernel
theorem dX7_inSet_34 : decode cX7_inSet 34 = .ok (.aload_n 0, 1) := by decide +kernel
theorem dX7_inSet_35 : decode cX7_inSet 35 = .ok (.getfield 54, 3) := by decide +kernel
theorem dX7_inSet_38 : decode cX7_inSet 38 = .ok (.iconst 4, 1) := by decide +kernel
theorem dX7_inSet_39 : decode cX7_inSet 39 = .ok (.iload_n 1, 1) := by decide +kernel
theorem dX7_inSet_40 : decode cX7_inSet 40 = .ok (.imul, 1) := by decide +kernel
theorem dX7_inSet_41 : decode cX7_inSet 41 = .ok (.iload_n 2, 1) := by decide +kernel
theorem dX7_inSet_42 : decode cX7_inSet 42 = .ok (.iadd, 1) := by decide +kernel
theorem dX7_inSet_43 : decode cX7_inSet 43 = .ok (.iaload, 1) := by decide +kernel
theorem dX7_inSet_44 : decode cX7_inSet 44 = .ok (.ireturn, 1) := by decide +kernel
theorem dX7_meet_0 : decode cX7_meet 0 = .ok (.iconst 5, 1) := by decide +kernel
theorem dX7_meet_1 : decode cX7_meet 1 = .ok (.aload_n 0, 1) := by decide +kernel
theorem dX7_meet_2 : decode cX7_meet 2 = .ok (.getfield 165, 3) := by decide +kernel
theorem dX7_meet_5 : decode cX7_meet 5 = .ok (.imul, 1) := by decide +kernel
theorem dX7_meet_6 : decode cX7_meet 6 = .ok (.istore_n 1, 1) := by decide +kernel
theorem dX7_meet_7 : decode cX7_meet 7 = .ok (.aload_n 0, 1) := by decide +kernel
theorem dX7_meet_8 : decode cX7_meet 8 = .ok (.getfield 165, 3) := by decide +kernel
theorem dX7_meet_11 : decode cX7_meet 11 = .ok (.sipush 3000, 3) := by decide +kernel
theorem dX7_meet_14 : decode cX7_meet 14 = .ok (.if_icmp .le 4, 3) := by decide +kernel
theorem dX7_meet_17 : decode cX7_meet 17 = .ok (.return_, 1) := by decide +kernel
theorem dX7_meet_18 : decode cX7_meet 18 = .ok (.aload_n 0, 1) := by decide +kernel
theorem dX7_meet_19 : decode cX7_meet 19 = .ok (.aload_n 0, 1) := by decide +kernel
theorem dX7_meet_20 : decode cX7_meet 20 = .ok (.getfield 60, 3) := by decide +kernel
theorem dX7_meet_23 : decode cX7_meet 23 = .ok (.iload_n 1, 1) := by decide +kernel
theorem dX7_meet_24 : decode cX7_meet 24 = .ok (.invokevirtual 178, 3) := by decide +kernel
theorem dX7_meet_27 : decode cX7_meet 27 = .ok (.iconst 0, 1) := by decide +kernel
theorem dX7_meet_28 : decode cX7_meet 28 = .ok (.istore_n 2, 1) := by decide +kernel
theorem dX7_meet_29 : decode cX7_meet 29 = .ok (.iload_n 2, 1) := by decide +kernel
theorem dX7_meet_30 : decode cX7_meet 30 = .ok (.iload_n 1, 1) := by decide +kernel
theorem dX7_meet_31 : decode cX7_meet 31 = .ok (.if_icmp .ge 116, 3) := by decide +kernel
theorem dX7_meet_34 : decode cX7_meet 34 = .ok (.aload_n 0, 1) := by decide +kernel
theorem dX7_meet_35 : decode cX7_meet 35 = .ok (.getfield 60, 3) := by decide +kernel
theorem dX7_meet_38 : decode cX7_meet 38 = .ok (.iload_n 2, 1) := by decide +kernel
theorem dX7_meet_39 : decode cX7_meet 39 = .ok (.laload, 1) := by decide +kernel
theorem dX7_meet_40 : decode cX7_meet 40 = .ok (.aload_n 0, 1) := by decide +kernel
theorem dX7_meet_41 : decode cX7_meet 41 = .ok (.getfield 60, 3) := by decide +kernel
theorem dX7_meet_44 : decode cX7_meet 44 = .ok (.iload_n 1, 1) := by decide +kernel
theorem dX7_meet_45 : decode cX7_meet 45 = .ok (.laload, 1) := by decide +kernel
theorem dX7_meet_46 : decode cX7_meet 46 = .ok (.lcmp, 1) := by decide +kernel
theorem dX7_meet_47 : decode cX7_meet 47 = .ok (.ifCond .ne 47, 3) := by decide +kernel
theorem dX7_meet_50 : decode cX7_meet 50 = .ok (.aload_n 0, 1) := by decide +kernel
theorem dX7_meet_51 : decode cX7_meet 51 = .ok (.getfield 60, 3) := by decide +kernel
theorem dX7_meet_54 : decode cX7_meet 54 = .ok (.iload_n 2, 1) := by decide +kernel
theorem dX7_meet_55 : decode cX7_meet 55 = .ok (.iconst 1, 1) := by decide +kernel
theorem dX7_meet_56 : decode cX7_meet 56 = .ok (.iadd, 1) := by decide +kernel
theorem dX7_meet_57 : decode cX7_meet 57 = .ok (.laload, 1) := by decide +kernel
theorem dX7_meet_58 : decode cX7_meet 58 = .ok (.aload_n 0, 1) := by decide +kernel
theorem dX7_meet_59 : decode cX7_meet 59 = .ok (.getfield 60, 3) := by decide +kernel
theorem dX7_meet_62 : decode cX7_meet 62 = .ok (.iload_n 1, 1) := by decide +kernel
theorem dX7_meet_63 : decode cX7_meet 63 = .ok (.iconst 1, 1) := by decide +kernel
theorem dX7_meet_64 : decode cX7_meet 64 = .ok (.iadd, 1) := by decide +kernel
theorem dX7_meet_65 : decode cX7_meet 65 = .ok (.laload, 1) := by decide +kernel
theorem dX7_meet_66 : decode cX7_meet 66 = .ok (.lcmp, 1) := by decide +kernel
theorem dX7_meet_67 : decode cX7_meet 67 = .ok (.ifCond .ne 27, 3) := by decide +kernel
theorem dX7_meet_70 : decode cX7_meet 70 = .ok (.aload_n 0, 1) := by decide +kernel
theorem dX7_meet_71 : decode cX7_meet 71 = .ok (.getfield 60, 3) := by decide +kernel
theorem dX7_meet_74 : decode cX7_meet 74 = .ok (.iload_n 2, 1) := by decide +kernel
theorem dX7_meet_75 : decode cX7_meet 75 = .ok (.iconst 2, 1) := by decide +kernel
theorem dX7_meet_76 : decode cX7_meet 76 = .ok (.iadd, 1) := by decide +kernel
theorem dX7_meet_77 : decode cX7_meet 77 = .ok (.laload, 1) := by decide +kernel
theorem dX7_meet_78 : decode cX7_meet 78 = .ok (.aload_n 0, 1) := by decide +kernel
theorem dX7_meet_79 : decode cX7_meet 79 = .ok (.getfield 60, 3) := by decide +kernel
theorem dX7_meet_82 : decode cX7_meet 82 = .ok (.iload_n 1, 1) := by decide +kernel
theorem dX7_meet_83 : decode cX7_meet 83 = .ok (.iconst 2, 1) := by decide +kernel
theorem dX7_meet_84 : decode cX7_meet 84 = .ok (.iadd, 1) := by decide +kernel
theorem dX7_meet_85 : decode cX7_meet 85 = .ok (.laload, 1) := by decide +kernel
theorem dX7_meet_86 : decode cX7_meet 86 = .ok (.lcmp, 1) := by decide +kernel
theorem dX7_meet_87 : decode cX7_meet 87 = .ok (.ifCond .ne 7, 3) := by decide +kernel
theorem dX7_meet_90 : decode cX7_meet 90 = .ok (.iconst 1, 1) := by decide +kernel
theorem dX7_meet_91 : decode cX7_meet 91 = .ok (.goto 4, 3) := by decide +kernel
theorem dX7_meet_94 : decode cX7_meet 94 = .ok (.iconst 0, 1) := by decide +kernel
theorem dX7_meet_95 : decode cX7_meet 95 = .ok (.istore_n 3, 1) := by decide +kernel
theorem dX7_meet_96 : decode cX7_meet 96 = .ok (.iload_n 3, 1) := by decide +kernel
theorem dX7_meet_97 : decode cX7_meet 97 = .ok (.ifCond .eq 44, 3) := by decide +kernel
theorem dX7_meet_100 : decode cX7_meet 100 = .ok (.aload_n 0, 1) := by decide +kernel
theorem dX7_meet_101 : decode cX7_meet 101 = .ok (.getfield 60, 3) := by decide +kernel
theorem dX7_meet_104 : decode cX7_meet 104 = .ok (.iload_n 2, 1) := by decide +kernel
theorem dX7_meet_105 : decode cX7_meet 105 = .ok (.iconst 3, 1) := by decide +kernel
theorem dX7_meet_106 : decode cX7_meet 106 = .ok (.iadd, 1) := by decide +kernel
theorem dX7_meet_107 : decode cX7_meet 107 = .ok (.laload, 1) := by decide +kernel
theorem dX7_meet_108 : decode cX7_meet 108 = .ok (.aload_n 0, 1) := by decide +kernel
theorem dX7_meet_109 : decode cX7_meet 109 = .ok (.getfield 60, 3) := by decide +kernel
theorem dX7_meet_112 : decode cX7_meet 112 = .ok (.iload_n 1, 1) := by decide +kernel
theorem dX7_meet_113 : decode cX7_meet 113 = .ok (.iconst 3, 1) := by decide +kernel
theorem dX7_meet_114 : decode cX7_meet 114 = .ok (.iadd, 1) := by decide +kernel
theorem dX7_meet_115 : decode cX7_meet 115 = .ok (.laload, 1) := by decide +kernel
theorem dX7_meet_116 : decode cX7_meet 116 = .ok (.lcmp, 1) := by decide +kernel
theorem dX7_meet_117 : decode cX7_meet 117 = .ok (.ifCond .ne 24, 3) := by decide +kernel
theorem dX7_meet_120 : decode cX7_meet 120 = .ok (.aload_n 0, 1) := by decide +kernel
theorem dX7_meet_121 : decode cX7_meet 121 = .ok (.getfield 60, 3) := by decide +kernel
theorem dX7_meet_124 : decode cX7_meet 124 = .ok (.iload_n 2, 1) := by decide +kernel
theorem dX7_meet_125 : decode cX7_meet 125 = .ok (.iconst 4, 1) := by decide +kernel
theorem dX7_meet_126 : decode cX7_meet 126 = .ok (.iadd, 1) := by decide +kernel
theorem dX7_meet_127 : decode cX7_meet 127 = .ok (.laload, 1) := by decide +kernel
theorem dX7_meet_128 : decode cX7_meet 128 = .ok (.aload_n 0, 1) := by decide +kernel
theorem dX7_meet_129 : decode cX7_meet 129 = .ok (.getfield 60, 3) := by decide +kernel
theorem dX7_meet_132 : decode cX7_meet 132 = .ok (.iload_n 1, 1) := by decide +kernel
theorem dX7_meet_133 : decode cX7_meet 133 = .ok (.iconst 4, 1) := by decide +kernel
theorem dX7_meet_134 : decode cX7_meet 134 = .ok (.iadd, 1) := by decide +kernel
theorem dX7_meet_135 : decode cX7_meet 135 = .ok (.laload, 1) := by decide +kernel
theorem dX7_meet_136 : decode cX7_meet 136 = .ok (.lcmp, 1) := by decide +kernel
theorem dX7_meet_137 : decode cX7_meet 137 = .ok (.ifCond .ne 4, 3) := by decide +kernel
theorem dX7_meet_140 : decode cX7_meet 140 = .ok (.return_, 1) := by decide +kernel
theorem dX7_meet_141 : decode cX7_meet 141 = .ok (.iinc 2 5, 3) := by decide +kernel
theorem dX7_meet_144 : decode cX7_meet 144 = .ok (.goto (-115), 3) := by decide +kernel
theorem dX7_meet_147 : decode cX7_meet 147 = .ok (.aload_n 0, 1) := by decide +kernel
theorem dX7_meet_148 : decode cX7_meet 148 = .ok (.dup, 1) := by decide +kernel
theorem dX7_meet_149 : decode cX7_meet 149 = .ok (.getfield 165, 3) := by decide +kernel
theorem dX7_meet_152 : decode cX7_meet 152 = .ok (.iconst 1, 1) := by decide +kernel
theorem dX7_meet_153 : decode cX7_meet 153 = .ok (.iadd, 1) := by decide +kernel
theorem dX7_meet_154 : decode cX7_meet 154 = .ok (.putfield 165, 3) := by decide +kernel
theorem dX7_meet_157 : decode cX7_meet 157 = .ok (.return_, 1) := by decide +kernel
theorem dX7_noteFinal_0 : decode cX7_noteFinal 0 = .ok (.aload_n 0, 1) := by decide +kernel
theorem dX7_noteFinal_1 : decode cX7_noteFinal 1 = .ok (.dup, 1) := by decide +kernel
theorem dX7_noteFinal_2 : decode cX7_noteFinal 2 = .ok (.getfield 162, 3) := by decide +kernel
theorem dX7_noteFinal_5 : decode cX7_noteFinal 5 = .ok (.iconst 1, 1) := by decide +kernel
theorem dX7_noteFinal_6 : decode cX7_noteFinal 6 = .ok (.iadd, 1) := by decide +kernel
theorem dX7_noteFinal_7 : decode cX7_noteFinal 7 = .ok (.putfield 162, 3) := by decide +kernel
theorem dX7_noteFinal_10 : decode cX7_noteFinal 10 = .ok (.lconst 0, 1) := by decide +kernel
theorem dX7_noteFinal_11 : decode cX7_noteFinal 11 = .ok (.lstore_n 1, 1) := by decide +kernel
theorem dX7_noteFinal_12 : decode cX7_noteFinal 12 = .ok (.iconst 1, 1) := by decide +kernel
theorem dX7_noteFinal_13 : decode cX7_noteFinal 13 = .ok (.istore_n 3, 1) := by decide +kernel
theorem dX7_noteFinal_14 : decode cX7_noteFinal 14 = .ok (.iconst 0, 1) := by decide +kernel
theorem dX7_noteFinal_15 : decode cX7_noteFinal 15 = .ok (.istore 4, 2) := by decide +kernel
theorem dX7_noteFinal_17 : decode cX7_noteFinal 17 = .ok (.iload 4, 2) := by decide +kernel
theorem dX7_noteFinal_19 : decode cX7_noteFinal 19 = .ok (.iconst 4, 1) := by decide +kernel
theorem dX7_noteFinal_20 : decode cX7_noteFinal 20 = .ok (.if_icmp .ge 114, 3) := by decide +kernel
theorem dX7_noteFinal_23 : decode cX7_noteFinal 23 = .ok (.lconst 1, 1) := by decide +kernel
theorem dX7_noteFinal_24 : decode cX7_noteFinal 24 = .ok (.lstore 5, 2) := by decide +kernel
theorem dX7_noteFinal_26 : decode cX7_noteFinal 26 = .ok (.iconst 0, 1) := by decide +kernel
theorem dX7_noteFinal_27 : decode cX7_noteFinal 27 = .ok (.istore 7, 2) := by decide +kernel
theorem dX7_noteFinal_29 : decode cX7_noteFinal 29 = .ok (.iload 7, 2) := by decide +kernel
theorem dX7_noteFinal_31 : decode cX7_noteFinal 31 = .ok (.aload_n 0, 1) := by decide +kernel
theorem dX7_noteFinal_32 : decode cX7_noteFinal 32 = .ok (.getfield 28, 3) := by decide +kernel
theorem dX7_noteFinal_35 : decode cX7_noteFinal 35 = .ok (.iload 4, 2) := by decide +kernel
theorem dX7_noteFinal_37 : decode cX7_noteFinal 37 = .ok (.iaload, 1) := by decide +kernel
theorem dX7_noteFinal_38 : decode cX7_noteFinal 38 = .ok (.if_icmp .ge 17, 3) := by decide +kernel
theorem dX7_noteFinal_41 : decode cX7_noteFinal 41 = .ok (.lload 5, 2) := by decide +kernel
theorem dX7_noteFinal_43 : decode cX7_noteFinal 43 = .ok (.ldc2_w 109, 3) := by decide +kernel
theorem dX7_noteFinal_46 : decode cX7_noteFinal 46 = .ok (.lmul, 1) := by decide +kernel
theorem dX7_noteFinal_47 : decode cX7_noteFinal 47 = .ok (.lstore 5, 2) := by decide +kernel
theorem dX7_noteFinal_49 : decode cX7_noteFinal 49 = .ok (.iinc 7 1, 3) := by decide +kernel
theorem dX7_noteFinal_52 : decode cX7_noteFinal 52 = .ok (.goto (-23), 3) := by decide +kernel
theorem dX7_noteFinal_55 : decode cX7_noteFinal 55 = .ok (.aload_n 0, 1) := by decide +kernel
theorem dX7_noteFinal_56 : decode cX7_noteFinal 56 = .ok (.getfield 22, 3) := by decide +kernel
theorem dX7_noteFinal_59 : decode cX7_noteFinal 59 = .ok (.iload 4, 2) := by decide +kernel
theorem dX7_noteFinal_61 : decode cX7_noteFinal 61 = .ok (.iaload, 1) := by decide +kernel
theorem dX7_noteFinal_62 : decode cX7_noteFinal 62 = .ok (.iconst 4, 1) := by decide +kernel
theorem dX7_noteFinal_63 : decode cX7_noteFinal 63 = .ok (.if_icmp .ne 7, 3) := by decide +kernel
theorem dX7_noteFinal_66 : decode cX7_noteFinal 66 = .ok (.iconst 1, 1) := by decide +kernel
theorem dX7_noteFinal_67 : decode cX7_noteFinal 67 = .ok (.goto 4, 3) := by decide +kernel
theorem dX7_noteFinal_70 : decode cX7_noteFinal 70 = .ok (.iconst 0, 1) := by decide +kernel
theorem dX7_noteFinal_71 : decode cX7_noteFinal 71 = .ok (.istore 7, 2) := by decide +kernel
theorem dX7_noteFinal_73 : decode cX7_noteFinal 73 = .ok (.iload 7, 2) := by decide +kernel
theorem dX7_noteFinal_75 : decode cX7_noteFinal 75 = .ok (.ifCond .ne 5, 3) := by decide +kernel
theorem dX7_noteFinal_78 : decode cX7_noteFinal 78 = .ok (.iconst 0, 1) := by decide +kernel
theorem dX7_noteFinal_79 : decode cX7_noteFinal 79 = .ok (.istore_n 3, 1) := by decide +kernel
theorem dX7_noteFinal_80 : decode cX7_noteFinal 80 = .ok (.iload 7, 2) := by decide +kernel
theorem dX7_noteFinal_82 : decode cX7_noteFinal 82 = .ok (.ifCond .ne 11, 3) := by decide +kernel
theorem dX7_noteFinal_85 : decode cX7_noteFinal 85 = .ok (.aload_n 0, 1) := by decide +kernel
theorem dX7_noteFinal_86 : decode cX7_noteFinal 86 = .ok (.getfield 66, 3) := by decide +kernel
theorem dX7_noteFinal_89 : decode cX7_noteFinal 89 = .ok (.iload 4, 2) := by decide +kernel
theorem dX7_noteFinal_91 : decode cX7_noteFinal 91 = .ok (.iconst 1, 1) := by decide +kernel
theorem dX7_noteFinal_92 : decode cX7_noteFinal 92 = .ok (.bastore, 1) := by decide +kernel
theorem dX7_noteFinal_93 : decode cX7_noteFinal 93 = .ok (.lload_n 1, 1) := by decide +kernel
theorem dX7_noteFinal_94 : decode cX7_noteFinal 94 = .ok (.ldc2_w 187, 3) := by decide +kernel
theorem dX7_noteFinal_97 : decode cX7_noteFinal 97 = .ok (.lmul, 1) := by decide +kernel
theorem dX7_noteFinal_98 : decode cX7_noteFinal 98 = .ok (.lload 5, 2) := by decide +kernel
theorem dX7_noteFinal_100 : decode cX7_noteFinal 100 = .ok (.aload_n 0, 1) := by decide +kernel
theorem dX7_noteFinal_101 : decode cX7_noteFinal 101 = .ok (.getfield 31, 3) := by decide +kernel
theorem dX7_noteFinal_104 : decode cX7_noteFinal 104 = .ok (.iload 4, 2) := by decide +kernel
theorem dX7_noteFinal_106 : decode cX7_noteFinal 106 = .ok (.laload, 1) := by decide +kernel
theorem dX7_noteFinal_107 : decode cX7_noteFinal 107 = .ok (.ladd, 1) := by decide +kernel
theorem dX7_noteFinal_108 : decode cX7_noteFinal 108 = .ok (.ldc2_w 109, 3) := by decide +kernel
theorem dX7_noteFinal_111 : decode cX7_noteFinal 111 = .ok (.lmul, 1) := by decide +kernel
theorem dX7_noteFinal_112 : decode cX7_noteFinal 112 = .ok (.ladd, 1) := by decide +kernel
theorem dX7_noteFinal_113 : decode cX7_noteFinal 113 = .ok (.iload 7, 2) := by decide +kernel
theorem dX7_noteFinal_115 : decode cX7_noteFinal 115 = .ok (.ifCond .eq 8, 3) := by decide +kernel
theorem dX7_noteFinal_118 : decode cX7_noteFinal 118 = .ok (.bipush 6, 2) := by decide +kernel
theorem dX7_noteFinal_120 : decode cX7_noteFinal 120 = .ok (.goto 5, 3) := by decide +kernel
theorem dX7_noteFinal_123 : decode cX7_noteFinal 123 = .ok (.bipush 7, 2) := by decide +kernel
theorem dX7_noteFinal_125 : decode cX7_noteFinal 125 = .ok (.i2l, 1) := by decide +kernel
theorem dX7_noteFinal_126 : decode cX7_noteFinal 126 = .ok (.ladd, 1) := by decide +kernel
theorem dX7_noteFinal_127 : decode cX7_noteFinal 127 = .ok (.lstore_n 1, 1) := by decide +kernel
theorem dX7_noteFinal_128 : decode cX7_noteFinal 128 = .ok (.iinc 4 1, 3) := by decide +kernel
theorem dX7_noteFinal_131 : decode cX7_noteFinal 131 = .ok (.goto (-114), 3) := by decide +kernel
theorem dX7_noteFinal_134 : decode cX7_noteFinal 134 = .ok (.iload_n 3, 1) := by decide +kernel
theorem dX7_noteFinal_135 : decode cX7_noteFinal 135 = .ok (.ifCond .eq 13, 3) := by decide +kernel
theorem dX7_noteFinal_138 : decode cX7_noteFinal 138 = .ok (.aload_n 0, 1) := by decide +kernel
theorem dX7_noteFinal_139 : decode cX7_noteFinal 139 = .ok (.dup, 1) := by decide +kernel
theorem dX7_noteFinal_140 : decode cX7_noteFinal 140 = .ok (.getfield 159, 3) := by decide +kernel
theorem dX7_noteFinal_143 : decode cX7_noteFinal 143 = .ok (.iconst 1, 1) := by decide +kernel
theorem dX7_noteFinal_144 : decode cX7_noteFinal 144 = .ok (.iadd, 1) := by decide +kernel
theorem dX7_noteFinal_145 : decode cX7_noteFinal 145 = .ok (.putfield 159, 3) := by decide +kernel
theorem dX7_noteFinal_148 : decode cX7_noteFinal 148 = .ok (.iconst 0, 1) := by decide +kernel
theorem dX7_noteFinal_149 : decode cX7_noteFinal 149 = .ok (.istore 4, 2) := by decide +kernel
theorem dX7_noteFinal_151 : decode cX7_noteFinal 151 = .ok (.iload 4, 2) := by decide +kernel
theorem dX7_noteFinal_153 : decode cX7_noteFinal 153 = .ok (.aload_n 0, 1) := by decide +kernel
theorem dX7_noteFinal_154 : decode cX7_noteFinal 154 = .ok (.getfield 152, 3) := by decide +kernel
theorem dX7_noteFinal_157 : decode cX7_noteFinal 157 = .ok (.if_icmp .ge 21, 3) := by decide +kernel
theorem dX7_noteFinal_160 : decode cX7_noteFinal 160 = .ok (.aload_n 0, 1) := by decide +kernel
theorem dX7_noteFinal_161 : decode cX7_noteFinal 161 = .ok (.getfield 63, 3) := by decide +kernel
theorem dX7_noteFinal_164 : decode cX7_noteFinal 164 = .ok (.iload 4, 2) := by decide +kernel
theorem dX7_noteFinal_166 : decode cX7_noteFinal 166 = .ok (.laload, 1) := by decide +kernel
theorem dX7_noteFinal_167 : decode cX7_noteFinal 167 = .ok (.lload_n 1, 1) := by decide +kernel
theorem dX7_noteFinal_168 : decode cX7_noteFinal 168 = .ok (.lcmp, 1) := by decide +kernel
theorem dX7_noteFinal_169 : decode cX7_noteFinal 169 = .ok (.ifCond .ge 9, 3) := by decide +kernel
theorem dX7_noteFinal_172 : decode cX7_noteFinal 172 = .ok (.iinc 4 1, 3) := by decide +kernel
theorem dX7_noteFinal_175 : decode cX7_noteFinal 175 = .ok (.goto (-24), 3) := by decide +kernel
theorem dX7_noteFinal_178 : decode cX7_noteFinal 178 = .ok (.iload 4, 2) := by decide +kernel
theorem dX7_noteFinal_180 : decode cX7_noteFinal 180 = .ok (.aload_n 0, 1) := by decide +kernel
theorem dX7_noteFinal_181 : decode cX7_noteFinal 181 = .ok (.getfield 152, 3) := by decide +kernel
theorem dX7_noteFinal_184 : decode cX7_noteFinal 184 = .ok (.if_icmp .ge 16, 3) := by decide +kernel
theorem dX7_noteFinal_187 : decode cX7_noteFinal 187 = .ok (.aload_n 0, 1) := by decide +kernel
theorem dX7_noteFinal_188 : decode cX7_noteFinal 188 = .ok (.getfield 63, 3) := by decide +kernel
theorem dX7_noteFinal_191 : decode cX7_noteFinal 191 = .ok (.iload 4, 2) := by decide +kernel
theorem dX7_noteFinal_193 : decode cX7_noteFinal 193 = .ok (.laload, 1) := by decide +kernel
theorem dX7_noteFinal_194 : decode cX7_noteFinal 194 = .ok (.lload_n 1, 1) := by decide +kernel
theorem dX7_noteFinal_195 : decode cX7_noteFinal 195 = .ok (.lcmp, 1) := by decide +kernel
theorem dX7_noteFinal_196 : decode cX7_noteFinal 196 = .ok (.ifCond .ne 4, 3) := by decide +kernel
theorem dX7_noteFinal_199 : decode cX7_noteFinal 199 = .ok (.return_, 1) := by decide +kernel
theorem dX7_noteFinal_200 : decode cX7_noteFinal 200 = .ok (.aload_n 0, 1) := by decide +kernel
theorem dX7_noteFinal_201 : decode cX7_noteFinal 201 = .ok (.getfield 152, 3) := by decide +kernel
theorem dX7_noteFinal_204 : decode cX7_noteFinal 204 = .ok (.istore 5, 2) := by decide +kernel
theorem dX7_noteFinal_206 : decode cX7_noteFinal 206 = .ok (.iload 5, 2) := by decide +kernel
theorem dX7_noteFinal_208 : decode cX7_noteFinal 208 = .ok (.iload 4, 2) := by decide +kernel
theorem dX7_noteFinal_210 : decode cX7_noteFinal 210 = .ok (.if_icmp .le 25, 3) := by decide +kernel
theorem dX7_noteFinal_213 : decode cX7_noteFinal 213 = .ok (.aload_n 0, 1) := by decide +kernel
theorem dX7_noteFinal_214 : decode cX7_noteFinal 214 = .ok (.getfield 63, 3) := by decide +kernel
theorem dX7_noteFinal_217 : decode cX7_noteFinal 217 = .ok (.iload 5, 2) := by decide +kernel
theorem dX7_noteFinal_219 : decode cX7_noteFinal 219 = .ok (.aload_n 0, 1) := by decide +kernel
theorem dX7_noteFinal_220 : decode cX7_noteFinal 220 = .ok (.getfield 63, 3) := by decide +kernel
theorem dX7_noteFinal_223 : decode cX7_noteFinal 223 = .ok (.iload 5, 2) := by decide +kernel
theorem dX7_noteFinal_225 : decode cX7_noteFinal 225 = .ok (.iconst 1, 1) := by decide +kernel
theorem dX7_noteFinal_226 : decode cX7_noteFinal 226 = .ok (.isub, 1) := by decide +kernel
theorem dX7_noteFinal_227 : decode cX7_noteFinal 227 = .ok (.laload, 1) := by decide +kernel
theorem dX7_noteFinal_228 : decode cX7_noteFinal 228 = .ok (.lastore, 1) := by decide +kernel
theorem dX7_noteFinal_229 : decode cX7_noteFinal 229 = .ok (.iinc 5 (-1), 3) := by decide +kernel
theorem dX7_noteFinal_232 : decode cX7_noteFinal 232 = .ok (.goto (-26), 3) := by decide +kernel
theorem dX7_noteFinal_235 : decode cX7_noteFinal 235 = .ok (.aload_n 0, 1) := by decide +kernel
theorem dX7_noteFinal_236 : decode cX7_noteFinal 236 = .ok (.getfield 63, 3) := by decide +kernel
theorem dX7_noteFinal_239 : decode cX7_noteFinal 239 = .ok (.iload 4, 2) := by decide +kernel
theorem dX7_noteFinal_241 : decode cX7_noteFinal 241 = .ok (.lload_n 1, 1) := by decide +kernel
theorem dX7_noteFinal_242 : decode cX7_noteFinal 242 = .ok (.lastore, 1) := by decide +kernel
theorem dX7_noteFinal_243 : decode cX7_noteFinal 243 = .ok (.aload_n 0, 1) := by decide +kernel
theorem dX7_noteFinal_244 : decode cX7_noteFinal 244 = .ok (.dup, 1) := by decide +kernel
theorem dX7_noteFinal_245 : decode cX7_noteFinal 245 = .ok (.getfield 152, 3) := by decide +kernel
theorem dX7_noteFinal_248 : decode cX7_noteFinal 248 = .ok (.iconst 1, 1) := by decide +kernel
theorem dX7_noteFinal_249 : decode cX7_noteFinal 249 = .ok (.iadd, 1) := by decide +kernel
theorem dX7_noteFinal_250 : decode cX7_noteFinal 250 = .ok (.putfield 152, 3) := by decide +kernel
theorem dX7_noteFinal_253 : decode cX7_noteFinal 253 = .ok (.return_, 1) := by decide +kernel
theorem dX7_goOn_0 : decode cX7_goOn 0 = .ok (.iconst 0, 1) := by decide +kernel
theorem dX7_goOn_1 : decode cX7_goOn 1 = .ok (.istore_n 2, 1) := by decide +kernel
theorem dX7_goOn_2 : decode cX7_goOn 2 = .ok (.iconst 0, 1) := by decide +kernel
theorem dX7_goOn_3 : decode cX7_goOn 3 = .ok (.istore_n 3, 1) := by decide +kernel
theorem dX7_goOn_4 : decode cX7_goOn 4 = .ok (.iload_n 3, 1) := by decide +kernel
theorem dX7_goOn_5 : decode cX7_goOn 5 = .ok (.bipush 16, 2) := by decide +kernel
theorem dX7_goOn_7 : decode cX7_goOn 7 = .ok (.if_icmp .ge 53, 3) := by decide +kernel
theorem dX7_goOn_10 : decode cX7_goOn 10 = .ok (.aload_n 0, 1) := by decide +kernel
theorem dX7_goOn_11 : decode cX7_goOn 11 = .ok (.aload_n 0, 1) := by decide +kernel
theorem dX7_goOn_12 : decode cX7_goOn 12 = .ok (.getfield 60, 3) := by decide +kernel
theorem dX7_goOn_15 : decode cX7_goOn 15 = .ok (.iconst 5, 1) := by decide +kernel
theorem dX7_goOn_16 : decode cX7_goOn 16 = .ok (.iload_n 1, 1) := by decide +kernel
theorem dX7_goOn_17 : decode cX7_goOn 17 = .ok (.imul, 1) := by decide +kernel
theorem dX7_goOn_18 : decode cX7_goOn 18 = .ok (.invokevirtual 168, 3) := by decide +kernel
theorem dX7_goOn_21 : decode cX7_goOn 21 = .ok (.aload_n 0, 1) := by decide +kernel
theorem dX7_goOn_22 : decode cX7_goOn 22 = .ok (.iload_n 3, 1) := by decide +kernel
theorem dX7_goOn_23 : decode cX7_goOn 23 = .ok (.iconst 4, 1) := by decide +kernel
theorem dX7_goOn_24 : decode cX7_goOn 24 = .ok (.idiv, 1) := by decide +kernel
theorem dX7_goOn_25 : decode cX7_goOn 25 = .ok (.iload_n 3, 1) := by decide +kernel
theorem dX7_goOn_26 : decode cX7_goOn 26 = .ok (.iconst 4, 1) := by decide +kernel
theorem dX7_goOn_27 : decode cX7_goOn 27 = .ok (.irem, 1) := by decide +kernel
theorem dX7_goOn_28 : decode cX7_goOn 28 = .ok (.invokevirtual 172, 3) := by decide +kernel
theorem dX7_goOn_31 : decode cX7_goOn 31 = .ok (.ifCond .ne 6, 3) := by decide +kernel
theorem dX7_goOn_34 : decode cX7_goOn 34 = .ok (.goto 20, 3) := by decide +kernel
theorem dX7_goOn_37 : decode cX7_goOn 37 = .ok (.iinc 2 1, 3) := by decide +kernel
theorem dX7_goOn_40 : decode cX7_goOn 40 = .ok (.aload_n 0, 1) := by decide +kernel
theorem dX7_goOn_41 : decode cX7_goOn 41 = .ok (.iload_n 3, 1) := by decide +kernel
theorem dX7_goOn_42 : decode cX7_goOn 42 = .ok (.iconst 4, 1) := by decide +kernel
theorem dX7_goOn_43 : decode cX7_goOn 43 = .ok (.idiv, 1) := by decide +kernel
theorem dX7_goOn_44 : decode cX7_goOn 44 = .ok (.iload_n 3, 1) := by decide +kernel
theorem dX7_goOn_45 : decode cX7_goOn 45 = .ok (.iconst 4, 1) := by decide +kernel
theorem dX7_goOn_46 : decode cX7_goOn 46 = .ok (.irem, 1) := by decide +kernel
theorem dX7_goOn_47 : decode cX7_goOn 47 = .ok (.invokevirtual 175, 3) := by decide +kernel
theorem dX7_goOn_50 : decode cX7_goOn 50 = .ok (.aload_n 0, 1) := by decide +kernel
theorem dX7_goOn_51 : decode cX7_goOn 51 = .ok (.invokevirtual 189, 3) := by decide +kernel
theorem dX7_goOn_54 : decode cX7_goOn 54 = .ok (.iinc 3 1, 3) := by decide +kernel
theorem dX7_goOn_57 : decode cX7_goOn 57 = .ok (.goto (-53), 3) := by decide +kernel
theorem dX7_goOn_60 : decode cX7_goOn 60 = .ok (.aload_n 0, 1) := by decide +kernel
theorem dX7_goOn_61 : decode cX7_goOn 61 = .ok (.aload_n 0, 1) := by decide +kernel
theorem dX7_goOn_62 : decode cX7_goOn 62 = .ok (.getfield 60, 3) := by decide +kernel
theorem dX7_goOn_65 : decode cX7_goOn 65 = .ok (.iconst 5, 1) := by decide +kernel
theorem dX7_goOn_66 : decode cX7_goOn 66 = .ok (.iload_n 1, 1) := by decide +kernel
theorem dX7_goOn_67 : decode cX7_goOn 67 = .ok (.imul, 1) := by decide +kernel
theorem dX7_goOn_68 : decode cX7_goOn 68 = .ok (.invokevirtual 168, 3) := by decide +kernel
theorem dX7_goOn_71 : decode cX7_goOn 71 = .ok (.iload_n 2, 1) := by decide +kernel
theorem dX7_goOn_72 : decode cX7_goOn 72 = .ok (.ifCond .ne 7, 3) := by decide +kernel
theorem dX7_goOn_75 : decode cX7_goOn 75 = .ok (.aload_n 0, 1) := by decide +kernel
theorem dX7_goOn_76 : decode cX7_goOn 76 = .ok (.invokevirtual 192, 3) := by decide +kernel
theorem dX7_goOn_79 : decode cX7_goOn 79 = .ok (.iload_n 2, 1) := by decide +kernel
theorem dX7_goOn_80 : decode cX7_goOn 80 = .ok (.aload_n 0, 1) := by decide +kernel
theorem dX7_goOn_81 : decode cX7_goOn 81 = .ok (.getfield 156, 3) := by decide +kernel
theorem dX7_goOn_84 : decode cX7_goOn 84 = .ok (.if_icmp .le 8, 3) := by decide +kernel
theorem dX7_goOn_87 : decode cX7_goOn 87 = .ok (.aload_n 0, 1) := by decide +kernel
theorem dX7_goOn_88 : decode cX7_goOn 88 = .ok (.iload_n 2, 1) := by decide +kernel
theorem dX7_goOn_89 : decode cX7_goOn 89 = .ok (.putfield 156, 3) := by decide +kernel
theorem dX7_goOn_92 : decode cX7_goOn 92 = .ok (.return_, 1) := by decide +kernel
theorem dX7_explore_0 : decode cX7_explore 0 = .ok (.aload_n 0, 1) := by decide +kernel
theorem dX7_explore_1 : decode cX7_explore 1 = .ok (.invokevirtual 149, 3) := by decide +kernel
theorem dX7_explore_4 : decode cX7_explore 4 = .ok (.aload_n 0, 1) := by decide +kernel
theorem dX7_explore_5 : decode cX7_explore 5 = .ok (.invokevirtual 184, 3) := by decide +kernel
theorem dX7_explore_8 : decode cX7_explore 8 = .ok (.aload_n 0, 1) := by decide +kernel
theorem dX7_explore_9 : decode cX7_explore 9 = .ok (.invokevirtual 189, 3) := by decide +kernel
theorem dX7_explore_12 : decode cX7_explore 12 = .ok (.iconst 0, 1) := by decide +kernel
theorem dX7_explore_13 : decode cX7_explore 13 = .ok (.istore_n 1, 1) := by decide +kernel
theorem dX7_explore_14 : decode cX7_explore 14 = .ok (.iload_n 1, 1) := by decide +kernel
theorem dX7_explore_15 : decode cX7_explore 15 = .ok (.aload_n 0, 1) := by decide +kernel
theorem dX7_explore_16 : decode cX7_explore 16 = .ok (.getfield 165, 3) := by decide +kernel
theorem dX7_explore_19 : decode cX7_explore 19 = .ok (.if_icmp .ge 24, 3) := by decide +kernel
theorem dX7_explore_22 : decode cX7_explore 22 = .ok (.aload_n 0, 1) := by decide +kernel
theorem dX7_explore_23 : decode cX7_explore 23 = .ok (.getfield 165, 3) := by decide +kernel
theorem dX7_explore_26 : decode cX7_explore 26 = .ok (.sipush 3000, 3) := by decide +kernel
theorem dX7_explore_29 : decode cX7_explore 29 = .ok (.if_icmp .gt 14, 3) := by decide +kernel
theorem dX7_explore_32 : decode cX7_explore 32 = .ok (.aload_n 0, 1) := by decide +kernel
theorem dX7_explore_33 : decode cX7_explore 33 = .ok (.iload_n 1, 1) := by decide +kernel
theorem dX7_explore_34 : decode cX7_explore 34 = .ok (.invokevirtual 195, 3) := by decide +kernel
theorem dX7_explore_37 : decode cX7_explore 37 = .ok (.iinc 1 1, 3) := by decide +kernel
theorem dX7_explore_40 : decode cX7_explore 40 = .ok (.goto (-26), 3) := by decide +kernel
theorem dX7_explore_43 : decode cX7_explore 43 = .ok (.aload_n 0, 1) := by decide +kernel
theorem dX7_explore_44 : decode cX7_explore 44 = .ok (.getfield 165, 3) := by decide +kernel
theorem dX7_explore_47 : decode cX7_explore 47 = .ok (.sipush 3000, 3) := by decide +kernel
theorem dX7_explore_50 : decode cX7_explore 50 = .ok (.if_icmp .gt 8, 3) := by decide +kernel
theorem dX7_explore_53 : decode cX7_explore 53 = .ok (.aload_n 0, 1) := by decide +kernel
theorem dX7_explore_54 : decode cX7_explore 54 = .ok (.getfield 152, 3) := by decide +kernel
theorem dX7_explore_57 : decode cX7_explore 57 = .ok (.ireturn, 1) := by decide +kernel
theorem dX7_explore_58 : decode cX7_explore 58 = .ok (.aload_n 0, 1) := by decide +kernel
theorem dX7_explore_59 : decode cX7_explore 59 = .ok (.invokevirtual 149, 3) := by decide +kernel
theorem dX7_explore_62 : decode cX7_explore 62 = .ok (.bipush (-2), 2) := by decide +kernel
theorem dX7_explore_64 : decode cX7_explore 64 = .ok (.ireturn, 1) := by decide +kernel
theorem dX7_outcome_0 : decode cX7_outcome 0 = .ok (.iload_n 1, 1) := by decide +kernel
theorem dX7_outcome_1 : decode cX7_outcome 1 = .ok (.aload_n 0, 1) := by decide +kernel
theorem dX7_outcome_2 : decode cX7_outcome 2 = .ok (.getfield 152, 3) := by decide +kernel
theorem dX7_outcome_5 : decode cX7_outcome 5 = .ok (.invokestatic 146, 3) := by decide +kernel
theorem dX7_outcome_8 : decode cX7_outcome 8 = .ok (.ifCond .eq 9, 3) := by decide +kernel
theorem dX7_outcome_11 : decode cX7_outcome 11 = .ok (.ldc2_w 198, 3) := by decide +kernel
theorem dX7_outcome_14 : decode cX7_outcome 14 = .ok (.goto 9, 3) := by decide +kernel
theorem dX7_outcome_17 : decode cX7_outcome 17 = .ok (.aload_n 0, 1) := by decide +kernel
theorem dX7_outcome_18 : decode cX7_outcome 18 = .ok (.getfield 63, 3) := by decide +kernel
theorem dX7_outcome_21 : decode cX7_outcome 21 = .ok (.iload_n 1, 1) := by decide +kernel
theorem dX7_outcome_22 : decode cX7_outcome 22 = .ok (.laload, 1) := by decide +kernel
theorem dX7_outcome_23 : decode cX7_outcome 23 = .ok (.lreturn, 1) := by decide +kernel
theorem dX7_mayBlock_0 : decode cX7_mayBlock 0 = .ok (.iload_n 1, 1) := by decide +kernel
theorem dX7_mayBlock_1 : decode cX7_mayBlock 1 = .ok (.iconst 4, 1) := by decide +kernel
theorem dX7_mayBlock_2 : decode cX7_mayBlock 2 = .ok (.invokestatic 146, 3) := by decide +kernel
theorem dX7_mayBlock_5 : decode cX7_mayBlock 5 = .ok (.ifCond .ne 16, 3) := by decide +kernel
theorem dX7_mayBlock_8 : decode cX7_mayBlock 8 = .ok (.aload_n 0, 1) := by decide +kernel
theorem dX7_mayBlock_9 : decode cX7_mayBlock 9 = .ok (.getfield 66, 3) := by decide +kernel
theorem dX7_mayBlock_12 : decode cX7_mayBlock 12 = .ok (.iload_n 1, 1) := by decide +kernel
theorem dX7_mayBlock_13 : decode cX7_mayBlock 13 = .ok (.baload, 1) := by decide +kernel
theorem dX7_mayBlock_14 : decode cX7_mayBlock 14 = .ok (.ifCond .eq 7, 3) := by decide +kernel
theorem dX7_mayBlock_17 : decode cX7_mayBlock 17 = .ok (.iconst 1, 1) := by decide +kernel
theorem dX7_mayBlock_18 : decode cX7_mayBlock 18 = .ok (.goto 4, 3) := by decide +kernel
theorem dX7_mayBlock_21 : decode cX7_mayBlock 21 = .ok (.iconst 0, 1) := by decide +kernel
theorem dX7_mayBlock_22 : decode cX7_mayBlock 22 = .ok (.ireturn, 1) := by decide +kernel
theorem dX7_count_0 : decode cX7_count 0 = .ok (.iload_n 1, 1) := by decide +kernel
theorem dX7_count_1 : decode cX7_count 1 = .ok (.ifCond .ne 10, 3) := by decide +kernel
theorem dX7_count_4 : decode cX7_count 4 = .ok (.aload_n 0, 1) := by decide +kernel
theorem dX7_count_5 : decode cX7_count 5 = .ok (.getfield 181, 3) := by decide +kernel
theorem dX7_count_8 : decode cX7_count 8 = .ok (.goto 52, 3) := by decide +kernel
theorem dX7_count_11 : decode cX7_count 11 = .ok (.iload_n 1, 1) := by decide +kernel
theorem dX7_count_12 : decode cX7_count 12 = .ok (.iconst 1, 1) := by decide +kernel
theorem dX7_count_13 : decode cX7_count 13 = .ok (.if_icmp .ne 10, 3) := by decide +kernel
theorem dX7_count_16 : decode cX7_count 16 = .ok (.aload_n 0, 1) := by decide +kernel
theorem dX7_count_17 : decode cX7_count 17 = .ok (.getfield 165, 3) := by decide +kernel
theorem dX7_count_20 : decode cX7_count 20 = .ok (.goto 40, 3) := by decide +kernel
theorem dX7_count_23 : decode cX7_count 23 = .ok (.iload_n 1, 1) := by decide +kernel
theorem dX7_count_24 : decode cX7_count 24 = .ok (.iconst 2, 1) := by decide +kernel
theorem dX7_count_25 : decode cX7_count 25 = .ok (.if_icmp .ne 10, 3) := by decide +kernel
theorem dX7_count_28 : decode cX7_count 28 = .ok (.aload_n 0, 1) := by decide +kernel
theorem dX7_count_29 : decode cX7_count 29 = .ok (.getfield 162, 3) := by decide +kernel
theorem dX7_count_32 : decode cX7_count 32 = .ok (.goto 28, 3) := by decide +kernel
theorem dX7_count_35 : decode cX7_count 35 = .ok (.iload_n 1, 1) := by decide +kernel
theorem dX7_count_36 : decode cX7_count 36 = .ok (.iconst 3, 1) := by decide +kernel
theorem dX7_count_37 : decode cX7_count 37 = .ok (.if_icmp .ne 10, 3) := by decide +kernel
theorem dX7_count_40 : decode cX7_count 40 = .ok (.aload_n 0, 1) := by decide +kernel
theorem dX7_count_41 : decode cX7_count 41 = .ok (.getfield 159, 3) := by decide +kernel
theorem dX7_count_44 : decode cX7_count 44 = .ok (.goto 16, 3) := by decide +kernel
theorem dX7_count_47 : decode cX7_count 47 = .ok (.iload_n 1, 1) := by decide +kernel
theorem dX7_count_48 : decode cX7_count 48 = .ok (.iconst 4, 1) := by decide +kernel
theorem dX7_count_49 : decode cX7_count 49 = .ok (.if_icmp .ne 10, 3) := by decide +kernel
theorem dX7_count_52 : decode cX7_count 52 = .ok (.aload_n 0, 1) := by decide +kernel
theorem dX7_count_53 : decode cX7_count 53 = .ok (.getfield 156, 3) := by decide +kernel
theorem dX7_count_56 : decode cX7_count 56 = .ok (.goto 4, 3) := by decide +kernel
theorem dX7_count_59 : decode cX7_count 59 = .ok (.iconst (-1), 1) := by decide +kernel
theorem dX7_count_60 : decode cX7_count 60 = .ok (.ireturn, 1) := by decide +kernel
