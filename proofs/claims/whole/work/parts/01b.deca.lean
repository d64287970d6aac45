theorem dX0_init_0 : decode cX0_init 0 = .ok (.aload_n 0, 1) := by decide +kernel
theorem dX0_init_1 : decode cX0_init 1 = .ok (.invokespecial 3, 3) := by decide +kernel
theorem dX0_init_4 : decode cX0_init 4 = .ok (.aload_n 0, 1) := by decide +kernel
theorem dX0_init_5 : decode cX0_init 5 = .ok (.iconst 4, 1) := by decide +kernel
theorem dX0_init_6 : decode cX0_init 6 = .ok (.anewarray 9, 3) := by decide +kernel
theorem dX0_init_9 : decode cX0_init 9 = .ok (.putfield 11, 3) := by decide +kernel
theorem dX0_init_12 : decode cX0_init 12 = .ok (.aload_n 0, 1) := by decide +kernel
theorem dX0_init_13 : decode cX0_init 13 = .ok (.iconst 2, 1) := by decide +kernel
theorem dX0_init_14 : decode cX0_init 14 = .ok (.anewarray 17, 3) := by decide +kernel
theorem dX0_init_17 : decode cX0_init 17 = .ok (.putfield 19, 3) := by decide +kernel
theorem dX0_init_20 : decode cX0_init 20 = .ok (.aload_n 0, 1) := by decide +kernel
theorem dX0_init_21 : decode cX0_init 21 = .ok (.iload_n 2, 1) := by decide +kernel
theorem dX0_init_22 : decode cX0_init 22 = .ok (.putfield 23, 3) := by decide +kernel
theorem dX0_init_25 : decode cX0_init 25 = .ok (.iconst 0, 1) := by decide +kernel
theorem dX0_init_26 : decode cX0_init 26 = .ok (.istore_n 3, 1) := by decide +kernel
theorem dX0_init_27 : decode cX0_init 27 = .ok (.iload_n 3, 1) := by decide +kernel
theorem dX0_init_28 : decode cX0_init 28 = .ok (.iconst 4, 1) := by decide +kernel
theorem dX0_init_29 : decode cX0_init 29 = .ok (.if_icmp .ge 25, 3) := by decide +kernel
theorem dX0_init_32 : decode cX0_init 32 = .ok (.aload_n 0, 1) := by decide +kernel
theorem dX0_init_33 : decode cX0_init 33 = .ok (.getfield 11, 3) := by decide +kernel
theorem dX0_init_36 : decode cX0_init 36 = .ok (.iload_n 3, 1) := by decide +kernel
theorem dX0_init_37 : decode cX0_init 37 = .ok (.new 9, 3) := by decide +kernel
theorem dX0_init_40 : decode cX0_init 40 = .ok (.dup, 1) := by decide +kernel
theorem dX0_init_41 : decode cX0_init 41 = .ok (.aload_n 1, 1) := by decide +kernel
theorem dX0_init_42 : decode cX0_init 42 = .ok (.iload_n 3, 1) := by decide +kernel
theorem dX0_init_43 : decode cX0_init 43 = .ok (.aaload, 1) := by decide +kernel
theorem dX0_init_44 : decode cX0_init 44 = .ok (.invokespecial 27, 3) := by decide +kernel
theorem dX0_init_47 : decode cX0_init 47 = .ok (.aastore, 1) := by decide +kernel
theorem dX0_init_48 : decode cX0_init 48 = .ok (.iinc 3 1, 3) := by decide +kernel
theorem dX0_init_51 : decode cX0_init 51 = .ok (.goto (-24), 3) := by decide +kernel
theorem dX0_init_54 : decode cX0_init 54 = .ok (.iconst 0, 1) := by decide +kernel
theorem dX0_init_55 : decode cX0_init 55 = .ok (.istore_n 3, 1) := by decide +kernel
theorem dX0_init_56 : decode cX0_init 56 = .ok (.iload_n 3, 1) := by decide +kernel
theorem dX0_init_57 : decode cX0_init 57 = .ok (.iconst 2, 1) := by decide +kernel
theorem dX0_init_58 : decode cX0_init 58 = .ok (.if_icmp .ge 22, 3) := by decide +kernel
theorem dX0_init_61 : decode cX0_init 61 = .ok (.aload_n 0, 1) := by decide +kernel
theorem dX0_init_62 : decode cX0_init 62 = .ok (.getfield 19, 3) := by decide +kernel
theorem dX0_init_65 : decode cX0_init 65 = .ok (.iload_n 3, 1) := by decide +kernel
theorem dX0_init_66 : decode cX0_init 66 = .ok (.new 17, 3) := by decide +kernel
theorem dX0_init_69 : decode cX0_init 69 = .ok (.dup, 1) := by decide +kernel
theorem dX0_init_70 : decode cX0_init 70 = .ok (.invokespecial 30, 3) := by decide +kernel
theorem dX0_init_73 : decode cX0_init 73 = .ok (.aastore, 1) := by decide +kernel
theorem dX0_init_74 : decode cX0_init 74 = .ok (.iinc 3 1, 3) := by decide +kernel
theorem dX0_init_77 : decode cX0_init 77 = .ok (.goto (-21), 3) := by decide +kernel
theorem dX0_init_80 : decode cX0_init 80 = .ok (.aload_n 0, 1) := by decide +kernel
theorem dX0_init_81 : decode cX0_init 81 = .ok (.invokevirtual 31, 3) := by decide +kernel
theorem dX0_init_84 : decode cX0_init 84 = .ok (.return_, 1) := by decide +kernel
theorem dX0_begin_0 : decode cX0_begin 0 = .ok (.iconst 0, 1) := by decide +kernel
theorem dX0_begin_1 : decode cX0_begin 1 = .ok (.istore_n 1, 1) := by decide +kernel
theorem dX0_begin_2 : decode cX0_begin 2 = .ok (.iload_n 1, 1) := by decide +kernel
theorem dX0_begin_3 : decode cX0_begin 3 = .ok (.iconst 4, 1) := by decide +kernel
theorem dX0_begin_4 : decode cX0_begin 4 = .ok (.if_icmp .ge 18, 3) := by decide +kernel
theorem dX0_begin_7 : decode cX0_begin 7 = .ok (.aload_n 0, 1) := by decide +kernel
theorem dX0_begin_8 : decode cX0_begin 8 = .ok (.getfield 11, 3) := by decide +kernel
theorem dX0_begin_11 : decode cX0_begin 11 = .ok (.iload_n 1, 1) := by decide +kernel
theorem dX0_begin_12 : decode cX0_begin 12 = .ok (.aaload, 1) := by decide +kernel
theorem dX0_begin_13 : decode cX0_begin 13 = .ok (.invokevirtual 34, 3) := by decide +kernel
theorem dX0_begin_16 : decode cX0_begin 16 = .ok (.iinc 1 1, 3) := by decide +kernel
theorem dX0_begin_19 : decode cX0_begin 19 = .ok (.goto (-17), 3) := by decide +kernel
theorem dX0_begin_22 : decode cX0_begin 22 = .ok (.iconst 0, 1) := by decide +kernel
theorem dX0_begin_23 : decode cX0_begin 23 = .ok (.istore_n 1, 1) := by decide +kernel
theorem dX0_begin_24 : decode cX0_begin 24 = .ok (.iload_n 1, 1) := by decide +kernel
theorem dX0_begin_25 : decode cX0_begin 25 = .ok (.iconst 2, 1) := by decide +kernel
theorem dX0_begin_26 : decode cX0_begin 26 = .ok (.if_icmp .ge 18, 3) := by decide +kernel
theorem dX0_begin_29 : decode cX0_begin 29 = .ok (.aload_n 0, 1) := by decide +kernel
theorem dX0_begin_30 : decode cX0_begin 30 = .ok (.getfield 19, 3) := by decide +kernel
theorem dX0_begin_33 : decode cX0_begin 33 = .ok (.iload_n 1, 1) := by decide +kernel
theorem dX0_begin_34 : decode cX0_begin 34 = .ok (.aaload, 1) := by decide +kernel
theorem dX0_begin_35 : decode cX0_begin 35 = .ok (.invokevirtual 35, 3) := by decide +kernel
theorem dX0_begin_38 : decode cX0_begin 38 = .ok (.iinc 1 1, 3) := by decide +kernel
theorem dX0_begin_41 : decode cX0_begin 41 = .ok (.goto (-17), 3) := by decide +kernel
theorem dX0_begin_44 : decode cX0_begin 44 = .ok (.return_, 1) := by decide +kernel
theorem dX0_allows_0 : decode cX0_allows 0 = .ok (.aload_n 0, 1) := by decide +kernel
theorem dX0_allows_1 : decode cX0_allows 1 = .ok (.getfield 11, 3) := by decide +kernel
theorem dX0_allows_4 : decode cX0_allows 4 = .ok (.iload_n 1, 1) := by decide +kernel
theorem dX0_allows_5 : decode cX0_allows 5 = .ok (.aaload, 1) := by decide +kernel
theorem dX0_allows_6 : decode cX0_allows 6 = .ok (.astore_n 3, 1) := by decide +kernel
theorem dX0_allows_7 : decode cX0_allows 7 = .ok (.aload_n 3, 1) := by decide +kernel
theorem dX0_allows_8 : decode cX0_allows 8 = .ok (.getfield 36, 3) := by decide +kernel
theorem dX0_allows_11 : decode cX0_allows 11 = .ok (.tableswitch 112 0 3 #[29, 53, 60, 81], 29) := by decide +kernel
theorem dX0_allows_40 : decode cX0_allows 40 = .ok (.aload_n 3, 1) := by decide +kernel
theorem dX0_allows_41 : decode cX0_allows 41 = .ok (.invokevirtual 40, 3) := by decide +kernel
theorem dX0_allows_44 : decode cX0_allows 44 = .ok (.iconst 5, 1) := by decide +kernel
theorem dX0_allows_45 : decode cX0_allows 45 = .ok (.if_icmp .gt 12, 3) := by decide +kernel
theorem dX0_allows_48 : decode cX0_allows 48 = .ok (.aload_n 0, 1) := by decide +kernel
theorem dX0_allows_49 : decode cX0_allows 49 = .ok (.iload_n 1, 1) := by decide +kernel
theorem dX0_allows_50 : decode cX0_allows 50 = .ok (.iload_n 2, 1) := by decide +kernel
theorem dX0_allows_51 : decode cX0_allows 51 = .ok (.invokevirtual 44, 3) := by decide +kernel
theorem dX0_allows_54 : decode cX0_allows 54 = .ok (.goto 9, 3) := by decide +kernel
theorem dX0_allows_57 : decode cX0_allows 57 = .ok (.aload_n 0, 1) := by decide +kernel
theorem dX0_allows_58 : decode cX0_allows 58 = .ok (.aload_n 3, 1) := by decide +kernel
theorem dX0_allows_59 : decode cX0_allows 59 = .ok (.iload_n 2, 1) := by decide +kernel
theorem dX0_allows_60 : decode cX0_allows 60 = .ok (.invokevirtual 48, 3) := by decide +kernel
theorem dX0_allows_63 : decode cX0_allows 63 = .ok (.ireturn, 1) := by decide +kernel
theorem dX0_allows_64 : decode cX0_allows 64 = .ok (.aload_n 0, 1) := by decide +kernel
theorem dX0_allows_65 : decode cX0_allows 65 = .ok (.aload_n 3, 1) := by decide +kernel
theorem dX0_allows_66 : decode cX0_allows 66 = .ok (.iload_n 2, 1) := by decide +kernel
theorem dX0_allows_67 : decode cX0_allows 67 = .ok (.invokevirtual 52, 3) := by decide +kernel
theorem dX0_allows_70 : decode cX0_allows 70 = .ok (.ireturn, 1) := by decide +kernel
theorem dX0_allows_71 : decode cX0_allows 71 = .ok (.iload_n 2, 1) := by decide +kernel
theorem dX0_allows_72 : decode cX0_allows 72 = .ok (.ifCond .ne 18, 3) := by decide +kernel
theorem dX0_allows_75 : decode cX0_allows 75 = .ok (.aload_n 0, 1) := by decide +kernel
theorem dX0_allows_76 : decode cX0_allows 76 = .ok (.aload_n 3, 1) := by decide +kernel
theorem dX0_allows_77 : decode cX0_allows 77 = .ok (.invokevirtual 55, 3) := by decide +kernel
theorem dX0_allows_80 : decode cX0_allows 80 = .ok (.invokevirtual 59, 3) := by decide +kernel
theorem dX0_allows_83 : decode cX0_allows 83 = .ok (.ifCond .eq 7, 3) := by decide +kernel
theorem dX0_allows_86 : decode cX0_allows 86 = .ok (.iconst 1, 1) := by decide +kernel
theorem dX0_allows_87 : decode cX0_allows 87 = .ok (.goto 4, 3) := by decide +kernel
theorem dX0_allows_90 : decode cX0_allows 90 = .ok (.iconst 0, 1) := by decide +kernel
theorem dX0_allows_91 : decode cX0_allows 91 = .ok (.ireturn, 1) := by decide +kernel
theorem dX0_allows_92 : decode cX0_allows 92 = .ok (.iload_n 2, 1) := by decide +kernel
theorem dX0_allows_93 : decode cX0_allows 93 = .ok (.iconst 1, 1) := by decide +kernel
theorem dX0_allows_94 : decode cX0_allows 94 = .ok (.if_icmp .ne 10, 3) := by decide +kernel
theorem dX0_allows_97 : decode cX0_allows 97 = .ok (.aload_n 3, 1) := by decide +kernel
theorem dX0_allows_98 : decode cX0_allows 98 = .ok (.getfield 63, 3) := by decide +kernel
theorem dX0_allows_101 : decode cX0_allows 101 = .ok (.goto 21, 3) := by decide +kernel
theorem dX0_allows_104 : decode cX0_allows 104 = .ok (.iload_n 2, 1) := by decide +kernel
theorem dX0_allows_105 : decode cX0_allows 105 = .ok (.iconst 3, 1) := by decide +kernel
theorem dX0_allows_106 : decode cX0_allows 106 = .ok (.if_icmp .ne 15, 3) := by decide +kernel
theorem dX0_allows_109 : decode cX0_allows 109 = .ok (.aload_n 0, 1) := by decide +kernel
theorem dX0_allows_110 : decode cX0_allows 110 = .ok (.aload_n 3, 1) := by decide +kernel
theorem dX0_allows_111 : decode cX0_allows 111 = .ok (.invokevirtual 66, 3) := by decide +kernel
theorem dX0_allows_114 : decode cX0_allows 114 = .ok (.ifCond .eq 7, 3) := by decide +kernel
theorem dX0_allows_117 : decode cX0_allows 117 = .ok (.iconst 1, 1) := by decide +kernel
theorem dX0_allows_118 : decode cX0_allows 118 = .ok (.goto 4, 3) := by decide +kernel
theorem dX0_allows_121 : decode cX0_allows 121 = .ok (.iconst 0, 1) := by decide +kernel
theorem dX0_allows_122 : decode cX0_allows 122 = .ok (.ireturn, 1) := by decide +kernel
theorem dX0_allows_123 : decode cX0_allows 123 = .ok (.iconst 0, 1) := by decide +kernel
theorem dX0_allows_124 : decode cX0_allows 124 = .ok (.ireturn, 1) := by decide +kernel
theorem dX0_monitorUseAllows_0 : decode cX0_monitorUseAllows 0 = .ok (.aload_n 0, 1) := by decide +kernel
theorem dX0_monitorUseAllows_1 : decode cX0_monitorUseAllows 1 = .ok (.getfield 11, 3) := by decide +kernel
theorem dX0_monitorUseAllows_4 : decode cX0_monitorUseAllows 4 = .ok (.iload_n 1, 1) := by decide +kernel
theorem dX0_monitorUseAllows_5 : decode cX0_monitorUseAllows 5 = .ok (.aaload, 1) := by decide +kernel
theorem dX0_monitorUseAllows_6 : decode cX0_monitorUseAllows 6 = .ok (.invokevirtual 40, 3) := by decide +kernel
theorem dX0_monitorUseAllows_9 : decode cX0_monitorUseAllows 9 = .ok (.istore_n 3, 1) := by decide +kernel
theorem dX0_monitorUseAllows_10 : decode cX0_monitorUseAllows 10 = .ok (.aload_n 0, 1) := by decide +kernel
theorem dX0_monitorUseAllows_11 : decode cX0_monitorUseAllows 11 = .ok (.aload_n 0, 1) := by decide +kernel
theorem dX0_monitorUseAllows_12 : decode cX0_monitorUseAllows 12 = .ok (.getfield 11, 3) := by decide +kernel
theorem dX0_monitorUseAllows_15 : decode cX0_monitorUseAllows 15 = .ok (.iload_n 1, 1) := by decide +kernel
theorem dX0_monitorUseAllows_16 : decode cX0_monitorUseAllows 16 = .ok (.aaload, 1) := by decide +kernel
theorem dX0_monitorUseAllows_17 : decode cX0_monitorUseAllows 17 = .ok (.invokevirtual 55, 3) := by decide +kernel
theorem dX0_monitorUseAllows_20 : decode cX0_monitorUseAllows 20 = .ok (.astore 4, 2) := by decide +kernel
theorem dX0_monitorUseAllows_22 : decode cX0_monitorUseAllows 22 = .ok (.aload 4, 2) := by decide +kernel
theorem dX0_monitorUseAllows_24 : decode cX0_monitorUseAllows 24 = .ok (.getfield 70, 3) := by decide +kernel
theorem dX0_monitorUseAllows_27 : decode cX0_monitorUseAllows 27 = .ok (.iload_n 1, 1) := by decide +kernel
theorem dX0_monitorUseAllows_28 : decode cX0_monitorUseAllows 28 = .ok (.if_icmp .ne 7, 3) := by decide +kernel
theorem dX0_monitorUseAllows_31 : decode cX0_monitorUseAllows 31 = .ok (.iconst 1, 1) := by decide +kernel
theorem dX0_monitorUseAllows_32 : decode cX0_monitorUseAllows 32 = .ok (.goto 4, 3) := by decide +kernel
theorem dX0_monitorUseAllows_35 : decode cX0_monitorUseAllows 35 = .ok (.iconst 0, 1) := by decide +kernel
theorem dX0_monitorUseAllows_36 : decode cX0_monitorUseAllows 36 = .ok (.istore 5, 2) := by decide +kernel
theorem dX0_monitorUseAllows_38 : decode cX0_monitorUseAllows 38 = .ok (.iload_n 3, 1) := by decide +kernel
theorem dX0_monitorUseAllows_39 : decode cX0_monitorUseAllows 39 = .ok (.iconst 4, 1) := by decide +kernel
theorem dX0_monitorUseAllows_40 : decode cX0_monitorUseAllows 40 = .ok (.if_icmp .ne 32, 3) := by decide +kernel
theorem dX0_monitorUseAllows_43 : decode cX0_monitorUseAllows 43 = .ok (.iload 5, 2) := by decide +kernel
theorem dX0_monitorUseAllows_45 : decode cX0_monitorUseAllows 45 = .ok (.ifCond .eq 27, 3) := by decide +kernel
theorem dX0_monitorUseAllows_48 : decode cX0_monitorUseAllows 48 = .ok (.aload 4, 2) := by decide +kernel
theorem dX0_monitorUseAllows_50 : decode cX0_monitorUseAllows 50 = .ok (.getfield 73, 3) := by decide +kernel
theorem dX0_monitorUseAllows_53 : decode cX0_monitorUseAllows 53 = .ok (.ifCond .le 19, 3) := by decide +kernel
theorem dX0_monitorUseAllows_56 : decode cX0_monitorUseAllows 56 = .ok (.iload_n 2, 1) := by decide +kernel
theorem dX0_monitorUseAllows_57 : decode cX0_monitorUseAllows 57 = .ok (.iconst 1, 1) := by decide +kernel
theorem dX0_monitorUseAllows_58 : decode cX0_monitorUseAllows 58 = .ok (.if_icmp .eq 8, 3) := by decide +kernel
theorem dX0_monitorUseAllows_61 : decode cX0_monitorUseAllows 61 = .ok (.iload_n 2, 1) := by decide +kernel
theorem dX0_monitorUseAllows_62 : decode cX0_monitorUseAllows 62 = .ok (.iconst 2, 1) := by decide +kernel
theorem dX0_monitorUseAllows_63 : decode cX0_monitorUseAllows 63 = .ok (.if_icmp .ne 7, 3) := by decide +kernel
theorem dX0_monitorUseAllows_66 : decode cX0_monitorUseAllows 66 = .ok (.iconst 1, 1) := by decide +kernel
theorem dX0_monitorUseAllows_67 : decode cX0_monitorUseAllows 67 = .ok (.goto 4, 3) := by decide +kernel
theorem dX0_monitorUseAllows_70 : decode cX0_monitorUseAllows 70 = .ok (.iconst 0, 1) := by decide +kernel
theorem dX0_monitorUseAllows_71 : decode cX0_monitorUseAllows 71 = .ok (.ireturn, 1) := by decide +kernel
theorem dX0_monitorUseAllows_72 : decode cX0_monitorUseAllows 72 = .ok (.iload_n 2, 1) := by decide +kernel
theorem dX0_monitorUseAllows_73 : decode cX0_monitorUseAllows 73 = .ok (.ifCond .ne 24, 3) := by decide +kernel
theorem dX0_monitorUseAllows_76 : decode cX0_monitorUseAllows 76 = .ok (.iload_n 3, 1) := by decide +kernel
theorem dX0_monitorUseAllows_77 : decode cX0_monitorUseAllows 77 = .ok (.ifCond .ne 16, 3) := by decide +kernel
theorem dX0_monitorUseAllows_80 : decode cX0_monitorUseAllows 80 = .ok (.iload 5, 2) := by decide +kernel
theorem dX0_monitorUseAllows_82 : decode cX0_monitorUseAllows 82 = .ok (.ifCond .ne 11, 3) := by decide +kernel
theorem dX0_monitorUseAllows_85 : decode cX0_monitorUseAllows 85 = .ok (.aload 4, 2) := by decide +kernel
theorem dX0_monitorUseAllows_87 : decode cX0_monitorUseAllows 87 = .ok (.invokevirtual 59, 3) := by decide +kernel
theorem dX0_monitorUseAllows_90 : decode cX0_monitorUseAllows 90 = .ok (.ifCond .eq 7, 3) := by decide +kernel
theorem dX0_monitorUseAllows_93 : decode cX0_monitorUseAllows 93 = .ok (.iconst 1, 1) := by decide +kernel
theorem dX0_monitorUseAllows_94 : decode cX0_monitorUseAllows 94 = .ok (.goto 4, 3) := by decide +kernel
theorem dX0_monitorUseAllows_97 : decode cX0_monitorUseAllows 97 = .ok (.iconst 0, 1) := by decide +kernel
theorem dX0_monitorUseAllows_98 : decode cX0_monitorUseAllows 98 = .ok (.ireturn, 1) := by decide +kernel
theorem dX0_plainActionAllows_0 : decode cX0_plainActionAllows 0 = .ok (.aload_n 1, 1) := by decide +kernel
theorem dX0_plainActionAllows_1 : decode cX0_plainActionAllows 1 = .ok (.invokevirtual 40, 3) := by decide +kernel
theorem dX0_plainActionAllows_4 : decode cX0_plainActionAllows 4 = .ok (.bipush 9, 2) := by decide +kernel
theorem dX0_plainActionAllows_6 : decode cX0_plainActionAllows 6 = .ok (.if_icmp .ne 31, 3) := by decide +kernel
theorem dX0_plainActionAllows_9 : decode cX0_plainActionAllows 9 = .ok (.aload_n 1, 1) := by decide +kernel
theorem dX0_plainActionAllows_10 : decode cX0_plainActionAllows 10 = .ok (.getfield 63, 3) := by decide +kernel
theorem dX0_plainActionAllows_13 : decode cX0_plainActionAllows 13 = .ok (.ifCond .ne 24, 3) := by decide +kernel
theorem dX0_plainActionAllows_16 : decode cX0_plainActionAllows 16 = .ok (.iload_n 2, 1) := by decide +kernel
theorem dX0_plainActionAllows_17 : decode cX0_plainActionAllows 17 = .ok (.ifCond .ne 18, 3) := by decide +kernel
theorem dX0_plainActionAllows_20 : decode cX0_plainActionAllows 20 = .ok (.aload_n 0, 1) := by decide +kernel
theorem dX0_plainActionAllows_21 : decode cX0_plainActionAllows 21 = .ok (.aload_n 1, 1) := by decide +kernel
theorem dX0_plainActionAllows_22 : decode cX0_plainActionAllows 22 = .ok (.invokevirtual 76, 3) := by decide +kernel
theorem dX0_plainActionAllows_25 : decode cX0_plainActionAllows 25 = .ok (.invokevirtual 79, 3) := by decide +kernel
theorem dX0_plainActionAllows_28 : decode cX0_plainActionAllows 28 = .ok (.ifCond .eq 7, 3) := by decide +kernel
theorem dX0_plainActionAllows_31 : decode cX0_plainActionAllows 31 = .ok (.iconst 1, 1) := by decide +kernel
theorem dX0_plainActionAllows_32 : decode cX0_plainActionAllows 32 = .ok (.goto 4, 3) := by decide +kernel
theorem dX0_plainActionAllows_35 : decode cX0_plainActionAllows 35 = .ok (.iconst 0, 1) := by decide +kernel
theorem dX0_plainActionAllows_36 : decode cX0_plainActionAllows 36 = .ok (.ireturn, 1) := by decide +kernel
theorem dX0_plainActionAllows_37 : decode cX0_plainActionAllows 37 = .ok (.iload_n 2, 1) := by decide +kernel
theorem dX0_plainActionAllows_38 : decode cX0_plainActionAllows 38 = .ok (.ifCond .ne 7, 3) := by decide +kernel
theorem dX0_plainActionAllows_41 : decode cX0_plainActionAllows 41 = .ok (.iconst 1, 1) := by decide +kernel
theorem dX0_plainActionAllows_42 : decode cX0_plainActionAllows 42 = .ok (.goto 4, 3) := by decide +kernel
theorem dX0_plainActionAllows_45 : decode cX0_plainActionAllows 45 = .ok (.iconst 0, 1) := by decide +kernel
theorem dX0_plainActionAllows_46 : decode cX0_plainActionAllows 46 = .ok (.ireturn, 1) := by decide +kernel
theorem dX0_waitingAllows_0 : decode cX0_waitingAllows 0 = .ok (.iload_n 2, 1) := by decide +kernel
theorem dX0_waitingAllows_1 : decode cX0_waitingAllows 1 = .ok (.tableswitch 52 1 3 #[27, 32, 38], 27) := by decide +kernel
theorem dX0_waitingAllows_28 : decode cX0_waitingAllows 28 = .ok (.aload_n 1, 1) := by decide +kernel
theorem dX0_waitingAllows_29 : decode cX0_waitingAllows 29 = .ok (.getfield 63, 3) := by decide +kernel
theorem dX0_waitingAllows_32 : decode cX0_waitingAllows 32 = .ok (.ireturn, 1) := by decide +kernel
theorem dX0_waitingAllows_33 : decode cX0_waitingAllows 33 = .ok (.aload_n 0, 1) := by decide +kernel
theorem dX0_waitingAllows_34 : decode cX0_waitingAllows 34 = .ok (.aload_n 1, 1) := by decide +kernel
theorem dX0_waitingAllows_35 : decode cX0_waitingAllows 35 = .ok (.invokevirtual 66, 3) := by decide +kernel
theorem dX0_waitingAllows_38 : decode cX0_waitingAllows 38 = .ok (.ireturn, 1) := by decide +kernel
theorem dX0_waitingAllows_39 : decode cX0_waitingAllows 39 = .ok (.aload_n 1, 1) := by decide +kernel
theorem dX0_waitingAllows_40 : decode cX0_waitingAllows 40 = .ok (.invokevirtual 40, 3) := by decide +kernel
theorem dX0_waitingAllows_43 : decode cX0_waitingAllows 43 = .ok (.iconst 3, 1) := by decide +kernel
theorem dX0_waitingAllows_44 : decode cX0_waitingAllows 44 = .ok (.if_icmp .ne 7, 3) := by decide +kernel
theorem dX0_waitingAllows_47 : decode cX0_waitingAllows 47 = .ok (.iconst 1, 1) := by decide +kernel
theorem dX0_waitingAllows_48 : decode cX0_waitingAllows 48 = .ok (.goto 4, 3) := by decide +kernel
theorem dX0_waitingAllows_51 : decode cX0_waitingAllows 51 = .ok (.iconst 0, 1) := by decide +kernel
theorem dX0_waitingAllows_52 : decode cX0_waitingAllows 52 = .ok (.ireturn, 1) := by decide +kernel
theorem dX0_waitingAllows_53 : decode cX0_waitingAllows 53 = .ok (.iconst 0, 1) := by decide +kernel
theorem dX0_waitingAllows_54 : decode cX0_waitingAllows 54 = .ok (.ireturn, 1) := by decide +kernel
theorem dX0_mayStray_0 : decode cX0_mayStray 0 = .ok (.aload_n 0, 1) := by decide +kernel
theorem dX0_mayStray_1 : decode cX0_mayStray 1 = .ok (.getfield 23, 3) := by decide +kernel
theorem dX0_mayStray_4 : decode cX0_mayStray 4 = .ok (.ifCond .eq 14, 3) := by decide +kernel
theorem dX0_mayStray_7 : decode cX0_mayStray 7 = .ok (.aload_n 1, 1) := by decide +kernel
theorem dX0_mayStray_8 : decode cX0_mayStray 8 = .ok (.getfield 83, 3) := by decide +kernel
theorem dX0_mayStray_11 : decode cX0_mayStray 11 = .ok (.ifCond .ne 7, 3) := by decide +kernel
theorem dX0_mayStray_14 : decode cX0_mayStray 14 = .ok (.iconst 1, 1) := by decide +kernel
theorem dX0_mayStray_15 : decode cX0_mayStray 15 = .ok (.goto 4, 3) := by decide +kernel
theorem dX0_mayStray_18 : decode cX0_mayStray 18 = .ok (.iconst 0, 1) := by decide +kernel
theorem dX0_mayStray_19 : decode cX0_mayStray 19 = .ok (.ireturn, 1) := by decide +kernel
theorem dX0_take_0 : decode cX0_take 0 = .ok (.aload_n 0, 1) := by decide +kernel
theorem dX0_take_1 : decode cX0_take 1 = .ok (.getfield 11, 3) := by decide +kernel
theorem dX0_take_4 : decode cX0_take 4 = .ok (.iload_n 1, 1) := by decide +kernel
theorem dX0_take_5 : decode cX0_take 5 = .ok (.aaload, 1) := by decide +kernel
theorem dX0_take_6 : decode cX0_take 6 = .ok (.astore_n 3, 1) := by decide +kernel
theorem dX0_take_7 : decode cX0_take 7 = .ok (.aload_n 3, 1) := by decide +kernel
theorem dX0_take_8 : decode cX0_take 8 = .ok (.getfield 36, 3) := by decide +kernel
theorem dX0_take_11 : decode cX0_take 11 = .ok (.tableswitch 80 0 3 #[29, 54, 63, 71], 29) := by decide +kernel
theorem dX0_take_40 : decode cX0_take 40 = .ok (.aload_n 3, 1) := by decide +kernel
theorem dX0_take_41 : decode cX0_take 41 = .ok (.invokevirtual 40, 3) := by decide +kernel
theorem dX0_take_44 : decode cX0_take 44 = .ok (.iconst 5, 1) := by decide +kernel
theorem dX0_take_45 : decode cX0_take 45 = .ok (.if_icmp .gt 12, 3) := by decide +kernel
theorem dX0_take_48 : decode cX0_take 48 = .ok (.aload_n 0, 1) := by decide +kernel
theorem dX0_take_49 : decode cX0_take 49 = .ok (.iload_n 1, 1) := by decide +kernel
theorem dX0_take_50 : decode cX0_take 50 = .ok (.iload_n 2, 1) := by decide +kernel
theorem dX0_take_51 : decode cX0_take 51 = .ok (.invokevirtual 86, 3) := by decide +kernel
theorem dX0_take_54 : decode cX0_take 54 = .ok (.goto 37, 3) := by decide +kernel
theorem dX0_take_57 : decode cX0_take 57 = .ok (.aload_n 0, 1) := by decide +kernel
theorem dX0_take_58 : decode cX0_take 58 = .ok (.aload_n 3, 1) := by decide +kernel
theorem dX0_take_59 : decode cX0_take 59 = .ok (.invokevirtual 90, 3) := by decide +kernel
theorem dX0_take_62 : decode cX0_take 62 = .ok (.goto 29, 3) := by decide +kernel
theorem dX0_take_65 : decode cX0_take 65 = .ok (.aload_n 0, 1) := by decide +kernel
theorem dX0_take_66 : decode cX0_take 66 = .ok (.iload_n 1, 1) := by decide +kernel
theorem dX0_take_67 : decode cX0_take 67 = .ok (.iload_n 2, 1) := by decide +kernel
theorem dX0_take_68 : decode cX0_take 68 = .ok (.invokevirtual 94, 3) := by decide +kernel
theorem dX0_take_71 : decode cX0_take 71 = .ok (.goto 20, 3) := by decide +kernel
theorem dX0_take_74 : decode cX0_take 74 = .ok (.aload_n 0, 1) := by decide +kernel
theorem dX0_take_75 : decode cX0_take 75 = .ok (.iload_n 1, 1) := by decide +kernel
theorem dX0_take_76 : decode cX0_take 76 = .ok (.invokevirtual 97, 3) := by decide +kernel
theorem dX0_take_79 : decode cX0_take 79 = .ok (.goto 12, 3) := by decide +kernel
theorem dX0_take_82 : decode cX0_take 82 = .ok (.aload_n 0, 1) := by decide +kernel
theorem dX0_take_83 : decode cX0_take 83 = .ok (.aload_n 3, 1) := by decide +kernel
theorem dX0_take_84 : decode cX0_take 84 = .ok (.iload_n 2, 1) := by decide +kernel
theorem dX0_take_85 : decode cX0_take 85 = .ok (.invokevirtual 101, 3) := by decide +kernel
theorem dX0_take_88 : decode cX0_take 88 = .ok (.goto 3, 3) := by decide +kernel
theorem dX0_take_91 : decode cX0_take 91 = .ok (.return_, 1) := by decide +kernel
theorem dX0_useMonitor_0 : decode cX0_useMonitor 0 = .ok (.aload_n 0, 1) := by decide +kernel
theorem dX0_useMonitor_1 : decode cX0_useMonitor 1 = .ok (.getfield 11, 3) := by decide +kernel
theorem dX0_useMonitor_4 : decode cX0_useMonitor 4 = .ok (.iload_n 1, 1) := by decide +kernel
theorem dX0_useMonitor_5 : decode cX0_useMonitor 5 = .ok (.aaload, 1) := by decide +kernel
theorem dX0_useMonitor_6 : decode cX0_useMonitor 6 = .ok (.astore_n 3, 1) := by decide +kernel
theorem dX0_useMonitor_7 : decode cX0_useMonitor 7 = .ok (.aload_n 0, 1) := by decide +kernel
theorem dX0_useMonitor_8 : decode cX0_useMonitor 8 = .ok (.aload_n 3, 1) := by decide +kernel
theorem dX0_useMonitor_9 : decode cX0_useMonitor 9 = .ok (.invokevirtual 55, 3) := by decide +kernel
theorem dX0_useMonitor_12 : decode cX0_useMonitor 12 = .ok (.astore 4, 2) := by decide +kernel
theorem dX0_useMonitor_14 : decode cX0_useMonitor 14 = .ok (.aload_n 3, 1) := by decide +kernel
theorem dX0_useMonitor_15 : decode cX0_useMonitor 15 = .ok (.invokevirtual 40, 3) := by decide +kernel
theorem dX0_useMonitor_18 : decode cX0_useMonitor 18 = .ok (.istore 5, 2) := by decide +kernel
theorem dX0_useMonitor_20 : decode cX0_useMonitor 20 = .ok (.iload 5, 2) := by decide +kernel
theorem dX0_useMonitor_22 : decode cX0_useMonitor 22 = .ok (.ifCond .ne 19, 3) := by decide +kernel
theorem dX0_useMonitor_25 : decode cX0_useMonitor 25 = .ok (.aload 4, 2) := by decide +kernel
theorem dX0_useMonitor_27 : decode cX0_useMonitor 27 = .ok (.iload_n 1, 1) := by decide +kernel
theorem dX0_useMonitor_28 : decode cX0_useMonitor 28 = .ok (.aload 4, 2) := by decide +kernel
theorem dX0_useMonitor_30 : decode cX0_useMonitor 30 = .ok (.getfield 105, 3) := by decide +kernel
theorem dX0_useMonitor_33 : decode cX0_useMonitor 33 = .ok (.iconst 1, 1) := by decide +kernel
theorem dX0_useMonitor_34 : decode cX0_useMonitor 34 = .ok (.iadd, 1) := by decide +kernel
theorem dX0_useMonitor_35 : decode cX0_useMonitor 35 = .ok (.invokevirtual 108, 3) := by decide +kernel
theorem dX0_useMonitor_38 : decode cX0_useMonitor 38 = .ok (.goto 122, 3) := by decide +kernel
theorem dX0_useMonitor_41 : decode cX0_useMonitor 41 = .ok (.aload 4, 2) := by decide +kernel
theorem dX0_useMonitor_43 : decode cX0_useMonitor 43 = .ok (.getfield 70, 3) := by decide +kernel
theorem dX0_useMonitor_46 : decode cX0_useMonitor 46 = .ok (.iload_n 1, 1) := by decide +kernel
theorem dX0_useMonitor_47 : decode cX0_useMonitor 47 = .ok (.if_icmp .eq 11, 3) := by decide +kernel
theorem dX0_useMonitor_50 : decode cX0_useMonitor 50 = .ok (.aload_n 3, 1) := by decide +kernel
theorem dX0_useMonitor_51 : decode cX0_useMonitor 51 = .ok (.iconst 0, 1) := by decide +kernel
theorem dX0_useMonitor_52 : decode cX0_useMonitor 52 = .ok (.invokevirtual 111, 3) := by decide +kernel
theorem dX0_useMonitor_55 : decode cX0_useMonitor 55 = .ok (.goto 105, 3) := by decide +kernel
theorem dX0_useMonitor_58 : decode cX0_useMonitor 58 = .ok (.iload 5, 2) := by decide +kernel
theorem dX0_useMonitor_60 : decode cX0_useMonitor 60 = .ok (.iconst 1, 1) := by decide +kernel
theorem dX0_useMonitor_61 : decode cX0_useMonitor 61 = .ok (.if_icmp .ne 11, 3) := by decide +kernel
theorem dX0_useMonitor_64 : decode cX0_useMonitor 64 = .ok (.aload 4, 2) := by decide +kernel
theorem dX0_useMonitor_66 : decode cX0_useMonitor 66 = .ok (.invokevirtual 114, 3) := by decide +kernel
theorem dX0_useMonitor_69 : decode cX0_useMonitor 69 = .ok (.goto 91, 3) := by decide +kernel
theorem dX0_useMonitor_72 : decode cX0_useMonitor 72 = .ok (.iload 5, 2) := by decide +kernel
theorem dX0_useMonitor_74 : decode cX0_useMonitor 74 = .ok (.iconst 4, 1) := by decide +kernel
theorem dX0_useMonitor_75 : decode cX0_useMonitor 75 = .ok (.if_icmp .ne 28, 3) := by decide +kernel
theorem dX0_useMonitor_78 : decode cX0_useMonitor 78 = .ok (.aload_n 0, 1) := by decide +kernel
theorem dX0_useMonitor_79 : decode cX0_useMonitor 79 = .ok (.aload 4, 2) := by decide +kernel
theorem dX0_useMonitor_81 : decode cX0_useMonitor 81 = .ok (.iload_n 2, 1) := by decide +kernel
theorem dX0_useMonitor_82 : decode cX0_useMonitor 82 = .ok (.iconst 1, 1) := by decide +kernel
theorem dX0_useMonitor_83 : decode cX0_useMonitor 83 = .ok (.if_icmp .ne 7, 3) := by decide +kernel
theorem dX0_useMonitor_86 : decode cX0_useMonitor 86 = .ok (.iconst 0, 1) := by decide +kernel
theorem dX0_useMonitor_87 : decode cX0_useMonitor 87 = .ok (.goto 10, 3) := by decide +kernel
theorem dX0_useMonitor_90 : decode cX0_useMonitor 90 = .ok (.aload 4, 2) := by decide +kernel
theorem dX0_useMonitor_92 : decode cX0_useMonitor 92 = .ok (.getfield 73, 3) := by decide +kernel
theorem dX0_useMonitor_95 : decode cX0_useMonitor 95 = .ok (.iconst 1, 1) := by decide +kernel
theorem dX0_useMonitor_96 : decode cX0_useMonitor 96 = .ok (.isub, 1) := by decide +kernel
theorem dX0_useMonitor_97 : decode cX0_useMonitor 97 = .ok (.invokevirtual 117, 3) := by decide +kernel
theorem dX0_useMonitor_100 : decode cX0_useMonitor 100 = .ok (.goto 60, 3) := by decide +kernel
theorem dX0_useMonitor_103 : decode cX0_useMonitor 103 = .ok (.iload 5, 2) := by decide +kernel
theorem dX0_useMonitor_105 : decode cX0_useMonitor 105 = .ok (.iconst 5, 1) := by decide +kernel
theorem dX0_useMonitor_106 : decode cX0_useMonitor 106 = .ok (.if_icmp .ne 31, 3) := by decide +kernel
theorem dX0_useMonitor_109 : decode cX0_useMonitor 109 = .ok (.aload 4, 2) := by decide +kernel
theorem dX0_useMonitor_111 : decode cX0_useMonitor 111 = .ok (.getfield 73, 3) := by decide +kernel
theorem dX0_useMonitor_114 : decode cX0_useMonitor 114 = .ok (.istore 6, 2) := by decide +kernel
theorem dX0_useMonitor_116 : decode cX0_useMonitor 116 = .ok (.iload 6, 2) := by decide +kernel
theorem dX0_useMonitor_118 : decode cX0_useMonitor 118 = .ok (.ifCond .le 16, 3) := by decide +kernel
theorem dX0_useMonitor_121 : decode cX0_useMonitor 121 = .ok (.aload_n 0, 1) := by decide +kernel
theorem dX0_useMonitor_122 : decode cX0_useMonitor 122 = .ok (.aload 4, 2) := by decide +kernel
theorem dX0_useMonitor_124 : decode cX0_useMonitor 124 = .ok (.iconst 0, 1) := by decide +kernel
theorem dX0_useMonitor_125 : decode cX0_useMonitor 125 = .ok (.invokevirtual 117, 3) := by decide +kernel
theorem dX0_useMonitor_128 : decode cX0_useMonitor 128 = .ok (.iinc 6 (-1), 3) := by decide +kernel
theorem dX0_useMonitor_131 : decode cX0_useMonitor 131 = .ok (.goto (-15), 3) := by decide +kernel
theorem dX0_useMonitor_134 : decode cX0_useMonitor 134 = .ok (.goto 26, 3) := by decide +kernel
theorem dX0_useMonitor_137 : decode cX0_useMonitor 137 = .ok (.aload_n 3, 1) := by decide +kernel
theorem dX0_useMonitor_138 : decode cX0_useMonitor 138 = .ok (.invokevirtual 121, 3) := by decide +kernel
theorem dX0_useMonitor_141 : decode cX0_useMonitor 141 = .ok (.ifCond .eq 11, 3) := by decide +kernel
theorem dX0_useMonitor_144 : decode cX0_useMonitor 144 = .ok (.aload_n 3, 1) := by decide +kernel
theorem dX0_useMonitor_145 : decode cX0_useMonitor 145 = .ok (.iconst 1, 1) := by decide +kernel
theorem dX0_useMonitor_146 : decode cX0_useMonitor 146 = .ok (.invokevirtual 111, 3) := by decide +kernel
theorem dX0_useMonitor_149 : decode cX0_useMonitor 149 = .ok (.goto 11, 3) := by decide +kernel
theorem dX0_useMonitor_152 : decode cX0_useMonitor 152 = .ok (.aload_n 0, 1) := by decide +kernel
theorem dX0_useMonitor_153 : decode cX0_useMonitor 153 = .ok (.iload_n 1, 1) := by decide +kernel
theorem dX0_useMonitor_154 : decode cX0_useMonitor 154 = .ok (.aload 4, 2) := by decide +kernel
theorem dX0_useMonitor_156 : decode cX0_useMonitor 156 = .ok (.invokevirtual 124, 3) := by decide +kernel
theorem dX0_useMonitor_159 : decode cX0_useMonitor 159 = .ok (.return_, 1) := by decide +kernel
theorem dX0_useMonitor_160 : decode cX0_useMonitor 160 = .ok (.aload_n 3, 1) := by decide +kernel
theorem dX0_useMonitor_161 : decode cX0_useMonitor 161 = .ok (.invokevirtual 128, 3) := by decide +kernel
theorem dX0_useMonitor_164 : decode cX0_useMonitor 164 = .ok (.return_, 1) := by decide +kernel
theorem dX0_goIntoSet_0 : decode cX0_goIntoSet 0 = .ok (.aload_n 0, 1) := by decide +kernel
theorem dX0_goIntoSet_1 : decode cX0_goIntoSet 1 = .ok (.getfield 11, 3) := by decide +kernel
theorem dX0_goIntoSet_4 : decode cX0_goIntoSet 4 = .ok (.iload_n 1, 1) := by decide +kernel
theorem dX0_goIntoSet_5 : decode cX0_goIntoSet 5 = .ok (.aaload, 1) := by decide +kernel
theorem dX0_goIntoSet_6 : decode cX0_goIntoSet 6 = .ok (.aload_n 2, 1) := by decide +kernel
theorem dX0_goIntoSet_7 : decode cX0_goIntoSet 7 = .ok (.getfield 105, 3) := by decide +kernel
theorem dX0_goIntoSet_10 : decode cX0_goIntoSet 10 = .ok (.putfield 131, 3) := by decide +kernel
theorem dX0_goIntoSet_13 : decode cX0_goIntoSet 13 = .ok (.aload_n 0, 1) := by decide +kernel
theorem dX0_goIntoSet_14 : decode cX0_goIntoSet 14 = .ok (.getfield 11, 3) := by decide +kernel
theorem dX0_goIntoSet_17 : decode cX0_goIntoSet 17 = .ok (.iload_n 1, 1) := by decide +kernel
theorem dX0_goIntoSet_18 : decode cX0_goIntoSet 18 = .ok (.aaload, 1) := by decide +kernel
theorem dX0_goIntoSet_19 : decode cX0_goIntoSet 19 = .ok (.iconst 1, 1) := by decide +kernel
theorem dX0_goIntoSet_20 : decode cX0_goIntoSet 20 = .ok (.putfield 36, 3) := by decide +kernel
theorem dX0_goIntoSet_23 : decode cX0_goIntoSet 23 = .ok (.aload_n 2, 1) := by decide +kernel
theorem dX0_goIntoSet_24 : decode cX0_goIntoSet 24 = .ok (.invokevirtual 134, 3) := by decide +kernel
theorem dX0_goIntoSet_27 : decode cX0_goIntoSet 27 = .ok (.aload_n 2, 1) := by decide +kernel
theorem dX0_goIntoSet_28 : decode cX0_goIntoSet 28 = .ok (.iload_n 1, 1) := by decide +kernel
theorem dX0_goIntoSet_29 : decode cX0_goIntoSet 29 = .ok (.invokevirtual 137, 3) := by decide +kernel
theorem dX0_goIntoSet_32 : decode cX0_goIntoSet 32 = .ok (.return_, 1) := by decide +kernel
theorem dX0_notifyWaiter_0 : decode cX0_notifyWaiter 0 = .ok (.aload_n 1, 1) := by decide +kernel
theorem dX0_notifyWaiter_1 : decode cX0_notifyWaiter 1 = .ok (.iload_n 2, 1) := by decide +kernel
theorem dX0_notifyWaiter_2 : decode cX0_notifyWaiter 2 = .ok (.invokevirtual 140, 3) := by decide +kernel
theorem dX0_notifyWaiter_5 : decode cX0_notifyWaiter 5 = .ok (.istore_n 3, 1) := by decide +kernel
theorem dX0_notifyWaiter_6 : decode cX0_notifyWaiter 6 = .ok (.iload_n 3, 1) := by decide +kernel
theorem dX0_notifyWaiter_7 : decode cX0_notifyWaiter 7 = .ok (.iconst (-1), 1) := by decide +kernel
theorem dX0_notifyWaiter_8 : decode cX0_notifyWaiter 8 = .ok (.if_icmp .eq 28, 3) := by decide +kernel
theorem dX0_notifyWaiter_11 : decode cX0_notifyWaiter 11 = .ok (.aload_n 1, 1) := by decide +kernel
theorem dX0_notifyWaiter_12 : decode cX0_notifyWaiter 12 = .ok (.iload_n 3, 1) := by decide +kernel
theorem dX0_notifyWaiter_13 : decode cX0_notifyWaiter 13 = .ok (.invokevirtual 144, 3) := by decide +kernel
theorem dX0_notifyWaiter_16 : decode cX0_notifyWaiter 16 = .ok (.aload_n 0, 1) := by decide +kernel
theorem dX0_notifyWaiter_17 : decode cX0_notifyWaiter 17 = .ok (.getfield 11, 3) := by decide +kernel
theorem dX0_notifyWaiter_20 : decode cX0_notifyWaiter 20 = .ok (.iload_n 3, 1) := by decide +kernel
theorem dX0_notifyWaiter_21 : decode cX0_notifyWaiter 21 = .ok (.aaload, 1) := by decide +kernel
theorem dX0_notifyWaiter_22 : decode cX0_notifyWaiter 22 = .ok (.iconst 2, 1) := by decide +kernel
theorem dX0_notifyWaiter_23 : decode cX0_notifyWaiter 23 = .ok (.invokevirtual 111, 3) := by decide +kernel
theorem dX0_notifyWaiter_26 : decode cX0_notifyWaiter 26 = .ok (.aload_n 0, 1) := by decide +kernel
theorem dX0_notifyWaiter_27 : decode cX0_notifyWaiter 27 = .ok (.getfield 11, 3) := by decide +kernel
theorem dX0_notifyWaiter_30 : decode cX0_notifyWaiter 30 = .ok (.iload_n 3, 1) := by decide +kernel
theorem dX0_notifyWaiter_31 : decode cX0_notifyWaiter 31 = .ok (.aaload, 1) := by decide +kernel
theorem dX0_notifyWaiter_32 : decode cX0_notifyWaiter 32 = .ok (.iconst 2, 1) := by decide +kernel
theorem dX0_notifyWaiter_33 : decode cX0_notifyWaiter 33 = .ok (.putfield 36, 3) := by decide +kernel
theorem dX0_notifyWaiter_36 : decode cX0_notifyWaiter 36 = .ok (.return_, 1) := by decide +kernel
theorem dX0_leaveSetAlone_0 : decode cX0_leaveSetAlone 0 = .ok (.aload_n 0, 1) := by decide +kernel
theorem dX0_leaveSetAlone_1 : decode cX0_leaveSetAlone 1 = .ok (.getfield 11, 3) := by decide +kernel
theorem dX0_leaveSetAlone_4 : decode cX0_leaveSetAlone 4 = .ok (.iload_n 1, 1) := by decide +kernel
theorem dX0_leaveSetAlone_5 : decode cX0_leaveSetAlone 5 = .ok (.aaload, 1) := by decide +kernel
theorem dX0_leaveSetAlone_6 : decode cX0_leaveSetAlone 6 = .ok (.astore_n 3, 1) := by decide +kernel
theorem dX0_leaveSetAlone_7 : decode cX0_leaveSetAlone 7 = .ok (.iload_n 2, 1) := by decide +kernel
theorem dX0_leaveSetAlone_8 : decode cX0_leaveSetAlone 8 = .ok (.iconst 1, 1) := by decide +kernel
theorem dX0_leaveSetAlone_9 : decode cX0_leaveSetAlone 9 = .ok (.if_icmp .ne 16, 3) := by decide +kernel
theorem dX0_leaveSetAlone_12 : decode cX0_leaveSetAlone 12 = .ok (.aload_n 3, 1) := by decide +kernel
theorem dX0_leaveSetAlone_13 : decode cX0_leaveSetAlone 13 = .ok (.iconst 0, 1) := by decide +kernel
theorem dX0_leaveSetAlone_14 : decode cX0_leaveSetAlone 14 = .ok (.putfield 63, 3) := by decide +kernel
theorem dX0_leaveSetAlone_17 : decode cX0_leaveSetAlone 17 = .ok (.aload_n 3, 1) := by decide +kernel
theorem dX0_leaveSetAlone_18 : decode cX0_leaveSetAlone 18 = .ok (.iconst 1, 1) := by decide +kernel
theorem dX0_leaveSetAlone_19 : decode cX0_leaveSetAlone 19 = .ok (.invokevirtual 111, 3) := by decide +kernel
theorem dX0_leaveSetAlone_22 : decode cX0_leaveSetAlone 22 = .ok (.goto 21, 3) := by decide +kernel
theorem dX0_leaveSetAlone_25 : decode cX0_leaveSetAlone 25 = .ok (.iload_n 2, 1) := by decide +kernel
theorem dX0_leaveSetAlone_26 : decode cX0_leaveSetAlone 26 = .ok (.iconst 2, 1) := by decide +kernel
theorem dX0_leaveSetAlone_27 : decode cX0_leaveSetAlone 27 = .ok (.if_icmp .ne 11, 3) := by decide +kernel
theorem dX0_leaveSetAlone_30 : decode cX0_leaveSetAlone 30 = .ok (.aload_n 3, 1) := by decide +kernel
theorem dX0_leaveSetAlone_31 : decode cX0_leaveSetAlone 31 = .ok (.iconst 1, 1) := by decide +kernel
theorem dX0_leaveSetAlone_32 : decode cX0_leaveSetAlone 32 = .ok (.putfield 83, 3) := by decide +kernel
theorem dX0_leaveSetAlone_35 : decode cX0_leaveSetAlone 35 = .ok (.goto 8, 3) := by decide +kernel
theorem dX0_leaveSetAlone_38 : decode cX0_leaveSetAlone 38 = .ok (.aload_n 3, 1) := by decide +kernel
theorem dX0_leaveSetAlone_39 : decode cX0_leaveSetAlone 39 = .ok (.iconst 3, 1) := by decide +kernel
theorem dX0_leaveSetAlone_40 : decode cX0_leaveSetAlone 40 = .ok (.invokevirtual 111, 3) := by decide +kernel
theorem dX0_leaveSetAlone_43 : decode cX0_leaveSetAlone 43 = .ok (.aload_n 0, 1) := by decide +kernel
theorem dX0_leaveSetAlone_44 : decode cX0_leaveSetAlone 44 = .ok (.aload_n 3, 1) := by decide +kernel
theorem dX0_leaveSetAlone_45 : decode cX0_leaveSetAlone 45 = .ok (.invokevirtual 55, 3) := by decide +kernel
theorem dX0_leaveSetAlone_48 : decode cX0_leaveSetAlone 48 = .ok (.iload_n 1, 1) := by decide +kernel
theorem dX0_leaveSetAlone_49 : decode cX0_leaveSetAlone 49 = .ok (.invokevirtual 144, 3) := by decide +kernel
theorem dX0_leaveSetAlone_52 : decode cX0_leaveSetAlone 52 = .ok (.aload_n 3, 1) := by decide +kernel
theorem dX0_leaveSetAlone_53 : decode cX0_leaveSetAlone 53 = .ok (.iconst 2, 1) := by decide +kernel
theorem dX0_leaveSetAlone_54 : decode cX0_leaveSetAlone 54 = .ok (.putfield 36, 3) := by decide +kernel
theorem dX0_leaveSetAlone_57 : decode cX0_leaveSetAlone 57 = .ok (.return_, 1) := by decide +kernel
theorem dX0_comeBack_0 : decode cX0_comeBack 0 = .ok (.aload_n 0, 1) := by decide +kernel
theorem dX0_comeBack_1 : decode cX0_comeBack 1 = .ok (.getfield 11, 3) := by decide +kernel
theorem dX0_comeBack_4 : decode cX0_comeBack 4 = .ok (.iload_n 1, 1) := by decide +kernel
theorem dX0_comeBack_5 : decode cX0_comeBack 5 = .ok (.aaload, 1) := by decide +kernel
theorem dX0_comeBack_6 : decode cX0_comeBack 6 = .ok (.astore_n 2, 1) := by decide +kernel
theorem dX0_comeBack_7 : decode cX0_comeBack 7 = .ok (.aload_n 0, 1) := by decide +kernel
theorem dX0_comeBack_8 : decode cX0_comeBack 8 = .ok (.aload_n 2, 1) := by decide +kernel
theorem dX0_comeBack_9 : decode cX0_comeBack 9 = .ok (.invokevirtual 55, 3) := by decide +kernel
theorem dX0_comeBack_12 : decode cX0_comeBack 12 = .ok (.iload_n 1, 1) := by decide +kernel
theorem dX0_comeBack_13 : decode cX0_comeBack 13 = .ok (.aload_n 2, 1) := by decide +kernel
theorem dX0_comeBack_14 : decode cX0_comeBack 14 = .ok (.getfield 131, 3) := by decide +kernel
theorem dX0_comeBack_17 : decode cX0_comeBack 17 = .ok (.invokevirtual 108, 3) := by decide +kernel
theorem dX0_comeBack_20 : decode cX0_comeBack 20 = .ok (.aload_n 2, 1) := by decide +kernel
theorem dX0_comeBack_21 : decode cX0_comeBack 21 = .ok (.iconst 0, 1) := by decide +kernel
theorem dX0_comeBack_22 : decode cX0_comeBack 22 = .ok (.putfield 131, 3) := by decide +kernel
theorem dX0_comeBack_25 : decode cX0_comeBack 25 = .ok (.aload_n 2, 1) := by decide +kernel
theorem dX0_comeBack_26 : decode cX0_comeBack 26 = .ok (.invokevirtual 128, 3) := by decide +kernel
theorem dX0_comeBack_29 : decode cX0_comeBack 29 = .ok (.return_, 1) := by decide +kernel
theorem dX0_stopParking_0 : decode cX0_stopParking 0 = .ok (.iload_n 2, 1) := by decide +kernel
theorem dX0_stopParking_1 : decode cX0_stopParking 1 = .ok (.iconst 3, 1) := by decide +kernel
theorem dX0_stopParking_2 : decode cX0_stopParking 2 = .ok (.if_icmp .ne 8, 3) := by decide +kernel
theorem dX0_stopParking_5 : decode cX0_stopParking 5 = .ok (.aload_n 1, 1) := by decide +kernel
theorem dX0_stopParking_6 : decode cX0_stopParking 6 = .ok (.iconst 1, 1) := by decide +kernel
theorem dX0_stopParking_7 : decode cX0_stopParking 7 = .ok (.putfield 83, 3) := by decide +kernel
theorem dX0_stopParking_10 : decode cX0_stopParking 10 = .ok (.aload_n 1, 1) := by decide +kernel
theorem dX0_stopParking_11 : decode cX0_stopParking 11 = .ok (.invokevirtual 128, 3) := by decide +kernel
theorem dX0_stopParking_14 : decode cX0_stopParking 14 = .ok (.return_, 1) := by decide +kernel
theorem dX0_doPlainAction_0 : decode cX0_doPlainAction 0 = .ok (.aload_n 1, 1) := by decide +kernel
theorem dX0_doPlainAction_1 : decode cX0_doPlainAction 1 = .ok (.invokevirtual 40, 3) := by decide +kernel
theorem dX0_doPlainAction_4 : decode cX0_doPlainAction 4 = .ok (.tableswitch 152 6 12 #[44, 60, 88, 104, 104, 119, 133], 44) := by decide +kernel
theorem dX0_doPlainAction_48 : decode cX0_doPlainAction 48 = .ok (.aload_n 0, 1) := by decide +kernel
theorem dX0_doPlainAction_49 : decode cX0_doPlainAction 49 = .ok (.aload_n 0, 1) := by decide +kernel
theorem dX0_doPlainAction_50 : decode cX0_doPlainAction 50 = .ok (.getfield 11, 3) := by decide +kernel
theorem dX0_doPlainAction_53 : decode cX0_doPlainAction 53 = .ok (.aload_n 1, 1) := by decide +kernel
theorem dX0_doPlainAction_54 : decode cX0_doPlainAction 54 = .ok (.invokevirtual 76, 3) := by decide +kernel
theorem dX0_doPlainAction_57 : decode cX0_doPlainAction 57 = .ok (.aaload, 1) := by decide +kernel
theorem dX0_doPlainAction_58 : decode cX0_doPlainAction 58 = .ok (.invokevirtual 147, 3) := by decide +kernel
theorem dX0_doPlainAction_61 : decode cX0_doPlainAction 61 = .ok (.goto 95, 3) := by decide +kernel
theorem dX0_doPlainAction_64 : decode cX0_doPlainAction 64 = .ok (.aload_n 1, 1) := by decide +kernel
theorem dX0_doPlainAction_65 : decode cX0_doPlainAction 65 = .ok (.getfield 150, 3) := by decide +kernel
theorem dX0_doPlainAction_68 : decode cX0_doPlainAction 68 = .ok (.ifCond .ne 16, 3) := by decide +kernel
theorem dX0_doPlainAction_71 : decode cX0_doPlainAction 71 = .ok (.aload_n 1, 1) := by decide +kernel
theorem dX0_doPlainAction_72 : decode cX0_doPlainAction 72 = .ok (.getfield 63, 3) := by decide +kernel
theorem dX0_doPlainAction_75 : decode cX0_doPlainAction 75 = .ok (.ifCond .ne 9, 3) := by decide +kernel
theorem dX0_doPlainAction_78 : decode cX0_doPlainAction 78 = .ok (.aload_n 1, 1) := by decide +kernel
theorem dX0_doPlainAction_79 : decode cX0_doPlainAction 79 = .ok (.iconst 3, 1) := by decide +kernel
theorem dX0_doPlainAction_80 : decode cX0_doPlainAction 80 = .ok (.putfield 36, 3) := by decide +kernel
theorem dX0_doPlainAction_83 : decode cX0_doPlainAction 83 = .ok (.return_, 1) := by decide +kernel
theorem dX0_doPlainAction_84 : decode cX0_doPlainAction 84 = .ok (.aload_n 1, 1) := by decide +kernel
theorem dX0_doPlainAction_85 : decode cX0_doPlainAction 85 = .ok (.iconst 0, 1) := by decide +kernel
theorem dX0_doPlainAction_86 : decode cX0_doPlainAction 86 = .ok (.putfield 150, 3) := by decide +kernel
theorem dX0_doPlainAction_89 : decode cX0_doPlainAction 89 = .ok (.goto 67, 3) := by decide +kernel
theorem dX0_doPlainAction_92 : decode cX0_doPlainAction 92 = .ok (.aload_n 0, 1) := by decide +kernel
theorem dX0_doPlainAction_93 : decode cX0_doPlainAction 93 = .ok (.aload_n 0, 1) := by decide +kernel
theorem dX0_doPlainAction_94 : decode cX0_doPlainAction 94 = .ok (.getfield 11, 3) := by decide +kernel
theorem dX0_doPlainAction_97 : decode cX0_doPlainAction 97 = .ok (.aload_n 1, 1) := by decide +kernel
theorem dX0_doPlainAction_98 : decode cX0_doPlainAction 98 = .ok (.invokevirtual 76, 3) := by decide +kernel
theorem dX0_doPlainAction_101 : decode cX0_doPlainAction 101 = .ok (.aaload, 1) := by decide +kernel
theorem dX0_doPlainAction_102 : decode cX0_doPlainAction 102 = .ok (.invokevirtual 153, 3) := by decide +kernel
theorem dX0_doPlainAction_105 : decode cX0_doPlainAction 105 = .ok (.goto 51, 3) := by decide +kernel
theorem dX0_doPlainAction_108 : decode cX0_doPlainAction 108 = .ok (.aload_n 1, 1) := by decide +kernel
theorem dX0_doPlainAction_109 : decode cX0_doPlainAction 109 = .ok (.invokevirtual 121, 3) := by decide +kernel
theorem dX0_doPlainAction_112 : decode cX0_doPlainAction 112 = .ok (.ifCond .eq 44, 3) := by decide +kernel
theorem dX0_doPlainAction_115 : decode cX0_doPlainAction 115 = .ok (.aload_n 1, 1) := by decide +kernel
theorem dX0_doPlainAction_116 : decode cX0_doPlainAction 116 = .ok (.iconst 1, 1) := by decide +kernel
theorem dX0_doPlainAction_117 : decode cX0_doPlainAction 117 = .ok (.invokevirtual 111, 3) := by decide +kernel
theorem dX0_doPlainAction_120 : decode cX0_doPlainAction 120 = .ok (.goto 36, 3) := by decide +kernel
theorem dX0_doPlainAction_123 : decode cX0_doPlainAction 123 = .ok (.aload_n 1, 1) := by decide +kernel
theorem dX0_doPlainAction_124 : decode cX0_doPlainAction 124 = .ok (.bipush 8, 2) := by decide +kernel
theorem dX0_doPlainAction_126 : decode cX0_doPlainAction 126 = .ok (.aload_n 1, 1) := by decide +kernel
theorem dX0_doPlainAction_127 : decode cX0_doPlainAction 127 = .ok (.invokevirtual 76, 3) := by decide +kernel
theorem dX0_doPlainAction_130 : decode cX0_doPlainAction 130 = .ok (.iadd, 1) := by decide +kernel
theorem dX0_doPlainAction_131 : decode cX0_doPlainAction 131 = .ok (.invokevirtual 111, 3) := by decide +kernel
theorem dX0_doPlainAction_134 : decode cX0_doPlainAction 134 = .ok (.goto 22, 3) := by decide +kernel
theorem dX0_doPlainAction_137 : decode cX0_doPlainAction 137 = .ok (.aload_n 1, 1) := by decide +kernel
theorem dX0_doPlainAction_138 : decode cX0_doPlainAction 138 = .ok (.aload_n 1, 1) := by decide +kernel
theorem dX0_doPlainAction_139 : decode cX0_doPlainAction 139 = .ok (.invokevirtual 121, 3) := by decide +kernel
theorem dX0_doPlainAction_142 : decode cX0_doPlainAction 142 = .ok (.ifCond .eq 7, 3) := by decide +kernel
theorem dX0_doPlainAction_145 : decode cX0_doPlainAction 145 = .ok (.iconst 4, 1) := by decide +kernel
theorem dX0_doPlainAction_146 : decode cX0_doPlainAction 146 = .ok (.goto 4, 3) := by decide +kernel
theorem dX0_doPlainAction_149 : decode cX0_doPlainAction 149 = .ok (.iconst 5, 1) := by decide +kernel
theorem dX0_doPlainAction_150 : decode cX0_doPlainAction 150 = .ok (.invokevirtual 111, 3) := by decide +kernel
theorem dX0_doPlainAction_153 : decode cX0_doPlainAction 153 = .ok (.goto 3, 3) := by decide +kernel
theorem dX0_doPlainAction_156 : decode cX0_doPlainAction 156 = .ok (.aload_n 1, 1) := by decide +kernel
theorem dX0_doPlainAction_157 : decode cX0_doPlainAction 157 = .ok (.invokevirtual 128, 3) := by decide +kernel
theorem dX0_doPlainAction_160 : decode cX0_doPlainAction 160 = .ok (.return_, 1) := by decide +kernel
theorem dX0_interrupt_0 : decode cX0_interrupt 0 = .ok (.aload_n 1, 1) := by decide +kernel
theorem dX0_interrupt_1 : decode cX0_interrupt 1 = .ok (.getfield 36, 3) := by decide +kernel
theorem dX0_interrupt_4 : decode cX0_interrupt 4 = .ok (.iconst 4, 1) := by decide +kernel
theorem dX0_interrupt_5 : decode cX0_interrupt 5 = .ok (.if_icmp .eq 8, 3) := by decide +kernel
theorem dX0_interrupt_8 : decode cX0_interrupt 8 = .ok (.aload_n 1, 1) := by decide +kernel
theorem dX0_interrupt_9 : decode cX0_interrupt 9 = .ok (.iconst 1, 1) := by decide +kernel
theorem dX0_interrupt_10 : decode cX0_interrupt 10 = .ok (.putfield 63, 3) := by decide +kernel
theorem dX0_interrupt_13 : decode cX0_interrupt 13 = .ok (.return_, 1) := by decide +kernel
theorem dX0_unpark_0 : decode cX0_unpark 0 = .ok (.aload_n 1, 1) := by decide +kernel
theorem dX0_unpark_1 : decode cX0_unpark 1 = .ok (.getfield 36, 3) := by decide +kernel
theorem dX0_unpark_4 : decode cX0_unpark 4 = .ok (.iconst 3, 1) := by decide +kernel
theorem dX0_unpark_5 : decode cX0_unpark 5 = .ok (.if_icmp .ne 10, 3) := by decide +kernel
theorem dX0_unpark_8 : decode cX0_unpark 8 = .ok (.aload_n 1, 1) := by decide +kernel
theorem dX0_unpark_9 : decode cX0_unpark 9 = .ok (.invokevirtual 128, 3) := by decide +kernel
theorem dX0_unpark_12 : decode cX0_unpark 12 = .ok (.goto 16, 3) := by decide +kernel
theorem dX0_unpark_15 : decode cX0_unpark 15 = .ok (.aload_n 1, 1) := by decide +kernel
theorem dX0_unpark_16 : decode cX0_unpark 16 = .ok (.getfield 36, 3) := by decide +kernel
theorem dX0_unpark_19 : decode cX0_unpark 19 = .ok (.iconst 4, 1) := by decide +kernel
theorem dX0_unpark_20 : decode cX0_unpark 20 = .ok (.if_icmp .eq 8, 3) := by decide +kernel
theorem dX0_unpark_23 : decode cX0_unpark 23 = .ok (.aload_n 1, 1) := by decide +kernel
theorem dX0_unpark_24 : decode cX0_unpark 24 = .ok (.iconst 1, 1) := by decide +kernel
theorem dX0_unpark_25 : decode cX0_unpark 25 = .ok (.putfield 150, 3) := by decide +kernel
theorem dX0_unpark_28 : decode cX0_unpark 28 = .ok (.return_, 1) := by decide +kernel
theorem dX0_monitorOf_0 : decode cX0_monitorOf 0 = .ok (.aload_n 0, 1) := by decide +kernel
theorem dX0_monitorOf_1 : decode cX0_monitorOf 1 = .ok (.getfield 19, 3) := by decide +kernel
theorem dX0_monitorOf_4 : decode cX0_monitorOf 4 = .ok (.aload_n 1, 1) := by decide +kernel
theorem dX0_monitorOf_5 : decode cX0_monitorOf 5 = .ok (.invokevirtual 76, 3) := by decide +kernel
theorem dX0_monitorOf_8 : decode cX0_monitorOf 8 = .ok (.aaload, 1) := by decide +kernel
theorem dX0_monitorOf_9 : decode cX0_monitorOf 9 = .ok (.areturn, 1) := by decide +kernel
theorem dX0_hasEnded_0 : decode cX0_hasEnded 0 = .ok (.aload_n 0, 1) := by decide +kernel
theorem dX0_hasEnded_1 : decode cX0_hasEnded 1 = .ok (.getfield 11, 3) := by decide +kernel
theorem dX0_hasEnded_4 : decode cX0_hasEnded 4 = .ok (.iload_n 1, 1) := by decide +kernel
theorem dX0_hasEnded_5 : decode cX0_hasEnded 5 = .ok (.aaload, 1) := by decide +kernel
theorem dX0_hasEnded_6 : decode cX0_hasEnded 6 = .ok (.getfield 36, 3) := by decide +kernel
theorem dX0_hasEnded_9 : decode cX0_hasEnded 9 = .ok (.iconst 4, 1) := by decide +kernel
theorem dX0_hasEnded_10 : decode cX0_hasEnded 10 = .ok (.if_icmp .ne 7, 3) := by decide +kernel
theorem dX0_hasEnded_13 : decode cX0_hasEnded 13 = .ok (.iconst 1, 1) := by decide +kernel
theorem dX0_hasEnded_14 : decode cX0_hasEnded 14 = .ok (.goto 4, 3) := by decide +kernel
theorem dX0_hasEnded_17 : decode cX0_hasEnded 17 = .ok (.iconst 0, 1) := by decide +kernel
theorem dX0_hasEnded_18 : decode cX0_hasEnded 18 = .ok (.ireturn, 1) := by decide +kernel
theorem dX0_outcomeNumber_0 : decode cX0_outcomeNumber 0 = .ok (.lconst 0, 1) := by decide +kernel
theorem dX0_outcomeNumber_1 : decode cX0_outcomeNumber 1 = .ok (.lstore_n 1, 1) := by decide +kernel
theorem dX0_outcomeNumber_2 : decode cX0_outcomeNumber 2 = .ok (.iconst 0, 1) := by decide +kernel
theorem dX0_outcomeNumber_3 : decode cX0_outcomeNumber 3 = .ok (.istore_n 3, 1) := by decide +kernel
theorem dX0_outcomeNumber_4 : decode cX0_outcomeNumber 4 = .ok (.iload_n 3, 1) := by decide +kernel
theorem dX0_outcomeNumber_5 : decode cX0_outcomeNumber 5 = .ok (.iconst 4, 1) := by decide +kernel
theorem dX0_outcomeNumber_6 : decode cX0_outcomeNumber 6 = .ok (.if_icmp .ge 25, 3) := by decide +kernel
theorem dX0_outcomeNumber_9 : decode cX0_outcomeNumber 9 = .ok (.lload_n 1, 1) := by decide +kernel
theorem dX0_outcomeNumber_10 : decode cX0_outcomeNumber 10 = .ok (.ldc2_w 156, 3) := by decide +kernel
theorem dX0_outcomeNumber_13 : decode cX0_outcomeNumber 13 = .ok (.lmul, 1) := by decide +kernel
theorem dX0_outcomeNumber_14 : decode cX0_outcomeNumber 14 = .ok (.aload_n 0, 1) := by decide +kernel
theorem dX0_outcomeNumber_15 : decode cX0_outcomeNumber 15 = .ok (.getfield 11, 3) := by decide +kernel
theorem dX0_outcomeNumber_18 : decode cX0_outcomeNumber 18 = .ok (.iload_n 3, 1) := by decide +kernel
theorem dX0_outcomeNumber_19 : decode cX0_outcomeNumber 19 = .ok (.aaload, 1) := by decide +kernel
theorem dX0_outcomeNumber_20 : decode cX0_outcomeNumber 20 = .ok (.invokevirtual 158, 3) := by decide +kernel
theorem dX0_outcomeNumber_23 : decode cX0_outcomeNumber 23 = .ok (.ladd, 1) := by decide +kernel
theorem dX0_outcomeNumber_24 : decode cX0_outcomeNumber 24 = .ok (.lstore_n 1, 1) := by decide +kernel
theorem dX0_outcomeNumber_25 : decode cX0_outcomeNumber 25 = .ok (.iinc 3 1, 3) := by decide +kernel
theorem dX0_outcomeNumber_28 : decode cX0_outcomeNumber 28 = .ok (.goto (-24), 3) := by decide +kernel
theorem dX0_outcomeNumber_31 : decode cX0_outcomeNumber 31 = .ok (.lload_n 1, 1) := by decide +kernel
theorem dX0_outcomeNumber_32 : decode cX0_outcomeNumber 32 = .ok (.lreturn, 1) := by decide +kernel
theorem dX0_wordOf_0 : decode cX0_wordOf 0 = .ok (.aload_n 0, 1) := by decide +kernel
theorem dX0_wordOf_1 : decode cX0_wordOf 1 = .ok (.getfield 11, 3) := by decide +kernel
theorem dX0_wordOf_4 : decode cX0_wordOf 4 = .ok (.iload_n 1, 1) := by decide +kernel
theorem dX0_wordOf_5 : decode cX0_wordOf 5 = .ok (.aaload, 1) := by decide +kernel
theorem dX0_wordOf_6 : decode cX0_wordOf 6 = .ok (.invokevirtual 162, 3) := by decide +kernel
theorem dX0_wordOf_9 : decode cX0_wordOf 9 = .ok (.lstore_n 2, 1) := by decide +kernel
theorem dX0_wordOf_10 : decode cX0_wordOf 10 = .ok (.iload_n 1, 1) := by decide +kernel
theorem dX0_wordOf_11 : decode cX0_wordOf 11 = .ok (.iconst 2, 1) := by decide +kernel
theorem dX0_wordOf_12 : decode cX0_wordOf 12 = .ok (.if_icmp .ge 20, 3) := by decide +kernel
theorem dX0_wordOf_15 : decode cX0_wordOf 15 = .ok (.lload_n 2, 1) := by decide +kernel
theorem dX0_wordOf_16 : decode cX0_wordOf 16 = .ok (.aload_n 0, 1) := by decide +kernel
theorem dX0_wordOf_17 : decode cX0_wordOf 17 = .ok (.getfield 19, 3) := by decide +kernel
theorem dX0_wordOf_20 : decode cX0_wordOf 20 = .ok (.iload_n 1, 1) := by decide +kernel
theorem dX0_wordOf_21 : decode cX0_wordOf 21 = .ok (.aaload, 1) := by decide +kernel
theorem dX0_wordOf_22 : decode cX0_wordOf 22 = .ok (.invokevirtual 165, 3) := by decide +kernel
theorem dX0_wordOf_25 : decode cX0_wordOf 25 = .ok (.bipush 40, 2) := by decide +kernel
theorem dX0_wordOf_27 : decode cX0_wordOf 27 = .ok (.lshl, 1) := by decide +kernel
theorem dX0_wordOf_28 : decode cX0_wordOf 28 = .ok (.lor, 1) := by decide +kernel
theorem dX0_wordOf_29 : decode cX0_wordOf 29 = .ok (.goto 4, 3) := by decide +kernel
theorem dX0_wordOf_32 : decode cX0_wordOf 32 = .ok (.lload_n 2, 1) := by decide +kernel
theorem dX0_wordOf_33 : decode cX0_wordOf 33 = .ok (.lreturn, 1) := by decide +kernel
theorem dX0_unpackWord_0 : decode cX0_unpackWord 0 = .ok (.aload_n 0, 1) := by decide +kernel
theorem dX0_unpackWord_1 : decode cX0_unpackWord 1 = .ok (.getfield 11, 3) := by decide +kernel
theorem dX0_unpackWord_4 : decode cX0_unpackWord 4 = .ok (.iload_n 1, 1) := by decide +kernel
theorem dX0_unpackWord_5 : decode cX0_unpackWord 5 = .ok (.aaload, 1) := by decide +kernel
theorem dX0_unpackWord_6 : decode cX0_unpackWord 6 = .ok (.lload_n 2, 1) := by decide +kernel
theorem dX0_unpackWord_7 : decode cX0_unpackWord 7 = .ok (.invokevirtual 166, 3) := by decide +kernel
theorem dX0_unpackWord_10 : decode cX0_unpackWord 10 = .ok (.iload_n 1, 1) := by decide +kernel
theorem dX0_unpackWord_11 : decode cX0_unpackWord 11 = .ok (.iconst 2, 1) := by decide +kernel
theorem dX0_unpackWord_12 : decode cX0_unpackWord 12 = .ok (.if_icmp .ge 16, 3) := by decide +kernel
theorem dX0_unpackWord_15 : decode cX0_unpackWord 15 = .ok (.aload_n 0, 1) := by decide +kernel
theorem dX0_unpackWord_16 : decode cX0_unpackWord 16 = .ok (.getfield 19, 3) := by decide +kernel
theorem dX0_unpackWord_19 : decode cX0_unpackWord 19 = .ok (.iload_n 1, 1) := by decide +kernel
theorem dX0_unpackWord_20 : decode cX0_unpackWord 20 = .ok (.aaload, 1) := by decide +kernel
theorem dX0_unpackWord_21 : decode cX0_unpackWord 21 = .ok (.lload_n 2, 1) := by decide +kernel
theorem dX0_unpackWord_22 : decode cX0_unpackWord 22 = .ok (.bipush 40, 2) := by decide +kernel
theorem dX0_unpackWord_24 : decode cX0_unpackWord 24 = .ok (.lushr, 1) := by decide +kernel
theorem dX0_unpackWord_25 : decode cX0_unpackWord 25 = .ok (.invokevirtual 170, 3) := by decide +kernel
theorem dX0_unpackWord_28 : decode cX0_unpackWord 28 = .ok (.return_, 1) := by decide +kernel
theorem dX1_init_0 : decode cX1_init 0 = .ok (.aload_n 0, 1) := by decide +kernel
theorem dX1_init_1 : decode cX1_init 1 = .ok (.invokespecial 3, 3) := by decide +kernel
theorem dX1_init_4 : decode cX1_init 4 = .ok (.aload_n 0, 1) := by decide +kernel
theorem dX1_init_5 : decode cX1_init 5 = .ok (.iconst 4, 1) := by decide +kernel
theorem dX1_init_6 : decode cX1_init 6 = .ok (.newarray .int, 2) := by decide +kernel
theorem dX1_init_8 : decode cX1_init 8 = .ok (.putfield 9, 3) := by decide +kernel
theorem dX1_init_11 : decode cX1_init 11 = .ok (.return_, 1) := by decide +kernel
theorem dX1_begin_0 : decode cX1_begin 0 = .ok (.aload_n 0, 1) := by decide +kernel
theorem dX1_begin_1 : decode cX1_begin 1 = .ok (.invokevirtual 15, 3) := by decide +kernel
theorem dX1_begin_4 : decode cX1_begin 4 = .ok (.aload_n 0, 1) := by decide +kernel
theorem dX1_begin_5 : decode cX1_begin 5 = .ok (.iconst 0, 1) := by decide +kernel
theorem dX1_begin_6 : decode cX1_begin 6 = .ok (.putfield 18, 3) := by decide +kernel
theorem dX1_begin_9 : decode cX1_begin 9 = .ok (.return_, 1) := by decide +kernel
theorem dX1_isFree_0 : decode cX1_isFree 0 = .ok (.aload_n 0, 1) := by decide +kernel
theorem dX1_isFree_1 : decode cX1_isFree 1 = .ok (.getfield 22, 3) := by decide +kernel
theorem dX1_isFree_4 : decode cX1_isFree 4 = .ok (.iconst (-1), 1) := by decide +kernel
theorem dX1_isFree_5 : decode cX1_isFree 5 = .ok (.if_icmp .ne 7, 3) := by decide +kernel
theorem dX1_isFree_8 : decode cX1_isFree 8 = .ok (.iconst 1, 1) := by decide +kernel
theorem dX1_isFree_9 : decode cX1_isFree 9 = .ok (.goto 4, 3) := by decide +kernel
theorem dX1_isFree_12 : decode cX1_isFree 12 = .ok (.iconst 0, 1) := by decide +kernel
theorem dX1_isFree_13 : decode cX1_isFree 13 = .ok (.ireturn, 1) := by decide +kernel
theorem dX1_setFree_0 : decode cX1_setFree 0 = .ok (.aload_n 0, 1) := by decide +kernel
theorem dX1_setFree_1 : decode cX1_setFree 1 = .ok (.iconst (-1), 1) := by decide +kernel
theorem dX1_setFree_2 : decode cX1_setFree 2 = .ok (.putfield 22, 3) := by decide +kernel
theorem dX1_setFree_5 : decode cX1_setFree 5 = .ok (.aload_n 0, 1) := by decide +kernel
theorem dX1_setFree_6 : decode cX1_setFree 6 = .ok (.iconst 0, 1) := by decide +kernel
theorem dX1_setFree_7 : decode cX1_setFree 7 = .ok (.putfield 25, 3) := by decide +kernel
theorem dX1_setFree_10 : decode cX1_setFree 10 = .ok (.return_, 1) := by decide +kernel
theorem dX1_own_0 : decode cX1_own 0 = .ok (.aload_n 0, 1) := by decide +kernel
theorem dX1_own_1 : decode cX1_own 1 = .ok (.iload_n 1, 1) := by decide +kernel
theorem dX1_own_2 : decode cX1_own 2 = .ok (.putfield 22, 3) := by decide +kernel
theorem dX1_own_5 : decode cX1_own 5 = .ok (.aload_n 0, 1) := by decide +kernel
theorem dX1_own_6 : decode cX1_own 6 = .ok (.iload_n 2, 1) := by decide +kernel
theorem dX1_own_7 : decode cX1_own 7 = .ok (.putfield 25, 3) := by decide +kernel
theorem dX1_own_10 : decode cX1_own 10 = .ok (.return_, 1) := by decide +kernel
theorem dX1_leaveOnce_0 : decode cX1_leaveOnce 0 = .ok (.aload_n 0, 1) := by decide +kernel
theorem dX1_leaveOnce_1 : decode cX1_leaveOnce 1 = .ok (.dup, 1) := by decide +kernel
theorem dX1_leaveOnce_2 : decode cX1_leaveOnce 2 = .ok (.getfield 25, 3) := by decide +kernel
theorem dX1_leaveOnce_5 : decode cX1_leaveOnce 5 = .ok (.iconst 1, 1) := by decide +kernel
theorem dX1_leaveOnce_6 : decode cX1_leaveOnce 6 = .ok (.isub, 1) := by decide +kernel
theorem dX1_leaveOnce_7 : decode cX1_leaveOnce 7 = .ok (.putfield 25, 3) := by decide +kernel
theorem dX1_leaveOnce_10 : decode cX1_leaveOnce 10 = .ok (.aload_n 0, 1) := by decide +kernel
theorem dX1_leaveOnce_11 : decode cX1_leaveOnce 11 = .ok (.getfield 25, 3) := by decide +kernel
theorem dX1_leaveOnce_14 : decode cX1_leaveOnce 14 = .ok (.ifCond .gt 7, 3) := by decide +kernel
theorem dX1_leaveOnce_17 : decode cX1_leaveOnce 17 = .ok (.aload_n 0, 1) := by decide +kernel
theorem dX1_leaveOnce_18 : decode cX1_leaveOnce 18 = .ok (.invokevirtual 15, 3) := by decide +kernel
theorem dX1_leaveOnce_21 : decode cX1_leaveOnce 21 = .ok (.return_, 1) := by decide +kernel
theorem dX1_waiterAt_0 : decode cX1_waiterAt 0 = .ok (.iload_n 1, 1) := by decide +kernel
theorem dX1_waiterAt_1 : decode cX1_waiterAt 1 = .ok (.ifCond .lt 20, 3) := by decide +kernel
theorem dX1_waiterAt_4 : decode cX1_waiterAt 4 = .ok (.iload_n 1, 1) := by decide +kernel
theorem dX1_waiterAt_5 : decode cX1_waiterAt 5 = .ok (.aload_n 0, 1) := by decide +kernel
theorem dX1_waiterAt_6 : decode cX1_waiterAt 6 = .ok (.getfield 18, 3) := by decide +kernel
theorem dX1_waiterAt_9 : decode cX1_waiterAt 9 = .ok (.if_icmp .ge 12, 3) := by decide +kernel
theorem dX1_waiterAt_12 : decode cX1_waiterAt 12 = .ok (.aload_n 0, 1) := by decide +kernel
theorem dX1_waiterAt_13 : decode cX1_waiterAt 13 = .ok (.getfield 9, 3) := by decide +kernel
theorem dX1_waiterAt_16 : decode cX1_waiterAt 16 = .ok (.iload_n 1, 1) := by decide +kernel
theorem dX1_waiterAt_17 : decode cX1_waiterAt 17 = .ok (.iaload, 1) := by decide +kernel
theorem dX1_waiterAt_18 : decode cX1_waiterAt 18 = .ok (.goto 4, 3) := by decide +kernel
theorem dX1_waiterAt_21 : decode cX1_waiterAt 21 = .ok (.iconst (-1), 1) := by decide +kernel
theorem dX1_waiterAt_22 : decode cX1_waiterAt 22 = .ok (.ireturn, 1) := by decide +kernel
theorem dX1_addWaiter_0 : decode cX1_addWaiter 0 = .ok (.aload_n 0, 1) := by decide +kernel
theorem dX1_addWaiter_1 : decode cX1_addWaiter 1 = .ok (.getfield 18, 3) := by decide +kernel
theorem dX1_addWaiter_4 : decode cX1_addWaiter 4 = .ok (.iconst 4, 1) := by decide +kernel
theorem dX1_addWaiter_5 : decode cX1_addWaiter 5 = .ok (.if_icmp .ge 23, 3) := by decide +kernel
theorem dX1_addWaiter_8 : decode cX1_addWaiter 8 = .ok (.aload_n 0, 1) := by decide +kernel
theorem dX1_addWaiter_9 : decode cX1_addWaiter 9 = .ok (.getfield 9, 3) := by decide +kernel
theorem dX1_addWaiter_12 : decode cX1_addWaiter 12 = .ok (.aload_n 0, 1) := by decide +kernel
theorem dX1_addWaiter_13 : decode cX1_addWaiter 13 = .ok (.getfield 18, 3) := by decide +kernel
theorem dX1_addWaiter_16 : decode cX1_addWaiter 16 = .ok (.iload_n 1, 1) := by decide +kernel
theorem dX1_addWaiter_17 : decode cX1_addWaiter 17 = .ok (.iastore, 1) := by decide +kernel
theorem dX1_addWaiter_18 : decode cX1_addWaiter 18 = .ok (.aload_n 0, 1) := by decide +kernel
theorem dX1_addWaiter_19 : decode cX1_addWaiter 19 = .ok (.dup, 1) := by decide +kernel
theorem dX1_addWaiter_20 : decode cX1_addWaiter 20 = .ok (.getfield 18, 3) := by decide +kernel
theorem dX1_addWaiter_23 : decode cX1_addWaiter 23 = .ok (.iconst 1, 1) := by decide +kernel
theorem dX1_addWaiter_24 : decode cX1_addWaiter 24 = .ok (.iadd, 1) := by decide +kernel
theorem dX1_addWaiter_25 : decode cX1_addWaiter 25 = .ok (.putfield 18, 3) := by decide +kernel
theorem dX1_addWaiter_28 : decode cX1_addWaiter 28 = .ok (.return_, 1) := by decide +kernel
theorem dX1_dropWaiter_0 : decode cX1_dropWaiter 0 = .ok (.iconst 0, 1) := by decide +kernel
theorem dX1_dropWaiter_1 : decode cX1_dropWaiter 1 = .ok (.istore_n 2, 1) := by decide +kernel
theorem dX1_dropWaiter_2 : decode cX1_dropWaiter 2 = .ok (.iconst 0, 1) := by decide +kernel
theorem dX1_dropWaiter_3 : decode cX1_dropWaiter 3 = .ok (.istore_n 3, 1) := by decide +kernel
theorem dX1_dropWaiter_4 : decode cX1_dropWaiter 4 = .ok (.iload_n 3, 1) := by decide +kernel
theorem dX1_dropWaiter_5 : decode cX1_dropWaiter 5 = .ok (.aload_n 0, 1) := by decide +kernel
theorem dX1_dropWaiter_6 : decode cX1_dropWaiter 6 = .ok (.getfield 18, 3) := by decide +kernel
theorem dX1_dropWaiter_9 : decode cX1_dropWaiter 9 = .ok (.if_icmp .ge 34, 3) := by decide +kernel
theorem dX1_dropWaiter_12 : decode cX1_dropWaiter 12 = .ok (.aload_n 0, 1) := by decide +kernel
theorem dX1_dropWaiter_13 : decode cX1_dropWaiter 13 = .ok (.getfield 9, 3) := by decide +kernel
theorem dX1_dropWaiter_16 : decode cX1_dropWaiter 16 = .ok (.iload_n 3, 1) := by decide +kernel
theorem dX1_dropWaiter_17 : decode cX1_dropWaiter 17 = .ok (.iaload, 1) := by decide +kernel
theorem dX1_dropWaiter_18 : decode cX1_dropWaiter 18 = .ok (.iload_n 1, 1) := by decide +kernel
theorem dX1_dropWaiter_19 : decode cX1_dropWaiter 19 = .ok (.if_icmp .eq 18, 3) := by decide +kernel
theorem dX1_dropWaiter_22 : decode cX1_dropWaiter 22 = .ok (.aload_n 0, 1) := by decide +kernel
theorem dX1_dropWaiter_23 : decode cX1_dropWaiter 23 = .ok (.getfield 9, 3) := by decide +kernel
theorem dX1_dropWaiter_26 : decode cX1_dropWaiter 26 = .ok (.iload_n 2, 1) := by decide +kernel
theorem dX1_dropWaiter_27 : decode cX1_dropWaiter 27 = .ok (.aload_n 0, 1) := by decide +kernel
theorem dX1_dropWaiter_28 : decode cX1_dropWaiter 28 = .ok (.getfield 9, 3) := by decide +kernel
theorem dX1_dropWaiter_31 : decode cX1_dropWaiter 31 = .ok (.iload_n 3, 1) := by decide +kernel
theorem dX1_dropWaiter_32 : decode cX1_dropWaiter 32 = .ok (.iaload, 1) := by decide +kernel
theorem dX1_dropWaiter_33 : decode cX1_dropWaiter 33 = .ok (.iastore, 1) := by decide +kernel
theorem dX1_dropWaiter_34 : decode cX1_dropWaiter 34 = .ok (.iinc 2 1, 3) := by decide +kernel
theorem dX1_dropWaiter_37 : decode cX1_dropWaiter 37 = .ok (.iinc 3 1, 3) := by decide +kernel
theorem dX1_dropWaiter_40 : decode cX1_dropWaiter 40 = .ok (.goto (-36), 3) := by decide +kernel
theorem dX1_dropWaiter_43 : decode cX1_dropWaiter 43 = .ok (.aload_n 0, 1) := by decide +kernel
theorem dX1_dropWaiter_44 : decode cX1_dropWaiter 44 = .ok (.iload_n 2, 1) := by decide +kernel
theorem dX1_dropWaiter_45 : decode cX1_dropWaiter 45 = .ok (.putfield 18, 3) := by decide +kernel
theorem dX1_dropWaiter_48 : decode cX1_dropWaiter 48 = .ok (.return_, 1) := by decide +kernel
theorem dX1_packed_0 : decode cX1_packed 0 = .ok (.aload_n 0, 1) := by decide +kernel
theorem dX1_packed_1 : decode cX1_packed 1 = .ok (.getfield 22, 3) := by decide +kernel
theorem dX1_packed_4 : decode cX1_packed 4 = .ok (.iconst 1, 1) := by decide +kernel
theorem dX1_packed_5 : decode cX1_packed 5 = .ok (.iadd, 1) := by decide +kernel
theorem dX1_packed_6 : decode cX1_packed 6 = .ok (.aload_n 0, 1) := by decide +kernel
theorem dX1_packed_7 : decode cX1_packed 7 = .ok (.getfield 25, 3) := by decide +kernel
theorem dX1_packed_10 : decode cX1_packed 10 = .ok (.iconst 3, 1) := by decide +kernel
theorem dX1_packed_11 : decode cX1_packed 11 = .ok (.ishl, 1) := by decide +kernel
theorem dX1_packed_12 : decode cX1_packed 12 = .ok (.ior, 1) := by decide +kernel
theorem dX1_packed_13 : decode cX1_packed 13 = .ok (.aload_n 0, 1) := by decide +kernel
theorem dX1_packed_14 : decode cX1_packed 14 = .ok (.getfield 18, 3) := by decide +kernel
theorem dX1_packed_17 : decode cX1_packed 17 = .ok (.bipush 6, 2) := by decide +kernel
theorem dX1_packed_19 : decode cX1_packed 19 = .ok (.ishl, 1) := by decide +kernel
theorem dX1_packed_20 : decode cX1_packed 20 = .ok (.ior, 1) := by decide +kernel
theorem dX1_packed_21 : decode cX1_packed 21 = .ok (.istore_n 1, 1) := by decide +kernel
theorem dX1_packed_22 : decode cX1_packed 22 = .ok (.iconst 0, 1) := by decide +kernel
theorem dX1_packed_23 : decode cX1_packed 23 = .ok (.istore_n 2, 1) := by decide +kernel
theorem dX1_packed_24 : decode cX1_packed 24 = .ok (.iload_n 2, 1) := by decide +kernel
theorem dX1_packed_25 : decode cX1_packed 25 = .ok (.aload_n 0, 1) := by decide +kernel
theorem dX1_packed_26 : decode cX1_packed 26 = .ok (.getfield 18, 3) := by decide +kernel
theorem dX1_packed_29 : decode cX1_packed 29 = .ok (.if_icmp .ge 25, 3) := by decide +kernel
theorem dX1_packed_32 : decode cX1_packed 32 = .ok (.iload_n 1, 1) := by decide +kernel
theorem dX1_packed_33 : decode cX1_packed 33 = .ok (.aload_n 0, 1) := by decide +kernel
theorem dX1_packed_34 : decode cX1_packed 34 = .ok (.getfield 9, 3) := by decide +kernel
theorem dX1_packed_37 : decode cX1_packed 37 = .ok (.iload_n 2, 1) := by decide +kernel
theorem dX1_packed_38 : decode cX1_packed 38 = .ok (.iaload, 1) := by decide +kernel
theorem dX1_packed_39 : decode cX1_packed 39 = .ok (.bipush 9, 2) := by decide +kernel
theorem dX1_packed_41 : decode cX1_packed 41 = .ok (.iconst 2, 1) := by decide +kernel
theorem dX1_packed_42 : decode cX1_packed 42 = .ok (.iload_n 2, 1) := by decide +kernel
theorem dX1_packed_43 : decode cX1_packed 43 = .ok (.imul, 1) := by decide +kernel
theorem dX1_packed_44 : decode cX1_packed 44 = .ok (.iadd, 1) := by decide +kernel
theorem dX1_packed_45 : decode cX1_packed 45 = .ok (.ishl, 1) := by decide +kernel
theorem dX1_packed_46 : decode cX1_packed 46 = .ok (.ior, 1) := by decide +kernel
theorem dX1_packed_47 : decode cX1_packed 47 = .ok (.istore_n 1, 1) := by decide +kernel
theorem dX1_packed_48 : decode cX1_packed 48 = .ok (.iinc 2 1, 3) := by decide +kernel
theorem dX1_packed_51 : decode cX1_packed 51 = .ok (.goto (-27), 3) := by decide +kernel
theorem dX1_packed_54 : decode cX1_packed 54 = .ok (.iload_n 1, 1) := by decide +kernel
theorem dX1_packed_55 : decode cX1_packed 55 = .ok (.i2l, 1) := by decide +kernel
theorem dX1_packed_56 : decode cX1_packed 56 = .ok (.lreturn, 1) := by decide +kernel
theorem dX1_unpack_0 : decode cX1_unpack 0 = .ok (.lload_n 1, 1) := by decide +kernel
theorem dX1_unpack_1 : decode cX1_unpack 1 = .ok (.l2i, 1) := by decide +kernel
theorem dX1_unpack_2 : decode cX1_unpack 2 = .ok (.ldc 28, 2) := by decide +kernel
theorem dX1_unpack_4 : decode cX1_unpack 4 = .ok (.iand, 1) := by decide +kernel
theorem dX1_unpack_5 : decode cX1_unpack 5 = .ok (.istore_n 3, 1) := by decide +kernel
theorem dX1_unpack_6 : decode cX1_unpack 6 = .ok (.aload_n 0, 1) := by decide +kernel
theorem dX1_unpack_7 : decode cX1_unpack 7 = .ok (.iload_n 3, 1) := by decide +kernel
theorem dX1_unpack_8 : decode cX1_unpack 8 = .ok (.bipush 7, 2) := by decide +kernel
theorem dX1_unpack_10 : decode cX1_unpack 10 = .ok (.iand, 1) := by decide +kernel
theorem dX1_unpack_11 : decode cX1_unpack 11 = .ok (.iconst 1, 1) := by decide +kernel
theorem dX1_unpack_12 : decode cX1_unpack 12 = .ok (.isub, 1) := by decide +kernel
theorem dX1_unpack_13 : decode cX1_unpack 13 = .ok (.putfield 22, 3) := by decide +kernel
theorem dX1_unpack_16 : decode cX1_unpack 16 = .ok (.aload_n 0, 1) := by decide +kernel
theorem dX1_unpack_17 : decode cX1_unpack 17 = .ok (.iload_n 3, 1) := by decide +kernel
theorem dX1_unpack_18 : decode cX1_unpack 18 = .ok (.iconst 3, 1) := by decide +kernel
theorem dX1_unpack_19 : decode cX1_unpack 19 = .ok (.ishr, 1) := by decide +kernel
theorem dX1_unpack_20 : decode cX1_unpack 20 = .ok (.bipush 7, 2) := by decide +kernel
theorem dX1_unpack_22 : decode cX1_unpack 22 = .ok (.iand, 1) := by decide +kernel
theorem dX1_unpack_23 : decode cX1_unpack 23 = .ok (.putfield 25, 3) := by decide +kernel
theorem dX1_unpack_26 : decode cX1_unpack 26 = .ok (.aload_n 0, 1) := by decide +kernel
theorem dX1_unpack_27 : decode cX1_unpack 27 = .ok (.iload_n 3, 1) := by decide +kernel
theorem dX1_unpack_28 : decode cX1_unpack 28 = .ok (.bipush 6, 2) := by decide +kernel
theorem dX1_unpack_30 : decode cX1_unpack 30 = .ok (.ishr, 1) := by decide +kernel
theorem dX1_unpack_31 : decode cX1_unpack 31 = .ok (.bipush 7, 2) := by decide +kernel
theorem dX1_unpack_33 : decode cX1_unpack 33 = .ok (.iand, 1) := by decide +kernel
theorem dX1_unpack_34 : decode cX1_unpack 34 = .ok (.iconst 4, 1) := by decide +kernel
theorem dX1_unpack_35 : decode cX1_unpack 35 = .ok (.invokestatic 29, 3) := by decide +kernel
theorem dX1_unpack_38 : decode cX1_unpack 38 = .ok (.putfield 18, 3) := by decide +kernel
theorem dX1_unpack_41 : decode cX1_unpack 41 = .ok (.iconst 0, 1) := by decide +kernel
theorem dX1_unpack_42 : decode cX1_unpack 42 = .ok (.istore 4, 2) := by decide +kernel
theorem dX1_unpack_44 : decode cX1_unpack 44 = .ok (.iload 4, 2) := by decide +kernel
theorem dX1_unpack_46 : decode cX1_unpack 46 = .ok (.aload_n 0, 1) := by decide +kernel
theorem dX1_unpack_47 : decode cX1_unpack 47 = .ok (.getfield 18, 3) := by decide +kernel
theorem dX1_unpack_50 : decode cX1_unpack 50 = .ok (.if_icmp .ge 27, 3) := by decide +kernel
theorem dX1_unpack_53 : decode cX1_unpack 53 = .ok (.aload_n 0, 1) := by decide +kernel
theorem dX1_unpack_54 : decode cX1_unpack 54 = .ok (.getfield 9, 3) := by decide +kernel
theorem dX1_unpack_57 : decode cX1_unpack 57 = .ok (.iload 4, 2) := by decide +kernel
theorem dX1_unpack_59 : decode cX1_unpack 59 = .ok (.iload_n 3, 1) := by decide +kernel
theorem dX1_unpack_60 : decode cX1_unpack 60 = .ok (.bipush 9, 2) := by decide +kernel
theorem dX1_unpack_62 : decode cX1_unpack 62 = .ok (.iconst 2, 1) := by decide +kernel
theorem dX1_unpack_63 : decode cX1_unpack 63 = .ok (.iload 4, 2) := by decide +kernel
theorem dX1_unpack_65 : decode cX1_unpack 65 = .ok (.imul, 1) := by decide +kernel
theorem dX1_unpack_66 : decode cX1_unpack 66 = .ok (.iadd, 1) := by decide +kernel
theorem dX1_unpack_67 : decode cX1_unpack 67 = .ok (.ishr, 1) := by decide +kernel
theorem dX1_unpack_68 : decode cX1_unpack 68 = .ok (.iconst 3, 1) := by decide +kernel
theorem dX1_unpack_69 : decode cX1_unpack 69 = .ok (.iand, 1) := by decide +kernel
theorem dX1_unpack_70 : decode cX1_unpack 70 = .ok (.iastore, 1) := by decide +kernel
theorem dX1_unpack_71 : decode cX1_unpack 71 = .ok (.iinc 4 1, 3) := by decide +kernel
theorem dX1_unpack_74 : decode cX1_unpack 74 = .ok (.goto (-30), 3) := by decide +kernel
theorem dX1_unpack_77 : decode cX1_unpack 77 = .ok (.return_, 1) := by decide +kernel
theorem dX2_init_0 : decode cX2_init 0 = .ok (.aload_n 0, 1) := by decide +kernel
theorem dX2_init_1 : decode cX2_init 1 = .ok (.invokespecial 3, 3) := by decide +kernel
theorem dX2_init_4 : decode cX2_init 4 = .ok (.aload_n 0, 1) := by decide +kernel
theorem dX2_init_5 : decode cX2_init 5 = .ok (.bipush 6, 2) := by decide +kernel
theorem dX2_init_7 : decode cX2_init 7 = .ok (.newarray .int, 2) := by decide +kernel
theorem dX2_init_9 : decode cX2_init 9 = .ok (.putfield 9, 3) := by decide +kernel
theorem dX2_init_12 : decode cX2_init 12 = .ok (.aload_n 0, 1) := by decide +kernel
theorem dX2_init_13 : decode cX2_init 13 = .ok (.bipush 6, 2) := by decide +kernel
theorem dX2_init_15 : decode cX2_init 15 = .ok (.newarray .int, 2) := by decide +kernel
theorem dX2_init_17 : decode cX2_init 17 = .ok (.putfield 15, 3) := by decide +kernel
theorem dX2_init_20 : decode cX2_init 20 = .ok (.return_, 1) := by decide +kernel
theorem dX2_add_0 : decode cX2_add 0 = .ok (.aload_n 0, 1) := by decide +kernel
theorem dX2_add_1 : decode cX2_add 1 = .ok (.getfield 18, 3) := by decide +kernel
theorem dX2_add_4 : decode cX2_add 4 = .ok (.bipush 6, 2) := by decide +kernel
theorem dX2_add_6 : decode cX2_add 6 = .ok (.if_icmp .ge 33, 3) := by decide +kernel
theorem dX2_add_9 : decode cX2_add 9 = .ok (.aload_n 0, 1) := by decide +kernel
theorem dX2_add_10 : decode cX2_add 10 = .ok (.getfield 9, 3) := by decide +kernel
theorem dX2_add_13 : decode cX2_add 13 = .ok (.aload_n 0, 1) := by decide +kernel
theorem dX2_add_14 : decode cX2_add 14 = .ok (.getfield 18, 3) := by decide +kernel
theorem dX2_add_17 : decode cX2_add 17 = .ok (.iload_n 1, 1) := by decide +kernel
theorem dX2_add_18 : decode cX2_add 18 = .ok (.iastore, 1) := by decide +kernel
theorem dX2_add_19 : decode cX2_add 19 = .ok (.aload_n 0, 1) := by decide +kernel
theorem dX2_add_20 : decode cX2_add 20 = .ok (.getfield 15, 3) := by decide +kernel
theorem dX2_add_23 : decode cX2_add 23 = .ok (.aload_n 0, 1) := by decide +kernel
theorem dX2_add_24 : decode cX2_add 24 = .ok (.getfield 18, 3) := by decide +kernel
theorem dX2_add_27 : decode cX2_add 27 = .ok (.iload_n 2, 1) := by decide +kernel
theorem dX2_add_28 : decode cX2_add 28 = .ok (.iastore, 1) := by decide +kernel
theorem dX2_add_29 : decode cX2_add 29 = .ok (.aload_n 0, 1) := by decide +kernel
theorem dX2_add_30 : decode cX2_add 30 = .ok (.dup, 1) := by decide +kernel
theorem dX2_add_31 : decode cX2_add 31 = .ok (.getfield 18, 3) := by decide +kernel
theorem dX2_add_34 : decode cX2_add 34 = .ok (.iconst 1, 1) := by decide +kernel
theorem dX2_add_35 : decode cX2_add 35 = .ok (.iadd, 1) := by decide +kernel
theorem dX2_add_36 : decode cX2_add 36 = .ok (.putfield 18, 3) := by decide +kernel
theorem dX2_add_39 : decode cX2_add 39 = .ok (.return_, 1) := by decide +kernel
theorem dX5_init_0 : decode cX5_init 0 = .ok (.aload_n 0, 1) := by decide +kernel
theorem dX5_init_1 : decode cX5_init 1 = .ok (.invokespecial 3, 3) := by decide +kernel
theorem dX5_init_4 : decode cX5_init 4 = .ok (.aload_n 0, 1) := by decide +kernel
theorem dX5_init_5 : decode cX5_init 5 = .ok (.aload_n 1, 1) := by decide +kernel
theorem dX5_init_6 : decode cX5_init 6 = .ok (.putfield 9, 3) := by decide +kernel
theorem dX5_init_9 : decode cX5_init 9 = .ok (.return_, 1) := by decide +kernel
theorem dX5_begin_0 : decode cX5_begin 0 = .ok (.aload_n 0, 1) := by decide +kernel
theorem dX5_begin_1 : decode cX5_begin 1 = .ok (.iconst 0, 1) := by decide +kernel
theorem dX5_begin_2 : decode cX5_begin 2 = .ok (.putfield 15, 3) := by decide +kernel
theorem dX5_begin_5 : decode cX5_begin 5 = .ok (.aload_n 0, 1) := by decide +kernel
theorem dX5_begin_6 : decode cX5_begin 6 = .ok (.aload_n 0, 1) := by decide +kernel
theorem dX5_begin_7 : decode cX5_begin 7 = .ok (.getfield 9, 3) := by decide +kernel
theorem dX5_begin_10 : decode cX5_begin 10 = .ok (.getfield 19, 3) := by decide +kernel
theorem dX5_begin_13 : decode cX5_begin 13 = .ok (.ifCond .le 7, 3) := by decide +kernel
theorem dX5_begin_16 : decode cX5_begin 16 = .ok (.iconst 0, 1) := by decide +kernel
theorem dX5_begin_17 : decode cX5_begin 17 = .ok (.goto 4, 3) := by decide +kernel
theorem dX5_begin_20 : decode cX5_begin 20 = .ok (.iconst 4, 1) := by decide +kernel
theorem dX5_begin_21 : decode cX5_begin 21 = .ok (.putfield 24, 3) := by decide +kernel
theorem dX5_begin_24 : decode cX5_begin 24 = .ok (.aload_n 0, 1) := by decide +kernel
theorem dX5_begin_25 : decode cX5_begin 25 = .ok (.iconst 0, 1) := by decide +kernel
theorem dX5_begin_26 : decode cX5_begin 26 = .ok (.putfield 27, 3) := by decide +kernel
theorem dX5_begin_29 : decode cX5_begin 29 = .ok (.aload_n 0, 1) := by decide +kernel
theorem dX5_begin_30 : decode cX5_begin 30 = .ok (.iconst 0, 1) := by decide +kernel
theorem dX5_begin_31 : decode cX5_begin 31 = .ok (.putfield 30, 3) := by decide +kernel
theorem dX5_begin_34 : decode cX5_begin 34 = .ok (.aload_n 0, 1) := by decide +kernel
theorem dX5_begin_35 : decode cX5_begin 35 = .ok (.iconst 0, 1) := by decide +kernel
theorem dX5_begin_36 : decode cX5_begin 36 = .ok (.putfield 34, 3) := by decide +kernel
theorem dX5_begin_39 : decode cX5_begin 39 = .ok (.aload_n 0, 1) := by decide +kernel
theorem dX5_begin_40 : decode cX5_begin 40 = .ok (.iconst 0, 1) := by decide +kernel
theorem dX5_begin_41 : decode cX5_begin 41 = .ok (.putfield 37, 3) := by decide +kernel
theorem dX5_begin_44 : decode cX5_begin 44 = .ok (.aload_n 0, 1) := by decide +kernel
theorem dX5_begin_45 : decode cX5_begin 45 = .ok (.iconst 1, 1) := by decide +kernel
theorem dX5_begin_46 : decode cX5_begin 46 = .ok (.putfield 40, 3) := by decide +kernel
theorem dX5_begin_49 : decode cX5_begin 49 = .ok (.return_, 1) := by decide +kernel
theorem dX5_runOn_0 : decode cX5_runOn 0 = .ok (.aload_n 0, 1) := by decide +kernel
theorem dX5_runOn_1 : decode cX5_runOn 1 = .ok (.dup, 1) := by decide +kernel
theorem dX5_runOn_2 : decode cX5_runOn 2 = .ok (.getfield 15, 3) := by decide +kernel
theorem dX5_runOn_5 : decode cX5_runOn 5 = .ok (.iconst 1, 1) := by decide +kernel
theorem dX5_runOn_6 : decode cX5_runOn 6 = .ok (.iadd, 1) := by decide +kernel
theorem dX5_runOn_7 : decode cX5_runOn 7 = .ok (.putfield 15, 3) := by decide +kernel
theorem dX5_runOn_10 : decode cX5_runOn 10 = .ok (.aload_n 0, 1) := by decide +kernel
theorem dX5_runOn_11 : decode cX5_runOn 11 = .ok (.aload_n 0, 1) := by decide +kernel
theorem dX5_runOn_12 : decode cX5_runOn 12 = .ok (.getfield 15, 3) := by decide +kernel
theorem dX5_runOn_15 : decode cX5_runOn 15 = .ok (.aload_n 0, 1) := by decide +kernel
theorem dX5_runOn_16 : decode cX5_runOn 16 = .ok (.getfield 9, 3) := by decide +kernel
theorem dX5_runOn_19 : decode cX5_runOn 19 = .ok (.getfield 19, 3) := by decide +kernel
theorem dX5_runOn_22 : decode cX5_runOn 22 = .ok (.if_icmp .ge 7, 3) := by decide +kernel
theorem dX5_runOn_25 : decode cX5_runOn 25 = .ok (.iconst 0, 1) := by decide +kernel
theorem dX5_runOn_26 : decode cX5_runOn 26 = .ok (.goto 4, 3) := by decide +kernel
theorem dX5_runOn_29 : decode cX5_runOn 29 = .ok (.iconst 4, 1) := by decide +kernel
theorem dX5_runOn_30 : decode cX5_runOn 30 = .ok (.putfield 24, 3) := by decide +kernel
theorem dX5_runOn_33 : decode cX5_runOn 33 = .ok (.return_, 1) := by decide +kernel
theorem dX5_action_0 : decode cX5_action 0 = .ok (.aload_n 0, 1) := by decide +kernel
theorem dX5_action_1 : decode cX5_action 1 = .ok (.getfield 9, 3) := by decide +kernel
theorem dX5_action_4 : decode cX5_action 4 = .ok (.getfield 43, 3) := by decide +kernel
theorem dX5_action_7 : decode cX5_action 7 = .ok (.aload_n 0, 1) := by decide +kernel
theorem dX5_action_8 : decode cX5_action 8 = .ok (.getfield 15, 3) := by decide +kernel
theorem dX5_action_11 : decode cX5_action 11 = .ok (.iaload, 1) := by decide +kernel
theorem dX5_action_12 : decode cX5_action 12 = .ok (.ireturn, 1) := by decide +kernel
theorem dX5_operand_0 : decode cX5_operand 0 = .ok (.aload_n 0, 1) := by decide +kernel
theorem dX5_operand_1 : decode cX5_operand 1 = .ok (.getfield 9, 3) := by decide +kernel
theorem dX5_operand_4 : decode cX5_operand 4 = .ok (.getfield 47, 3) := by decide +kernel
theorem dX5_operand_7 : decode cX5_operand 7 = .ok (.aload_n 0, 1) := by decide +kernel
theorem dX5_operand_8 : decode cX5_operand 8 = .ok (.getfield 15, 3) := by decide +kernel
theorem dX5_operand_11 : decode cX5_operand 11 = .ok (.iaload, 1) := by decide +kernel
theorem dX5_operand_12 : decode cX5_operand 12 = .ok (.ireturn, 1) := by decide +kernel
theorem dX5_put_0 : decode cX5_put 0 = .ok (.aload_n 0, 1) := by decide +kernel
theorem dX5_put_1 : decode cX5_put 1 = .ok (.aload_n 0, 1) := by decide +kernel
theorem dX5_put_2 : decode cX5_put 2 = .ok (.getfield 40, 3) := by decide +kernel
theorem dX5_put_5 : decode cX5_put 5 = .ok (.bipush 12, 2) := by decide +kernel
theorem dX5_put_7 : decode cX5_put 7 = .ok (.imul, 1) := by decide +kernel
theorem dX5_put_8 : decode cX5_put 8 = .ok (.iload_n 1, 1) := by decide +kernel
theorem dX5_put_9 : decode cX5_put 9 = .ok (.iadd, 1) := by decide +kernel
theorem dX5_put_10 : decode cX5_put 10 = .ok (.putfield 40, 3) := by decide +kernel
theorem dX5_put_13 : decode cX5_put 13 = .ok (.return_, 1) := by decide +kernel
theorem dX5_takeInterrupt_0 : decode cX5_takeInterrupt 0 = .ok (.aload_n 0, 1) := by decide +kernel
theorem dX5_takeInterrupt_1 : decode cX5_takeInterrupt 1 = .ok (.getfield 30, 3) := by decide +kernel
theorem dX5_takeInterrupt_4 : decode cX5_takeInterrupt 4 = .ok (.istore_n 1, 1) := by decide +kernel
theorem dX5_takeInterrupt_5 : decode cX5_takeInterrupt 5 = .ok (.aload_n 0, 1) := by decide +kernel
theorem dX5_takeInterrupt_6 : decode cX5_takeInterrupt 6 = .ok (.iconst 0, 1) := by decide +kernel
theorem dX5_takeInterrupt_7 : decode cX5_takeInterrupt 7 = .ok (.putfield 30, 3) := by decide +kernel
theorem dX5_takeInterrupt_10 : decode cX5_takeInterrupt 10 = .ok (.iload_n 1, 1) := by decide +kernel
theorem dX5_takeInterrupt_11 : decode cX5_takeInterrupt 11 = .ok (.ireturn, 1) := by decide +kernel
theorem dX5_stateNumber_0 : decode cX5_stateNumber 0 = .ok (.aload_n 0, 1) := by decide +kernel
theorem dX5_stateNumber_1 : decode cX5_stateNumber 1 = .ok (.getfield 24, 3) := by decide +kernel
theorem dX5_stateNumber_4 : decode cX5_stateNumber 4 = .ok (.aload_n 0, 1) := by decide +kernel
theorem dX5_stateNumber_5 : decode cX5_stateNumber 5 = .ok (.getfield 30, 3) := by decide +kernel
theorem dX5_stateNumber_8 : decode cX5_stateNumber 8 = .ok (.ifCond .eq 8, 3) := by decide +kernel
theorem dX5_stateNumber_11 : decode cX5_stateNumber 11 = .ok (.bipush 8, 2) := by decide +kernel
theorem dX5_stateNumber_13 : decode cX5_stateNumber 13 = .ok (.goto 4, 3) := by decide +kernel
theorem dX5_stateNumber_16 : decode cX5_stateNumber 16 = .ok (.iconst 0, 1) := by decide +kernel
theorem dX5_stateNumber_17 : decode cX5_stateNumber 17 = .ok (.iadd, 1) := by decide +kernel
theorem dX5_stateNumber_18 : decode cX5_stateNumber 18 = .ok (.aload_n 0, 1) := by decide +kernel
theorem dX5_stateNumber_19 : decode cX5_stateNumber 19 = .ok (.getfield 34, 3) := by decide +kernel
theorem dX5_stateNumber_22 : decode cX5_stateNumber 22 = .ok (.ifCond .eq 8, 3) := by decide +kernel
theorem dX5_stateNumber_25 : decode cX5_stateNumber 25 = .ok (.bipush 16, 2) := by decide +kernel
theorem dX5_stateNumber_27 : decode cX5_stateNumber 27 = .ok (.goto 4, 3) := by decide +kernel
theorem dX5_stateNumber_30 : decode cX5_stateNumber 30 = .ok (.iconst 0, 1) := by decide +kernel
theorem dX5_stateNumber_31 : decode cX5_stateNumber 31 = .ok (.iadd, 1) := by decide +kernel
theorem dX5_stateNumber_32 : decode cX5_stateNumber 32 = .ok (.ireturn, 1) := by decide +kernel
theorem dX5_letterAt_0 : decode cX5_letterAt 0 = .ok (.aload_n 0, 1) := by decide +kernel
theorem dX5_letterAt_1 : decode cX5_letterAt 1 = .ok (.invokevirtual 50, 3) := by decide +kernel
theorem dX5_letterAt_4 : decode cX5_letterAt 4 = .ok (.istore_n 2, 1) := by decide +kernel
theorem dX5_letterAt_5 : decode cX5_letterAt 5 = .ok (.iload_n 1, 1) := by decide +kernel
theorem dX5_letterAt_6 : decode cX5_letterAt 6 = .ok (.ifCond .lt 8, 3) := by decide +kernel
theorem dX5_letterAt_9 : decode cX5_letterAt 9 = .ok (.iload_n 1, 1) := by decide +kernel
theorem dX5_letterAt_10 : decode cX5_letterAt 10 = .ok (.iload_n 2, 1) := by decide +kernel
theorem dX5_letterAt_11 : decode cX5_letterAt 11 = .ok (.if_icmp .lt 5, 3) := by decide +kernel
theorem dX5_letterAt_14 : decode cX5_letterAt 14 = .ok (.iconst (-1), 1) := by decide +kernel
theorem dX5_letterAt_15 : decode cX5_letterAt 15 = .ok (.ireturn, 1) := by decide +kernel
theorem dX5_letterAt_16 : decode cX5_letterAt 16 = .ok (.aload_n 0, 1) := by decide +kernel
theorem dX5_letterAt_17 : decode cX5_letterAt 17 = .ok (.getfield 40, 3) := by decide +kernel
theorem dX5_letterAt_20 : decode cX5_letterAt 20 = .ok (.istore_n 3, 1) := by decide +kernel
theorem dX5_letterAt_21 : decode cX5_letterAt 21 = .ok (.iload_n 2, 1) := by decide +kernel
theorem dX5_letterAt_22 : decode cX5_letterAt 22 = .ok (.iconst 1, 1) := by decide +kernel
theorem dX5_letterAt_23 : decode cX5_letterAt 23 = .ok (.isub, 1) := by decide +kernel
theorem dX5_letterAt_24 : decode cX5_letterAt 24 = .ok (.istore 4, 2) := by decide +kernel
theorem dX5_letterAt_26 : decode cX5_letterAt 26 = .ok (.iload 4, 2) := by decide +kernel
theorem dX5_letterAt_28 : decode cX5_letterAt 28 = .ok (.iload_n 1, 1) := by decide +kernel
theorem dX5_letterAt_29 : decode cX5_letterAt 29 = .ok (.if_icmp .le 14, 3) := by decide +kernel
theorem dX5_letterAt_32 : decode cX5_letterAt 32 = .ok (.iload_n 3, 1) := by decide +kernel
theorem dX5_letterAt_33 : decode cX5_letterAt 33 = .ok (.bipush 12, 2) := by decide +kernel
theorem dX5_letterAt_35 : decode cX5_letterAt 35 = .ok (.idiv, 1) := by decide +kernel
theorem dX5_letterAt_36 : decode cX5_letterAt 36 = .ok (.istore_n 3, 1) := by decide +kernel
theorem dX5_letterAt_37 : decode cX5_letterAt 37 = .ok (.iinc 4 (-1), 3) := by decide +kernel
theorem dX5_letterAt_40 : decode cX5_letterAt 40 = .ok (.goto (-14), 3) := by decide +kernel
theorem dX5_letterAt_43 : decode cX5_letterAt 43 = .ok (.iload_n 3, 1) := by decide +kernel
theorem dX5_letterAt_44 : decode cX5_letterAt 44 = .ok (.bipush 12, 2) := by decide +kernel
theorem dX5_letterAt_46 : decode cX5_letterAt 46 = .ok (.irem, 1) := by decide +kernel
theorem dX5_letterAt_47 : decode cX5_letterAt 47 = .ok (.ireturn, 1) := by decide +kernel
theorem dX5_letterCount_0 : decode cX5_letterCount 0 = .ok (.iconst 0, 1) := by decide +kernel
theorem dX5_letterCount_1 : decode cX5_letterCount 1 = .ok (.istore_n 1, 1) := by decide +kernel
theorem dX5_letterCount_2 : decode cX5_letterCount 2 = .ok (.aload_n 0, 1) := by decide +kernel
theorem dX5_letterCount_3 : decode cX5_letterCount 3 = .ok (.getfield 40, 3) := by decide +kernel
theorem dX5_letterCount_6 : decode cX5_letterCount 6 = .ok (.istore_n 2, 1) := by decide +kernel
theorem dX5_letterCount_7 : decode cX5_letterCount 7 = .ok (.iload_n 2, 1) := by decide +kernel
theorem dX5_letterCount_8 : decode cX5_letterCount 8 = .ok (.bipush 12, 2) := by decide +kernel
theorem dX5_letterCount_10 : decode cX5_letterCount 10 = .ok (.if_icmp .lt 20, 3) := by decide +kernel
theorem dX5_letterCount_13 : decode cX5_letterCount 13 = .ok (.iload_n 1, 1) := by decide +kernel
theorem dX5_letterCount_14 : decode cX5_letterCount 14 = .ok (.bipush 6, 2) := by decide +kernel
theorem dX5_letterCount_16 : decode cX5_letterCount 16 = .ok (.if_icmp .ge 14, 3) := by decide +kernel
theorem dX5_letterCount_19 : decode cX5_letterCount 19 = .ok (.iinc 1 1, 3) := by decide +kernel
theorem dX5_letterCount_22 : decode cX5_letterCount 22 = .ok (.iload_n 2, 1) := by decide +kernel
theorem dX5_letterCount_23 : decode cX5_letterCount 23 = .ok (.bipush 12, 2) := by decide +kernel
theorem dX5_letterCount_25 : decode cX5_letterCount 25 = .ok (.idiv, 1) := by decide +kernel
theorem dX5_letterCount_26 : decode cX5_letterCount 26 = .ok (.istore_n 2, 1) := by decide +kernel
theorem dX5_letterCount_27 : decode cX5_letterCount 27 = .ok (.goto (-20), 3) := by decide +kernel
theorem dX5_letterCount_30 : decode cX5_letterCount 30 = .ok (.iload_n 1, 1) := by decide +kernel
theorem dX5_letterCount_31 : decode cX5_letterCount 31 = .ok (.ireturn, 1) := by decide +kernel
theorem dX5_outcomePart_0 : decode cX5_outcomePart 0 = .ok (.aload_n 0, 1) := by decide +kernel
theorem dX5_outcomePart_1 : decode cX5_outcomePart 1 = .ok (.getfield 40, 3) := by decide +kernel
theorem dX5_outcomePart_4 : decode cX5_outcomePart 4 = .ok (.i2l, 1) := by decide +kernel
theorem dX5_outcomePart_5 : decode cX5_outcomePart 5 = .ok (.ldc2_w 54, 3) := by decide +kernel
theorem dX5_outcomePart_8 : decode cX5_outcomePart 8 = .ok (.lmul, 1) := by decide +kernel
theorem dX5_outcomePart_9 : decode cX5_outcomePart 9 = .ok (.aload_n 0, 1) := by decide +kernel
theorem dX5_outcomePart_10 : decode cX5_outcomePart 10 = .ok (.getfield 24, 3) := by decide +kernel
theorem dX5_outcomePart_13 : decode cX5_outcomePart 13 = .ok (.iconst 4, 1) := by decide +kernel
theorem dX5_outcomePart_14 : decode cX5_outcomePart 14 = .ok (.if_icmp .ne 8, 3) := by decide +kernel
theorem dX5_outcomePart_17 : decode cX5_outcomePart 17 = .ok (.bipush 6, 2) := by decide +kernel
theorem dX5_outcomePart_19 : decode cX5_outcomePart 19 = .ok (.goto 5, 3) := by decide +kernel
theorem dX5_outcomePart_22 : decode cX5_outcomePart 22 = .ok (.bipush 7, 2) := by decide +kernel
theorem dX5_outcomePart_24 : decode cX5_outcomePart 24 = .ok (.i2l, 1) := by decide +kernel
theorem dX5_outcomePart_25 : decode cX5_outcomePart 25 = .ok (.ladd, 1) := by decide +kernel
theorem dX5_outcomePart_26 : decode cX5_outcomePart 26 = .ok (.lreturn, 1) := by decide +kernel
theorem dX5_packed_0 : decode cX5_packed 0 = .ok (.aload_n 0, 1) := by decide +kernel
theorem dX5_packed_1 : decode cX5_packed 1 = .ok (.getfield 30, 3) := by decide +kernel
theorem dX5_packed_4 : decode cX5_packed 4 = .ok (.ifCond .eq 7, 3) := by decide +kernel
theorem dX5_packed_7 : decode cX5_packed 7 = .ok (.iconst 1, 1) := by decide +kernel
theorem dX5_packed_8 : decode cX5_packed 8 = .ok (.goto 4, 3) := by decide +kernel
theorem dX5_packed_11 : decode cX5_packed 11 = .ok (.iconst 0, 1) := by decide +kernel
theorem dX5_packed_12 : decode cX5_packed 12 = .ok (.aload_n 0, 1) := by decide +kernel
theorem dX5_packed_13 : decode cX5_packed 13 = .ok (.getfield 34, 3) := by decide +kernel
theorem dX5_packed_16 : decode cX5_packed 16 = .ok (.ifCond .eq 7, 3) := by decide +kernel
theorem dX5_packed_19 : decode cX5_packed 19 = .ok (.iconst 2, 1) := by decide +kernel
theorem dX5_packed_20 : decode cX5_packed 20 = .ok (.goto 4, 3) := by decide +kernel
theorem dX5_packed_23 : decode cX5_packed 23 = .ok (.iconst 0, 1) := by decide +kernel
theorem dX5_packed_24 : decode cX5_packed 24 = .ok (.ior, 1) := by decide +kernel
theorem dX5_packed_25 : decode cX5_packed 25 = .ok (.aload_n 0, 1) := by decide +kernel
theorem dX5_packed_26 : decode cX5_packed 26 = .ok (.getfield 37, 3) := by decide +kernel
theorem dX5_packed_29 : decode cX5_packed 29 = .ok (.ifCond .eq 7, 3) := by decide +kernel
theorem dX5_packed_32 : decode cX5_packed 32 = .ok (.iconst 4, 1) := by decide +kernel
theorem dX5_packed_33 : decode cX5_packed 33 = .ok (.goto 4, 3) := by decide +kernel
theorem dX5_packed_36 : decode cX5_packed 36 = .ok (.iconst 0, 1) := by decide +kernel
theorem dX5_packed_37 : decode cX5_packed 37 = .ok (.ior, 1) := by decide +kernel
theorem dX5_packed_38 : decode cX5_packed 38 = .ok (.istore_n 1, 1) := by decide +kernel
theorem dX5_packed_39 : decode cX5_packed 39 = .ok (.aload_n 0, 1) := by decide +kernel
theorem dX5_packed_40 : decode cX5_packed 40 = .ok (.getfield 24, 3) := by decide +kernel
theorem dX5_packed_43 : decode cX5_packed 43 = .ok (.aload_n 0, 1) := by decide +kernel
theorem dX5_packed_44 : decode cX5_packed 44 = .ok (.getfield 15, 3) := by decide +kernel
theorem dX5_packed_47 : decode cX5_packed 47 = .ok (.iconst 3, 1) := by decide +kernel
theorem dX5_packed_48 : decode cX5_packed 48 = .ok (.ishl, 1) := by decide +kernel
theorem dX5_packed_49 : decode cX5_packed 49 = .ok (.ior, 1) := by decide +kernel
theorem dX5_packed_50 : decode cX5_packed 50 = .ok (.aload_n 0, 1) := by decide +kernel
theorem dX5_packed_51 : decode cX5_packed 51 = .ok (.getfield 27, 3) := by decide +kernel
theorem dX5_packed_54 : decode cX5_packed 54 = .ok (.bipush 6, 2) := by decide +kernel
theorem dX5_packed_56 : decode cX5_packed 56 = .ok (.ishl, 1) := by decide +kernel
theorem dX5_packed_57 : decode cX5_packed 57 = .ok (.ior, 1) := by decide +kernel
theorem dX5_packed_58 : decode cX5_packed 58 = .ok (.iload_n 1, 1) := by decide +kernel
theorem dX5_packed_59 : decode cX5_packed 59 = .ok (.bipush 9, 2) := by decide +kernel
theorem dX5_packed_61 : decode cX5_packed 61 = .ok (.ishl, 1) := by decide +kernel
theorem dX5_packed_62 : decode cX5_packed 62 = .ok (.ior, 1) := by decide +kernel
theorem dX5_packed_63 : decode cX5_packed 63 = .ok (.istore_n 2, 1) := by decide +kernel
theorem dX5_packed_64 : decode cX5_packed 64 = .ok (.aload_n 0, 1) := by decide +kernel
theorem dX5_packed_65 : decode cX5_packed 65 = .ok (.getfield 40, 3) := by decide +kernel
theorem dX5_packed_68 : decode cX5_packed 68 = .ok (.i2l, 1) := by decide +kernel
theorem dX5_packed_69 : decode cX5_packed 69 = .ok (.bipush 12, 2) := by decide +kernel
theorem dX5_packed_71 : decode cX5_packed 71 = .ok (.lshl, 1) := by decide +kernel
theorem dX5_packed_72 : decode cX5_packed 72 = .ok (.iload_n 2, 1) := by decide +kernel
theorem dX5_packed_73 : decode cX5_packed 73 = .ok (.i2l, 1) := by decide +kernel
theorem dX5_packed_74 : decode cX5_packed 74 = .ok (.lor, 1) := by decide +kernel
theorem dX5_packed_75 : decode cX5_packed 75 = .ok (.lreturn, 1) := by decide +kernel
theorem dX5_unpack_0 : decode cX5_unpack 0 = .ok (.lload_n 1, 1) := by decide +kernel
theorem dX5_unpack_1 : decode cX5_unpack 1 = .ok (.l2i, 1) := by decide +kernel
theorem dX5_unpack_2 : decode cX5_unpack 2 = .ok (.sipush 4095, 3) := by decide +kernel
theorem dX5_unpack_5 : decode cX5_unpack 5 = .ok (.iand, 1) := by decide +kernel
theorem dX5_unpack_6 : decode cX5_unpack 6 = .ok (.istore_n 3, 1) := by decide +kernel
theorem dX5_unpack_7 : decode cX5_unpack 7 = .ok (.iload_n 3, 1) := by decide +kernel
theorem dX5_unpack_8 : decode cX5_unpack 8 = .ok (.bipush 9, 2) := by decide +kernel
theorem dX5_unpack_10 : decode cX5_unpack 10 = .ok (.ishr, 1) := by decide +kernel
theorem dX5_unpack_11 : decode cX5_unpack 11 = .ok (.istore 4, 2) := by decide +kernel
theorem dX5_unpack_13 : decode cX5_unpack 13 = .ok (.aload_n 0, 1) := by decide +kernel
theorem dX5_unpack_14 : decode cX5_unpack 14 = .ok (.iload_n 3, 1) := by decide +kernel
theorem dX5_unpack_15 : decode cX5_unpack 15 = .ok (.bipush 7, 2) := by decide +kernel
theorem dX5_unpack_17 : decode cX5_unpack 17 = .ok (.iand, 1) := by decide +kernel
theorem dX5_unpack_18 : decode cX5_unpack 18 = .ok (.putfield 24, 3) := by decide +kernel
theorem dX5_unpack_21 : decode cX5_unpack 21 = .ok (.aload_n 0, 1) := by decide +kernel
theorem dX5_unpack_22 : decode cX5_unpack 22 = .ok (.iload_n 3, 1) := by decide +kernel
theorem dX5_unpack_23 : decode cX5_unpack 23 = .ok (.iconst 3, 1) := by decide +kernel
theorem dX5_unpack_24 : decode cX5_unpack 24 = .ok (.ishr, 1) := by decide +kernel
theorem dX5_unpack_25 : decode cX5_unpack 25 = .ok (.bipush 7, 2) := by decide +kernel
theorem dX5_unpack_27 : decode cX5_unpack 27 = .ok (.iand, 1) := by decide +kernel
theorem dX5_unpack_28 : decode cX5_unpack 28 = .ok (.putfield 15, 3) := by decide +kernel
theorem dX5_unpack_31 : decode cX5_unpack 31 = .ok (.aload_n 0, 1) := by decide +kernel
theorem dX5_unpack_32 : decode cX5_unpack 32 = .ok (.iload_n 3, 1) := by decide +kernel
theorem dX5_unpack_33 : decode cX5_unpack 33 = .ok (.bipush 6, 2) := by decide +kernel
theorem dX5_unpack_35 : decode cX5_unpack 35 = .ok (.ishr, 1) := by decide +kernel
theorem dX5_unpack_36 : decode cX5_unpack 36 = .ok (.bipush 7, 2) := by decide +kernel
theorem dX5_unpack_38 : decode cX5_unpack 38 = .ok (.iand, 1) := by decide +kernel
theorem dX5_unpack_39 : decode cX5_unpack 39 = .ok (.putfield 27, 3) := by decide +kernel
theorem dX5_unpack_42 : decode cX5_unpack 42 = .ok (.aload_n 0, 1) := by decide +kernel
theorem dX5_unpack_43 : decode cX5_unpack 43 = .ok (.iload 4, 2) := by decide +kernel
theorem dX5_unpack_45 : decode cX5_unpack 45 = .ok (.iconst 1, 1) := by decide +kernel
theorem dX5_unpack_46 : decode cX5_unpack 46 = .ok (.iand, 1) := by decide +kernel
theorem dX5_unpack_47 : decode cX5_unpack 47 = .ok (.ifCond .eq 7, 3) := by decide +kernel
theorem dX5_unpack_50 : decode cX5_unpack 50 = .ok (.iconst 1, 1) := by decide +kernel
theorem dX5_unpack_51 : decode cX5_unpack 51 = .ok (.goto 4, 3) := by decide +kernel
theorem dX5_unpack_54 : decode cX5_unpack 54 = .ok (.iconst 0, 1) := by decide +kernel
theorem dX5_unpack_55 : decode cX5_unpack 55 = .ok (.putfield 30, 3) := by decide +kernel
theorem dX5_unpack_58 : decode cX5_unpack 58 = .ok (.aload_n 0, 1) := by decide +kernel
theorem dX5_unpack_59 : decode cX5_unpack 59 = .ok (.iload 4, 2) := by decide +kernel
theorem dX5_unpack_61 : decode cX5_unpack 61 = .ok (.iconst 2, 1) := by decide +kernel
theorem dX5_unpack_62 : decode cX5_unpack 62 = .ok (.iand, 1) := by decide +kernel
theorem dX5_unpack_63 : decode cX5_unpack 63 = .ok (.ifCond .eq 7, 3) := by decide +kernel
theorem dX5_unpack_66 : decode cX5_unpack 66 = .ok (.iconst 1, 1) := by decide +kernel
theorem dX5_unpack_67 : decode cX5_unpack 67 = .ok (.goto 4, 3) := by decide +kernel
theorem dX5_unpack_70 : decode cX5_unpack 70 = .ok (.iconst 0, 1) := by decide +kernel
theorem dX5_unpack_71 : decode cX5_unpack 71 = .ok (.putfield 34, 3) := by decide +kernel
theorem dX5_unpack_74 : decode cX5_unpack 74 = .ok (.aload_n 0, 1) := by decide +kernel
theorem dX5_unpack_75 : decode cX5_unpack 75 = .ok (.iload 4, 2) := by decide +kernel
theorem dX5_unpack_77 : decode cX5_unpack 77 = .ok (.iconst 4, 1) := by decide +kernel
theorem dX5_unpack_78 : decode cX5_unpack 78 = .ok (.iand, 1) := by decide +kernel
theorem dX5_unpack_79 : decode cX5_unpack 79 = .ok (.ifCond .eq 7, 3) := by decide +kernel
theorem dX5_unpack_82 : decode cX5_unpack 82 = .ok (.iconst 1, 1) := by decide +kernel
theorem dX5_unpack_83 : decode cX5_unpack 83 = .ok (.goto 4, 3) := by decide +kernel
theorem dX5_unpack_86 : decode cX5_unpack 86 = .ok (.iconst 0, 1) := by decide +kernel
theorem dX5_unpack_87 : decode cX5_unpack 87 = .ok (.putfield 37, 3) := by decide +kernel
theorem dX5_unpack_90 : decode cX5_unpack 90 = .ok (.aload_n 0, 1) := by decide +kernel
theorem dX5_unpack_91 : decode cX5_unpack 91 = .ok (.lload_n 1, 1) := by decide +kernel
theorem dX5_unpack_92 : decode cX5_unpack 92 = .ok (.bipush 12, 2) := by decide +kernel
theorem dX5_unpack_94 : decode cX5_unpack 94 = .ok (.lushr, 1) := by decide +kernel
theorem dX5_unpack_95 : decode cX5_unpack 95 = .ok (.l2i, 1) := by decide +kernel
theorem dX5_unpack_96 : decode cX5_unpack 96 = .ok (.ldc 56, 2) := by decide +kernel
theorem dX5_unpack_98 : decode cX5_unpack 98 = .ok (.iand, 1) := by decide +kernel
theorem dX5_unpack_99 : decode cX5_unpack 99 = .ok (.putfield 40, 3) := by decide +kernel
theorem dX5_unpack_102 : decode cX5_unpack 102 = .ok (.return_, 1) := by decide +kernel
