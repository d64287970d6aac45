theorem dX6_init_0 : decode cX6_init 0 = .ok (.aload_n 0, 1) := by decide +kernel
theorem dX6_init_1 : decode cX6_init 1 = .ok (.invokespecial 1, 3) := by decide +kernel
theorem dX6_init_4 : decode cX6_init 4 = .ok (.iconst 4, 1) := by decide +kernel
theorem dX6_init_5 : decode cX6_init 5 = .ok (.anewarray 9, 3) := by decide +kernel
theorem dX6_init_8 : decode cX6_init 8 = .ok (.astore_n 2, 1) := by decide +kernel
theorem dX6_init_9 : decode cX6_init 9 = .ok (.iconst 0, 1) := by decide +kernel
theorem dX6_init_10 : decode cX6_init 10 = .ok (.istore_n 3, 1) := by decide +kernel
theorem dX6_init_11 : decode cX6_init 11 = .ok (.iload_n 3, 1) := by decide +kernel
theorem dX6_init_12 : decode cX6_init 12 = .ok (.iconst 4, 1) := by decide +kernel
theorem dX6_init_13 : decode cX6_init 13 = .ok (.if_icmp .ge 19, 3) := by decide +kernel
theorem dX6_init_16 : decode cX6_init 16 = .ok (.aload_n 2, 1) := by decide +kernel
theorem dX6_init_17 : decode cX6_init 17 = .ok (.iload_n 3, 1) := by decide +kernel
theorem dX6_init_18 : decode cX6_init 18 = .ok (.new 9, 3) := by decide +kernel
theorem dX6_init_21 : decode cX6_init 21 = .ok (.dup, 1) := by decide +kernel
theorem dX6_init_22 : decode cX6_init 22 = .ok (.invokespecial 11, 3) := by decide +kernel
theorem dX6_init_25 : decode cX6_init 25 = .ok (.aastore, 1) := by decide +kernel
theorem dX6_init_26 : decode cX6_init 26 = .ok (.iinc 3 1, 3) := by decide +kernel
theorem dX6_init_29 : decode cX6_init 29 = .ok (.goto (-18), 3) := by decide +kernel
theorem dX6_init_32 : decode cX6_init 32 = .ok (.iload_n 1, 1) := by decide +kernel
theorem dX6_init_33 : decode cX6_init 33 = .ok (.iconst 1, 1) := by decide +kernel
theorem dX6_init_34 : decode cX6_init 34 = .ok (.if_icmp .ne 7, 3) := by decide +kernel
theorem dX6_init_37 : decode cX6_init 37 = .ok (.iconst 1, 1) := by decide +kernel
theorem dX6_init_38 : decode cX6_init 38 = .ok (.goto 4, 3) := by decide +kernel
theorem dX6_init_41 : decode cX6_init 41 = .ok (.iconst 0, 1) := by decide +kernel
theorem dX6_init_42 : decode cX6_init 42 = .ok (.istore_n 3, 1) := by decide +kernel
theorem dX6_init_43 : decode cX6_init 43 = .ok (.aload_n 0, 1) := by decide +kernel
theorem dX6_init_44 : decode cX6_init 44 = .ok (.aload_n 2, 1) := by decide +kernel
theorem dX6_init_45 : decode cX6_init 45 = .ok (.putfield 12, 3) := by decide +kernel
theorem dX6_init_48 : decode cX6_init 48 = .ok (.aload_n 0, 1) := by decide +kernel
theorem dX6_init_49 : decode cX6_init 49 = .ok (.new 16, 3) := by decide +kernel
theorem dX6_init_52 : decode cX6_init 52 = .ok (.dup, 1) := by decide +kernel
theorem dX6_init_53 : decode cX6_init 53 = .ok (.aload_n 2, 1) := by decide +kernel
theorem dX6_init_54 : decode cX6_init 54 = .ok (.iload_n 3, 1) := by decide +kernel
theorem dX6_init_55 : decode cX6_init 55 = .ok (.invokespecial 18, 3) := by decide +kernel
theorem dX6_init_58 : decode cX6_init 58 = .ok (.putfield 21, 3) := by decide +kernel
theorem dX6_init_61 : decode cX6_init 61 = .ok (.aload_n 0, 1) := by decide +kernel
theorem dX6_init_62 : decode cX6_init 62 = .ok (.new 25, 3) := by decide +kernel
theorem dX6_init_65 : decode cX6_init 65 = .ok (.dup, 1) := by decide +kernel
theorem dX6_init_66 : decode cX6_init 66 = .ok (.new 16, 3) := by decide +kernel
theorem dX6_init_69 : decode cX6_init 69 = .ok (.dup, 1) := by decide +kernel
theorem dX6_init_70 : decode cX6_init 70 = .ok (.aload_n 2, 1) := by decide +kernel
theorem dX6_init_71 : decode cX6_init 71 = .ok (.iload_n 3, 1) := by decide +kernel
theorem dX6_init_72 : decode cX6_init 72 = .ok (.invokespecial 18, 3) := by decide +kernel
theorem dX6_init_75 : decode cX6_init 75 = .ok (.invokespecial 27, 3) := by decide +kernel
theorem dX6_init_78 : decode cX6_init 78 = .ok (.putfield 30, 3) := by decide +kernel
theorem dX6_init_81 : decode cX6_init 81 = .ok (.return_, 1) := by decide +kernel
theorem dX6_act_0 : decode cX6_act 0 = .ok (.iload_n 1, 1) := by decide +kernel
theorem dX6_act_1 : decode cX6_act 1 = .ok (.invokestatic 34, 3) := by decide +kernel
theorem dX6_act_4 : decode cX6_act 4 = .ok (.ifCond .eq 11, 3) := by decide +kernel
theorem dX6_act_7 : decode cX6_act 7 = .ok (.iload_n 2, 1) := by decide +kernel
theorem dX6_act_8 : decode cX6_act 8 = .ok (.iload_n 3, 1) := by decide +kernel
theorem dX6_act_9 : decode cX6_act 9 = .ok (.invokestatic 38, 3) := by decide +kernel
theorem dX6_act_12 : decode cX6_act 12 = .ok (.ifCond .ne 5, 3) := by decide +kernel
theorem dX6_act_15 : decode cX6_act 15 = .ok (.iconst (-1), 1) := by decide +kernel
theorem dX6_act_16 : decode cX6_act 16 = .ok (.ireturn, 1) := by decide +kernel
theorem dX6_act_17 : decode cX6_act 17 = .ok (.aload_n 0, 1) := by decide +kernel
theorem dX6_act_18 : decode cX6_act 18 = .ok (.getfield 12, 3) := by decide +kernel
theorem dX6_act_21 : decode cX6_act 21 = .ok (.iload_n 1, 1) := by decide +kernel
theorem dX6_act_22 : decode cX6_act 22 = .ok (.aaload, 1) := by decide +kernel
theorem dX6_act_23 : decode cX6_act 23 = .ok (.getfield 42, 3) := by decide +kernel
theorem dX6_act_26 : decode cX6_act 26 = .ok (.bipush 6, 2) := by decide +kernel
theorem dX6_act_28 : decode cX6_act 28 = .ok (.if_icmp .lt 6, 3) := by decide +kernel
theorem dX6_act_31 : decode cX6_act 31 = .ok (.bipush (-2), 2) := by decide +kernel
theorem dX6_act_33 : decode cX6_act 33 = .ok (.ireturn, 1) := by decide +kernel
theorem dX6_act_34 : decode cX6_act 34 = .ok (.aload_n 0, 1) := by decide +kernel
theorem dX6_act_35 : decode cX6_act 35 = .ok (.getfield 12, 3) := by decide +kernel
theorem dX6_act_38 : decode cX6_act 38 = .ok (.iload_n 1, 1) := by decide +kernel
theorem dX6_act_39 : decode cX6_act 39 = .ok (.aaload, 1) := by decide +kernel
theorem dX6_act_40 : decode cX6_act 40 = .ok (.iload_n 2, 1) := by decide +kernel
theorem dX6_act_41 : decode cX6_act 41 = .ok (.iload_n 3, 1) := by decide +kernel
theorem dX6_act_42 : decode cX6_act 42 = .ok (.invokevirtual 46, 3) := by decide +kernel
theorem dX6_act_45 : decode cX6_act 45 = .ok (.aload_n 0, 1) := by decide +kernel
theorem dX6_act_46 : decode cX6_act 46 = .ok (.getfield 30, 3) := by decide +kernel
theorem dX6_act_49 : decode cX6_act 49 = .ok (.invokevirtual 50, 3) := by decide +kernel
theorem dX6_act_52 : decode cX6_act 52 = .ok (.aload_n 0, 1) := by decide +kernel
theorem dX6_act_53 : decode cX6_act 53 = .ok (.invokevirtual 53, 3) := by decide +kernel
theorem dX6_act_56 : decode cX6_act 56 = .ok (.aload_n 0, 1) := by decide +kernel
theorem dX6_act_57 : decode cX6_act 57 = .ok (.getfield 12, 3) := by decide +kernel
theorem dX6_act_60 : decode cX6_act 60 = .ok (.iload_n 1, 1) := by decide +kernel
theorem dX6_act_61 : decode cX6_act 61 = .ok (.aaload, 1) := by decide +kernel
theorem dX6_act_62 : decode cX6_act 62 = .ok (.getfield 42, 3) := by decide +kernel
theorem dX6_act_65 : decode cX6_act 65 = .ok (.ireturn, 1) := by decide +kernel
theorem dX6_choose_0 : decode cX6_choose 0 = .ok (.iload_n 1, 1) := by decide +kernel
theorem dX6_choose_1 : decode cX6_choose 1 = .ok (.invokestatic 34, 3) := by decide +kernel
theorem dX6_choose_4 : decode cX6_choose 4 = .ok (.ifCond .eq 10, 3) := by decide +kernel
theorem dX6_choose_7 : decode cX6_choose 7 = .ok (.iload_n 2, 1) := by decide +kernel
theorem dX6_choose_8 : decode cX6_choose 8 = .ok (.invokestatic 56, 3) := by decide +kernel
theorem dX6_choose_11 : decode cX6_choose 11 = .ok (.ifCond .ne 5, 3) := by decide +kernel
theorem dX6_choose_14 : decode cX6_choose 14 = .ok (.iconst (-1), 1) := by decide +kernel
theorem dX6_choose_15 : decode cX6_choose 15 = .ok (.ireturn, 1) := by decide +kernel
theorem dX6_choose_16 : decode cX6_choose 16 = .ok (.aload_n 0, 1) := by decide +kernel
theorem dX6_choose_17 : decode cX6_choose 17 = .ok (.getfield 21, 3) := by decide +kernel
theorem dX6_choose_20 : decode cX6_choose 20 = .ok (.iload_n 1, 1) := by decide +kernel
theorem dX6_choose_21 : decode cX6_choose 21 = .ok (.iload_n 2, 1) := by decide +kernel
theorem dX6_choose_22 : decode cX6_choose 22 = .ok (.invokevirtual 59, 3) := by decide +kernel
theorem dX6_choose_25 : decode cX6_choose 25 = .ok (.ifCond .ne 5, 3) := by decide +kernel
theorem dX6_choose_28 : decode cX6_choose 28 = .ok (.iconst 0, 1) := by decide +kernel
theorem dX6_choose_29 : decode cX6_choose 29 = .ok (.ireturn, 1) := by decide +kernel
theorem dX6_choose_30 : decode cX6_choose 30 = .ok (.aload_n 0, 1) := by decide +kernel
theorem dX6_choose_31 : decode cX6_choose 31 = .ok (.getfield 21, 3) := by decide +kernel
theorem dX6_choose_34 : decode cX6_choose 34 = .ok (.iload_n 1, 1) := by decide +kernel
theorem dX6_choose_35 : decode cX6_choose 35 = .ok (.iload_n 2, 1) := by decide +kernel
theorem dX6_choose_36 : decode cX6_choose 36 = .ok (.invokevirtual 62, 3) := by decide +kernel
theorem dX6_choose_39 : decode cX6_choose 39 = .ok (.aload_n 0, 1) := by decide +kernel
theorem dX6_choose_40 : decode cX6_choose 40 = .ok (.dup, 1) := by decide +kernel
theorem dX6_choose_41 : decode cX6_choose 41 = .ok (.getfield 65, 3) := by decide +kernel
theorem dX6_choose_44 : decode cX6_choose 44 = .ok (.iconst 1, 1) := by decide +kernel
theorem dX6_choose_45 : decode cX6_choose 45 = .ok (.iadd, 1) := by decide +kernel
theorem dX6_choose_46 : decode cX6_choose 46 = .ok (.putfield 65, 3) := by decide +kernel
theorem dX6_choose_49 : decode cX6_choose 49 = .ok (.iconst 1, 1) := by decide +kernel
theorem dX6_choose_50 : decode cX6_choose 50 = .ok (.ireturn, 1) := by decide +kernel
theorem dX6_allowed_0 : decode cX6_allowed 0 = .ok (.iload_n 1, 1) := by decide +kernel
theorem dX6_allowed_1 : decode cX6_allowed 1 = .ok (.invokestatic 34, 3) := by decide +kernel
theorem dX6_allowed_4 : decode cX6_allowed 4 = .ok (.ifCond .eq 26, 3) := by decide +kernel
theorem dX6_allowed_7 : decode cX6_allowed 7 = .ok (.iload_n 2, 1) := by decide +kernel
theorem dX6_allowed_8 : decode cX6_allowed 8 = .ok (.invokestatic 56, 3) := by decide +kernel
theorem dX6_allowed_11 : decode cX6_allowed 11 = .ok (.ifCond .eq 19, 3) := by decide +kernel
theorem dX6_allowed_14 : decode cX6_allowed 14 = .ok (.aload_n 0, 1) := by decide +kernel
theorem dX6_allowed_15 : decode cX6_allowed 15 = .ok (.getfield 21, 3) := by decide +kernel
theorem dX6_allowed_18 : decode cX6_allowed 18 = .ok (.iload_n 1, 1) := by decide +kernel
theorem dX6_allowed_19 : decode cX6_allowed 19 = .ok (.iload_n 2, 1) := by decide +kernel
theorem dX6_allowed_20 : decode cX6_allowed 20 = .ok (.invokevirtual 59, 3) := by decide +kernel
theorem dX6_allowed_23 : decode cX6_allowed 23 = .ok (.ifCond .eq 7, 3) := by decide +kernel
theorem dX6_allowed_26 : decode cX6_allowed 26 = .ok (.iconst 1, 1) := by decide +kernel
theorem dX6_allowed_27 : decode cX6_allowed 27 = .ok (.goto 4, 3) := by decide +kernel
theorem dX6_allowed_30 : decode cX6_allowed 30 = .ok (.iconst 0, 1) := by decide +kernel
theorem dX6_allowed_31 : decode cX6_allowed 31 = .ok (.ireturn, 1) := by decide +kernel
theorem dX6_reset_0 : decode cX6_reset 0 = .ok (.aload_n 0, 1) := by decide +kernel
theorem dX6_reset_1 : decode cX6_reset 1 = .ok (.getfield 65, 3) := by decide +kernel
theorem dX6_reset_4 : decode cX6_reset 4 = .ok (.istore_n 1, 1) := by decide +kernel
theorem dX6_reset_5 : decode cX6_reset 5 = .ok (.aload_n 0, 1) := by decide +kernel
theorem dX6_reset_6 : decode cX6_reset 6 = .ok (.invokevirtual 53, 3) := by decide +kernel
theorem dX6_reset_9 : decode cX6_reset 9 = .ok (.iload_n 1, 1) := by decide +kernel
theorem dX6_reset_10 : decode cX6_reset 10 = .ok (.ireturn, 1) := by decide +kernel
theorem dX6_state_0 : decode cX6_state 0 = .ok (.iload_n 1, 1) := by decide +kernel
theorem dX6_state_1 : decode cX6_state 1 = .ok (.invokestatic 34, 3) := by decide +kernel
theorem dX6_state_4 : decode cX6_state 4 = .ok (.ifCond .eq 18, 3) := by decide +kernel
theorem dX6_state_7 : decode cX6_state 7 = .ok (.aload_n 0, 1) := by decide +kernel
theorem dX6_state_8 : decode cX6_state 8 = .ok (.getfield 21, 3) := by decide +kernel
theorem dX6_state_11 : decode cX6_state 11 = .ok (.getfield 68, 3) := by decide +kernel
theorem dX6_state_14 : decode cX6_state 14 = .ok (.iload_n 1, 1) := by decide +kernel
theorem dX6_state_15 : decode cX6_state 15 = .ok (.aaload, 1) := by decide +kernel
theorem dX6_state_16 : decode cX6_state 16 = .ok (.invokevirtual 72, 3) := by decide +kernel
theorem dX6_state_19 : decode cX6_state 19 = .ok (.goto 4, 3) := by decide +kernel
theorem dX6_state_22 : decode cX6_state 22 = .ok (.iconst (-1), 1) := by decide +kernel
theorem dX6_state_23 : decode cX6_state 23 = .ok (.ireturn, 1) := by decide +kernel
theorem dX6_letter_0 : decode cX6_letter 0 = .ok (.iload_n 1, 1) := by decide +kernel
theorem dX6_letter_1 : decode cX6_letter 1 = .ok (.invokestatic 34, 3) := by decide +kernel
theorem dX6_letter_4 : decode cX6_letter 4 = .ok (.ifCond .eq 19, 3) := by decide +kernel
theorem dX6_letter_7 : decode cX6_letter 7 = .ok (.aload_n 0, 1) := by decide +kernel
theorem dX6_letter_8 : decode cX6_letter 8 = .ok (.getfield 21, 3) := by decide +kernel
theorem dX6_letter_11 : decode cX6_letter 11 = .ok (.getfield 68, 3) := by decide +kernel
theorem dX6_letter_14 : decode cX6_letter 14 = .ok (.iload_n 1, 1) := by decide +kernel
theorem dX6_letter_15 : decode cX6_letter 15 = .ok (.aaload, 1) := by decide +kernel
theorem dX6_letter_16 : decode cX6_letter 16 = .ok (.iload_n 2, 1) := by decide +kernel
theorem dX6_letter_17 : decode cX6_letter 17 = .ok (.invokevirtual 78, 3) := by decide +kernel
theorem dX6_letter_20 : decode cX6_letter 20 = .ok (.goto 4, 3) := by decide +kernel
theorem dX6_letter_23 : decode cX6_letter 23 = .ok (.iconst (-1), 1) := by decide +kernel
theorem dX6_letter_24 : decode cX6_letter 24 = .ok (.ireturn, 1) := by decide +kernel
theorem dX6_owner_0 : decode cX6_owner 0 = .ok (.iload_n 1, 1) := by decide +kernel
theorem dX6_owner_1 : decode cX6_owner 1 = .ok (.invokestatic 82, 3) := by decide +kernel
theorem dX6_owner_4 : decode cX6_owner 4 = .ok (.ifCond .eq 18, 3) := by decide +kernel
theorem dX6_owner_7 : decode cX6_owner 7 = .ok (.aload_n 0, 1) := by decide +kernel
theorem dX6_owner_8 : decode cX6_owner 8 = .ok (.getfield 21, 3) := by decide +kernel
theorem dX6_owner_11 : decode cX6_owner 11 = .ok (.getfield 85, 3) := by decide +kernel
theorem dX6_owner_14 : decode cX6_owner 14 = .ok (.iload_n 1, 1) := by decide +kernel
theorem dX6_owner_15 : decode cX6_owner 15 = .ok (.aaload, 1) := by decide +kernel
theorem dX6_owner_16 : decode cX6_owner 16 = .ok (.invokevirtual 89, 3) := by decide +kernel
theorem dX6_owner_19 : decode cX6_owner 19 = .ok (.ifCond .eq 5, 3) := by decide +kernel
theorem dX6_owner_22 : decode cX6_owner 22 = .ok (.iconst (-1), 1) := by decide +kernel
theorem dX6_owner_23 : decode cX6_owner 23 = .ok (.ireturn, 1) := by decide +kernel
theorem dX6_owner_24 : decode cX6_owner 24 = .ok (.aload_n 0, 1) := by decide +kernel
theorem dX6_owner_25 : decode cX6_owner 25 = .ok (.getfield 21, 3) := by decide +kernel
theorem dX6_owner_28 : decode cX6_owner 28 = .ok (.getfield 85, 3) := by decide +kernel
theorem dX6_owner_31 : decode cX6_owner 31 = .ok (.iload_n 1, 1) := by decide +kernel
theorem dX6_owner_32 : decode cX6_owner 32 = .ok (.aaload, 1) := by decide +kernel
theorem dX6_owner_33 : decode cX6_owner 33 = .ok (.getfield 95, 3) := by decide +kernel
theorem dX6_owner_36 : decode cX6_owner 36 = .ok (.ireturn, 1) := by decide +kernel
theorem dX6_held_0 : decode cX6_held 0 = .ok (.iload_n 1, 1) := by decide +kernel
theorem dX6_held_1 : decode cX6_held 1 = .ok (.invokestatic 82, 3) := by decide +kernel
theorem dX6_held_4 : decode cX6_held 4 = .ok (.ifCond .eq 18, 3) := by decide +kernel
theorem dX6_held_7 : decode cX6_held 7 = .ok (.aload_n 0, 1) := by decide +kernel
theorem dX6_held_8 : decode cX6_held 8 = .ok (.getfield 21, 3) := by decide +kernel
theorem dX6_held_11 : decode cX6_held 11 = .ok (.getfield 85, 3) := by decide +kernel
theorem dX6_held_14 : decode cX6_held 14 = .ok (.iload_n 1, 1) := by decide +kernel
theorem dX6_held_15 : decode cX6_held 15 = .ok (.aaload, 1) := by decide +kernel
theorem dX6_held_16 : decode cX6_held 16 = .ok (.getfield 98, 3) := by decide +kernel
theorem dX6_held_19 : decode cX6_held 19 = .ok (.goto 4, 3) := by decide +kernel
theorem dX6_held_22 : decode cX6_held 22 = .ok (.iconst 0, 1) := by decide +kernel
theorem dX6_held_23 : decode cX6_held 23 = .ok (.ireturn, 1) := by decide +kernel
theorem dX6_inSet_0 : decode cX6_inSet 0 = .ok (.iload_n 1, 1) := by decide +kernel
theorem dX6_inSet_1 : decode cX6_inSet 1 = .ok (.invokestatic 82, 3) := by decide +kernel
theorem dX6_inSet_4 : decode cX6_inSet 4 = .ok (.ifCond .eq 19, 3) := by decide +kernel
theorem dX6_inSet_7 : decode cX6_inSet 7 = .ok (.aload_n 0, 1) := by decide +kernel
theorem dX6_inSet_8 : decode cX6_inSet 8 = .ok (.getfield 21, 3) := by decide +kernel
theorem dX6_inSet_11 : decode cX6_inSet 11 = .ok (.getfield 85, 3) := by decide +kernel
theorem dX6_inSet_14 : decode cX6_inSet 14 = .ok (.iload_n 1, 1) := by decide +kernel
theorem dX6_inSet_15 : decode cX6_inSet 15 = .ok (.aaload, 1) := by decide +kernel
theorem dX6_inSet_16 : decode cX6_inSet 16 = .ok (.iload_n 2, 1) := by decide +kernel
theorem dX6_inSet_17 : decode cX6_inSet 17 = .ok (.invokevirtual 101, 3) := by decide +kernel
theorem dX6_inSet_20 : decode cX6_inSet 20 = .ok (.goto 4, 3) := by decide +kernel
theorem dX6_inSet_23 : decode cX6_inSet 23 = .ok (.iconst (-1), 1) := by decide +kernel
theorem dX6_inSet_24 : decode cX6_inSet 24 = .ok (.ireturn, 1) := by decide +kernel
theorem dX6_explore_0 : decode cX6_explore 0 = .ok (.aload_n 0, 1) := by decide +kernel
theorem dX6_explore_1 : decode cX6_explore 1 = .ok (.getfield 30, 3) := by decide +kernel
theorem dX6_explore_4 : decode cX6_explore 4 = .ok (.getfield 104, 3) := by decide +kernel
theorem dX6_explore_7 : decode cX6_explore 7 = .ok (.ifCond .ne 10, 3) := by decide +kernel
theorem dX6_explore_10 : decode cX6_explore 10 = .ok (.aload_n 0, 1) := by decide +kernel
theorem dX6_explore_11 : decode cX6_explore 11 = .ok (.getfield 30, 3) := by decide +kernel
theorem dX6_explore_14 : decode cX6_explore 14 = .ok (.invokevirtual 108, 3) := by decide +kernel
theorem dX6_explore_17 : decode cX6_explore 17 = .ok (.aload_n 0, 1) := by decide +kernel
theorem dX6_explore_18 : decode cX6_explore 18 = .ok (.getfield 30, 3) := by decide +kernel
theorem dX6_explore_21 : decode cX6_explore 21 = .ok (.getfield 111, 3) := by decide +kernel
theorem dX6_explore_24 : decode cX6_explore 24 = .ok (.ireturn, 1) := by decide +kernel
theorem dX6_outcome_0 : decode cX6_outcome 0 = .ok (.aload_n 0, 1) := by decide +kernel
theorem dX6_outcome_1 : decode cX6_outcome 1 = .ok (.getfield 30, 3) := by decide +kernel
theorem dX6_outcome_4 : decode cX6_outcome 4 = .ok (.iload_n 1, 1) := by decide +kernel
theorem dX6_outcome_5 : decode cX6_outcome 5 = .ok (.invokevirtual 114, 3) := by decide +kernel
theorem dX6_outcome_8 : decode cX6_outcome 8 = .ok (.lreturn, 1) := by decide +kernel
theorem dX6_mayBlock_0 : decode cX6_mayBlock 0 = .ok (.iload_n 1, 1) := by decide +kernel
theorem dX6_mayBlock_1 : decode cX6_mayBlock 1 = .ok (.invokestatic 34, 3) := by decide +kernel
theorem dX6_mayBlock_4 : decode cX6_mayBlock 4 = .ok (.ifCond .eq 19, 3) := by decide +kernel
theorem dX6_mayBlock_7 : decode cX6_mayBlock 7 = .ok (.aload_n 0, 1) := by decide +kernel
theorem dX6_mayBlock_8 : decode cX6_mayBlock 8 = .ok (.getfield 30, 3) := by decide +kernel
theorem dX6_mayBlock_11 : decode cX6_mayBlock 11 = .ok (.getfield 118, 3) := by decide +kernel
theorem dX6_mayBlock_14 : decode cX6_mayBlock 14 = .ok (.iload_n 1, 1) := by decide +kernel
theorem dX6_mayBlock_15 : decode cX6_mayBlock 15 = .ok (.baload, 1) := by decide +kernel
theorem dX6_mayBlock_16 : decode cX6_mayBlock 16 = .ok (.ifCond .eq 7, 3) := by decide +kernel
theorem dX6_mayBlock_19 : decode cX6_mayBlock 19 = .ok (.iconst 1, 1) := by decide +kernel
theorem dX6_mayBlock_20 : decode cX6_mayBlock 20 = .ok (.goto 4, 3) := by decide +kernel
theorem dX6_mayBlock_23 : decode cX6_mayBlock 23 = .ok (.iconst 0, 1) := by decide +kernel
theorem dX6_mayBlock_24 : decode cX6_mayBlock 24 = .ok (.ireturn, 1) := by decide +kernel
theorem dX6_count_0 : decode cX6_count 0 = .ok (.iload_n 1, 1) := by decide +kernel
theorem dX6_count_1 : decode cX6_count 1 = .ok (.tableswitch 72 0 4 #[35, 40, 48, 56, 64], 35) := by decide +kernel
theorem dX6_count_36 : decode cX6_count 36 = .ok (.aload_n 0, 1) := by decide +kernel
theorem dX6_count_37 : decode cX6_count 37 = .ok (.getfield 65, 3) := by decide +kernel
theorem dX6_count_40 : decode cX6_count 40 = .ok (.ireturn, 1) := by decide +kernel
theorem dX6_count_41 : decode cX6_count 41 = .ok (.aload_n 0, 1) := by decide +kernel
theorem dX6_count_42 : decode cX6_count 42 = .ok (.getfield 30, 3) := by decide +kernel
theorem dX6_count_45 : decode cX6_count 45 = .ok (.getfield 122, 3) := by decide +kernel
theorem dX6_count_48 : decode cX6_count 48 = .ok (.ireturn, 1) := by decide +kernel
theorem dX6_count_49 : decode cX6_count 49 = .ok (.aload_n 0, 1) := by decide +kernel
theorem dX6_count_50 : decode cX6_count 50 = .ok (.getfield 30, 3) := by decide +kernel
theorem dX6_count_53 : decode cX6_count 53 = .ok (.getfield 125, 3) := by decide +kernel
theorem dX6_count_56 : decode cX6_count 56 = .ok (.ireturn, 1) := by decide +kernel
theorem dX6_count_57 : decode cX6_count 57 = .ok (.aload_n 0, 1) := by decide +kernel
theorem dX6_count_58 : decode cX6_count 58 = .ok (.getfield 30, 3) := by decide +kernel
theorem dX6_count_61 : decode cX6_count 61 = .ok (.getfield 128, 3) := by decide +kernel
theorem dX6_count_64 : decode cX6_count 64 = .ok (.ireturn, 1) := by decide +kernel
theorem dX6_count_65 : decode cX6_count 65 = .ok (.aload_n 0, 1) := by decide +kernel
theorem dX6_count_66 : decode cX6_count 66 = .ok (.getfield 30, 3) := by decide +kernel
theorem dX6_count_69 : decode cX6_count 69 = .ok (.getfield 131, 3) := by decide +kernel
theorem dX6_count_72 : decode cX6_count 72 = .ok (.ireturn, 1) := by decide +kernel
theorem dX6_count_73 : decode cX6_count 73 = .ok (.iconst (-1), 1) := by decide +kernel
theorem dX6_count_74 : decode cX6_count 74 = .ok (.ireturn, 1) := by decide +kernel
theorem dX6_beginAnew_0 : decode cX6_beginAnew 0 = .ok (.aload_n 0, 1) := by decide +kernel
theorem dX6_beginAnew_1 : decode cX6_beginAnew 1 = .ok (.getfield 21, 3) := by decide +kernel
theorem dX6_beginAnew_4 : decode cX6_beginAnew 4 = .ok (.invokevirtual 134, 3) := by decide +kernel
theorem dX6_beginAnew_7 : decode cX6_beginAnew 7 = .ok (.aload_n 0, 1) := by decide +kernel
theorem dX6_beginAnew_8 : decode cX6_beginAnew 8 = .ok (.iconst 0, 1) := by decide +kernel
theorem dX6_beginAnew_9 : decode cX6_beginAnew 9 = .ok (.putfield 65, 3) := by decide +kernel
theorem dX6_beginAnew_12 : decode cX6_beginAnew 12 = .ok (.return_, 1) := by decide +kernel
theorem dX6_isThread_0 : decode cX6_isThread 0 = .ok (.iload_n 0, 1) := by decide +kernel
theorem dX6_isThread_1 : decode cX6_isThread 1 = .ok (.ifCond .lt 12, 3) := by decide +kernel
theorem dX6_isThread_4 : decode cX6_isThread 4 = .ok (.iload_n 0, 1) := by decide +kernel
theorem dX6_isThread_5 : decode cX6_isThread 5 = .ok (.iconst 4, 1) := by decide +kernel
theorem dX6_isThread_6 : decode cX6_isThread 6 = .ok (.if_icmp .ge 7, 3) := by decide +kernel
theorem dX6_isThread_9 : decode cX6_isThread 9 = .ok (.iconst 1, 1) := by decide +kernel
theorem dX6_isThread_10 : decode cX6_isThread 10 = .ok (.goto 4, 3) := by decide +kernel
theorem dX6_isThread_13 : decode cX6_isThread 13 = .ok (.iconst 0, 1) := by decide +kernel
theorem dX6_isThread_14 : decode cX6_isThread 14 = .ok (.ireturn, 1) := by decide +kernel
theorem dX6_isMonitor_0 : decode cX6_isMonitor 0 = .ok (.iload_n 0, 1) := by decide +kernel
theorem dX6_isMonitor_1 : decode cX6_isMonitor 1 = .ok (.ifCond .lt 12, 3) := by decide +kernel
theorem dX6_isMonitor_4 : decode cX6_isMonitor 4 = .ok (.iload_n 0, 1) := by decide +kernel
theorem dX6_isMonitor_5 : decode cX6_isMonitor 5 = .ok (.iconst 2, 1) := by decide +kernel
theorem dX6_isMonitor_6 : decode cX6_isMonitor 6 = .ok (.if_icmp .ge 7, 3) := by decide +kernel
theorem dX6_isMonitor_9 : decode cX6_isMonitor 9 = .ok (.iconst 1, 1) := by decide +kernel
theorem dX6_isMonitor_10 : decode cX6_isMonitor 10 = .ok (.goto 4, 3) := by decide +kernel
theorem dX6_isMonitor_13 : decode cX6_isMonitor 13 = .ok (.iconst 0, 1) := by decide +kernel
theorem dX6_isMonitor_14 : decode cX6_isMonitor 14 = .ok (.ireturn, 1) := by decide +kernel
theorem dX6_isWay_0 : decode cX6_isWay 0 = .ok (.iload_n 0, 1) := by decide +kernel
theorem dX6_isWay_1 : decode cX6_isWay 1 = .ok (.ifCond .lt 12, 3) := by decide +kernel
theorem dX6_isWay_4 : decode cX6_isWay 4 = .ok (.iload_n 0, 1) := by decide +kernel
theorem dX6_isWay_5 : decode cX6_isWay 5 = .ok (.iconst 4, 1) := by decide +kernel
theorem dX6_isWay_6 : decode cX6_isWay 6 = .ok (.if_icmp .ge 7, 3) := by decide +kernel
theorem dX6_isWay_9 : decode cX6_isWay 9 = .ok (.iconst 1, 1) := by decide +kernel
theorem dX6_isWay_10 : decode cX6_isWay 10 = .ok (.goto 4, 3) := by decide +kernel
theorem dX6_isWay_13 : decode cX6_isWay 13 = .ok (.iconst 0, 1) := by decide +kernel
theorem dX6_isWay_14 : decode cX6_isWay 14 = .ok (.ireturn, 1) := by decide +kernel
theorem dX6_isAction_0 : decode cX6_isAction 0 = .ok (.iload_n 0, 1) := by decide +kernel
theorem dX6_isAction_1 : decode cX6_isAction 1 = .ok (.ifCond .lt 9, 3) := by decide +kernel
theorem dX6_isAction_4 : decode cX6_isAction 4 = .ok (.iload_n 0, 1) := by decide +kernel
theorem dX6_isAction_5 : decode cX6_isAction 5 = .ok (.bipush 12, 2) := by decide +kernel
theorem dX6_isAction_7 : decode cX6_isAction 7 = .ok (.if_icmp .le 5, 3) := by decide +kernel
theorem dX6_isAction_10 : decode cX6_isAction 10 = .ok (.iconst 0, 1) := by decide +kernel
theorem dX6_isAction_11 : decode cX6_isAction 11 = .ok (.ireturn, 1) := by decide +kernel
theorem dX6_isAction_12 : decode cX6_isAction 12 = .ok (.iload_n 0, 1) := by decide +kernel
theorem dX6_isAction_13 : decode cX6_isAction 13 = .ok (.iconst 5, 1) := by decide +kernel
theorem dX6_isAction_14 : decode cX6_isAction 14 = .ok (.if_icmp .gt 8, 3) := by decide +kernel
theorem dX6_isAction_17 : decode cX6_isAction 17 = .ok (.iload_n 1, 1) := by decide +kernel
theorem dX6_isAction_18 : decode cX6_isAction 18 = .ok (.invokestatic 82, 3) := by decide +kernel
theorem dX6_isAction_21 : decode cX6_isAction 21 = .ok (.ireturn, 1) := by decide +kernel
theorem dX6_isAction_22 : decode cX6_isAction 22 = .ok (.iload_n 0, 1) := by decide +kernel
theorem dX6_isAction_23 : decode cX6_isAction 23 = .ok (.bipush 6, 2) := by decide +kernel
theorem dX6_isAction_25 : decode cX6_isAction 25 = .ok (.if_icmp .eq 15, 3) := by decide +kernel
theorem dX6_isAction_28 : decode cX6_isAction 28 = .ok (.iload_n 0, 1) := by decide +kernel
theorem dX6_isAction_29 : decode cX6_isAction 29 = .ok (.bipush 8, 2) := by decide +kernel
theorem dX6_isAction_31 : decode cX6_isAction 31 = .ok (.if_icmp .eq 9, 3) := by decide +kernel
theorem dX6_isAction_34 : decode cX6_isAction 34 = .ok (.iload_n 0, 1) := by decide +kernel
theorem dX6_isAction_35 : decode cX6_isAction 35 = .ok (.bipush 9, 2) := by decide +kernel
theorem dX6_isAction_37 : decode cX6_isAction 37 = .ok (.if_icmp .ne 8, 3) := by decide +kernel
theorem dX6_isAction_40 : decode cX6_isAction 40 = .ok (.iload_n 1, 1) := by decide +kernel
theorem dX6_isAction_41 : decode cX6_isAction 41 = .ok (.invokestatic 34, 3) := by decide +kernel
theorem dX6_isAction_44 : decode cX6_isAction 44 = .ok (.ireturn, 1) := by decide +kernel
theorem dX6_isAction_45 : decode cX6_isAction 45 = .ok (.iload_n 0, 1) := by decide +kernel
theorem dX6_isAction_46 : decode cX6_isAction 46 = .ok (.bipush 11, 2) := by decide +kernel
theorem dX6_isAction_48 : decode cX6_isAction 48 = .ok (.if_icmp .ne 12, 3) := by decide +kernel
theorem dX6_isAction_51 : decode cX6_isAction 51 = .ok (.iload_n 1, 1) := by decide +kernel
theorem dX6_isAction_52 : decode cX6_isAction 52 = .ok (.ifCond .lt 12, 3) := by decide +kernel
theorem dX6_isAction_55 : decode cX6_isAction 55 = .ok (.iload_n 1, 1) := by decide +kernel
theorem dX6_isAction_56 : decode cX6_isAction 56 = .ok (.iconst 4, 1) := by decide +kernel
theorem dX6_isAction_57 : decode cX6_isAction 57 = .ok (.if_icmp .ge 7, 3) := by decide +kernel
theorem dX6_isAction_60 : decode cX6_isAction 60 = .ok (.iconst 1, 1) := by decide +kernel
theorem dX6_isAction_61 : decode cX6_isAction 61 = .ok (.goto 4, 3) := by decide +kernel
theorem dX6_isAction_64 : decode cX6_isAction 64 = .ok (.iconst 0, 1) := by decide +kernel
theorem dX6_isAction_65 : decode cX6_isAction 65 = .ok (.ireturn, 1) := by decide +kernel
theorem dX3_init_0 : decode cX3_init 0 = .ok (.aload_n 0, 1) := by decide +kernel
theorem dX3_init_1 : decode cX3_init 1 = .ok (.invokespecial 3, 3) := by decide +kernel
theorem dX3_init_4 : decode cX3_init 4 = .ok (.aload_n 0, 1) := by decide +kernel
theorem dX3_init_5 : decode cX3_init 5 = .ok (.iconst 4, 1) := by decide +kernel
theorem dX3_init_6 : decode cX3_init 6 = .ok (.newarray .boolean, 2) := by decide +kernel
theorem dX3_init_8 : decode cX3_init 8 = .ok (.putfield 9, 3) := by decide +kernel
theorem dX3_init_11 : decode cX3_init 11 = .ok (.aload_n 0, 1) := by decide +kernel
theorem dX3_init_12 : decode cX3_init 12 = .ok (.new 15, 3) := by decide +kernel
theorem dX3_init_15 : decode cX3_init 15 = .ok (.dup, 1) := by decide +kernel
theorem dX3_init_16 : decode cX3_init 16 = .ok (.invokespecial 17, 3) := by decide +kernel
theorem dX3_init_19 : decode cX3_init 19 = .ok (.putfield 18, 3) := by decide +kernel
theorem dX3_init_22 : decode cX3_init 22 = .ok (.aload_n 0, 1) := by decide +kernel
theorem dX3_init_23 : decode cX3_init 23 = .ok (.bipush 16, 2) := by decide +kernel
theorem dX3_init_25 : decode cX3_init 25 = .ok (.newarray .long, 2) := by decide +kernel
theorem dX3_init_27 : decode cX3_init 27 = .ok (.putfield 22, 3) := by decide +kernel
theorem dX3_init_30 : decode cX3_init 30 = .ok (.aload_n 0, 1) := by decide +kernel
theorem dX3_init_31 : decode cX3_init 31 = .ok (.aload_n 1, 1) := by decide +kernel
theorem dX3_init_32 : decode cX3_init 32 = .ok (.putfield 26, 3) := by decide +kernel
theorem dX3_init_35 : decode cX3_init 35 = .ok (.return_, 1) := by decide +kernel
theorem dX3_forget_0 : decode cX3_forget 0 = .ok (.aload_n 0, 1) := by decide +kernel
theorem dX3_forget_1 : decode cX3_forget 1 = .ok (.iconst 0, 1) := by decide +kernel
theorem dX3_forget_2 : decode cX3_forget 2 = .ok (.putfield 30, 3) := by decide +kernel
theorem dX3_forget_5 : decode cX3_forget 5 = .ok (.aload_n 0, 1) := by decide +kernel
theorem dX3_forget_6 : decode cX3_forget 6 = .ok (.iconst 0, 1) := by decide +kernel
theorem dX3_forget_7 : decode cX3_forget 7 = .ok (.putfield 34, 3) := by decide +kernel
theorem dX3_forget_10 : decode cX3_forget 10 = .ok (.aload_n 0, 1) := by decide +kernel
theorem dX3_forget_11 : decode cX3_forget 11 = .ok (.iconst 0, 1) := by decide +kernel
theorem dX3_forget_12 : decode cX3_forget 12 = .ok (.putfield 38, 3) := by decide +kernel
theorem dX3_forget_15 : decode cX3_forget 15 = .ok (.aload_n 0, 1) := by decide +kernel
theorem dX3_forget_16 : decode cX3_forget 16 = .ok (.iconst 0, 1) := by decide +kernel
theorem dX3_forget_17 : decode cX3_forget 17 = .ok (.putfield 41, 3) := by decide +kernel
theorem dX3_forget_20 : decode cX3_forget 20 = .ok (.aload_n 0, 1) := by decide +kernel
theorem dX3_forget_21 : decode cX3_forget 21 = .ok (.iconst 0, 1) := by decide +kernel
theorem dX3_forget_22 : decode cX3_forget 22 = .ok (.putfield 44, 3) := by decide +kernel
theorem dX3_forget_25 : decode cX3_forget 25 = .ok (.aload_n 0, 1) := by decide +kernel
theorem dX3_forget_26 : decode cX3_forget 26 = .ok (.iconst 0, 1) := by decide +kernel
theorem dX3_forget_27 : decode cX3_forget 27 = .ok (.putfield 47, 3) := by decide +kernel
theorem dX3_forget_30 : decode cX3_forget 30 = .ok (.iconst 0, 1) := by decide +kernel
theorem dX3_forget_31 : decode cX3_forget 31 = .ok (.istore_n 1, 1) := by decide +kernel
theorem dX3_forget_32 : decode cX3_forget 32 = .ok (.iload_n 1, 1) := by decide +kernel
theorem dX3_forget_33 : decode cX3_forget 33 = .ok (.iconst 4, 1) := by decide +kernel
theorem dX3_forget_34 : decode cX3_forget 34 = .ok (.if_icmp .ge 16, 3) := by decide +kernel
theorem dX3_forget_37 : decode cX3_forget 37 = .ok (.aload_n 0, 1) := by decide +kernel
theorem dX3_forget_38 : decode cX3_forget 38 = .ok (.getfield 9, 3) := by decide +kernel
theorem dX3_forget_41 : decode cX3_forget 41 = .ok (.iload_n 1, 1) := by decide +kernel
theorem dX3_forget_42 : decode cX3_forget 42 = .ok (.iconst 0, 1) := by decide +kernel
theorem dX3_forget_43 : decode cX3_forget 43 = .ok (.bastore, 1) := by decide +kernel
theorem dX3_forget_44 : decode cX3_forget 44 = .ok (.iinc 1 1, 3) := by decide +kernel
theorem dX3_forget_47 : decode cX3_forget 47 = .ok (.goto (-15), 3) := by decide +kernel
theorem dX3_forget_50 : decode cX3_forget 50 = .ok (.return_, 1) := by decide +kernel
theorem dX3_goThrough_0 : decode cX3_goThrough 0 = .ok (.aload_n 0, 1) := by decide +kernel
theorem dX3_goThrough_1 : decode cX3_goThrough 1 = .ok (.getfield 18, 3) := by decide +kernel
theorem dX3_goThrough_4 : decode cX3_goThrough 4 = .ok (.invokevirtual 50, 3) := by decide +kernel
theorem dX3_goThrough_7 : decode cX3_goThrough 7 = .ok (.aload_n 0, 1) := by decide +kernel
theorem dX3_goThrough_8 : decode cX3_goThrough 8 = .ok (.getfield 26, 3) := by decide +kernel
theorem dX3_goThrough_11 : decode cX3_goThrough 11 = .ok (.invokevirtual 53, 3) := by decide +kernel
theorem dX3_goThrough_14 : decode cX3_goThrough 14 = .ok (.aload_n 0, 1) := by decide +kernel
theorem dX3_goThrough_15 : decode cX3_goThrough 15 = .ok (.getfield 18, 3) := by decide +kernel
theorem dX3_goThrough_18 : decode cX3_goThrough 18 = .ok (.aload_n 0, 1) := by decide +kernel
theorem dX3_goThrough_19 : decode cX3_goThrough 19 = .ok (.getfield 26, 3) := by decide +kernel
theorem dX3_goThrough_22 : decode cX3_goThrough 22 = .ok (.invokevirtual 58, 3) := by decide +kernel
theorem dX3_goThrough_25 : decode cX3_goThrough 25 = .ok (.istore_n 1, 1) := by decide +kernel
theorem dX3_goThrough_26 : decode cX3_goThrough 26 = .ok (.iconst 0, 1) := by decide +kernel
theorem dX3_goThrough_27 : decode cX3_goThrough 27 = .ok (.istore_n 2, 1) := by decide +kernel
theorem dX3_goThrough_28 : decode cX3_goThrough 28 = .ok (.iload_n 1, 1) := by decide +kernel
theorem dX3_goThrough_29 : decode cX3_goThrough 29 = .ok (.ifCond .eq 33, 3) := by decide +kernel
theorem dX3_goThrough_32 : decode cX3_goThrough 32 = .ok (.iload_n 2, 1) := by decide +kernel
theorem dX3_goThrough_33 : decode cX3_goThrough 33 = .ok (.aload_n 0, 1) := by decide +kernel
theorem dX3_goThrough_34 : decode cX3_goThrough 34 = .ok (.getfield 18, 3) := by decide +kernel
theorem dX3_goThrough_37 : decode cX3_goThrough 37 = .ok (.invokevirtual 62, 3) := by decide +kernel
theorem dX3_goThrough_40 : decode cX3_goThrough 40 = .ok (.if_icmp .ge 22, 3) := by decide +kernel
theorem dX3_goThrough_43 : decode cX3_goThrough 43 = .ok (.iload_n 2, 1) := by decide +kernel
theorem dX3_goThrough_44 : decode cX3_goThrough 44 = .ok (.sipush 3000, 3) := by decide +kernel
theorem dX3_goThrough_47 : decode cX3_goThrough 47 = .ok (.if_icmp .ge 15, 3) := by decide +kernel
theorem dX3_goThrough_50 : decode cX3_goThrough 50 = .ok (.aload_n 0, 1) := by decide +kernel
theorem dX3_goThrough_51 : decode cX3_goThrough 51 = .ok (.iload_n 2, 1) := by decide +kernel
theorem dX3_goThrough_52 : decode cX3_goThrough 52 = .ok (.invokevirtual 66, 3) := by decide +kernel
theorem dX3_goThrough_55 : decode cX3_goThrough 55 = .ok (.istore_n 1, 1) := by decide +kernel
theorem dX3_goThrough_56 : decode cX3_goThrough 56 = .ok (.iinc 2 1, 3) := by decide +kernel
theorem dX3_goThrough_59 : decode cX3_goThrough 59 = .ok (.goto (-31), 3) := by decide +kernel
theorem dX3_goThrough_62 : decode cX3_goThrough 62 = .ok (.iload_n 1, 1) := by decide +kernel
theorem dX3_goThrough_63 : decode cX3_goThrough 63 = .ok (.ifCond .eq 25, 3) := by decide +kernel
theorem dX3_goThrough_66 : decode cX3_goThrough 66 = .ok (.aload_n 0, 1) := by decide +kernel
theorem dX3_goThrough_67 : decode cX3_goThrough 67 = .ok (.aload_n 0, 1) := by decide +kernel
theorem dX3_goThrough_68 : decode cX3_goThrough 68 = .ok (.getfield 18, 3) := by decide +kernel
theorem dX3_goThrough_71 : decode cX3_goThrough 71 = .ok (.invokevirtual 62, 3) := by decide +kernel
theorem dX3_goThrough_74 : decode cX3_goThrough 74 = .ok (.putfield 34, 3) := by decide +kernel
theorem dX3_goThrough_77 : decode cX3_goThrough 77 = .ok (.aload_n 0, 1) := by decide +kernel
theorem dX3_goThrough_78 : decode cX3_goThrough 78 = .ok (.aload_n 0, 1) := by decide +kernel
theorem dX3_goThrough_79 : decode cX3_goThrough 79 = .ok (.getfield 47, 3) := by decide +kernel
theorem dX3_goThrough_82 : decode cX3_goThrough 82 = .ok (.putfield 70, 3) := by decide +kernel
theorem dX3_goThrough_85 : decode cX3_goThrough 85 = .ok (.goto 13, 3) := by decide +kernel
theorem dX3_goThrough_88 : decode cX3_goThrough 88 = .ok (.aload_n 0, 1) := by decide +kernel
theorem dX3_goThrough_89 : decode cX3_goThrough 89 = .ok (.invokevirtual 73, 3) := by decide +kernel
theorem dX3_goThrough_92 : decode cX3_goThrough 92 = .ok (.aload_n 0, 1) := by decide +kernel
theorem dX3_goThrough_93 : decode cX3_goThrough 93 = .ok (.bipush (-2), 2) := by decide +kernel
theorem dX3_goThrough_95 : decode cX3_goThrough 95 = .ok (.putfield 70, 3) := by decide +kernel
theorem dX3_goThrough_98 : decode cX3_goThrough 98 = .ok (.aload_n 0, 1) := by decide +kernel
theorem dX3_goThrough_99 : decode cX3_goThrough 99 = .ok (.iconst 1, 1) := by decide +kernel
theorem dX3_goThrough_100 : decode cX3_goThrough 100 = .ok (.putfield 30, 3) := by decide +kernel
theorem dX3_goThrough_103 : decode cX3_goThrough 103 = .ok (.return_, 1) := by decide +kernel
theorem dX3_visit_0 : decode cX3_visit 0 = .ok (.aload_n 0, 1) := by decide +kernel
theorem dX3_visit_1 : decode cX3_visit 1 = .ok (.getfield 18, 3) := by decide +kernel
theorem dX3_visit_4 : decode cX3_visit 4 = .ok (.iload_n 1, 1) := by decide +kernel
theorem dX3_visit_5 : decode cX3_visit 5 = .ok (.aload_n 0, 1) := by decide +kernel
theorem dX3_visit_6 : decode cX3_visit 6 = .ok (.getfield 26, 3) := by decide +kernel
theorem dX3_visit_9 : decode cX3_visit 9 = .ok (.invokevirtual 76, 3) := by decide +kernel
theorem dX3_visit_12 : decode cX3_visit 12 = .ok (.iconst 0, 1) := by decide +kernel
theorem dX3_visit_13 : decode cX3_visit 13 = .ok (.istore_n 2, 1) := by decide +kernel
theorem dX3_visit_14 : decode cX3_visit 14 = .ok (.iconst 0, 1) := by decide +kernel
theorem dX3_visit_15 : decode cX3_visit 15 = .ok (.istore_n 3, 1) := by decide +kernel
theorem dX3_visit_16 : decode cX3_visit 16 = .ok (.iload_n 3, 1) := by decide +kernel
theorem dX3_visit_17 : decode cX3_visit 17 = .ok (.iconst 4, 1) := by decide +kernel
theorem dX3_visit_18 : decode cX3_visit 18 = .ok (.if_icmp .ge 78, 3) := by decide +kernel
theorem dX3_visit_21 : decode cX3_visit 21 = .ok (.iconst 0, 1) := by decide +kernel
theorem dX3_visit_22 : decode cX3_visit 22 = .ok (.istore 4, 2) := by decide +kernel
theorem dX3_visit_24 : decode cX3_visit 24 = .ok (.iload 4, 2) := by decide +kernel
theorem dX3_visit_26 : decode cX3_visit 26 = .ok (.iconst 4, 1) := by decide +kernel
theorem dX3_visit_27 : decode cX3_visit 27 = .ok (.if_icmp .ge 63, 3) := by decide +kernel
theorem dX3_visit_30 : decode cX3_visit 30 = .ok (.aload_n 0, 1) := by decide +kernel
theorem dX3_visit_31 : decode cX3_visit 31 = .ok (.getfield 26, 3) := by decide +kernel
theorem dX3_visit_34 : decode cX3_visit 34 = .ok (.iload_n 3, 1) := by decide +kernel
theorem dX3_visit_35 : decode cX3_visit 35 = .ok (.iload 4, 2) := by decide +kernel
theorem dX3_visit_37 : decode cX3_visit 37 = .ok (.invokevirtual 80, 3) := by decide +kernel
theorem dX3_visit_40 : decode cX3_visit 40 = .ok (.ifCond .eq 44, 3) := by decide +kernel
theorem dX3_visit_43 : decode cX3_visit 43 = .ok (.iinc 2 1, 3) := by decide +kernel
theorem dX3_visit_46 : decode cX3_visit 46 = .ok (.aload_n 0, 1) := by decide +kernel
theorem dX3_visit_47 : decode cX3_visit 47 = .ok (.getfield 26, 3) := by decide +kernel
theorem dX3_visit_50 : decode cX3_visit 50 = .ok (.iload_n 3, 1) := by decide +kernel
theorem dX3_visit_51 : decode cX3_visit 51 = .ok (.iload 4, 2) := by decide +kernel
theorem dX3_visit_53 : decode cX3_visit 53 = .ok (.invokevirtual 84, 3) := by decide +kernel
theorem dX3_visit_56 : decode cX3_visit 56 = .ok (.aload_n 0, 1) := by decide +kernel
theorem dX3_visit_57 : decode cX3_visit 57 = .ok (.getfield 18, 3) := by decide +kernel
theorem dX3_visit_60 : decode cX3_visit 60 = .ok (.aload_n 0, 1) := by decide +kernel
theorem dX3_visit_61 : decode cX3_visit 61 = .ok (.getfield 26, 3) := by decide +kernel
theorem dX3_visit_64 : decode cX3_visit 64 = .ok (.invokevirtual 58, 3) := by decide +kernel
theorem dX3_visit_67 : decode cX3_visit 67 = .ok (.ifCond .ne 5, 3) := by decide +kernel
theorem dX3_visit_70 : decode cX3_visit 70 = .ok (.iconst 0, 1) := by decide +kernel
theorem dX3_visit_71 : decode cX3_visit 71 = .ok (.ireturn, 1) := by decide +kernel
theorem dX3_visit_72 : decode cX3_visit 72 = .ok (.aload_n 0, 1) := by decide +kernel
theorem dX3_visit_73 : decode cX3_visit 73 = .ok (.getfield 18, 3) := by decide +kernel
theorem dX3_visit_76 : decode cX3_visit 76 = .ok (.iload_n 1, 1) := by decide +kernel
theorem dX3_visit_77 : decode cX3_visit 77 = .ok (.aload_n 0, 1) := by decide +kernel
theorem dX3_visit_78 : decode cX3_visit 78 = .ok (.getfield 26, 3) := by decide +kernel
theorem dX3_visit_81 : decode cX3_visit 81 = .ok (.invokevirtual 76, 3) := by decide +kernel
theorem dX3_visit_84 : decode cX3_visit 84 = .ok (.iinc 4 1, 3) := by decide +kernel
theorem dX3_visit_87 : decode cX3_visit 87 = .ok (.goto (-63), 3) := by decide +kernel
theorem dX3_visit_90 : decode cX3_visit 90 = .ok (.iinc 3 1, 3) := by decide +kernel
theorem dX3_visit_93 : decode cX3_visit 93 = .ok (.goto (-77), 3) := by decide +kernel
theorem dX3_visit_96 : decode cX3_visit 96 = .ok (.aload_n 0, 1) := by decide +kernel
theorem dX3_visit_97 : decode cX3_visit 97 = .ok (.aload_n 0, 1) := by decide +kernel
theorem dX3_visit_98 : decode cX3_visit 98 = .ok (.getfield 44, 3) := by decide +kernel
theorem dX3_visit_101 : decode cX3_visit 101 = .ok (.iload_n 2, 1) := by decide +kernel
theorem dX3_visit_102 : decode cX3_visit 102 = .ok (.invokestatic 88, 3) := by decide +kernel
theorem dX3_visit_105 : decode cX3_visit 105 = .ok (.putfield 44, 3) := by decide +kernel
theorem dX3_visit_108 : decode cX3_visit 108 = .ok (.iload_n 2, 1) := by decide +kernel
theorem dX3_visit_109 : decode cX3_visit 109 = .ok (.ifCond .ne 7, 3) := by decide +kernel
theorem dX3_visit_112 : decode cX3_visit 112 = .ok (.aload_n 0, 1) := by decide +kernel
theorem dX3_visit_113 : decode cX3_visit 113 = .ok (.invokevirtual 94, 3) := by decide +kernel
theorem dX3_visit_116 : decode cX3_visit 116 = .ok (.iconst 1, 1) := by decide +kernel
theorem dX3_visit_117 : decode cX3_visit 117 = .ok (.ireturn, 1) := by decide +kernel
theorem dX3_noteFinal_0 : decode cX3_noteFinal 0 = .ok (.iconst 1, 1) := by decide +kernel
theorem dX3_noteFinal_1 : decode cX3_noteFinal 1 = .ok (.istore_n 1, 1) := by decide +kernel
theorem dX3_noteFinal_2 : decode cX3_noteFinal 2 = .ok (.iconst 0, 1) := by decide +kernel
theorem dX3_noteFinal_3 : decode cX3_noteFinal 3 = .ok (.istore_n 2, 1) := by decide +kernel
theorem dX3_noteFinal_4 : decode cX3_noteFinal 4 = .ok (.iload_n 2, 1) := by decide +kernel
theorem dX3_noteFinal_5 : decode cX3_noteFinal 5 = .ok (.iconst 4, 1) := by decide +kernel
theorem dX3_noteFinal_6 : decode cX3_noteFinal 6 = .ok (.if_icmp .ge 29, 3) := by decide +kernel
theorem dX3_noteFinal_9 : decode cX3_noteFinal 9 = .ok (.aload_n 0, 1) := by decide +kernel
theorem dX3_noteFinal_10 : decode cX3_noteFinal 10 = .ok (.getfield 26, 3) := by decide +kernel
theorem dX3_noteFinal_13 : decode cX3_noteFinal 13 = .ok (.iload_n 2, 1) := by decide +kernel
theorem dX3_noteFinal_14 : decode cX3_noteFinal 14 = .ok (.invokevirtual 97, 3) := by decide +kernel
theorem dX3_noteFinal_17 : decode cX3_noteFinal 17 = .ok (.ifCond .ne 12, 3) := by decide +kernel
theorem dX3_noteFinal_20 : decode cX3_noteFinal 20 = .ok (.aload_n 0, 1) := by decide +kernel
theorem dX3_noteFinal_21 : decode cX3_noteFinal 21 = .ok (.getfield 9, 3) := by decide +kernel
theorem dX3_noteFinal_24 : decode cX3_noteFinal 24 = .ok (.iload_n 2, 1) := by decide +kernel
theorem dX3_noteFinal_25 : decode cX3_noteFinal 25 = .ok (.iconst 1, 1) := by decide +kernel
theorem dX3_noteFinal_26 : decode cX3_noteFinal 26 = .ok (.bastore, 1) := by decide +kernel
theorem dX3_noteFinal_27 : decode cX3_noteFinal 27 = .ok (.iconst 0, 1) := by decide +kernel
theorem dX3_noteFinal_28 : decode cX3_noteFinal 28 = .ok (.istore_n 1, 1) := by decide +kernel
theorem dX3_noteFinal_29 : decode cX3_noteFinal 29 = .ok (.iinc 2 1, 3) := by decide +kernel
theorem dX3_noteFinal_32 : decode cX3_noteFinal 32 = .ok (.goto (-28), 3) := by decide +kernel
theorem dX3_noteFinal_35 : decode cX3_noteFinal 35 = .ok (.aload_n 0, 1) := by decide +kernel
theorem dX3_noteFinal_36 : decode cX3_noteFinal 36 = .ok (.dup, 1) := by decide +kernel
theorem dX3_noteFinal_37 : decode cX3_noteFinal 37 = .ok (.getfield 38, 3) := by decide +kernel
theorem dX3_noteFinal_40 : decode cX3_noteFinal 40 = .ok (.iconst 1, 1) := by decide +kernel
theorem dX3_noteFinal_41 : decode cX3_noteFinal 41 = .ok (.iadd, 1) := by decide +kernel
theorem dX3_noteFinal_42 : decode cX3_noteFinal 42 = .ok (.putfield 38, 3) := by decide +kernel
theorem dX3_noteFinal_45 : decode cX3_noteFinal 45 = .ok (.iload_n 1, 1) := by decide +kernel
theorem dX3_noteFinal_46 : decode cX3_noteFinal 46 = .ok (.ifCond .eq 13, 3) := by decide +kernel
theorem dX3_noteFinal_49 : decode cX3_noteFinal 49 = .ok (.aload_n 0, 1) := by decide +kernel
theorem dX3_noteFinal_50 : decode cX3_noteFinal 50 = .ok (.dup, 1) := by decide +kernel
theorem dX3_noteFinal_51 : decode cX3_noteFinal 51 = .ok (.getfield 41, 3) := by decide +kernel
theorem dX3_noteFinal_54 : decode cX3_noteFinal 54 = .ok (.iconst 1, 1) := by decide +kernel
theorem dX3_noteFinal_55 : decode cX3_noteFinal 55 = .ok (.iadd, 1) := by decide +kernel
theorem dX3_noteFinal_56 : decode cX3_noteFinal 56 = .ok (.putfield 41, 3) := by decide +kernel
theorem dX3_noteFinal_59 : decode cX3_noteFinal 59 = .ok (.aload_n 0, 1) := by decide +kernel
theorem dX3_noteFinal_60 : decode cX3_noteFinal 60 = .ok (.aload_n 0, 1) := by decide +kernel
theorem dX3_noteFinal_61 : decode cX3_noteFinal 61 = .ok (.getfield 26, 3) := by decide +kernel
theorem dX3_noteFinal_64 : decode cX3_noteFinal 64 = .ok (.invokevirtual 100, 3) := by decide +kernel
theorem dX3_noteFinal_67 : decode cX3_noteFinal 67 = .ok (.invokevirtual 104, 3) := by decide +kernel
theorem dX3_noteFinal_70 : decode cX3_noteFinal 70 = .ok (.return_, 1) := by decide +kernel
theorem dX3_noteOutcome_0 : decode cX3_noteOutcome 0 = .ok (.aload_n 0, 1) := by decide +kernel
theorem dX3_noteOutcome_1 : decode cX3_noteOutcome 1 = .ok (.lload_n 1, 1) := by decide +kernel
theorem dX3_noteOutcome_2 : decode cX3_noteOutcome 2 = .ok (.invokevirtual 108, 3) := by decide +kernel
theorem dX3_noteOutcome_5 : decode cX3_noteOutcome 5 = .ok (.istore_n 3, 1) := by decide +kernel
theorem dX3_noteOutcome_6 : decode cX3_noteOutcome 6 = .ok (.iload_n 3, 1) := by decide +kernel
theorem dX3_noteOutcome_7 : decode cX3_noteOutcome 7 = .ok (.aload_n 0, 1) := by decide +kernel
theorem dX3_noteOutcome_8 : decode cX3_noteOutcome 8 = .ok (.getfield 47, 3) := by decide +kernel
theorem dX3_noteOutcome_11 : decode cX3_noteOutcome 11 = .ok (.if_icmp .ge 15, 3) := by decide +kernel
theorem dX3_noteOutcome_14 : decode cX3_noteOutcome 14 = .ok (.aload_n 0, 1) := by decide +kernel
theorem dX3_noteOutcome_15 : decode cX3_noteOutcome 15 = .ok (.getfield 22, 3) := by decide +kernel
theorem dX3_noteOutcome_18 : decode cX3_noteOutcome 18 = .ok (.iload_n 3, 1) := by decide +kernel
theorem dX3_noteOutcome_19 : decode cX3_noteOutcome 19 = .ok (.laload, 1) := by decide +kernel
theorem dX3_noteOutcome_20 : decode cX3_noteOutcome 20 = .ok (.lload_n 1, 1) := by decide +kernel
theorem dX3_noteOutcome_21 : decode cX3_noteOutcome 21 = .ok (.lcmp, 1) := by decide +kernel
theorem dX3_noteOutcome_22 : decode cX3_noteOutcome 22 = .ok (.ifCond .ne 4, 3) := by decide +kernel
theorem dX3_noteOutcome_25 : decode cX3_noteOutcome 25 = .ok (.return_, 1) := by decide +kernel
theorem dX3_noteOutcome_26 : decode cX3_noteOutcome 26 = .ok (.aload_n 0, 1) := by decide +kernel
theorem dX3_noteOutcome_27 : decode cX3_noteOutcome 27 = .ok (.getfield 47, 3) := by decide +kernel
theorem dX3_noteOutcome_30 : decode cX3_noteOutcome 30 = .ok (.aload_n 0, 1) := by decide +kernel
theorem dX3_noteOutcome_31 : decode cX3_noteOutcome 31 = .ok (.getfield 22, 3) := by decide +kernel
theorem dX3_noteOutcome_34 : decode cX3_noteOutcome 34 = .ok (.arraylength, 1) := by decide +kernel
theorem dX3_noteOutcome_35 : decode cX3_noteOutcome 35 = .ok (.if_icmp .lt 21, 3) := by decide +kernel
theorem dX3_noteOutcome_38 : decode cX3_noteOutcome 38 = .ok (.aload_n 0, 1) := by decide +kernel
theorem dX3_noteOutcome_39 : decode cX3_noteOutcome 39 = .ok (.aload_n 0, 1) := by decide +kernel
theorem dX3_noteOutcome_40 : decode cX3_noteOutcome 40 = .ok (.getfield 22, 3) := by decide +kernel
theorem dX3_noteOutcome_43 : decode cX3_noteOutcome 43 = .ok (.aload_n 0, 1) := by decide +kernel
theorem dX3_noteOutcome_44 : decode cX3_noteOutcome 44 = .ok (.getfield 22, 3) := by decide +kernel
theorem dX3_noteOutcome_47 : decode cX3_noteOutcome 47 = .ok (.arraylength, 1) := by decide +kernel
theorem dX3_noteOutcome_48 : decode cX3_noteOutcome 48 = .ok (.iconst 2, 1) := by decide +kernel
theorem dX3_noteOutcome_49 : decode cX3_noteOutcome 49 = .ok (.imul, 1) := by decide +kernel
theorem dX3_noteOutcome_50 : decode cX3_noteOutcome 50 = .ok (.invokestatic 112, 3) := by decide +kernel
theorem dX3_noteOutcome_53 : decode cX3_noteOutcome 53 = .ok (.putfield 22, 3) := by decide +kernel
theorem dX3_noteOutcome_56 : decode cX3_noteOutcome 56 = .ok (.aload_n 0, 1) := by decide +kernel
theorem dX3_noteOutcome_57 : decode cX3_noteOutcome 57 = .ok (.getfield 22, 3) := by decide +kernel
theorem dX3_noteOutcome_60 : decode cX3_noteOutcome 60 = .ok (.iload_n 3, 1) := by decide +kernel
theorem dX3_noteOutcome_61 : decode cX3_noteOutcome 61 = .ok (.aload_n 0, 1) := by decide +kernel
theorem dX3_noteOutcome_62 : decode cX3_noteOutcome 62 = .ok (.getfield 22, 3) := by decide +kernel
theorem dX3_noteOutcome_65 : decode cX3_noteOutcome 65 = .ok (.iload_n 3, 1) := by decide +kernel
theorem dX3_noteOutcome_66 : decode cX3_noteOutcome 66 = .ok (.iconst 1, 1) := by decide +kernel
theorem dX3_noteOutcome_67 : decode cX3_noteOutcome 67 = .ok (.iadd, 1) := by decide +kernel
theorem dX3_noteOutcome_68 : decode cX3_noteOutcome 68 = .ok (.aload_n 0, 1) := by decide +kernel
theorem dX3_noteOutcome_69 : decode cX3_noteOutcome 69 = .ok (.getfield 47, 3) := by decide +kernel
theorem dX3_noteOutcome_72 : decode cX3_noteOutcome 72 = .ok (.iload_n 3, 1) := by decide +kernel
theorem dX3_noteOutcome_73 : decode cX3_noteOutcome 73 = .ok (.isub, 1) := by decide +kernel
theorem dX3_noteOutcome_74 : decode cX3_noteOutcome 74 = .ok (.invokestatic 118, 3) := by decide +kernel
theorem dX3_noteOutcome_77 : decode cX3_noteOutcome 77 = .ok (.aload_n 0, 1) := by decide +kernel
theorem dX3_noteOutcome_78 : decode cX3_noteOutcome 78 = .ok (.getfield 22, 3) := by decide +kernel
theorem dX3_noteOutcome_81 : decode cX3_noteOutcome 81 = .ok (.iload_n 3, 1) := by decide +kernel
theorem dX3_noteOutcome_82 : decode cX3_noteOutcome 82 = .ok (.lload_n 1, 1) := by decide +kernel
theorem dX3_noteOutcome_83 : decode cX3_noteOutcome 83 = .ok (.lastore, 1) := by decide +kernel
theorem dX3_noteOutcome_84 : decode cX3_noteOutcome 84 = .ok (.aload_n 0, 1) := by decide +kernel
theorem dX3_noteOutcome_85 : decode cX3_noteOutcome 85 = .ok (.dup, 1) := by decide +kernel
theorem dX3_noteOutcome_86 : decode cX3_noteOutcome 86 = .ok (.getfield 47, 3) := by decide +kernel
theorem dX3_noteOutcome_89 : decode cX3_noteOutcome 89 = .ok (.iconst 1, 1) := by decide +kernel
theorem dX3_noteOutcome_90 : decode cX3_noteOutcome 90 = .ok (.iadd, 1) := by decide +kernel
theorem dX3_noteOutcome_91 : decode cX3_noteOutcome 91 = .ok (.putfield 47, 3) := by decide +kernel
theorem dX3_noteOutcome_94 : decode cX3_noteOutcome 94 = .ok (.return_, 1) := by decide +kernel
theorem dX3_lessThan_0 : decode cX3_lessThan 0 = .ok (.iconst 0, 1) := by decide +kernel
theorem dX3_lessThan_1 : decode cX3_lessThan 1 = .ok (.istore_n 3, 1) := by decide +kernel
theorem dX3_lessThan_2 : decode cX3_lessThan 2 = .ok (.aload_n 0, 1) := by decide +kernel
theorem dX3_lessThan_3 : decode cX3_lessThan 3 = .ok (.getfield 47, 3) := by decide +kernel
theorem dX3_lessThan_6 : decode cX3_lessThan 6 = .ok (.istore 4, 2) := by decide +kernel
theorem dX3_lessThan_8 : decode cX3_lessThan 8 = .ok (.iconst 0, 1) := by decide +kernel
theorem dX3_lessThan_9 : decode cX3_lessThan 9 = .ok (.istore 5, 2) := by decide +kernel
theorem dX3_lessThan_11 : decode cX3_lessThan 11 = .ok (.iload_n 3, 1) := by decide +kernel
theorem dX3_lessThan_12 : decode cX3_lessThan 12 = .ok (.iload 4, 2) := by decide +kernel
theorem dX3_lessThan_14 : decode cX3_lessThan 14 = .ok (.if_icmp .ge 49, 3) := by decide +kernel
theorem dX3_lessThan_17 : decode cX3_lessThan 17 = .ok (.iload 5, 2) := by decide +kernel
theorem dX3_lessThan_19 : decode cX3_lessThan 19 = .ok (.sipush 3000, 3) := by decide +kernel
theorem dX3_lessThan_22 : decode cX3_lessThan 22 = .ok (.if_icmp .ge 41, 3) := by decide +kernel
theorem dX3_lessThan_25 : decode cX3_lessThan 25 = .ok (.iload_n 3, 1) := by decide +kernel
theorem dX3_lessThan_26 : decode cX3_lessThan 26 = .ok (.iload 4, 2) := by decide +kernel
theorem dX3_lessThan_28 : decode cX3_lessThan 28 = .ok (.iadd, 1) := by decide +kernel
theorem dX3_lessThan_29 : decode cX3_lessThan 29 = .ok (.iconst 2, 1) := by decide +kernel
theorem dX3_lessThan_30 : decode cX3_lessThan 30 = .ok (.idiv, 1) := by decide +kernel
theorem dX3_lessThan_31 : decode cX3_lessThan 31 = .ok (.istore 6, 2) := by decide +kernel
theorem dX3_lessThan_33 : decode cX3_lessThan 33 = .ok (.aload_n 0, 1) := by decide +kernel
theorem dX3_lessThan_34 : decode cX3_lessThan 34 = .ok (.getfield 22, 3) := by decide +kernel
theorem dX3_lessThan_37 : decode cX3_lessThan 37 = .ok (.iload 6, 2) := by decide +kernel
theorem dX3_lessThan_39 : decode cX3_lessThan 39 = .ok (.laload, 1) := by decide +kernel
theorem dX3_lessThan_40 : decode cX3_lessThan 40 = .ok (.lload_n 1, 1) := by decide +kernel
theorem dX3_lessThan_41 : decode cX3_lessThan 41 = .ok (.lcmp, 1) := by decide +kernel
theorem dX3_lessThan_42 : decode cX3_lessThan 42 = .ok (.ifCond .ge 11, 3) := by decide +kernel
theorem dX3_lessThan_45 : decode cX3_lessThan 45 = .ok (.iload 6, 2) := by decide +kernel
theorem dX3_lessThan_47 : decode cX3_lessThan 47 = .ok (.iconst 1, 1) := by decide +kernel
theorem dX3_lessThan_48 : decode cX3_lessThan 48 = .ok (.iadd, 1) := by decide +kernel
theorem dX3_lessThan_49 : decode cX3_lessThan 49 = .ok (.istore_n 3, 1) := by decide +kernel
theorem dX3_lessThan_50 : decode cX3_lessThan 50 = .ok (.goto 7, 3) := by decide +kernel
theorem dX3_lessThan_53 : decode cX3_lessThan 53 = .ok (.iload 6, 2) := by decide +kernel
theorem dX3_lessThan_55 : decode cX3_lessThan 55 = .ok (.istore 4, 2) := by decide +kernel
theorem dX3_lessThan_57 : decode cX3_lessThan 57 = .ok (.iinc 5 1, 3) := by decide +kernel
theorem dX3_lessThan_60 : decode cX3_lessThan 60 = .ok (.goto (-49), 3) := by decide +kernel
theorem dX3_lessThan_63 : decode cX3_lessThan 63 = .ok (.iload_n 3, 1) := by decide +kernel
theorem dX3_lessThan_64 : decode cX3_lessThan 64 = .ok (.ireturn, 1) := by decide +kernel
theorem dX3_outcomeAt_0 : decode cX3_outcomeAt 0 = .ok (.iload_n 1, 1) := by decide +kernel
theorem dX3_outcomeAt_1 : decode cX3_outcomeAt 1 = .ok (.ifCond .lt 20, 3) := by decide +kernel
theorem dX3_outcomeAt_4 : decode cX3_outcomeAt 4 = .ok (.iload_n 1, 1) := by decide +kernel
theorem dX3_outcomeAt_5 : decode cX3_outcomeAt 5 = .ok (.aload_n 0, 1) := by decide +kernel
theorem dX3_outcomeAt_6 : decode cX3_outcomeAt 6 = .ok (.getfield 47, 3) := by decide +kernel
theorem dX3_outcomeAt_9 : decode cX3_outcomeAt 9 = .ok (.if_icmp .ge 12, 3) := by decide +kernel
theorem dX3_outcomeAt_12 : decode cX3_outcomeAt 12 = .ok (.aload_n 0, 1) := by decide +kernel
theorem dX3_outcomeAt_13 : decode cX3_outcomeAt 13 = .ok (.getfield 22, 3) := by decide +kernel
theorem dX3_outcomeAt_16 : decode cX3_outcomeAt 16 = .ok (.iload_n 1, 1) := by decide +kernel
theorem dX3_outcomeAt_17 : decode cX3_outcomeAt 17 = .ok (.laload, 1) := by decide +kernel
theorem dX3_outcomeAt_18 : decode cX3_outcomeAt 18 = .ok (.goto 6, 3) := by decide +kernel
theorem dX3_outcomeAt_21 : decode cX3_outcomeAt 21 = .ok (.ldc2_w 124, 3) := by decide +kernel
theorem dX3_outcomeAt_24 : decode cX3_outcomeAt 24 = .ok (.lreturn, 1) := by decide +kernel
theorem dX4_init_0 : decode cX4_init 0 = .ok (.aload_n 0, 1) := by decide +kernel
theorem dX4_init_1 : decode cX4_init 1 = .ok (.invokespecial 3, 3) := by decide +kernel
theorem dX4_init_4 : decode cX4_init 4 = .ok (.aload_n 0, 1) := by decide +kernel
theorem dX4_init_5 : decode cX4_init 5 = .ok (.bipush 64, 2) := by decide +kernel
theorem dX4_init_7 : decode cX4_init 7 = .ok (.invokestatic 11, 3) := by decide +kernel
theorem dX4_init_10 : decode cX4_init 10 = .ok (.iconst 4, 1) := by decide +kernel
theorem dX4_init_11 : decode cX4_init 11 = .ok (.imul, 1) := by decide +kernel
theorem dX4_init_12 : decode cX4_init 12 = .ok (.newarray .long, 2) := by decide +kernel
theorem dX4_init_14 : decode cX4_init 14 = .ok (.putfield 15, 3) := by decide +kernel
theorem dX4_init_17 : decode cX4_init 17 = .ok (.aload_n 0, 1) := by decide +kernel
theorem dX4_init_18 : decode cX4_init 18 = .ok (.bipush 64, 2) := by decide +kernel
theorem dX4_init_20 : decode cX4_init 20 = .ok (.newarray .int, 2) := by decide +kernel
theorem dX4_init_22 : decode cX4_init 22 = .ok (.putfield 19, 3) := by decide +kernel
theorem dX4_init_25 : decode cX4_init 25 = .ok (.return_, 1) := by decide +kernel
theorem dX4_clear_0 : decode cX4_clear 0 = .ok (.aload_n 0, 1) := by decide +kernel
theorem dX4_clear_1 : decode cX4_clear 1 = .ok (.iconst 0, 1) := by decide +kernel
theorem dX4_clear_2 : decode cX4_clear 2 = .ok (.putfield 23, 3) := by decide +kernel
theorem dX4_clear_5 : decode cX4_clear 5 = .ok (.aload_n 0, 1) := by decide +kernel
theorem dX4_clear_6 : decode cX4_clear 6 = .ok (.getfield 19, 3) := by decide +kernel
theorem dX4_clear_9 : decode cX4_clear 9 = .ok (.iconst 0, 1) := by decide +kernel
theorem dX4_clear_10 : decode cX4_clear 10 = .ok (.invokestatic 27, 3) := by decide +kernel
theorem dX4_clear_13 : decode cX4_clear 13 = .ok (.return_, 1) := by decide +kernel
theorem dX4_size_0 : decode cX4_size 0 = .ok (.aload_n 0, 1) := by decide +kernel
theorem dX4_size_1 : decode cX4_size 1 = .ok (.getfield 23, 3) := by decide +kernel
theorem dX4_size_4 : decode cX4_size 4 = .ok (.ireturn, 1) := by decide +kernel
theorem dX4_keep_0 : decode cX4_keep 0 = .ok (.aload_n 0, 1) := by decide +kernel
theorem dX4_keep_1 : decode cX4_keep 1 = .ok (.getfield 23, 3) := by decide +kernel
theorem dX4_keep_4 : decode cX4_keep 4 = .ok (.aload_n 0, 1) := by decide +kernel
theorem dX4_keep_5 : decode cX4_keep 5 = .ok (.getfield 19, 3) := by decide +kernel
theorem dX4_keep_8 : decode cX4_keep 8 = .ok (.arraylength, 1) := by decide +kernel
theorem dX4_keep_9 : decode cX4_keep 9 = .ok (.invokestatic 11, 3) := by decide +kernel
theorem dX4_keep_12 : decode cX4_keep 12 = .ok (.if_icmp .lt 7, 3) := by decide +kernel
theorem dX4_keep_15 : decode cX4_keep 15 = .ok (.aload_n 0, 1) := by decide +kernel
theorem dX4_keep_16 : decode cX4_keep 16 = .ok (.invokevirtual 33, 3) := by decide +kernel
theorem dX4_keep_19 : decode cX4_keep 19 = .ok (.iconst 0, 1) := by decide +kernel
theorem dX4_keep_20 : decode cX4_keep 20 = .ok (.istore_n 2, 1) := by decide +kernel
theorem dX4_keep_21 : decode cX4_keep 21 = .ok (.iload_n 2, 1) := by decide +kernel
theorem dX4_keep_22 : decode cX4_keep 22 = .ok (.iconst 4, 1) := by decide +kernel
theorem dX4_keep_23 : decode cX4_keep 23 = .ok (.if_icmp .ge 27, 3) := by decide +kernel
theorem dX4_keep_26 : decode cX4_keep 26 = .ok (.aload_n 0, 1) := by decide +kernel
theorem dX4_keep_27 : decode cX4_keep 27 = .ok (.getfield 15, 3) := by decide +kernel
theorem dX4_keep_30 : decode cX4_keep 30 = .ok (.aload_n 0, 1) := by decide +kernel
theorem dX4_keep_31 : decode cX4_keep 31 = .ok (.getfield 23, 3) := by decide +kernel
theorem dX4_keep_34 : decode cX4_keep 34 = .ok (.iconst 4, 1) := by decide +kernel
theorem dX4_keep_35 : decode cX4_keep 35 = .ok (.imul, 1) := by decide +kernel
theorem dX4_keep_36 : decode cX4_keep 36 = .ok (.iload_n 2, 1) := by decide +kernel
theorem dX4_keep_37 : decode cX4_keep 37 = .ok (.iadd, 1) := by decide +kernel
theorem dX4_keep_38 : decode cX4_keep 38 = .ok (.aload_n 1, 1) := by decide +kernel
theorem dX4_keep_39 : decode cX4_keep 39 = .ok (.iload_n 2, 1) := by decide +kernel
theorem dX4_keep_40 : decode cX4_keep 40 = .ok (.invokevirtual 36, 3) := by decide +kernel
theorem dX4_keep_43 : decode cX4_keep 43 = .ok (.lastore, 1) := by decide +kernel
theorem dX4_keep_44 : decode cX4_keep 44 = .ok (.iinc 2 1, 3) := by decide +kernel
theorem dX4_keep_47 : decode cX4_keep 47 = .ok (.goto (-26), 3) := by decide +kernel
theorem dX4_keep_50 : decode cX4_keep 50 = .ok (.aload_n 0, 1) := by decide +kernel
theorem dX4_keep_51 : decode cX4_keep 51 = .ok (.aload_n 0, 1) := by decide +kernel
theorem dX4_keep_52 : decode cX4_keep 52 = .ok (.getfield 23, 3) := by decide +kernel
theorem dX4_keep_55 : decode cX4_keep 55 = .ok (.invokevirtual 42, 3) := by decide +kernel
theorem dX4_keep_58 : decode cX4_keep 58 = .ok (.istore_n 2, 1) := by decide +kernel
theorem dX4_keep_59 : decode cX4_keep 59 = .ok (.aload_n 0, 1) := by decide +kernel
theorem dX4_keep_60 : decode cX4_keep 60 = .ok (.getfield 19, 3) := by decide +kernel
theorem dX4_keep_63 : decode cX4_keep 63 = .ok (.iload_n 2, 1) := by decide +kernel
theorem dX4_keep_64 : decode cX4_keep 64 = .ok (.iaload, 1) := by decide +kernel
theorem dX4_keep_65 : decode cX4_keep 65 = .ok (.ifCond .eq 5, 3) := by decide +kernel
theorem dX4_keep_68 : decode cX4_keep 68 = .ok (.iconst 1, 1) := by decide +kernel
theorem dX4_keep_69 : decode cX4_keep 69 = .ok (.ireturn, 1) := by decide +kernel
theorem dX4_keep_70 : decode cX4_keep 70 = .ok (.aload_n 0, 1) := by decide +kernel
theorem dX4_keep_71 : decode cX4_keep 71 = .ok (.getfield 23, 3) := by decide +kernel
theorem dX4_keep_74 : decode cX4_keep 74 = .ok (.sipush 3000, 3) := by decide +kernel
theorem dX4_keep_77 : decode cX4_keep 77 = .ok (.if_icmp .lt 5, 3) := by decide +kernel
theorem dX4_keep_80 : decode cX4_keep 80 = .ok (.iconst 0, 1) := by decide +kernel
theorem dX4_keep_81 : decode cX4_keep 81 = .ok (.ireturn, 1) := by decide +kernel
theorem dX4_keep_82 : decode cX4_keep 82 = .ok (.aload_n 0, 1) := by decide +kernel
theorem dX4_keep_83 : decode cX4_keep 83 = .ok (.dup, 1) := by decide +kernel
theorem dX4_keep_84 : decode cX4_keep 84 = .ok (.getfield 23, 3) := by decide +kernel
theorem dX4_keep_87 : decode cX4_keep 87 = .ok (.iconst 1, 1) := by decide +kernel
theorem dX4_keep_88 : decode cX4_keep 88 = .ok (.iadd, 1) := by decide +kernel
theorem dX4_keep_89 : decode cX4_keep 89 = .ok (.putfield 23, 3) := by decide +kernel
theorem dX4_keep_92 : decode cX4_keep 92 = .ok (.aload_n 0, 1) := by decide +kernel
theorem dX4_keep_93 : decode cX4_keep 93 = .ok (.getfield 19, 3) := by decide +kernel
theorem dX4_keep_96 : decode cX4_keep 96 = .ok (.iload_n 2, 1) := by decide +kernel
theorem dX4_keep_97 : decode cX4_keep 97 = .ok (.aload_n 0, 1) := by decide +kernel
theorem dX4_keep_98 : decode cX4_keep 98 = .ok (.getfield 23, 3) := by decide +kernel
theorem dX4_keep_101 : decode cX4_keep 101 = .ok (.iastore, 1) := by decide +kernel
theorem dX4_keep_102 : decode cX4_keep 102 = .ok (.iconst 1, 1) := by decide +kernel
theorem dX4_keep_103 : decode cX4_keep 103 = .ok (.ireturn, 1) := by decide +kernel
theorem dX4_restore_0 : decode cX4_restore 0 = .ok (.iconst 0, 1) := by decide +kernel
theorem dX4_restore_1 : decode cX4_restore 1 = .ok (.istore_n 3, 1) := by decide +kernel
theorem dX4_restore_2 : decode cX4_restore 2 = .ok (.iload_n 3, 1) := by decide +kernel
theorem dX4_restore_3 : decode cX4_restore 3 = .ok (.iconst 4, 1) := by decide +kernel
theorem dX4_restore_4 : decode cX4_restore 4 = .ok (.if_icmp .ge 24, 3) := by decide +kernel
theorem dX4_restore_7 : decode cX4_restore 7 = .ok (.aload_n 2, 1) := by decide +kernel
theorem dX4_restore_8 : decode cX4_restore 8 = .ok (.iload_n 3, 1) := by decide +kernel
theorem dX4_restore_9 : decode cX4_restore 9 = .ok (.aload_n 0, 1) := by decide +kernel
theorem dX4_restore_10 : decode cX4_restore 10 = .ok (.getfield 15, 3) := by decide +kernel
theorem dX4_restore_13 : decode cX4_restore 13 = .ok (.iload_n 1, 1) := by decide +kernel
theorem dX4_restore_14 : decode cX4_restore 14 = .ok (.iconst 4, 1) := by decide +kernel
theorem dX4_restore_15 : decode cX4_restore 15 = .ok (.imul, 1) := by decide +kernel
theorem dX4_restore_16 : decode cX4_restore 16 = .ok (.iload_n 3, 1) := by decide +kernel
theorem dX4_restore_17 : decode cX4_restore 17 = .ok (.iadd, 1) := by decide +kernel
theorem dX4_restore_18 : decode cX4_restore 18 = .ok (.laload, 1) := by decide +kernel
theorem dX4_restore_19 : decode cX4_restore 19 = .ok (.invokevirtual 45, 3) := by decide +kernel
theorem dX4_restore_22 : decode cX4_restore 22 = .ok (.iinc 3 1, 3) := by decide +kernel
theorem dX4_restore_25 : decode cX4_restore 25 = .ok (.goto (-23), 3) := by decide +kernel
theorem dX4_restore_28 : decode cX4_restore 28 = .ok (.return_, 1) := by decide +kernel
theorem dX4_roomIn_0 : decode cX4_roomIn 0 = .ok (.iload_n 0, 1) := by decide +kernel
theorem dX4_roomIn_1 : decode cX4_roomIn 1 = .ok (.iconst 4, 1) := by decide +kernel
theorem dX4_roomIn_2 : decode cX4_roomIn 2 = .ok (.idiv, 1) := by decide +kernel
theorem dX4_roomIn_3 : decode cX4_roomIn 3 = .ok (.iconst 3, 1) := by decide +kernel
theorem dX4_roomIn_4 : decode cX4_roomIn 4 = .ok (.imul, 1) := by decide +kernel
theorem dX4_roomIn_5 : decode cX4_roomIn 5 = .ok (.ireturn, 1) := by decide +kernel
theorem dX4_grow_0 : decode cX4_grow 0 = .ok (.aload_n 0, 1) := by decide +kernel
theorem dX4_grow_1 : decode cX4_grow 1 = .ok (.aload_n 0, 1) := by decide +kernel
theorem dX4_grow_2 : decode cX4_grow 2 = .ok (.getfield 19, 3) := by decide +kernel
theorem dX4_grow_5 : decode cX4_grow 5 = .ok (.arraylength, 1) := by decide +kernel
theorem dX4_grow_6 : decode cX4_grow 6 = .ok (.iconst 4, 1) := by decide +kernel
theorem dX4_grow_7 : decode cX4_grow 7 = .ok (.imul, 1) := by decide +kernel
theorem dX4_grow_8 : decode cX4_grow 8 = .ok (.newarray .int, 2) := by decide +kernel
theorem dX4_grow_10 : decode cX4_grow 10 = .ok (.putfield 19, 3) := by decide +kernel
theorem dX4_grow_13 : decode cX4_grow 13 = .ok (.aload_n 0, 1) := by decide +kernel
theorem dX4_grow_14 : decode cX4_grow 14 = .ok (.aload_n 0, 1) := by decide +kernel
theorem dX4_grow_15 : decode cX4_grow 15 = .ok (.getfield 15, 3) := by decide +kernel
theorem dX4_grow_18 : decode cX4_grow 18 = .ok (.aload_n 0, 1) := by decide +kernel
theorem dX4_grow_19 : decode cX4_grow 19 = .ok (.getfield 19, 3) := by decide +kernel
theorem dX4_grow_22 : decode cX4_grow 22 = .ok (.arraylength, 1) := by decide +kernel
theorem dX4_grow_23 : decode cX4_grow 23 = .ok (.invokestatic 11, 3) := by decide +kernel
theorem dX4_grow_26 : decode cX4_grow 26 = .ok (.iconst 4, 1) := by decide +kernel
theorem dX4_grow_27 : decode cX4_grow 27 = .ok (.imul, 1) := by decide +kernel
theorem dX4_grow_28 : decode cX4_grow 28 = .ok (.invokestatic 49, 3) := by decide +kernel
theorem dX4_grow_31 : decode cX4_grow 31 = .ok (.putfield 15, 3) := by decide +kernel
theorem dX4_grow_34 : decode cX4_grow 34 = .ok (.iconst 0, 1) := by decide +kernel
theorem dX4_grow_35 : decode cX4_grow 35 = .ok (.istore_n 1, 1) := by decide +kernel
theorem dX4_grow_36 : decode cX4_grow 36 = .ok (.iload_n 1, 1) := by decide +kernel
theorem dX4_grow_37 : decode cX4_grow 37 = .ok (.aload_n 0, 1) := by decide +kernel
theorem dX4_grow_38 : decode cX4_grow 38 = .ok (.getfield 23, 3) := by decide +kernel
theorem dX4_grow_41 : decode cX4_grow 41 = .ok (.if_icmp .ge 22, 3) := by decide +kernel
theorem dX4_grow_44 : decode cX4_grow 44 = .ok (.aload_n 0, 1) := by decide +kernel
theorem dX4_grow_45 : decode cX4_grow 45 = .ok (.getfield 19, 3) := by decide +kernel
theorem dX4_grow_48 : decode cX4_grow 48 = .ok (.aload_n 0, 1) := by decide +kernel
theorem dX4_grow_49 : decode cX4_grow 49 = .ok (.iload_n 1, 1) := by decide +kernel
theorem dX4_grow_50 : decode cX4_grow 50 = .ok (.invokevirtual 42, 3) := by decide +kernel
theorem dX4_grow_53 : decode cX4_grow 53 = .ok (.iload_n 1, 1) := by decide +kernel
theorem dX4_grow_54 : decode cX4_grow 54 = .ok (.iconst 1, 1) := by decide +kernel
theorem dX4_grow_55 : decode cX4_grow 55 = .ok (.iadd, 1) := by decide +kernel
theorem dX4_grow_56 : decode cX4_grow 56 = .ok (.iastore, 1) := by decide +kernel
theorem dX4_grow_57 : decode cX4_grow 57 = .ok (.iinc 1 1, 3) := by decide +kernel
theorem dX4_grow_60 : decode cX4_grow 60 = .ok (.goto (-24), 3) := by decide +kernel
theorem dX4_grow_63 : decode cX4_grow 63 = .ok (.return_, 1) := by decide +kernel
theorem dX4_slotOf_0 : decode cX4_slotOf 0 = .ok (.aload_n 0, 1) := by decide +kernel
theorem dX4_slotOf_1 : decode cX4_slotOf 1 = .ok (.getfield 19, 3) := by decide +kernel
theorem dX4_slotOf_4 : decode cX4_slotOf 4 = .ok (.arraylength, 1) := by decide +kernel
theorem dX4_slotOf_5 : decode cX4_slotOf 5 = .ok (.iconst 1, 1) := by decide +kernel
theorem dX4_slotOf_6 : decode cX4_slotOf 6 = .ok (.isub, 1) := by decide +kernel
theorem dX4_slotOf_7 : decode cX4_slotOf 7 = .ok (.istore_n 2, 1) := by decide +kernel
theorem dX4_slotOf_8 : decode cX4_slotOf 8 = .ok (.aload_n 0, 1) := by decide +kernel
theorem dX4_slotOf_9 : decode cX4_slotOf 9 = .ok (.iload_n 1, 1) := by decide +kernel
theorem dX4_slotOf_10 : decode cX4_slotOf 10 = .ok (.invokevirtual 53, 3) := by decide +kernel
theorem dX4_slotOf_13 : decode cX4_slotOf 13 = .ok (.iload_n 2, 1) := by decide +kernel
theorem dX4_slotOf_14 : decode cX4_slotOf 14 = .ok (.iand, 1) := by decide +kernel
theorem dX4_slotOf_15 : decode cX4_slotOf 15 = .ok (.istore_n 3, 1) := by decide +kernel
theorem dX4_slotOf_16 : decode cX4_slotOf 16 = .ok (.iconst 0, 1) := by decide +kernel
theorem dX4_slotOf_17 : decode cX4_slotOf 17 = .ok (.istore 4, 2) := by decide +kernel
theorem dX4_slotOf_19 : decode cX4_slotOf 19 = .ok (.iload 4, 2) := by decide +kernel
theorem dX4_slotOf_21 : decode cX4_slotOf 21 = .ok (.aload_n 0, 1) := by decide +kernel
theorem dX4_slotOf_22 : decode cX4_slotOf 22 = .ok (.getfield 19, 3) := by decide +kernel
theorem dX4_slotOf_25 : decode cX4_slotOf 25 = .ok (.arraylength, 1) := by decide +kernel
theorem dX4_slotOf_26 : decode cX4_slotOf 26 = .ok (.if_icmp .ge 43, 3) := by decide +kernel
theorem dX4_slotOf_29 : decode cX4_slotOf 29 = .ok (.aload_n 0, 1) := by decide +kernel
theorem dX4_slotOf_30 : decode cX4_slotOf 30 = .ok (.getfield 19, 3) := by decide +kernel
theorem dX4_slotOf_33 : decode cX4_slotOf 33 = .ok (.iload_n 3, 1) := by decide +kernel
theorem dX4_slotOf_34 : decode cX4_slotOf 34 = .ok (.iaload, 1) := by decide +kernel
theorem dX4_slotOf_35 : decode cX4_slotOf 35 = .ok (.ifCond .eq 34, 3) := by decide +kernel
theorem dX4_slotOf_38 : decode cX4_slotOf 38 = .ok (.aload_n 0, 1) := by decide +kernel
theorem dX4_slotOf_39 : decode cX4_slotOf 39 = .ok (.aload_n 0, 1) := by decide +kernel
theorem dX4_slotOf_40 : decode cX4_slotOf 40 = .ok (.getfield 19, 3) := by decide +kernel
theorem dX4_slotOf_43 : decode cX4_slotOf 43 = .ok (.iload_n 3, 1) := by decide +kernel
theorem dX4_slotOf_44 : decode cX4_slotOf 44 = .ok (.iaload, 1) := by decide +kernel
theorem dX4_slotOf_45 : decode cX4_slotOf 45 = .ok (.iconst 1, 1) := by decide +kernel
theorem dX4_slotOf_46 : decode cX4_slotOf 46 = .ok (.isub, 1) := by decide +kernel
theorem dX4_slotOf_47 : decode cX4_slotOf 47 = .ok (.iload_n 1, 1) := by decide +kernel
theorem dX4_slotOf_48 : decode cX4_slotOf 48 = .ok (.invokevirtual 56, 3) := by decide +kernel
theorem dX4_slotOf_51 : decode cX4_slotOf 51 = .ok (.ifCond .eq 6, 3) := by decide +kernel
theorem dX4_slotOf_54 : decode cX4_slotOf 54 = .ok (.goto 15, 3) := by decide +kernel
theorem dX4_slotOf_57 : decode cX4_slotOf 57 = .ok (.iload_n 3, 1) := by decide +kernel
theorem dX4_slotOf_58 : decode cX4_slotOf 58 = .ok (.iconst 1, 1) := by decide +kernel
theorem dX4_slotOf_59 : decode cX4_slotOf 59 = .ok (.iadd, 1) := by decide +kernel
theorem dX4_slotOf_60 : decode cX4_slotOf 60 = .ok (.iload_n 2, 1) := by decide +kernel
theorem dX4_slotOf_61 : decode cX4_slotOf 61 = .ok (.iand, 1) := by decide +kernel
theorem dX4_slotOf_62 : decode cX4_slotOf 62 = .ok (.istore_n 3, 1) := by decide +kernel
theorem dX4_slotOf_63 : decode cX4_slotOf 63 = .ok (.iinc 4 1, 3) := by decide +kernel
theorem dX4_slotOf_66 : decode cX4_slotOf 66 = .ok (.goto (-47), 3) := by decide +kernel
theorem dX4_slotOf_69 : decode cX4_slotOf 69 = .ok (.iload_n 3, 1) := by decide +kernel
theorem dX4_slotOf_70 : decode cX4_slotOf 70 = .ok (.ireturn, 1) := by decide +kernel
theorem dX4_hashOf_0 : decode cX4_hashOf 0 = .ok (.lconst 0, 1) := by decide +kernel
theorem dX4_hashOf_1 : decode cX4_hashOf 1 = .ok (.lstore_n 2, 1) := by decide +kernel
theorem dX4_hashOf_2 : decode cX4_hashOf 2 = .ok (.iconst 0, 1) := by decide +kernel
theorem dX4_hashOf_3 : decode cX4_hashOf 3 = .ok (.istore 4, 2) := by decide +kernel
theorem dX4_hashOf_5 : decode cX4_hashOf 5 = .ok (.iload 4, 2) := by decide +kernel
theorem dX4_hashOf_7 : decode cX4_hashOf 7 = .ok (.iconst 4, 1) := by decide +kernel
theorem dX4_hashOf_8 : decode cX4_hashOf 8 = .ok (.if_icmp .ge 34, 3) := by decide +kernel
theorem dX4_hashOf_11 : decode cX4_hashOf 11 = .ok (.lload_n 2, 1) := by decide +kernel
theorem dX4_hashOf_12 : decode cX4_hashOf 12 = .ok (.aload_n 0, 1) := by decide +kernel
theorem dX4_hashOf_13 : decode cX4_hashOf 13 = .ok (.getfield 15, 3) := by decide +kernel
theorem dX4_hashOf_16 : decode cX4_hashOf 16 = .ok (.iload_n 1, 1) := by decide +kernel
theorem dX4_hashOf_17 : decode cX4_hashOf 17 = .ok (.iconst 4, 1) := by decide +kernel
theorem dX4_hashOf_18 : decode cX4_hashOf 18 = .ok (.imul, 1) := by decide +kernel
theorem dX4_hashOf_19 : decode cX4_hashOf 19 = .ok (.iload 4, 2) := by decide +kernel
theorem dX4_hashOf_21 : decode cX4_hashOf 21 = .ok (.iadd, 1) := by decide +kernel
theorem dX4_hashOf_22 : decode cX4_hashOf 22 = .ok (.laload, 1) := by decide +kernel
theorem dX4_hashOf_23 : decode cX4_hashOf 23 = .ok (.lxor, 1) := by decide +kernel
theorem dX4_hashOf_24 : decode cX4_hashOf 24 = .ok (.ldc2_w 60, 3) := by decide +kernel
theorem dX4_hashOf_27 : decode cX4_hashOf 27 = .ok (.lmul, 1) := by decide +kernel
theorem dX4_hashOf_28 : decode cX4_hashOf 28 = .ok (.lstore_n 2, 1) := by decide +kernel
theorem dX4_hashOf_29 : decode cX4_hashOf 29 = .ok (.lload_n 2, 1) := by decide +kernel
theorem dX4_hashOf_30 : decode cX4_hashOf 30 = .ok (.lload_n 2, 1) := by decide +kernel
theorem dX4_hashOf_31 : decode cX4_hashOf 31 = .ok (.bipush 32, 2) := by decide +kernel
theorem dX4_hashOf_33 : decode cX4_hashOf 33 = .ok (.lushr, 1) := by decide +kernel
theorem dX4_hashOf_34 : decode cX4_hashOf 34 = .ok (.lxor, 1) := by decide +kernel
theorem dX4_hashOf_35 : decode cX4_hashOf 35 = .ok (.lstore_n 2, 1) := by decide +kernel
theorem dX4_hashOf_36 : decode cX4_hashOf 36 = .ok (.iinc 4 1, 3) := by decide +kernel
theorem dX4_hashOf_39 : decode cX4_hashOf 39 = .ok (.goto (-34), 3) := by decide +kernel
theorem dX4_hashOf_42 : decode cX4_hashOf 42 = .ok (.lload_n 2, 1) := by decide +kernel
theorem dX4_hashOf_43 : decode cX4_hashOf 43 = .ok (.l2i, 1) := by decide +kernel
theorem dX4_hashOf_44 : decode cX4_hashOf 44 = .ok (.ireturn, 1) := by decide +kernel
theorem dX4_areSame_0 : decode cX4_areSame 0 = .ok (.iconst 0, 1) := by decide +kernel
theorem dX4_areSame_1 : decode cX4_areSame 1 = .ok (.istore_n 3, 1) := by decide +kernel
theorem dX4_areSame_2 : decode cX4_areSame 2 = .ok (.iload_n 3, 1) := by decide +kernel
theorem dX4_areSame_3 : decode cX4_areSame 3 = .ok (.iconst 4, 1) := by decide +kernel
theorem dX4_areSame_4 : decode cX4_areSame 4 = .ok (.if_icmp .ge 35, 3) := by decide +kernel
theorem dX4_areSame_7 : decode cX4_areSame 7 = .ok (.aload_n 0, 1) := by decide +kernel
theorem dX4_areSame_8 : decode cX4_areSame 8 = .ok (.getfield 15, 3) := by decide +kernel
theorem dX4_areSame_11 : decode cX4_areSame 11 = .ok (.iload_n 1, 1) := by decide +kernel
theorem dX4_areSame_12 : decode cX4_areSame 12 = .ok (.iconst 4, 1) := by decide +kernel
theorem dX4_areSame_13 : decode cX4_areSame 13 = .ok (.imul, 1) := by decide +kernel
theorem dX4_areSame_14 : decode cX4_areSame 14 = .ok (.iload_n 3, 1) := by decide +kernel
theorem dX4_areSame_15 : decode cX4_areSame 15 = .ok (.iadd, 1) := by decide +kernel
theorem dX4_areSame_16 : decode cX4_areSame 16 = .ok (.laload, 1) := by decide +kernel
theorem dX4_areSame_17 : decode cX4_areSame 17 = .ok (.aload_n 0, 1) := by decide +kernel
theorem dX4_areSame_18 : decode cX4_areSame 18 = .ok (.getfield 15, 3) := by decide +kernel
theorem dX4_areSame_21 : decode cX4_areSame 21 = .ok (.iload_n 2, 1) := by decide +kernel
theorem dX4_areSame_22 : decode cX4_areSame 22 = .ok (.iconst 4, 1) := by decide +kernel
theorem dX4_areSame_23 : decode cX4_areSame 23 = .ok (.imul, 1) := by decide +kernel
theorem dX4_areSame_24 : decode cX4_areSame 24 = .ok (.iload_n 3, 1) := by decide +kernel
theorem dX4_areSame_25 : decode cX4_areSame 25 = .ok (.iadd, 1) := by decide +kernel
theorem dX4_areSame_26 : decode cX4_areSame 26 = .ok (.laload, 1) := by decide +kernel
theorem dX4_areSame_27 : decode cX4_areSame 27 = .ok (.lcmp, 1) := by decide +kernel
theorem dX4_areSame_28 : decode cX4_areSame 28 = .ok (.ifCond .eq 5, 3) := by decide +kernel
theorem dX4_areSame_31 : decode cX4_areSame 31 = .ok (.iconst 0, 1) := by decide +kernel
theorem dX4_areSame_32 : decode cX4_areSame 32 = .ok (.ireturn, 1) := by decide +kernel
theorem dX4_areSame_33 : decode cX4_areSame 33 = .ok (.iinc 3 1, 3) := by decide +kernel
theorem dX4_areSame_36 : decode cX4_areSame 36 = .ok (.goto (-34), 3) := by decide +kernel
theorem dX4_areSame_39 : decode cX4_areSame 39 = .ok (.iconst 1, 1) := by decide +kernel
theorem dX4_areSame_40 : decode cX4_areSame 40 = .ok (.ireturn, 1) := by decide +kernel
