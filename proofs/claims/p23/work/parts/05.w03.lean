theorem dX5_clear_0 : decode cX5_clear 0 = .ok (.aload_n 0, 1) := by decide +kernel
theorem dX5_clear_1 : decode cX5_clear 1 = .ok (.iconst 0, 1) := by decide +kernel
theorem dX5_clear_2 : decode cX5_clear 2 = .ok (.putfield 30, 3) := by decide +kernel
theorem dX5_clear_5 : decode cX5_clear 5 = .ok (.aload_n 0, 1) := by decide +kernel
theorem dX5_clear_6 : decode cX5_clear 6 = .ok (.iconst 0, 1) := by decide +kernel
theorem dX5_clear_7 : decode cX5_clear 7 = .ok (.putfield 34, 3) := by decide +kernel
theorem dX5_clear_10 : decode cX5_clear 10 = .ok (.return_, 1) := by decide +kernel
theorem dX5_isWhole_0 : decode cX5_isWhole 0 = .ok (.aload_n 0, 1) := by decide +kernel
theorem dX5_isWhole_1 : decode cX5_isWhole 1 = .ok (.getfield 46, 3) := by decide +kernel
theorem dX5_isWhole_4 : decode cX5_isWhole 4 = .ok (.ifCond .ne 14, 3) := by decide +kernel
theorem dX5_isWhole_7 : decode cX5_isWhole 7 = .ok (.aload_n 0, 1) := by decide +kernel
theorem dX5_isWhole_8 : decode cX5_isWhole 8 = .ok (.getfield 43, 3) := by decide +kernel
theorem dX5_isWhole_11 : decode cX5_isWhole 11 = .ok (.ifCond .ne 7, 3) := by decide +kernel
theorem dX5_isWhole_14 : decode cX5_isWhole 14 = .ok (.iconst 1, 1) := by decide +kernel
theorem dX5_isWhole_15 : decode cX5_isWhole 15 = .ok (.goto 4, 3) := by decide +kernel
theorem dX5_isWhole_18 : decode cX5_isWhole 18 = .ok (.iconst 0, 1) := by decide +kernel
theorem dX5_isWhole_19 : decode cX5_isWhole 19 = .ok (.ireturn, 1) := by decide +kernel
theorem dX5_addWaiting_0 : decode cX5_addWaiting 0 = .ok (.aload_n 0, 1) := by decide +kernel
theorem dX5_addWaiting_1 : decode cX5_addWaiting 1 = .ok (.getfield 40, 3) := by decide +kernel
theorem dX5_addWaiting_4 : decode cX5_addWaiting 4 = .ok (.bipush 40, 2) := by decide +kernel
theorem dX5_addWaiting_6 : decode cX5_addWaiting 6 = .ok (.if_icmp .lt 5, 3) := by decide +kernel
theorem dX5_addWaiting_9 : decode cX5_addWaiting 9 = .ok (.iconst 0, 1) := by decide +kernel
theorem dX5_addWaiting_10 : decode cX5_addWaiting 10 = .ok (.ireturn, 1) := by decide +kernel
theorem dX5_addWaiting_11 : decode cX5_addWaiting 11 = .ok (.aload_n 0, 1) := by decide +kernel
theorem dX5_addWaiting_12 : decode cX5_addWaiting 12 = .ok (.getfield 27, 3) := by decide +kernel
theorem dX5_addWaiting_15 : decode cX5_addWaiting 15 = .ok (.aload_n 0, 1) := by decide +kernel
theorem dX5_addWaiting_16 : decode cX5_addWaiting 16 = .ok (.getfield 40, 3) := by decide +kernel
theorem dX5_addWaiting_19 : decode cX5_addWaiting 19 = .ok (.aload_n 1, 1) := by decide +kernel
theorem dX5_addWaiting_20 : decode cX5_addWaiting 20 = .ok (.aastore, 1) := by decide +kernel
theorem dX5_addWaiting_21 : decode cX5_addWaiting 21 = .ok (.aload_n 0, 1) := by decide +kernel
theorem dX5_addWaiting_22 : decode cX5_addWaiting 22 = .ok (.dup, 1) := by decide +kernel
theorem dX5_addWaiting_23 : decode cX5_addWaiting 23 = .ok (.getfield 40, 3) := by decide +kernel
theorem dX5_addWaiting_26 : decode cX5_addWaiting 26 = .ok (.iconst 1, 1) := by decide +kernel
theorem dX5_addWaiting_27 : decode cX5_addWaiting 27 = .ok (.iadd, 1) := by decide +kernel
theorem dX5_addWaiting_28 : decode cX5_addWaiting 28 = .ok (.putfield 40, 3) := by decide +kernel
theorem dX5_addWaiting_31 : decode cX5_addWaiting 31 = .ok (.iconst 1, 1) := by decide +kernel
theorem dX5_addWaiting_32 : decode cX5_addWaiting 32 = .ok (.ireturn, 1) := by decide +kernel
theorem dX5_settleNots_0 : decode cX5_settleNots 0 = .ok (.iconst 0, 1) := by decide +kernel
theorem dX5_settleNots_1 : decode cX5_settleNots 1 = .ok (.istore_n 1, 1) := by decide +kernel
theorem dX5_settleNots_2 : decode cX5_settleNots 2 = .ok (.iload_n 1, 1) := by decide +kernel
theorem dX5_settleNots_3 : decode cX5_settleNots 3 = .ok (.bipush 40, 2) := by decide +kernel
theorem dX5_settleNots_5 : decode cX5_settleNots 5 = .ok (.if_icmp .ge 63, 3) := by decide +kernel
theorem dX5_settleNots_8 : decode cX5_settleNots 8 = .ok (.aload_n 0, 1) := by decide +kernel
theorem dX5_settleNots_9 : decode cX5_settleNots 9 = .ok (.getfield 40, 3) := by decide +kernel
theorem dX5_settleNots_12 : decode cX5_settleNots 12 = .ok (.ifCond .le 56, 3) := by decide +kernel
theorem dX5_settleNots_15 : decode cX5_settleNots 15 = .ok (.aload_n 0, 1) := by decide +kernel
theorem dX5_settleNots_16 : decode cX5_settleNots 16 = .ok (.getfield 27, 3) := by decide +kernel
theorem dX5_settleNots_19 : decode cX5_settleNots 19 = .ok (.aload_n 0, 1) := by decide +kernel
theorem dX5_settleNots_20 : decode cX5_settleNots 20 = .ok (.getfield 40, 3) := by decide +kernel
theorem dX5_settleNots_23 : decode cX5_settleNots 23 = .ok (.iconst 1, 1) := by decide +kernel
theorem dX5_settleNots_24 : decode cX5_settleNots 24 = .ok (.isub, 1) := by decide +kernel
theorem dX5_settleNots_25 : decode cX5_settleNots 25 = .ok (.aaload, 1) := by decide +kernel
theorem dX5_settleNots_26 : decode cX5_settleNots 26 = .ok (.getstatic 97, 3) := by decide +kernel
theorem dX5_settleNots_29 : decode cX5_settleNots 29 = .ok (.if_acmp .ne 39, 3) := by decide +kernel
theorem dX5_settleNots_32 : decode cX5_settleNots 32 = .ok (.aload_n 0, 1) := by decide +kernel
theorem dX5_settleNots_33 : decode cX5_settleNots 33 = .ok (.dup, 1) := by decide +kernel
theorem dX5_settleNots_34 : decode cX5_settleNots 34 = .ok (.getfield 40, 3) := by decide +kernel
theorem dX5_settleNots_37 : decode cX5_settleNots 37 = .ok (.iconst 1, 1) := by decide +kernel
theorem dX5_settleNots_38 : decode cX5_settleNots 38 = .ok (.isub, 1) := by decide +kernel
theorem dX5_settleNots_39 : decode cX5_settleNots 39 = .ok (.putfield 40, 3) := by decide +kernel
theorem dX5_settleNots_42 : decode cX5_settleNots 42 = .ok (.aload_n 0, 1) := by decide +kernel
theorem dX5_settleNots_43 : decode cX5_settleNots 43 = .ok (.dup, 1) := by decide +kernel
theorem dX5_settleNots_44 : decode cX5_settleNots 44 = .ok (.getfield 43, 3) := by decide +kernel
theorem dX5_settleNots_47 : decode cX5_settleNots 47 = .ok (.iconst 1, 1) := by decide +kernel
theorem dX5_settleNots_48 : decode cX5_settleNots 48 = .ok (.isub, 1) := by decide +kernel
theorem dX5_settleNots_49 : decode cX5_settleNots 49 = .ok (.putfield 43, 3) := by decide +kernel
theorem dX5_settleNots_52 : decode cX5_settleNots 52 = .ok (.aload_n 0, 1) := by decide +kernel
theorem dX5_settleNots_53 : decode cX5_settleNots 53 = .ok (.getstatic 97, 3) := by decide +kernel
theorem dX5_settleNots_56 : decode cX5_settleNots 56 = .ok (.iconst 0, 1) := by decide +kernel
theorem dX5_settleNots_57 : decode cX5_settleNots 57 = .ok (.iconst 0, 1) := by decide +kernel
theorem dX5_settleNots_58 : decode cX5_settleNots 58 = .ok (.invokevirtual 124, 3) := by decide +kernel
theorem dX5_settleNots_61 : decode cX5_settleNots 61 = .ok (.pop, 1) := by decide +kernel
theorem dX5_settleNots_62 : decode cX5_settleNots 62 = .ok (.iinc 1 1, 3) := by decide +kernel
theorem dX5_settleNots_65 : decode cX5_settleNots 65 = .ok (.goto (-63), 3) := by decide +kernel
theorem dX5_settleNots_68 : decode cX5_settleNots 68 = .ok (.return_, 1) := by decide +kernel
theorem dX5_settleDownTo_0 : decode cX5_settleDownTo 0 = .ok (.iconst 0, 1) := by decide +kernel
theorem dX5_settleDownTo_1 : decode cX5_settleDownTo 1 = .ok (.istore_n 2, 1) := by decide +kernel
theorem dX5_settleDownTo_2 : decode cX5_settleDownTo 2 = .ok (.iload_n 2, 1) := by decide +kernel
theorem dX5_settleDownTo_3 : decode cX5_settleDownTo 3 = .ok (.bipush 40, 2) := by decide +kernel
theorem dX5_settleDownTo_5 : decode cX5_settleDownTo 5 = .ok (.if_icmp .ge 68, 3) := by decide +kernel
theorem dX5_settleDownTo_8 : decode cX5_settleDownTo 8 = .ok (.aload_n 0, 1) := by decide +kernel
theorem dX5_settleDownTo_9 : decode cX5_settleDownTo 9 = .ok (.getfield 40, 3) := by decide +kernel
theorem dX5_settleDownTo_12 : decode cX5_settleDownTo 12 = .ok (.ifCond .le 61, 3) := by decide +kernel
theorem dX5_settleDownTo_15 : decode cX5_settleDownTo 15 = .ok (.aload_n 0, 1) := by decide +kernel
theorem dX5_settleDownTo_16 : decode cX5_settleDownTo 16 = .ok (.getfield 27, 3) := by decide +kernel
theorem dX5_settleDownTo_19 : decode cX5_settleDownTo 19 = .ok (.aload_n 0, 1) := by decide +kernel
theorem dX5_settleDownTo_20 : decode cX5_settleDownTo 20 = .ok (.getfield 40, 3) := by decide +kernel
theorem dX5_settleDownTo_23 : decode cX5_settleDownTo 23 = .ok (.iconst 1, 1) := by decide +kernel
theorem dX5_settleDownTo_24 : decode cX5_settleDownTo 24 = .ok (.isub, 1) := by decide +kernel
theorem dX5_settleDownTo_25 : decode cX5_settleDownTo 25 = .ok (.aaload, 1) := by decide +kernel
theorem dX5_settleDownTo_26 : decode cX5_settleDownTo 26 = .ok (.astore_n 3, 1) := by decide +kernel
theorem dX5_settleDownTo_27 : decode cX5_settleDownTo 27 = .ok (.aload_n 3, 1) := by decide +kernel
theorem dX5_settleDownTo_28 : decode cX5_settleDownTo 28 = .ok (.getstatic 118, 3) := by decide +kernel
theorem dX5_settleDownTo_31 : decode cX5_settleDownTo 31 = .ok (.if_acmp .eq 18, 3) := by decide +kernel
theorem dX5_settleDownTo_34 : decode cX5_settleDownTo 34 = .ok (.aload_n 3, 1) := by decide +kernel
theorem dX5_settleDownTo_35 : decode cX5_settleDownTo 35 = .ok (.getstatic 63, 3) := by decide +kernel
theorem dX5_settleDownTo_38 : decode cX5_settleDownTo 38 = .ok (.if_acmp .ne 10, 3) := by decide +kernel
theorem dX5_settleDownTo_41 : decode cX5_settleDownTo 41 = .ok (.aload_n 1, 1) := by decide +kernel
theorem dX5_settleDownTo_42 : decode cX5_settleDownTo 42 = .ok (.getstatic 63, 3) := by decide +kernel
theorem dX5_settleDownTo_45 : decode cX5_settleDownTo 45 = .ok (.if_acmp .eq 4, 3) := by decide +kernel
theorem dX5_settleDownTo_48 : decode cX5_settleDownTo 48 = .ok (.return_, 1) := by decide +kernel
theorem dX5_settleDownTo_49 : decode cX5_settleDownTo 49 = .ok (.aload_n 0, 1) := by decide +kernel
theorem dX5_settleDownTo_50 : decode cX5_settleDownTo 50 = .ok (.dup, 1) := by decide +kernel
theorem dX5_settleDownTo_51 : decode cX5_settleDownTo 51 = .ok (.getfield 40, 3) := by decide +kernel
theorem dX5_settleDownTo_54 : decode cX5_settleDownTo 54 = .ok (.iconst 1, 1) := by decide +kernel
theorem dX5_settleDownTo_55 : decode cX5_settleDownTo 55 = .ok (.isub, 1) := by decide +kernel
theorem dX5_settleDownTo_56 : decode cX5_settleDownTo 56 = .ok (.putfield 40, 3) := by decide +kernel
theorem dX5_settleDownTo_59 : decode cX5_settleDownTo 59 = .ok (.aload_n 0, 1) := by decide +kernel
theorem dX5_settleDownTo_60 : decode cX5_settleDownTo 60 = .ok (.aload_n 3, 1) := by decide +kernel
theorem dX5_settleDownTo_61 : decode cX5_settleDownTo 61 = .ok (.iconst 0, 1) := by decide +kernel
theorem dX5_settleDownTo_62 : decode cX5_settleDownTo 62 = .ok (.iconst 0, 1) := by decide +kernel
theorem dX5_settleDownTo_63 : decode cX5_settleDownTo 63 = .ok (.invokevirtual 124, 3) := by decide +kernel
theorem dX5_settleDownTo_66 : decode cX5_settleDownTo 66 = .ok (.pop, 1) := by decide +kernel
theorem dX5_settleDownTo_67 : decode cX5_settleDownTo 67 = .ok (.iinc 2 1, 3) := by decide +kernel
theorem dX5_settleDownTo_70 : decode cX5_settleDownTo 70 = .ok (.goto (-68), 3) := by decide +kernel
theorem dX5_settleDownTo_73 : decode cX5_settleDownTo 73 = .ok (.return_, 1) := by decide +kernel
theorem dX5_addStep_0 : decode cX5_addStep 0 = .ok (.aload_n 0, 1) := by decide +kernel
theorem dX5_addStep_1 : decode cX5_addStep 1 = .ok (.getfield 30, 3) := by decide +kernel
theorem dX5_addStep_4 : decode cX5_addStep 4 = .ok (.bipush 40, 2) := by decide +kernel
theorem dX5_addStep_6 : decode cX5_addStep 6 = .ok (.if_icmp .lt 5, 3) := by decide +kernel
theorem dX5_addStep_9 : decode cX5_addStep 9 = .ok (.iconst 0, 1) := by decide +kernel
theorem dX5_addStep_10 : decode cX5_addStep 10 = .ok (.ireturn, 1) := by decide +kernel
theorem dX5_addStep_11 : decode cX5_addStep 11 = .ok (.aload_n 0, 1) := by decide +kernel
theorem dX5_addStep_12 : decode cX5_addStep 12 = .ok (.getfield 13, 3) := by decide +kernel
theorem dX5_addStep_15 : decode cX5_addStep 15 = .ok (.aload_n 0, 1) := by decide +kernel
theorem dX5_addStep_16 : decode cX5_addStep 16 = .ok (.getfield 30, 3) := by decide +kernel
theorem dX5_addStep_19 : decode cX5_addStep 19 = .ok (.aload_n 1, 1) := by decide +kernel
theorem dX5_addStep_20 : decode cX5_addStep 20 = .ok (.aastore, 1) := by decide +kernel
theorem dX5_addStep_21 : decode cX5_addStep 21 = .ok (.aload_n 0, 1) := by decide +kernel
theorem dX5_addStep_22 : decode cX5_addStep 22 = .ok (.getfield 17, 3) := by decide +kernel
theorem dX5_addStep_25 : decode cX5_addStep 25 = .ok (.aload_n 0, 1) := by decide +kernel
theorem dX5_addStep_26 : decode cX5_addStep 26 = .ok (.getfield 30, 3) := by decide +kernel
theorem dX5_addStep_29 : decode cX5_addStep 29 = .ok (.iload_n 2, 1) := by decide +kernel
theorem dX5_addStep_30 : decode cX5_addStep 30 = .ok (.iastore, 1) := by decide +kernel
theorem dX5_addStep_31 : decode cX5_addStep 31 = .ok (.aload_n 0, 1) := by decide +kernel
theorem dX5_addStep_32 : decode cX5_addStep 32 = .ok (.getfield 21, 3) := by decide +kernel
theorem dX5_addStep_35 : decode cX5_addStep 35 = .ok (.aload_n 0, 1) := by decide +kernel
theorem dX5_addStep_36 : decode cX5_addStep 36 = .ok (.getfield 30, 3) := by decide +kernel
theorem dX5_addStep_39 : decode cX5_addStep 39 = .ok (.iload_n 3, 1) := by decide +kernel
theorem dX5_addStep_40 : decode cX5_addStep 40 = .ok (.iastore, 1) := by decide +kernel
theorem dX5_addStep_41 : decode cX5_addStep 41 = .ok (.aload_n 0, 1) := by decide +kernel
theorem dX5_addStep_42 : decode cX5_addStep 42 = .ok (.dup, 1) := by decide +kernel
theorem dX5_addStep_43 : decode cX5_addStep 43 = .ok (.getfield 30, 3) := by decide +kernel
theorem dX5_addStep_46 : decode cX5_addStep 46 = .ok (.iconst 1, 1) := by decide +kernel
theorem dX5_addStep_47 : decode cX5_addStep 47 = .ok (.iadd, 1) := by decide +kernel
theorem dX5_addStep_48 : decode cX5_addStep 48 = .ok (.putfield 30, 3) := by decide +kernel
theorem dX5_addStep_51 : decode cX5_addStep 51 = .ok (.iconst 1, 1) := by decide +kernel
theorem dX5_addStep_52 : decode cX5_addStep 52 = .ok (.ireturn, 1) := by decide +kernel
theorem dX8_read_0 : decode cX8_read 0 = .ok (.aload_n 0, 1) := by decide +kernel
theorem dX8_read_1 : decode cX8_read 1 = .ok (.invokevirtual 69, 3) := by decide +kernel
theorem dX8_read_4 : decode cX8_read 4 = .ok (.aload_n 1, 1) := by decide +kernel
theorem dX8_read_5 : decode cX8_read 5 = .ok (.sipush 900, 3) := by decide +kernel
theorem dX8_read_8 : decode cX8_read 8 = .ok (.invokevirtual 72, 3) := by decide +kernel
theorem dX8_read_11 : decode cX8_read 11 = .ok (.iconst 0, 1) := by decide +kernel
theorem dX8_read_12 : decode cX8_read 12 = .ok (.istore_n 2, 1) := by decide +kernel
theorem dX8_read_13 : decode cX8_read 13 = .ok (.iload_n 2, 1) := by decide +kernel
theorem dX8_read_14 : decode cX8_read 14 = .ok (.sipush 900, 3) := by decide +kernel
theorem dX8_read_17 : decode cX8_read 17 = .ok (.if_icmp .gt 56, 3) := by decide +kernel
theorem dX8_read_20 : decode cX8_read 20 = .ok (.aload_n 1, 1) := by decide +kernel
theorem dX8_read_21 : decode cX8_read 21 = .ok (.invokevirtual 77, 3) := by decide +kernel
theorem dX8_read_24 : decode cX8_read 24 = .ok (.ifCond .eq 24, 3) := by decide +kernel
theorem dX8_read_27 : decode cX8_read 27 = .ok (.aload_n 0, 1) := by decide +kernel
theorem dX8_read_28 : decode cX8_read 28 = .ok (.aload_n 0, 1) := by decide +kernel
theorem dX8_read_29 : decode cX8_read 29 = .ok (.getfield 45, 3) := by decide +kernel
theorem dX8_read_32 : decode cX8_read 32 = .ok (.ifCond .ne 7, 3) := by decide +kernel
theorem dX8_read_35 : decode cX8_read 35 = .ok (.iconst 2, 1) := by decide +kernel
theorem dX8_read_36 : decode cX8_read 36 = .ok (.goto 7, 3) := by decide +kernel
theorem dX8_read_39 : decode cX8_read 39 = .ok (.aload_n 0, 1) := by decide +kernel
theorem dX8_read_40 : decode cX8_read 40 = .ok (.getfield 45, 3) := by decide +kernel
theorem dX8_read_43 : decode cX8_read 43 = .ok (.putfield 45, 3) := by decide +kernel
theorem dX8_read_46 : decode cX8_read 46 = .ok (.iload_n 2, 1) := by decide +kernel
theorem dX8_read_47 : decode cX8_read 47 = .ok (.ireturn, 1) := by decide +kernel
theorem dX8_read_48 : decode cX8_read 48 = .ok (.aload_n 0, 1) := by decide +kernel
theorem dX8_read_49 : decode cX8_read 49 = .ok (.aload_n 1, 1) := by decide +kernel
theorem dX8_read_50 : decode cX8_read 50 = .ok (.invokevirtual 81, 3) := by decide +kernel
theorem dX8_read_53 : decode cX8_read 53 = .ok (.ifCond .eq 12, 3) := by decide +kernel
theorem dX8_read_56 : decode cX8_read 56 = .ok (.aload_n 1, 1) := by decide +kernel
theorem dX8_read_57 : decode cX8_read 57 = .ok (.bipush 59, 2) := by decide +kernel
theorem dX8_read_59 : decode cX8_read 59 = .ok (.invokevirtual 85, 3) := by decide +kernel
theorem dX8_read_62 : decode cX8_read 62 = .ok (.ifCond .ne 5, 3) := by decide +kernel
theorem dX8_read_65 : decode cX8_read 65 = .ok (.iconst (-1), 1) := by decide +kernel
theorem dX8_read_66 : decode cX8_read 66 = .ok (.ireturn, 1) := by decide +kernel
theorem dX8_read_67 : decode cX8_read 67 = .ok (.iinc 2 1, 3) := by decide +kernel
theorem dX8_read_70 : decode cX8_read 70 = .ok (.goto (-57), 3) := by decide +kernel
theorem dX8_read_73 : decode cX8_read 73 = .ok (.iconst (-1), 1) := by decide +kernel
theorem dX8_read_74 : decode cX8_read 74 = .ok (.ireturn, 1) := by decide +kernel
theorem dX9_countsSomething_0 : decode cX9_countsSomething 0 = .ok (.aload_n 0, 1) := by decide +kernel
theorem dX9_countsSomething_1 : decode cX9_countsSomething 1 = .ok (.getstatic 61, 3) := by decide +kernel
theorem dX9_countsSomething_4 : decode cX9_countsSomething 4 = .ok (.if_acmp .eq 17, 3) := by decide +kernel
theorem dX9_countsSomething_7 : decode cX9_countsSomething 7 = .ok (.aload_n 0, 1) := by decide +kernel
theorem dX9_countsSomething_8 : decode cX9_countsSomething 8 = .ok (.getstatic 64, 3) := by decide +kernel
theorem dX9_countsSomething_11 : decode cX9_countsSomething 11 = .ok (.if_acmp .eq 10, 3) := by decide +kernel
theorem dX9_countsSomething_14 : decode cX9_countsSomething 14 = .ok (.aload_n 0, 1) := by decide +kernel
theorem dX9_countsSomething_15 : decode cX9_countsSomething 15 = .ok (.getstatic 67, 3) := by decide +kernel
theorem dX9_countsSomething_18 : decode cX9_countsSomething 18 = .ok (.if_acmp .ne 7, 3) := by decide +kernel
theorem dX9_countsSomething_21 : decode cX9_countsSomething 21 = .ok (.iconst 1, 1) := by decide +kernel
theorem dX9_countsSomething_22 : decode cX9_countsSomething 22 = .ok (.goto 4, 3) := by decide +kernel
theorem dX9_countsSomething_25 : decode cX9_countsSomething 25 = .ok (.iconst 0, 1) := by decide +kernel
theorem dX9_countsSomething_26 : decode cX9_countsSomething 26 = .ok (.ireturn, 1) := by decide +kernel
theorem dX9_beginsOne_0 : decode cX9_beginsOne 0 = .ok (.aload_n 0, 1) := by decide +kernel
theorem dX9_beginsOne_1 : decode cX9_beginsOne 1 = .ok (.getstatic 46, 3) := by decide +kernel
theorem dX9_beginsOne_4 : decode cX9_beginsOne 4 = .ok (.if_acmp .eq 45, 3) := by decide +kernel
theorem dX9_beginsOne_7 : decode cX9_beginsOne 7 = .ok (.aload_n 0, 1) := by decide +kernel
theorem dX9_beginsOne_8 : decode cX9_beginsOne 8 = .ok (.getstatic 13, 3) := by decide +kernel
theorem dX9_beginsOne_11 : decode cX9_beginsOne 11 = .ok (.if_acmp .eq 38, 3) := by decide +kernel
theorem dX9_beginsOne_14 : decode cX9_beginsOne 14 = .ok (.aload_n 0, 1) := by decide +kernel
theorem dX9_beginsOne_15 : decode cX9_beginsOne 15 = .ok (.getstatic 49, 3) := by decide +kernel
theorem dX9_beginsOne_18 : decode cX9_beginsOne 18 = .ok (.if_acmp .eq 31, 3) := by decide +kernel
theorem dX9_beginsOne_21 : decode cX9_beginsOne 21 = .ok (.aload_n 0, 1) := by decide +kernel
theorem dX9_beginsOne_22 : decode cX9_beginsOne 22 = .ok (.getstatic 52, 3) := by decide +kernel
theorem dX9_beginsOne_25 : decode cX9_beginsOne 25 = .ok (.if_acmp .eq 24, 3) := by decide +kernel
theorem dX9_beginsOne_28 : decode cX9_beginsOne 28 = .ok (.aload_n 0, 1) := by decide +kernel
theorem dX9_beginsOne_29 : decode cX9_beginsOne 29 = .ok (.getstatic 55, 3) := by decide +kernel
theorem dX9_beginsOne_32 : decode cX9_beginsOne 32 = .ok (.if_acmp .eq 17, 3) := by decide +kernel
theorem dX9_beginsOne_35 : decode cX9_beginsOne 35 = .ok (.aload_n 0, 1) := by decide +kernel
theorem dX9_beginsOne_36 : decode cX9_beginsOne 36 = .ok (.getstatic 58, 3) := by decide +kernel
theorem dX9_beginsOne_39 : decode cX9_beginsOne 39 = .ok (.if_acmp .eq 10, 3) := by decide +kernel
theorem dX9_beginsOne_42 : decode cX9_beginsOne 42 = .ok (.aload_n 0, 1) := by decide +kernel
theorem dX9_beginsOne_43 : decode cX9_beginsOne 43 = .ok (.invokevirtual 114, 3) := by decide +kernel
theorem dX9_beginsOne_46 : decode cX9_beginsOne 46 = .ok (.ifCond .eq 7, 3) := by decide +kernel
theorem dX9_beginsOne_49 : decode cX9_beginsOne 49 = .ok (.iconst 1, 1) := by decide +kernel
theorem dX9_beginsOne_50 : decode cX9_beginsOne 50 = .ok (.goto 4, 3) := by decide +kernel
theorem dX9_beginsOne_53 : decode cX9_beginsOne 53 = .ok (.iconst 0, 1) := by decide +kernel
theorem dX9_beginsOne_54 : decode cX9_beginsOne 54 = .ok (.ireturn, 1) := by decide +kernel
set_option maxRecDepth 20000 in
theorem ggX5_settleNots_X5_addStep : GoodIn wsX5_settleNots wsX5_addStep := goodIn_r _ [9, 10, 11, 12, 13, 14, 15, 16, 17, 18, 19, 20, 21, 22, 23] rfl (by decide +kernel)
set_option maxRecDepth 20000 in
theorem gX5_settleNots_X5_addStep : GoodIn wsX5_settleNots (wsV RX5 124 RX5 yX5_addStep wsX5_addStep) := goodIn_app (a := [.methodLink RX5 124 yX5_addStep, .instanceMethod yX5_addStep, .selects RX5 yX5_addStep yX5_addStep, .initialized RX5]) (g_c9 (List.mem_cons_of_mem _ (List.mem_append_left _ (List.mem_of_getElem? (i := 4) rfl))) rfl (g_c9 (List.mem_cons_of_mem _ (List.mem_append_left _ (List.mem_of_getElem? (i := 5) rfl))) rfl (g_c9 (List.mem_cons_of_mem _ (List.mem_append_left _ (List.mem_of_getElem? (i := 6) rfl))) rfl (g_c9 (List.mem_cons_of_mem _ (List.mem_append_left _ (List.mem_of_getElem? (i := 7) rfl))) rfl g_n9)))) ggX5_settleNots_X5_addStep
set_option maxRecDepth 20000 in
theorem ggX5_settleDownTo_X5_addStep : GoodIn wsX5_settleDownTo wsX5_addStep := goodIn_r _ [9, 10, 11, 12, 13, 14, 15, 16, 17, 18, 19, 20, 21, 22, 23] rfl (by decide +kernel)
set_option maxRecDepth 20000 in
theorem gX5_settleDownTo_X5_addStep : GoodIn wsX5_settleDownTo (wsV RX5 124 RX5 yX5_addStep wsX5_addStep) := goodIn_app (a := [.methodLink RX5 124 yX5_addStep, .instanceMethod yX5_addStep, .selects RX5 yX5_addStep yX5_addStep, .initialized RX5]) (g_c9 (List.mem_cons_of_mem _ (List.mem_append_left _ (List.mem_of_getElem? (i := 4) rfl))) rfl (g_c9 (List.mem_cons_of_mem _ (List.mem_append_left _ (List.mem_of_getElem? (i := 5) rfl))) rfl (g_c9 (List.mem_cons_of_mem _ (List.mem_append_left _ (List.mem_of_getElem? (i := 6) rfl))) rfl (g_c9 (List.mem_cons_of_mem _ (List.mem_append_left _ (List.mem_of_getElem? (i := 7) rfl))) rfl g_n9)))) ggX5_settleDownTo_X5_addStep
set_option maxRecDepth 20000 in
theorem ggX8_read_X8_clear : GoodIn wsX8_read wsX8_clear := goodIn_r _ [6, 7, 8, 9, 10, 11, 12, 1, 178, 179, 180, 181, 182, 183, 184, 185, 186, 187, 188, 189, 190, 191] rfl (by decide +kernel)
set_option maxRecDepth 20000 in
theorem gX8_read_X8_clear : GoodIn wsX8_read (wsV RX8 69 RX8 yX8_clear wsX8_clear) := goodIn_app (a := [.methodLink RX8 69 yX8_clear, .instanceMethod yX8_clear, .selects RX8 yX8_clear yX8_clear, .initialized RX8]) (have hq0 : ∀ w, w ∈ wsX8_read_r1 → w ∈ wsX8_read := fun _ h9 => (List.mem_cons_of_mem _ (List.mem_append_left _ (List.mem_append_left _ (List.mem_append_left _ (List.mem_append_left _ (List.mem_append_left _ h9)))))); (g_c9 (hq0 _ (List.mem_of_getElem? (i := 1) rfl)) rfl (g_c9 (hq0 _ (List.mem_of_getElem? (i := 2) rfl)) rfl (g_c9 (hq0 _ (List.mem_of_getElem? (i := 3) rfl)) rfl (g_c9 (hq0 _ (List.mem_of_getElem? (i := 4) rfl)) rfl g_n9))))) ggX8_read_X8_clear
set_option maxRecDepth 20000 in
theorem ggX8_read_X7_start : GoodIn wsX8_read wsX7_start := goodIn_r _ [17, 18, 19, 20, 21, 22, 23, 24, 16, 25, 26, 27, 28, 29, 30, 31, 32, 33, 34, 35, 36, 37, 38, 39, 40, 41, 42, 43, 44, 45, 46, 47, 48, 49, 50, 51, 52, 53, 54, 55, 56, 57, 58, 59, 60, 61, 62, 63, 64, 65, 66, 67, 68, 69, 70, 71, 72, 73, 74, 75, 76, 77, 78, 192, 193, 194, 195, 196, 197, 198, 199, 200, 201, 202, 203] rfl (by decide +kernel)
set_option maxRecDepth 20000 in
theorem gX8_read_X7_start : GoodIn wsX8_read (wsV RX8 72 RX7 yX7_start wsX7_start) := goodIn_app (a := [.methodLink RX8 72 yX7_start, .instanceMethod yX7_start, .selects RX7 yX7_start yX7_start, .initialized RX7]) (have hq0 : ∀ w, w ∈ wsX8_read_r1 → w ∈ wsX8_read := fun _ h9 => (List.mem_cons_of_mem _ (List.mem_append_left _ (List.mem_append_left _ (List.mem_append_left _ (List.mem_append_left _ (List.mem_append_left _ h9)))))); (g_c9 (hq0 _ (List.mem_of_getElem? (i := 12) rfl)) rfl (g_c9 (hq0 _ (List.mem_of_getElem? (i := 13) rfl)) rfl (g_c9 (hq0 _ (List.mem_of_getElem? (i := 14) rfl)) rfl (g_c9 (hq0 _ (List.mem_of_getElem? (i := 15) rfl)) rfl g_n9))))) ggX8_read_X7_start
set_option maxRecDepth 20000 in
theorem ggX8_read_X7_isEnd : GoodIn wsX8_read wsX7_isEnd := goodIn_r _ [82, 46, 192, 193, 194, 195, 196, 197, 198, 199, 200, 201] rfl (by decide +kernel)
set_option maxRecDepth 20000 in
theorem gX8_read_X7_isEnd : GoodIn wsX8_read (wsV RX8 77 RX7 yX7_isEnd wsX7_isEnd) := goodIn_app (a := [.methodLink RX8 77 yX7_isEnd, .instanceMethod yX7_isEnd, .selects RX7 yX7_isEnd yX7_isEnd, .initialized RX7]) (have hq0 : ∀ w, w ∈ wsX8_read_r1 → w ∈ wsX8_read := fun _ h9 => (List.mem_cons_of_mem _ (List.mem_append_left _ (List.mem_append_left _ (List.mem_append_left _ (List.mem_append_left _ (List.mem_append_left _ h9)))))); have hq1 : ∀ w, w ∈ wsX8_read_r4 → w ∈ wsX8_read := fun _ h9 => (List.mem_cons_of_mem _ (List.mem_append_left _ (List.mem_append_left _ (List.mem_append_left _ (List.mem_append_left _ (List.mem_append_right _ (List.mem_append_right _ (List.mem_append_right _ (List.mem_append_left _ h9))))))))); (g_c9 (hq1 _ (List.mem_of_getElem? (i := 6) rfl)) rfl (g_c9 (hq1 _ (List.mem_of_getElem? (i := 7) rfl)) rfl (g_c9 (hq1 _ (List.mem_of_getElem? (i := 8) rfl)) rfl (g_c9 (hq0 _ (List.mem_of_getElem? (i := 15) rfl)) rfl g_n9))))) ggX8_read_X7_isEnd
set_option maxRecDepth 20000 in
theorem ggX8_read_X8_readLine : GoodIn wsX8_read wsX8_readLine := goodIn_r _ [86, 87, 88, 89, 90, 91, 92, 93, 94, 16, 95, 29, 96, 97, 98, 5, 99, 7, 100, 101, 102, 103, 104, 105, 106, 107, 108, 109, 110, 20, 51, 21, 111, 23, 24, 25, 19, 26, 27, 28, 30, 31, 18, 32, 33, 34, 35, 36, 37, 38, 39, 40, 41, 42, 43, 44, 45, 46, 47, 48, 49, 50, 52, 53, 54, 55, 56, 57, 58, 59, 60, 61, 62, 63, 64, 65, 66, 67, 68, 69, 70, 71, 72, 73, 74, 75, 76, 77, 78, 112, 113, 114, 115, 116, 117, 118, 119, 120, 121, 122, 123, 124, 9, 10, 125, 126, 127, 128, 22, 129, 130, 131, 132, 133, 134, 135, 136, 137, 8, 138, 139, 11, 140, 141, 142, 143, 144, 145, 146, 147, 148, 149, 150, 151, 152, 12, 153, 154, 155, 156, 157, 158, 159, 160, 161, 162, 163, 164, 165, 166, 167, 168, 169, 1, 192, 193, 194, 195, 196, 197, 198, 199, 200, 201, 178, 179, 180, 181, 182, 183, 184, 185, 186, 187, 188, 189, 190, 191, 202, 203] rfl (by decide +kernel)
set_option maxRecDepth 20000 in
theorem gX8_read_X8_readLine : GoodIn wsX8_read (wsV RX8 81 RX8 yX8_readLine wsX8_readLine) := goodIn_app (a := [.methodLink RX8 81 yX8_readLine, .instanceMethod yX8_readLine, .selects RX8 yX8_readLine yX8_readLine, .initialized RX8]) (have hq0 : ∀ w, w ∈ wsX8_read_r1 → w ∈ wsX8_read := fun _ h9 => (List.mem_cons_of_mem _ (List.mem_append_left _ (List.mem_append_left _ (List.mem_append_left _ (List.mem_append_left _ (List.mem_append_left _ h9)))))); have hq1 : ∀ w, w ∈ wsX8_read_r4 → w ∈ wsX8_read := fun _ h9 => (List.mem_cons_of_mem _ (List.mem_append_left _ (List.mem_append_left _ (List.mem_append_left _ (List.mem_append_left _ (List.mem_append_right _ (List.mem_append_right _ (List.mem_append_right _ (List.mem_append_left _ h9))))))))); (g_c9 (hq1 _ (List.mem_of_getElem? (i := 10) rfl)) rfl (g_c9 (hq1 _ (List.mem_of_getElem? (i := 11) rfl)) rfl (g_c9 (hq1 _ (List.mem_of_getElem? (i := 12) rfl)) rfl (g_c9 (hq0 _ (List.mem_of_getElem? (i := 4) rfl)) rfl g_n9))))) ggX8_read_X8_readLine
set_option maxRecDepth 20000 in
theorem ggX8_read_X7_passSign : GoodIn wsX8_read wsX7_passSign := goodIn_r _ [173, 174, 175, 176, 16, 177, 46, 30, 120, 108, 109, 110, 20, 51, 21, 22, 23, 24, 25, 19, 26, 27, 28, 29, 31, 18, 32, 33, 34, 35, 36, 37, 38, 39, 40, 41, 42, 43, 44, 45, 47, 48, 49, 50, 52, 53, 54, 55, 56, 57, 58, 59, 60, 61, 62, 63, 64, 65, 66, 67, 68, 69, 70, 71, 72, 73, 74, 75, 76, 77, 78, 192, 193, 194, 195, 196, 197, 198, 199, 200, 201, 202, 203] rfl (by decide +kernel)
set_option maxRecDepth 20000 in
theorem gX8_read_X7_passSign : GoodIn wsX8_read (wsV RX8 85 RX7 yX7_passSign wsX7_passSign) := goodIn_app (a := [.methodLink RX8 85 yX7_passSign, .instanceMethod yX7_passSign, .selects RX7 yX7_passSign yX7_passSign, .initialized RX7]) (have hq0 : ∀ w, w ∈ wsX8_read_r1 → w ∈ wsX8_read := fun _ h9 => (List.mem_cons_of_mem _ (List.mem_append_left _ (List.mem_append_left _ (List.mem_append_left _ (List.mem_append_left _ (List.mem_append_left _ h9)))))); have hq1 : ∀ w, w ∈ wsX8_read_r8 → w ∈ wsX8_read := fun _ h9 => (List.mem_cons_of_mem _ (List.mem_append_left _ (List.mem_append_left _ (List.mem_append_left _ (List.mem_append_left _ (List.mem_append_right _ (List.mem_append_right _ (List.mem_append_right _ (List.mem_append_right _ (List.mem_append_right _ (List.mem_append_right _ (List.mem_append_right _ h9)))))))))))); (g_c9 (hq1 _ (List.mem_of_getElem? (i := 1) rfl)) rfl (g_c9 (hq1 _ (List.mem_of_getElem? (i := 2) rfl)) rfl (g_c9 (hq1 _ (List.mem_of_getElem? (i := 3) rfl)) rfl (g_c9 (hq0 _ (List.mem_of_getElem? (i := 15) rfl)) rfl g_n9))))) ggX8_read_X7_passSign
set_option maxRecDepth 20000 in
theorem ggX9_beginsOne_X9_countsSomething : GoodIn wsX9_beginsOne wsX9_countsSomething := goodIn_r _ [11, 12, 13, 14] rfl (by decide +kernel)
set_option maxRecDepth 20000 in
theorem gX9_beginsOne_X9_countsSomething : GoodIn wsX9_beginsOne (wsV RX9 114 RX9 yX9_countsSomething wsX9_countsSomething) := goodIn_app (a := [.methodLink RX9 114 yX9_countsSomething, .instanceMethod yX9_countsSomething, .selects RX9 yX9_countsSomething yX9_countsSomething, .initialized RX9]) (g_c9 (List.mem_cons_of_mem _ (List.mem_of_getElem? (i := 6) rfl)) rfl (g_c9 (List.mem_cons_of_mem _ (List.mem_of_getElem? (i := 7) rfl)) rfl (g_c9 (List.mem_cons_of_mem _ (List.mem_of_getElem? (i := 8) rfl)) rfl (g_c9 (List.mem_cons_of_mem _ (List.mem_of_getElem? (i := 9) rfl)) rfl g_n9)))) ggX9_beginsOne_X9_countsSomething
set_option maxHeartbeats 8000000 in
set_option maxRecDepth 100000 in
theorem w_Town_read (l : Launch) (D : va_G) (ad : Nat → Nat) (tk : Nat) (tkm : Int32) (tkb : Int32) (tkk : Int32) (tka : Int32) (tkv : Int32) (tkc : Int64) (tkf : Int32) (tkg : Int32) (tkw : Nat) (ta : Nat) (tan : Int32) (tab : Nat) (tabt : ClassId) (tabf : Nat → Int32) (tw : Nat) (twe : Int32) (twm : Int32) (twr : Int32) (twl : Nat) (twln : Int32) (twlc : Nat) (twlct : ClassId) (twlcf : Nat → Int64) (twp : Nat) (twpn : Int32) (twpc : Nat) (twpct : ClassId) (twpcf : Nat → Int64) (twu : Nat) (twun : Int32) (twuc : Nat) (twuct : ClassId) (twucf : Nat → Int64) (twh : Nat) (twht : ClassId) (twhf : Nat → Int32) (tws : Nat) (twst : ClassId) (twsf : Nat → Int32) (twg : Nat) (twgt : ClassId) (twgf : Nat → Int32) (two : Nat) (twot : ClassId) (twof : Nat → Int32) (twd : Nat) (twdt : ClassId) (twdf : Nat → Int32) (twq : Nat) (twqt : ClassId) (twqf : Nat → Int32) (htkb : z_in 0 940 tkb) (htkk : z_in 0 4 tkk) (htkw : tkw < 22) (htan : z_in 0 940 tan) (htwm : z_in 0 14 twm) (htwr : z_in 0 5 twr) (htwln : z_in 0 5 twln) (htwpn : z_in 0 7 twpn) (htwun : z_in 0 6 twun) (htwhf : z_al 0 4 twhf) (htwsf : z_al 0 4 twsf) (htwgf : z_al 0 12 twgf) (htwof : z_al 0 6 twof) (htwdf : z_al 0 199 twdf) (htwqf : z_al 0 20 twqf) (httk : z_tk tkk tkw) : z_Mi l yX8_read wsX8_read { frames := 6, cells := 0, slots := 0, locals := 136 } D ad [.ref tw, .ref tk] [(tk, .inr (7, [.ref ta, .int tkm, .int tkb, .int tkk, .int tka, .int tkv, .long tkc, .ref (ad tkw), .int tkf, .int tkg])), (ta, .inr (6, [.ref tab, .int tan])), (tab, .inl (tabt, 940, .inl tabf)), (tw, .inr (8, [.ref twl, .ref twp, .ref twu, .int twe, .ref twh, .ref tws, .ref twg, .int twm, .ref two, .ref twd, .ref twq, .int twr])), (twl, .inr (2, [.ref twlc, .int twln])), (twlc, .inl (twlct, 5, .inr (.inl twlcf))), (twp, .inr (2, [.ref twpc, .int twpn])), (twpc, .inl (twpct, 7, .inr (.inl twpcf))), (twu, .inr (2, [.ref twuc, .int twun])), (twuc, .inl (twuct, 6, .inr (.inl twucf))), (twh, .inl (twht, 7, .inl twhf)), (tws, .inl (twst, 6, .inl twsf)), (twg, .inl (twgt, 6, .inl twgf)), (two, .inl (twot, 14, .inl twof)), (twd, .inl (twdt, 14, .inl twdf)), (twq, .inl (twqt, 14, .inl twqf))] [(tabt, .byte), (twlct, .long), (twpct, .long), (twuct, .long), (twht, .int), (twst, .int), (twgt, .int), (twot, .int), (twdt, .int), (twqt, .int)] 0 0 (fun r9 u9 => ∃ (x0_1 : Int32) (x0_2 : Int32) (x0_3 : Int32) (x0_4 : Int32) (x0_5 : Int32) (x0_6 : Int64) (x0_7 : Nat) (x0_8 : Int32) (x0_9 : Int32) (x3_3 : Int32) (x3_7 : Int32) (x3_11 : Int32) (x4_1 : Int32) (x5_f : Nat → Int64) (x6_1 : Int32) (x7_f : Nat → Int64) (x8_1 : Int32) (x9_f : Nat → Int64) (x10_f : Nat → Int32) (x11_f : Nat → Int32) (x12_f : Nat → Int32) (x13_f : Nat → Int32) (x14_f : Nat → Int32) (x15_f : Nat → Int32), z_in 0 940 x0_2 ∧ z_in 0 4 x0_3 ∧ x0_7 < 22 ∧ z_in 0 14 x3_7 ∧ z_in 0 5 x3_11 ∧ z_in 0 5 x4_1 ∧ z_in 0 7 x6_1 ∧ z_in 0 6 x8_1 ∧ z_al 0 4 x10_f ∧ z_al 0 4 x11_f ∧ z_al 0 12 x12_f ∧ z_al 0 6 x13_f ∧ z_al 0 199 x14_f ∧ z_al 0 20 x15_f ∧ z_in (-1) 900 r9 ∧ z_tk x0_3 x0_7 ∧ u9 = ([(tk, .inr (7, [.ref ta, .int x0_1, .int x0_2, .int x0_3, .int x0_4, .int x0_5, .long x0_6, .ref (ad x0_7), .int x0_8, .int x0_9])), (ta, .inr (6, [.ref tab, .int tan])), (tab, .inl (tabt, 940, .inl tabf)), (tw, .inr (8, [.ref twl, .ref twp, .ref twu, .int x3_3, .ref twh, .ref tws, .ref twg, .int x3_7, .ref two, .ref twd, .ref twq, .int x3_11])), (twl, .inr (2, [.ref twlc, .int x4_1])), (twlc, .inl (twlct, 5, .inr (.inl x5_f))), (twp, .inr (2, [.ref twpc, .int x6_1])), (twpc, .inl (twpct, 7, .inr (.inl x7_f))), (twu, .inr (2, [.ref twuc, .int x8_1])), (twuc, .inl (twuct, 6, .inr (.inl x9_f))), (twh, .inl (twht, 7, .inl x10_f)), (tws, .inl (twst, 6, .inl x11_f)), (twg, .inl (twgt, 6, .inl x12_f)), (two, .inl (twot, 14, .inl x13_f)), (twd, .inl (twdt, 14, .inl x14_f)), (twq, .inl (twqt, 14, .inl x15_f))], [])) := by
  refine z_ofI (cc := cX8_read) (maxL := 3) (rt := .int) (by decide) rfl (Nat.le_of_ble_eq_true rfl) ?_
  intro p e s m below meth c Q A ls hx hb hml hown hts hin hK hP hD hA hE hO hS hl hret
  have hown : s.vm.findClass RX8 = some m.cls := hown
  have hiX8 : ∀ w ∈ wsX80, w ∈ wsX8_read := fun _ h9 => List.mem_cons_of_mem _ (List.mem_append_left _ (List.mem_append_left _ (List.mem_append_left _ (List.mem_append_right _ h9))))
  have hiX2 : ∀ w ∈ wsX20, w ∈ wsX8_read := fun _ h9 => List.mem_cons_of_mem _ (List.mem_append_left _ (List.mem_append_left _ (List.mem_append_right _ h9)))
  have hiX7 : ∀ w ∈ wsX70, w ∈ wsX8_read := fun _ h9 => List.mem_cons_of_mem _ (List.mem_append_left _ (List.mem_append_right _ h9))
  have hiX6 : ∀ w ∈ wsX60, w ∈ wsX8_read := fun _ h9 => List.mem_cons_of_mem _ (List.mem_append_right _ h9)
  have hl : lv_has ls 3 [(0, .ref tw), (1, .ref tk)] := hl
  refine lv_aload_n hx hb dX8_read_0 rfl (lv_at hl 0 rfl) ?_
  have hc9 := (w_Town_clear l D ad tw twe twm twr twl twln twlc twlct twlcf twp twpn twpc twpct twpcf twu twun twuc twuct twucf twh twht twhf tws twst twsf twg twgt twgf two twot twof twd twdt twdf twq twqt twqf htwm htwr htwln htwpn htwun htwhf htwsf htwgf htwof htwdf htwqf)
  refine z_callv (w0 := [(tw, .inr (8, [.ref twl, .ref twp, .ref twu, .int twe, .ref twh, .ref tws, .ref twg, .int twm, .ref two, .ref twd, .ref twq, .int twr])), (twl, .inr (2, [.ref twlc, .int twln])), (twlc, .inl (twlct, 5, .inr (.inl twlcf))), (twp, .inr (2, [.ref twpc, .int twpn])), (twpc, .inl (twpct, 7, .inr (.inl twpcf))), (twu, .inr (2, [.ref twuc, .int twun])), (twuc, .inl (twuct, 6, .inr (.inl twucf))), (twh, .inl (twht, 7, .inl twhf)), (tws, .inl (twst, 6, .inl twsf)), (twg, .inl (twgt, 6, .inl twgf)), (two, .inl (twot, 14, .inl twof)), (twd, .inl (twdt, 14, .inl twdf)), (twq, .inl (twqt, 14, .inl twqf))]) (wr := [(tk, .inr (7, [.ref ta, .int tkm, .int tkb, .int tkk, .int tka, .int tkv, .long tkc, .ref (ad tkw), .int tkf, .int tkg])), (ta, .inr (6, [.ref tab, .int tan])), (tab, .inl (tabt, 940, .inl tabf))]) (va_runV (As := []) (rest := []) ⟨hx, hb, hml, hown, hts⟩ (hc9 _) (cwV 0 hts gX8_read_X8_clear rfl rfl rfl (by decide +kernel) ⟨Nat.le_of_ble_eq_true rfl, Nat.le_of_ble_eq_true rfl⟩) (z_preV hP hD hK hS hA hE hO [3, 4, 5, 6, 7, 8, 9, 10, 11, 12, 13, 14, 15] [1, 2, 3, 4, 5, 6, 7, 8, 9] rfl (by decide +kernel) rfl 3 8 rfl rfl rfl) rfl rfl hl.1 rfl (lv_room (Nat.le_of_ble_eq_true rfl)) dX8_read_1 ⟨Nat.le_of_ble_eq_true rfl, Nat.le_of_ble_eq_true rfl⟩) hP hD hK hS hA [3, 4, 5, 6, 7, 8, 9, 10, 11, 12, 13, 14, 15] [0, 1, 2] rfl rfl (by decide +kernel) (by decide +kernel) (fun u9 H locs hw hP hD hK hS => ?_)
  refine z_ex6 hw (fun x_1 x_2 x_4 x_6 x_8 x_10 hw => ?_)
  refine z_an5 hw (fun h_3 h_5 h_7 h_9 h_11 hw => ?_)
  subst hw
  have hP : va_P D vwCl [(tk, .inr (7, [.ref ta, .int tkm, .int tkb, .int tkk, .int tka, .int tkv, .long tkc, .ref (ad tkw), .int tkf, .int tkg])), (ta, .inr (6, [.ref tab, .int tan])), (tab, .inl (tabt, 940, .inl tabf)), (tw, .inr (8, [.ref twl, .ref twp, .ref twu, .int x_1, .ref twh, .ref tws, .ref twg, .int x_2, .ref two, .ref twd, .ref twq, .int x_4])), (twl, .inr (2, [.ref twlc, .int x_6])), (twlc, .inl (twlct, 5, .inr (.inl twlcf))), (twp, .inr (2, [.ref twpc, .int x_8])), (twpc, .inl (twpct, 7, .inr (.inl twpcf))), (twu, .inr (2, [.ref twuc, .int x_10])), (twuc, .inl (twuct, 6, .inr (.inl twucf))), (twh, .inl (twht, 7, .inl twhf)), (tws, .inl (twst, 6, .inl twsf)), (twg, .inl (twgt, 6, .inl twgf)), (two, .inl (twot, 14, .inl twof)), (twd, .inl (twdt, 14, .inl twdf)), (twq, .inl (twqt, 14, .inl twqf))] H := hP
  have hD : va_D A [(tk, .inr (7, [.ref ta, .int tkm, .int tkb, .int tkk, .int tka, .int tkv, .long tkc, .ref (ad tkw), .int tkf, .int tkg])), (ta, .inr (6, [.ref tab, .int tan])), (tab, .inl (tabt, 940, .inl tabf)), (tw, .inr (8, [.ref twl, .ref twp, .ref twu, .int x_1, .ref twh, .ref tws, .ref twg, .int x_2, .ref two, .ref twd, .ref twq, .int x_4])), (twl, .inr (2, [.ref twlc, .int x_6])), (twlc, .inl (twlct, 5, .inr (.inl twlcf))), (twp, .inr (2, [.ref twpc, .int x_8])), (twpc, .inl (twpct, 7, .inr (.inl twpcf))), (twu, .inr (2, [.ref twuc, .int x_10])), (twuc, .inl (twuct, 6, .inr (.inl twucf))), (twh, .inl (twht, 7, .inl twhf)), (tws, .inl (twst, 6, .inl twsf)), (twg, .inl (twgt, 6, .inl twgf)), (two, .inl (twot, 14, .inl twof)), (twd, .inl (twdt, 14, .inl twdf)), (twq, .inl (twqt, 14, .inl twqf))] := hD
  have hK : va_K D vwCl [(tabt, .byte), (twlct, .long), (twpct, .long), (twuct, .long), (twht, .int), (twst, .int), (twgt, .int), (twot, .int), (twdt, .int), (twqt, .int)] s := hK
  refine W.cs (cells' := 0) (slots' := 0) rfl rfl ?_
  refine lv_aload_n hx hb dX8_read_4 rfl (lv_at hl 1 rfl) ?_
  refine lv_sipush (v := 900) hx hb dX8_read_5 (by decide) ?_
  have hc9 := (w_Tokens_start l D ad tk tkm tkb tkk tka tkv tkc tkf tkg tkw ta tan tab tabt tabf 900 htkb htkk htkw htan httk)
  refine z_callv (w0 := [(tk, .inr (7, [.ref ta, .int tkm, .int tkb, .int tkk, .int tka, .int tkv, .long tkc, .ref (ad tkw), .int tkf, .int tkg])), (ta, .inr (6, [.ref tab, .int tan])), (tab, .inl (tabt, 940, .inl tabf))]) (wr := [(tw, .inr (8, [.ref twl, .ref twp, .ref twu, .int x_1, .ref twh, .ref tws, .ref twg, .int x_2, .ref two, .ref twd, .ref twq, .int x_4])), (twl, .inr (2, [.ref twlc, .int x_6])), (twlc, .inl (twlct, 5, .inr (.inl twlcf))), (twp, .inr (2, [.ref twpc, .int x_8])), (twpc, .inl (twpct, 7, .inr (.inl twpcf))), (twu, .inr (2, [.ref twuc, .int x_10])), (twuc, .inl (twuct, 6, .inr (.inl twucf))), (twh, .inl (twht, 7, .inl twhf)), (tws, .inl (twst, 6, .inl twsf)), (twg, .inl (twgt, 6, .inl twgf)), (two, .inl (twot, 14, .inl twof)), (twd, .inl (twdt, 14, .inl twdf)), (twq, .inl (twqt, 14, .inl twqf))]) (va_runV (As := [.int 900]) (rest := []) ⟨hx, hb, hml, hown, hts⟩ (hc9 _) (cwV 1 hts gX8_read_X7_start rfl rfl rfl (by decide +kernel) ⟨Nat.le_of_ble_eq_true rfl, Nat.le_of_ble_eq_true rfl⟩) (z_preV hP hD hK hS hA hE hO [0, 1, 2] [0] rfl (by decide +kernel) rfl 0 7 rfl rfl rfl) rfl rfl hl.1 rfl (lv_room (Nat.le_of_ble_eq_true rfl)) dX8_read_8 ⟨Nat.le_of_ble_eq_true rfl, Nat.le_of_ble_eq_true rfl⟩) hP hD hK hS hA [0, 1, 2] [3, 4, 5, 6, 7, 8, 9, 10, 11, 12, 13, 14, 15] rfl rfl (by decide +kernel) (by decide +kernel) (fun u9 H locs hw hP hD hK hS => ?_)
  refine z_ex9 hw (fun x_12 x_13 x_15 x_17 x_18 f_19 f_20 x_22 x_23 hw => ?_)
  refine z_an4 hw (fun h_14 h_16 h_21 h_24 hw => ?_)
  subst hw
  have hP : va_P D vwCl [(tw, .inr (8, [.ref twl, .ref twp, .ref twu, .int x_1, .ref twh, .ref tws, .ref twg, .int x_2, .ref two, .ref twd, .ref twq, .int x_4])), (twl, .inr (2, [.ref twlc, .int x_6])), (twlc, .inl (twlct, 5, .inr (.inl twlcf))), (twp, .inr (2, [.ref twpc, .int x_8])), (twpc, .inl (twpct, 7, .inr (.inl twpcf))), (twu, .inr (2, [.ref twuc, .int x_10])), (twuc, .inl (twuct, 6, .inr (.inl twucf))), (twh, .inl (twht, 7, .inl twhf)), (tws, .inl (twst, 6, .inl twsf)), (twg, .inl (twgt, 6, .inl twgf)), (two, .inl (twot, 14, .inl twof)), (twd, .inl (twdt, 14, .inl twdf)), (twq, .inl (twqt, 14, .inl twqf)), (tk, .inr (7, [.ref ta, .int x_12, .int x_13, .int x_15, .int x_17, .int x_18, .long f_19, .ref (ad f_20), .int x_22, .int x_23])), (ta, .inr (6, [.ref tab, .int tan])), (tab, .inl (tabt, 940, .inl tabf))] H := hP
  have hD : va_D A [(tw, .inr (8, [.ref twl, .ref twp, .ref twu, .int x_1, .ref twh, .ref tws, .ref twg, .int x_2, .ref two, .ref twd, .ref twq, .int x_4])), (twl, .inr (2, [.ref twlc, .int x_6])), (twlc, .inl (twlct, 5, .inr (.inl twlcf))), (twp, .inr (2, [.ref twpc, .int x_8])), (twpc, .inl (twpct, 7, .inr (.inl twpcf))), (twu, .inr (2, [.ref twuc, .int x_10])), (twuc, .inl (twuct, 6, .inr (.inl twucf))), (twh, .inl (twht, 7, .inl twhf)), (tws, .inl (twst, 6, .inl twsf)), (twg, .inl (twgt, 6, .inl twgf)), (two, .inl (twot, 14, .inl twof)), (twd, .inl (twdt, 14, .inl twdf)), (twq, .inl (twqt, 14, .inl twqf)), (tk, .inr (7, [.ref ta, .int x_12, .int x_13, .int x_15, .int x_17, .int x_18, .long f_19, .ref (ad f_20), .int x_22, .int x_23])), (ta, .inr (6, [.ref tab, .int tan])), (tab, .inl (tabt, 940, .inl tabf))] := hD
  have hK : va_K D vwCl [(tabt, .byte), (twlct, .long), (twpct, .long), (twuct, .long), (twht, .int), (twst, .int), (twgt, .int), (twot, .int), (twdt, .int), (twqt, .int)] s := hK
  refine W.cs (cells' := 0) (slots' := 0) rfl rfl ?_
  refine lv_iconst (v := 0) hx hb dX8_read_11 (by decide) ?_
  refine lv_istore_n (lv' := [(2, .int 0), (0, .ref tw), (1, .ref tk)]) hx hb dX8_read_12 rfl hl (by decide) rfl (fun ls hl => ?_)
  have LP1 : ∀ (n : Nat) (v1_2 : Int32) (w1_1 : Int32) (w1_2 : Int32) (w1_3 : Int32) (w1_4 : Int32) (w1_5 : Int64) (w1_6 : Nat) (w1_7 : Int32) (w1_8 : Int32) (w1_9 : Int32) (w1_10 : Int32) (w1_11 : Int32) (w1_12 : Int32) (w1_13 : Int32) (w1_14 : Int32) (g1_15 : Nat → Int32) (g1_16 : Nat → Int32) (g1_17 : Nat → Int32) (g1_18 : Nat → Int64) (g1_19 : Nat → Int32) (g1_20 : Nat → Int64) (g1_21 : Nat → Int32) (g1_22 : Nat → Int32) (g1_23 : Nat → Int64) (H : Heap) (locs : List Loc) (ls : Array Slot), z_in 0 901 v1_2 → z_in 0 940 w1_1 → z_in 0 4 w1_2 → w1_6 < 22 → z_in 0 14 w1_10 → z_in 0 5 w1_11 → z_in 0 5 w1_12 → z_in 0 7 w1_13 → z_in 0 6 w1_14 → z_al 0 199 g1_15 → z_al 0 12 g1_16 → z_al 0 4 g1_17 → z_al 0 6 g1_19 → z_al 0 20 g1_21 → z_al 0 4 g1_22 → z_tk w1_2 w1_6 → 902 - v1_2.toInt ≤ (n : Int) → va_P D vwCl [(tw, .inr (8, [.ref twl, .ref twp, .ref twu, .int w1_9, .ref twh, .ref tws, .ref twg, .int w1_10, .ref two, .ref twd, .ref twq, .int w1_11])), (twl, .inr (2, [.ref twlc, .int w1_12])), (twlc, .inl (twlct, 5, .inr (.inl g1_18))), (twp, .inr (2, [.ref twpc, .int w1_13])), (twpc, .inl (twpct, 7, .inr (.inl g1_20))), (twu, .inr (2, [.ref twuc, .int w1_14])), (twuc, .inl (twuct, 6, .inr (.inl g1_23))), (twh, .inl (twht, 7, .inl g1_17)), (tws, .inl (twst, 6, .inl g1_22)), (twg, .inl (twgt, 6, .inl g1_16)), (two, .inl (twot, 14, .inl g1_19)), (twd, .inl (twdt, 14, .inl g1_15)), (twq, .inl (twqt, 14, .inl g1_21)), (tk, .inr (7, [.ref ta, .int x_12, .int w1_1, .int w1_2, .int w1_3, .int w1_4, .long w1_5, .ref (ad w1_6), .int w1_7, .int w1_8])), (ta, .inr (6, [.ref tab, .int tan])), (tab, .inl (tabt, 940, .inl tabf))] H → va_D A [(tw, .inr (8, [.ref twl, .ref twp, .ref twu, .int w1_9, .ref twh, .ref tws, .ref twg, .int w1_10, .ref two, .ref twd, .ref twq, .int w1_11])), (twl, .inr (2, [.ref twlc, .int w1_12])), (twlc, .inl (twlct, 5, .inr (.inl g1_18))), (twp, .inr (2, [.ref twpc, .int w1_13])), (twpc, .inl (twpct, 7, .inr (.inl g1_20))), (twu, .inr (2, [.ref twuc, .int w1_14])), (twuc, .inl (twuct, 6, .inr (.inl g1_23))), (twh, .inl (twht, 7, .inl g1_17)), (tws, .inl (twst, 6, .inl g1_22)), (twg, .inl (twgt, 6, .inl g1_16)), (two, .inl (twot, 14, .inl g1_19)), (twd, .inl (twdt, 14, .inl g1_15)), (twq, .inl (twqt, 14, .inl g1_21)), (tk, .inr (7, [.ref ta, .int x_12, .int w1_1, .int w1_2, .int w1_3, .int w1_4, .long w1_5, .ref (ad w1_6), .int w1_7, .int w1_8])), (ta, .inr (6, [.ref tab, .int tan])), (tab, .inl (tabt, 940, .inl tabf))] → va_S A s.heap H locs → lv_has ls 3 [(2, .int v1_2), (0, .ref tw), (1, .ref tk)] → W p l e ({ frames := 6, cells := 0, slots := 0, locals := 136 }) s m ([.ref tw, .ref tk] : List Value).toArray below meth c H locs 0 0 Q (F0 m 13 ls []) := by
    intro n
    induction n with
    | zero => intro v1_2 w1_1 w1_2 w1_3 w1_4 w1_5 w1_6 w1_7 w1_8 w1_9 w1_10 w1_11 w1_12 w1_13 w1_14 g1_15 g1_16 g1_17 g1_18 g1_19 g1_20 g1_21 g1_22 g1_23 H locs ls hv1_2 hw1_1 hw1_2 hw1_6 hw1_10 hw1_11 hw1_12 hw1_13 hw1_14 hg1_15 hg1_16 hg1_17 hg1_19 hg1_21 hg1_22 hI1_0 hn1; exact absurd hn1 (by have q1 := hv1_2.1; have q2 := hv1_2.2; omega)
    | succ n ih1 =>
      intro v1_2 w1_1 w1_2 w1_3 w1_4 w1_5 w1_6 w1_7 w1_8 w1_9 w1_10 w1_11 w1_12 w1_13 w1_14 g1_15 g1_16 g1_17 g1_18 g1_19 g1_20 g1_21 g1_22 g1_23 H locs ls hv1_2 hw1_1 hw1_2 hw1_6 hw1_10 hw1_11 hw1_12 hw1_13 hw1_14 hg1_15 hg1_16 hg1_17 hg1_19 hg1_21 hg1_22 hI1_0 hn1 hP hD hS hl
      have q1 := hv1_2.1
      have q1' := hv1_2.2
      refine lv_iload_n hx hb dX8_read_13 rfl (lv_at hl 0 rfl) ?_
      refine lv_sipush (v := 900) hx hb dX8_read_14 (by decide) ?_
      refine lv_icmp_gt (tgt := 73) hx hb dX8_read_17 (by decide) (fun c_25 => ?_) (fun c_25 => ?_)
      · skip
        have h_26 : z_in 901 901 v1_2 := z_ltR c_25 (z_lit (x := 900) (a := 900) (b := 900) rfl) hv1_2 rfl
        refine lv_iconst (v := (-1)) hx hb dX8_read_73 (by decide) ?_
        exact hret (-1) ([(tk, .inr (7, [.ref ta, .int x_12, .int w1_1, .int w1_2, .int w1_3, .int w1_4, .long w1_5, .ref (ad w1_6), .int w1_7, .int w1_8])), (ta, .inr (6, [.ref tab, .int tan])), (tab, .inl (tabt, 940, .inl tabf)), (tw, .inr (8, [.ref twl, .ref twp, .ref twu, .int w1_9, .ref twh, .ref tws, .ref twg, .int w1_10, .ref two, .ref twd, .ref twq, .int w1_11])), (twl, .inr (2, [.ref twlc, .int w1_12])), (twlc, .inl (twlct, 5, .inr (.inl g1_18))), (twp, .inr (2, [.ref twpc, .int w1_13])), (twpc, .inl (twpct, 7, .inr (.inl g1_20))), (twu, .inr (2, [.ref twuc, .int w1_14])), (twuc, .inl (twuct, 6, .inr (.inl g1_23))), (twh, .inl (twht, 7, .inl g1_17)), (tws, .inl (twst, 6, .inl g1_22)), (twg, .inl (twgt, 6, .inl g1_16)), (two, .inl (twot, 14, .inl g1_19)), (twd, .inl (twdt, 14, .inl g1_15)), (twq, .inl (twqt, 14, .inl g1_21))], []) _ _ _ _ dX8_read_74 rfl ⟨x_12, w1_1, w1_2, w1_3, w1_4, w1_5, w1_6, w1_7, w1_8, w1_9, w1_10, w1_11, w1_12, g1_18, w1_13, g1_20, w1_14, g1_23, g1_17, g1_22, g1_16, g1_19, g1_15, g1_21, hw1_1, hw1_2, hw1_6, hw1_10, hw1_11, hw1_12, hw1_13, hw1_14, hg1_17, hg1_22, hg1_16, hg1_19, hg1_15, hg1_21, (z_w (c := (-1)) (d := 900) (z_lit (x := (-1)) (a := (-1)) (b := (-1)) rfl) rfl), hI1_0, rfl⟩ (hP.sub [13, 14, 15, 0, 1, 2, 3, 4, 5, 6, 7, 8, 9, 10, 11, 12] rfl) (hK.sub [] rfl) (hD.sub [13, 14, 15, 0, 1, 2, 3, 4, 5, 6, 7, 8, 9, 10, 11, 12] (by decide +kernel) rfl) hS
      · skip
        have h_27 : z_in 0 900 v1_2 := z_leL (Int32.not_lt.mp c_25) hv1_2 (z_lit (x := 900) (a := 900) (b := 900) rfl) rfl
        refine lv_aload_n hx hb dX8_read_20 rfl (lv_at hl 2 rfl) ?_
        have hc9 := (w_Tokens_isEnd l D ad tk x_12 w1_1 w1_2 w1_3 w1_4 w1_5 w1_7 w1_8 w1_6 ta tan tab tabt tabf hw1_1 hw1_2 hw1_6 htan hI1_0)
        refine z_calli (w0 := [(tk, .inr (7, [.ref ta, .int x_12, .int w1_1, .int w1_2, .int w1_3, .int w1_4, .long w1_5, .ref (ad w1_6), .int w1_7, .int w1_8])), (ta, .inr (6, [.ref tab, .int tan])), (tab, .inl (tabt, 940, .inl tabf))]) (wr := [(tw, .inr (8, [.ref twl, .ref twp, .ref twu, .int w1_9, .ref twh, .ref tws, .ref twg, .int w1_10, .ref two, .ref twd, .ref twq, .int w1_11])), (twl, .inr (2, [.ref twlc, .int w1_12])), (twlc, .inl (twlct, 5, .inr (.inl g1_18))), (twp, .inr (2, [.ref twpc, .int w1_13])), (twpc, .inl (twpct, 7, .inr (.inl g1_20))), (twu, .inr (2, [.ref twuc, .int w1_14])), (twuc, .inl (twuct, 6, .inr (.inl g1_23))), (twh, .inl (twht, 7, .inl g1_17)), (tws, .inl (twst, 6, .inl g1_22)), (twg, .inl (twgt, 6, .inl g1_16)), (two, .inl (twot, 14, .inl g1_19)), (twd, .inl (twdt, 14, .inl g1_15)), (twq, .inl (twqt, 14, .inl g1_21))]) (va_runV (As := []) (rest := []) ⟨hx, hb, hml, hown, hts⟩ (hc9 _) (cwV 0 hts gX8_read_X7_isEnd rfl rfl rfl (by decide +kernel) ⟨Nat.le_of_ble_eq_true rfl, Nat.le_of_ble_eq_true rfl⟩) (z_preV hP hD hK hS hA hE hO [13, 14, 15] [0] rfl (by decide +kernel) rfl 13 7 rfl rfl rfl) rfl rfl hl.1 rfl (lv_room (Nat.le_of_ble_eq_true rfl)) dX8_read_21 ⟨Nat.le_of_ble_eq_true rfl, Nat.le_of_ble_eq_true rfl⟩) hP hD hK hS hA [13, 14, 15] [0, 1, 2, 3, 4, 5, 6, 7, 8, 9, 10, 11, 12] rfl rfl (by decide +kernel) (by decide +kernel) (fun y_28 u9 H locs hw hP hD hK hS => ?_)
        obtain ⟨h_29, h_30, h_31, rfl⟩ := hw
        have hP : va_P D vwCl [(tw, .inr (8, [.ref twl, .ref twp, .ref twu, .int w1_9, .ref twh, .ref tws, .ref twg, .int w1_10, .ref two, .ref twd, .ref twq, .int w1_11])), (twl, .inr (2, [.ref twlc, .int w1_12])), (twlc, .inl (twlct, 5, .inr (.inl g1_18))), (twp, .inr (2, [.ref twpc, .int w1_13])), (twpc, .inl (twpct, 7, .inr (.inl g1_20))), (twu, .inr (2, [.ref twuc, .int w1_14])), (twuc, .inl (twuct, 6, .inr (.inl g1_23))), (twh, .inl (twht, 7, .inl g1_17)), (tws, .inl (twst, 6, .inl g1_22)), (twg, .inl (twgt, 6, .inl g1_16)), (two, .inl (twot, 14, .inl g1_19)), (twd, .inl (twdt, 14, .inl g1_15)), (twq, .inl (twqt, 14, .inl g1_21)), (tk, .inr (7, [.ref ta, .int x_12, .int w1_1, .int w1_2, .int w1_3, .int w1_4, .long w1_5, .ref (ad w1_6), .int w1_7, .int w1_8])), (ta, .inr (6, [.ref tab, .int tan])), (tab, .inl (tabt, 940, .inl tabf))] H := hP
        have hD : va_D A [(tw, .inr (8, [.ref twl, .ref twp, .ref twu, .int w1_9, .ref twh, .ref tws, .ref twg, .int w1_10, .ref two, .ref twd, .ref twq, .int w1_11])), (twl, .inr (2, [.ref twlc, .int w1_12])), (twlc, .inl (twlct, 5, .inr (.inl g1_18))), (twp, .inr (2, [.ref twpc, .int w1_13])), (twpc, .inl (twpct, 7, .inr (.inl g1_20))), (twu, .inr (2, [.ref twuc, .int w1_14])), (twuc, .inl (twuct, 6, .inr (.inl g1_23))), (twh, .inl (twht, 7, .inl g1_17)), (tws, .inl (twst, 6, .inl g1_22)), (twg, .inl (twgt, 6, .inl g1_16)), (two, .inl (twot, 14, .inl g1_19)), (twd, .inl (twdt, 14, .inl g1_15)), (twq, .inl (twqt, 14, .inl g1_21)), (tk, .inr (7, [.ref ta, .int x_12, .int w1_1, .int w1_2, .int w1_3, .int w1_4, .long w1_5, .ref (ad w1_6), .int w1_7, .int w1_8])), (ta, .inr (6, [.ref tab, .int tan])), (tab, .inl (tabt, 940, .inl tabf))] := hD
        have hK : va_K D vwCl [(tabt, .byte), (twlct, .long), (twpct, .long), (twuct, .long), (twht, .int), (twst, .int), (twgt, .int), (twot, .int), (twdt, .int), (twqt, .int)] s := hK
        refine W.cs (cells' := 0) (slots' := 0) rfl rfl ?_
        refine W.eq (g2 := F0 m 24 ls (.int y_28 :: [])) rfl ?_
        refine lv_if_eq (tgt := 48) hx hb dX8_read_24 (by decide) (fun c_32 => ?_) (fun c_32 => ?_)
        · skip
          have h_33 : z_in 0 0 y_28 := z_leL (Int32.le_of_eq c_32) h_29 (z_lit (x := 0) (a := 0) (b := 0) rfl) rfl
          have h_34 : z_in 1 4 w1_2 := z_both hw1_2 (h_30 (z_eqk h_33 rfl)) rfl
          refine lv_aload_n hx hb dX8_read_48 rfl (lv_at hl 1 rfl) ?_
          refine lv_aload_n hx hb dX8_read_49 rfl (lv_at hl 2 rfl) ?_
          have hc9 := (w_Town_readLine l D ad tk x_12 w1_1 w1_2 w1_3 w1_4 w1_5 w1_7 w1_8 w1_6 ta tan tab tabt tabf tw w1_9 w1_10 w1_11 twl w1_12 twlc twlct g1_18 twp w1_13 twpc twpct g1_20 twu w1_14 twuc twuct g1_23 twh twht g1_17 tws twst g1_22 twg twgt g1_16 two twot g1_19 twd twdt g1_15 twq twqt g1_21 hw1_1 (z_w (c := 0) (d := 4) h_34 rfl) hw1_6 htan hw1_10 hw1_11 hw1_12 hw1_13 hw1_14 hg1_17 hg1_22 hg1_16 hg1_19 hg1_15 hg1_21 hI1_0)
          refine z_calli (w0 := [(tk, .inr (7, [.ref ta, .int x_12, .int w1_1, .int w1_2, .int w1_3, .int w1_4, .long w1_5, .ref (ad w1_6), .int w1_7, .int w1_8])), (ta, .inr (6, [.ref tab, .int tan])), (tab, .inl (tabt, 940, .inl tabf)), (tw, .inr (8, [.ref twl, .ref twp, .ref twu, .int w1_9, .ref twh, .ref tws, .ref twg, .int w1_10, .ref two, .ref twd, .ref twq, .int w1_11])), (twl, .inr (2, [.ref twlc, .int w1_12])), (twlc, .inl (twlct, 5, .inr (.inl g1_18))), (twp, .inr (2, [.ref twpc, .int w1_13])), (twpc, .inl (twpct, 7, .inr (.inl g1_20))), (twu, .inr (2, [.ref twuc, .int w1_14])), (twuc, .inl (twuct, 6, .inr (.inl g1_23))), (twh, .inl (twht, 7, .inl g1_17)), (tws, .inl (twst, 6, .inl g1_22)), (twg, .inl (twgt, 6, .inl g1_16)), (two, .inl (twot, 14, .inl g1_19)), (twd, .inl (twdt, 14, .inl g1_15)), (twq, .inl (twqt, 14, .inl g1_21))]) (wr := []) (va_runV (As := [.ref tk]) (rest := []) ⟨hx, hb, hml, hown, hts⟩ (hc9 _) (cwV 1 hts gX8_read_X8_readLine rfl rfl rfl (by decide +kernel) ⟨Nat.le_of_ble_eq_true rfl, Nat.le_of_ble_eq_true rfl⟩) (z_preV hP hD hK hS hA hE hO [13, 14, 15, 0, 1, 2, 3, 4, 5, 6, 7, 8, 9, 10, 11, 12] [0, 1, 2, 3, 4, 5, 6, 7, 8, 9] rfl (by decide +kernel) rfl 0 8 rfl rfl rfl) rfl rfl hl.1 rfl (lv_room (Nat.le_of_ble_eq_true rfl)) dX8_read_50 ⟨Nat.le_of_ble_eq_true rfl, Nat.le_of_ble_eq_true rfl⟩) hP hD hK hS hA [13, 14, 15, 0, 1, 2, 3, 4, 5, 6, 7, 8, 9, 10, 11, 12] [] rfl rfl (by decide +kernel) (by decide +kernel) (fun y_35 u9 H locs hw hP hD hK hS => ?_)
          refine z_ex16 hw (fun x_36 x_38 x_40 x_41 f_42 f_43 x_45 x_46 x_47 x_48 x_50 x_52 f_54 x_55 f_57 x_58 hw => ?_)
          refine z_ex7 hw (fun f_60 f_61 f_63 f_65 f_67 f_69 f_71 hw => ?_)
          refine z_an16 hw (fun h_37 h_39 h_44 h_49 h_51 h_53 h_56 h_59 h_62 h_64 h_66 h_68 h_70 h_72 h_73 h_74 hw => ?_)
          subst hw
          have hP : va_P D vwCl [(tk, .inr (7, [.ref ta, .int x_12, .int x_36, .int x_38, .int x_40, .int x_41, .long f_42, .ref (ad f_43), .int x_45, .int x_46])), (ta, .inr (6, [.ref tab, .int tan])), (tab, .inl (tabt, 940, .inl tabf)), (tw, .inr (8, [.ref twl, .ref twp, .ref twu, .int x_47, .ref twh, .ref tws, .ref twg, .int x_48, .ref two, .ref twd, .ref twq, .int x_50])), (twl, .inr (2, [.ref twlc, .int x_52])), (twlc, .inl (twlct, 5, .inr (.inl f_54))), (twp, .inr (2, [.ref twpc, .int x_55])), (twpc, .inl (twpct, 7, .inr (.inl f_57))), (twu, .inr (2, [.ref twuc, .int x_58])), (twuc, .inl (twuct, 6, .inr (.inl f_60))), (twh, .inl (twht, 7, .inl f_61)), (tws, .inl (twst, 6, .inl f_63)), (twg, .inl (twgt, 6, .inl f_65)), (two, .inl (twot, 14, .inl f_67)), (twd, .inl (twdt, 14, .inl f_69)), (twq, .inl (twqt, 14, .inl f_71))] H := hP
          have hD : va_D A [(tk, .inr (7, [.ref ta, .int x_12, .int x_36, .int x_38, .int x_40, .int x_41, .long f_42, .ref (ad f_43), .int x_45, .int x_46])), (ta, .inr (6, [.ref tab, .int tan])), (tab, .inl (tabt, 940, .inl tabf)), (tw, .inr (8, [.ref twl, .ref twp, .ref twu, .int x_47, .ref twh, .ref tws, .ref twg, .int x_48, .ref two, .ref twd, .ref twq, .int x_50])), (twl, .inr (2, [.ref twlc, .int x_52])), (twlc, .inl (twlct, 5, .inr (.inl f_54))), (twp, .inr (2, [.ref twpc, .int x_55])), (twpc, .inl (twpct, 7, .inr (.inl f_57))), (twu, .inr (2, [.ref twuc, .int x_58])), (twuc, .inl (twuct, 6, .inr (.inl f_60))), (twh, .inl (twht, 7, .inl f_61)), (tws, .inl (twst, 6, .inl f_63)), (twg, .inl (twgt, 6, .inl f_65)), (two, .inl (twot, 14, .inl f_67)), (twd, .inl (twdt, 14, .inl f_69)), (twq, .inl (twqt, 14, .inl f_71))] := hD
          have hK : va_K D vwCl [(tabt, .byte), (twlct, .long), (twpct, .long), (twuct, .long), (twht, .int), (twst, .int), (twgt, .int), (twot, .int), (twdt, .int), (twqt, .int)] s := hK
          refine W.cs (cells' := 0) (slots' := 0) rfl rfl ?_
          refine W.eq (g2 := F0 m 53 ls (.int y_35 :: [])) rfl ?_
          refine lv_if_eq (tgt := 65) hx hb dX8_read_53 (by decide) (fun c_75 => ?_) (fun c_75 => ?_)
          · skip
            have h_76 : z_in 0 0 y_35 := z_leL (Int32.le_of_eq c_75) h_73 (z_lit (x := 0) (a := 0) (b := 0) rfl) rfl
            refine lv_iconst (v := (-1)) hx hb dX8_read_65 (by decide) ?_
            exact hret (-1) ([(tk, .inr (7, [.ref ta, .int x_12, .int x_36, .int x_38, .int x_40, .int x_41, .long f_42, .ref (ad f_43), .int x_45, .int x_46])), (ta, .inr (6, [.ref tab, .int tan])), (tab, .inl (tabt, 940, .inl tabf)), (tw, .inr (8, [.ref twl, .ref twp, .ref twu, .int x_47, .ref twh, .ref tws, .ref twg, .int x_48, .ref two, .ref twd, .ref twq, .int x_50])), (twl, .inr (2, [.ref twlc, .int x_52])), (twlc, .inl (twlct, 5, .inr (.inl f_54))), (twp, .inr (2, [.ref twpc, .int x_55])), (twpc, .inl (twpct, 7, .inr (.inl f_57))), (twu, .inr (2, [.ref twuc, .int x_58])), (twuc, .inl (twuct, 6, .inr (.inl f_60))), (twh, .inl (twht, 7, .inl f_61)), (tws, .inl (twst, 6, .inl f_63)), (twg, .inl (twgt, 6, .inl f_65)), (two, .inl (twot, 14, .inl f_67)), (twd, .inl (twdt, 14, .inl f_69)), (twq, .inl (twqt, 14, .inl f_71))], []) _ _ _ _ dX8_read_66 rfl ⟨x_12, x_36, x_38, x_40, x_41, f_42, f_43, x_45, x_46, x_47, x_48, x_50, x_52, f_54, x_55, f_57, x_58, f_60, f_61, f_63, f_65, f_67, f_69, f_71, h_37, h_39, h_44, h_49, h_51, h_53, h_56, h_59, h_62, h_64, h_66, h_68, h_70, h_72, (z_w (c := (-1)) (d := 900) (z_lit (x := (-1)) (a := (-1)) (b := (-1)) rfl) rfl), h_74, rfl⟩ hP (hK.sub [] rfl) hD hS
          · skip
            have h_77 : z_in 1 1 y_35 := z_neLo c_75 h_73 (z_lit (x := 0) (a := 0) (b := 0) rfl) rfl
            refine lv_aload_n hx hb dX8_read_56 rfl (lv_at hl 2 rfl) ?_
            refine lv_bipush (v := 59) hx hb dX8_read_57 (by decide) ?_
            have hc9 := (w_Tokens_passSign l D ad tk x_12 x_36 x_38 x_40 x_41 f_42 x_45 x_46 f_43 ta tan tab tabt tabf 59 h_37 h_39 h_44 htan h_74)
            refine z_calli (w0 := [(tk, .inr (7, [.ref ta, .int x_12, .int x_36, .int x_38, .int x_40, .int x_41, .long f_42, .ref (ad f_43), .int x_45, .int x_46])), (ta, .inr (6, [.ref tab, .int tan])), (tab, .inl (tabt, 940, .inl tabf))]) (wr := [(tw, .inr (8, [.ref twl, .ref twp, .ref twu, .int x_47, .ref twh, .ref tws, .ref twg, .int x_48, .ref two, .ref twd, .ref twq, .int x_50])), (twl, .inr (2, [.ref twlc, .int x_52])), (twlc, .inl (twlct, 5, .inr (.inl f_54))), (twp, .inr (2, [.ref twpc, .int x_55])), (twpc, .inl (twpct, 7, .inr (.inl f_57))), (twu, .inr (2, [.ref twuc, .int x_58])), (twuc, .inl (twuct, 6, .inr (.inl f_60))), (twh, .inl (twht, 7, .inl f_61)), (tws, .inl (twst, 6, .inl f_63)), (twg, .inl (twgt, 6, .inl f_65)), (two, .inl (twot, 14, .inl f_67)), (twd, .inl (twdt, 14, .inl f_69)), (twq, .inl (twqt, 14, .inl f_71))]) (va_runV (As := [.int 59]) (rest := []) ⟨hx, hb, hml, hown, hts⟩ (hc9 _) (cwV 1 hts gX8_read_X7_passSign rfl rfl rfl (by decide +kernel) ⟨Nat.le_of_ble_eq_true rfl, Nat.le_of_ble_eq_true rfl⟩) (z_preV hP hD hK hS hA hE hO [0, 1, 2] [0] rfl (by decide +kernel) rfl 0 7 rfl rfl rfl) rfl rfl hl.1 rfl (lv_room (Nat.le_of_ble_eq_true rfl)) dX8_read_59 ⟨Nat.le_of_ble_eq_true rfl, Nat.le_of_ble_eq_true rfl⟩) hP hD hK hS hA [0, 1, 2] [3, 4, 5, 6, 7, 8, 9, 10, 11, 12, 13, 14, 15] rfl rfl (by decide +kernel) (by decide +kernel) (fun y_78 u9 H locs hw hP hD hK hS => ?_)
            refine z_ex8 hw (fun x_79 x_81 x_83 x_84 f_85 f_86 x_88 x_89 hw => ?_)
            refine z_an5 hw (fun h_80 h_82 h_87 h_90 h_91 hw => ?_)
            subst hw
            have hP : va_P D vwCl [(tw, .inr (8, [.ref twl, .ref twp, .ref twu, .int x_47, .ref twh, .ref tws, .ref twg, .int x_48, .ref two, .ref twd, .ref twq, .int x_50])), (twl, .inr (2, [.ref twlc, .int x_52])), (twlc, .inl (twlct, 5, .inr (.inl f_54))), (twp, .inr (2, [.ref twpc, .int x_55])), (twpc, .inl (twpct, 7, .inr (.inl f_57))), (twu, .inr (2, [.ref twuc, .int x_58])), (twuc, .inl (twuct, 6, .inr (.inl f_60))), (twh, .inl (twht, 7, .inl f_61)), (tws, .inl (twst, 6, .inl f_63)), (twg, .inl (twgt, 6, .inl f_65)), (two, .inl (twot, 14, .inl f_67)), (twd, .inl (twdt, 14, .inl f_69)), (twq, .inl (twqt, 14, .inl f_71)), (tk, .inr (7, [.ref ta, .int x_12, .int x_79, .int x_81, .int x_83, .int x_84, .long f_85, .ref (ad f_86), .int x_88, .int x_89])), (ta, .inr (6, [.ref tab, .int tan])), (tab, .inl (tabt, 940, .inl tabf))] H := hP
            have hD : va_D A [(tw, .inr (8, [.ref twl, .ref twp, .ref twu, .int x_47, .ref twh, .ref tws, .ref twg, .int x_48, .ref two, .ref twd, .ref twq, .int x_50])), (twl, .inr (2, [.ref twlc, .int x_52])), (twlc, .inl (twlct, 5, .inr (.inl f_54))), (twp, .inr (2, [.ref twpc, .int x_55])), (twpc, .inl (twpct, 7, .inr (.inl f_57))), (twu, .inr (2, [.ref twuc, .int x_58])), (twuc, .inl (twuct, 6, .inr (.inl f_60))), (twh, .inl (twht, 7, .inl f_61)), (tws, .inl (twst, 6, .inl f_63)), (twg, .inl (twgt, 6, .inl f_65)), (two, .inl (twot, 14, .inl f_67)), (twd, .inl (twdt, 14, .inl f_69)), (twq, .inl (twqt, 14, .inl f_71)), (tk, .inr (7, [.ref ta, .int x_12, .int x_79, .int x_81, .int x_83, .int x_84, .long f_85, .ref (ad f_86), .int x_88, .int x_89])), (ta, .inr (6, [.ref tab, .int tan])), (tab, .inl (tabt, 940, .inl tabf))] := hD
            have hK : va_K D vwCl [(tabt, .byte), (twlct, .long), (twpct, .long), (twuct, .long), (twht, .int), (twst, .int), (twgt, .int), (twot, .int), (twdt, .int), (twqt, .int)] s := hK
            refine W.cs (cells' := 0) (slots' := 0) rfl rfl ?_
            refine W.eq (g2 := F0 m 62 ls (.int y_78 :: [])) rfl ?_
            refine lv_if_ne (tgt := 67) hx hb dX8_read_62 (by decide) (fun c_92 => ?_) (fun c_92 => ?_)
            · skip
              have h_93 : z_in 1 1 y_78 := z_neLo c_92 h_90 (z_lit (x := 0) (a := 0) (b := 0) rfl) rfl
              obtain ⟨y_94, ey_94⟩ : ∃ y : Int32, y = v1_2 + 1 := ⟨_, rfl⟩
              have h_95 : z_in 1 901 y_94 := by rw [ey_94]; exact z_add h_27 (z_lit (x := 1) (a := 1) (b := 1) rfl) rfl rfl
              have ty_94 : y_94.toInt = v1_2.toInt + 1 := by rw [ey_94]; exact z_addT h_27 (z_lit (x := 1) (a := 1) (b := 1) rfl) rfl
              refine lv_iinc (v := y_94) (lv' := [(2, .int y_94), (0, .ref tw), (1, .ref tk)]) hx hb dX8_read_67 hl (k := 0) rfl (by rw [ey_94]; rfl) (by decide) rfl (fun ls hl => ?_)
              refine lv_goto (tgt := 13) hx hb dX8_read_70 (by decide) ?_
              exact ih1 y_94 x_79 x_81 x_83 x_84 f_85 f_86 x_88 x_89 x_47 x_48 x_50 x_52 x_55 x_58 f_69 f_65 f_61 f_54 f_67 f_57 f_71 f_63 f_60 _ _ _ (z_w (c := 0) (d := 901) h_95 rfl) h_80 h_82 h_87 h_49 h_51 h_53 h_56 h_59 h_70 h_66 h_62 h_68 h_72 h_64 h_91 (by omega) hP hD hS (lv_sub hl [0, 1, 2] rfl)
            · skip
              have h_96 : z_in 0 0 y_78 := z_leL (Int32.le_of_eq c_92) h_90 (z_lit (x := 0) (a := 0) (b := 0) rfl) rfl
              refine lv_iconst (v := (-1)) hx hb dX8_read_65 (by decide) ?_
              exact hret (-1) ([(tk, .inr (7, [.ref ta, .int x_12, .int x_79, .int x_81, .int x_83, .int x_84, .long f_85, .ref (ad f_86), .int x_88, .int x_89])), (ta, .inr (6, [.ref tab, .int tan])), (tab, .inl (tabt, 940, .inl tabf)), (tw, .inr (8, [.ref twl, .ref twp, .ref twu, .int x_47, .ref twh, .ref tws, .ref twg, .int x_48, .ref two, .ref twd, .ref twq, .int x_50])), (twl, .inr (2, [.ref twlc, .int x_52])), (twlc, .inl (twlct, 5, .inr (.inl f_54))), (twp, .inr (2, [.ref twpc, .int x_55])), (twpc, .inl (twpct, 7, .inr (.inl f_57))), (twu, .inr (2, [.ref twuc, .int x_58])), (twuc, .inl (twuct, 6, .inr (.inl f_60))), (twh, .inl (twht, 7, .inl f_61)), (tws, .inl (twst, 6, .inl f_63)), (twg, .inl (twgt, 6, .inl f_65)), (two, .inl (twot, 14, .inl f_67)), (twd, .inl (twdt, 14, .inl f_69)), (twq, .inl (twqt, 14, .inl f_71))], []) _ _ _ _ dX8_read_66 rfl ⟨x_12, x_79, x_81, x_83, x_84, f_85, f_86, x_88, x_89, x_47, x_48, x_50, x_52, f_54, x_55, f_57, x_58, f_60, f_61, f_63, f_65, f_67, f_69, f_71, h_80, h_82, h_87, h_49, h_51, h_53, h_56, h_59, h_62, h_64, h_66, h_68, h_70, h_72, (z_w (c := (-1)) (d := 900) (z_lit (x := (-1)) (a := (-1)) (b := (-1)) rfl) rfl), h_91, rfl⟩ (hP.sub [13, 14, 15, 0, 1, 2, 3, 4, 5, 6, 7, 8, 9, 10, 11, 12] rfl) (hK.sub [] rfl) (hD.sub [13, 14, 15, 0, 1, 2, 3, 4, 5, 6, 7, 8, 9, 10, 11, 12] (by decide +kernel) rfl) hS
        · skip
          have h_97 : z_in 1 1 y_28 := z_neLo c_32 h_29 (z_lit (x := 0) (a := 0) (b := 0) rfl) rfl
          have h_98 : z_in 0 0 w1_2 := z_both hw1_2 (h_31 (z_eqk h_97 rfl)) rfl
          refine lv_aload_n hx hb dX8_read_27 rfl (lv_at hl 1 rfl) ?_
          refine lv_aload_n hx hb dX8_read_28 rfl (lv_at hl 1 rfl) ?_
          refine va_get (D := D) (ci := 8) (v := .int w1_11) (C := RX8) (T := TX8) (N := 12) hx hb hts hiX8 hown hK hP 0 rfl rfl 11 (by decide) (hts _ (List.mem_of_getElem? (i := 1) rfl)) (fun _ h9 => h9) rfl dX8_read_29 ?_
          refine lv_if_ne (tgt := 39) hx hb dX8_read_32 (by decide) (fun c_99 => ?_) (fun c_99 => ?_)
          · skip
            have h_100 : z_in 1 5 w1_11 := z_neLo c_99 hw1_11 (z_lit (x := 0) (a := 0) (b := 0) rfl) rfl
            refine lv_aload_n hx hb dX8_read_39 rfl (lv_at hl 1 rfl) ?_
            refine va_get (D := D) (ci := 8) (v := .int w1_11) (C := RX8) (T := TX8) (N := 12) hx hb hts hiX8 hown hK hP 0 rfl rfl 11 (by decide) (hts _ (List.mem_of_getElem? (i := 1) rfl)) (fun _ h9 => h9) rfl dX8_read_40 ?_
            refine va_put (D := D) (ci := 8) (v := .int w1_11) (ty := tyX8 11) (C := RX8) (T := TX8) (N := 12) hx hb hts hiX8 tyX8 tyX8_ok nmX8 hown hK hP hD hS 0 rfl rfl 11 (by decide) (hts _ (List.mem_of_getElem? (i := 1) rfl)) (fun _ h9 => h9) rfl (tyX8_ok 11 (by decide)) rfl rfl (Nat.le_of_ble_eq_true rfl) dX8_read_43 (fun H locs hP hD hS => ?_)
            have hP : va_P D vwCl [(tw, .inr (8, [.ref twl, .ref twp, .ref twu, .int w1_9, .ref twh, .ref tws, .ref twg, .int w1_10, .ref two, .ref twd, .ref twq, .int w1_11])), (twl, .inr (2, [.ref twlc, .int w1_12])), (twlc, .inl (twlct, 5, .inr (.inl g1_18))), (twp, .inr (2, [.ref twpc, .int w1_13])), (twpc, .inl (twpct, 7, .inr (.inl g1_20))), (twu, .inr (2, [.ref twuc, .int w1_14])), (twuc, .inl (twuct, 6, .inr (.inl g1_23))), (twh, .inl (twht, 7, .inl g1_17)), (tws, .inl (twst, 6, .inl g1_22)), (twg, .inl (twgt, 6, .inl g1_16)), (two, .inl (twot, 14, .inl g1_19)), (twd, .inl (twdt, 14, .inl g1_15)), (twq, .inl (twqt, 14, .inl g1_21)), (tk, .inr (7, [.ref ta, .int x_12, .int w1_1, .int w1_2, .int w1_3, .int w1_4, .long w1_5, .ref (ad w1_6), .int w1_7, .int w1_8])), (ta, .inr (6, [.ref tab, .int tan])), (tab, .inl (tabt, 940, .inl tabf))] H := hP
            have hD : va_D A [(tw, .inr (8, [.ref twl, .ref twp, .ref twu, .int w1_9, .ref twh, .ref tws, .ref twg, .int w1_10, .ref two, .ref twd, .ref twq, .int w1_11])), (twl, .inr (2, [.ref twlc, .int w1_12])), (twlc, .inl (twlct, 5, .inr (.inl g1_18))), (twp, .inr (2, [.ref twpc, .int w1_13])), (twpc, .inl (twpct, 7, .inr (.inl g1_20))), (twu, .inr (2, [.ref twuc, .int w1_14])), (twuc, .inl (twuct, 6, .inr (.inl g1_23))), (twh, .inl (twht, 7, .inl g1_17)), (tws, .inl (twst, 6, .inl g1_22)), (twg, .inl (twgt, 6, .inl g1_16)), (two, .inl (twot, 14, .inl g1_19)), (twd, .inl (twdt, 14, .inl g1_15)), (twq, .inl (twqt, 14, .inl g1_21)), (tk, .inr (7, [.ref ta, .int x_12, .int w1_1, .int w1_2, .int w1_3, .int w1_4, .long w1_5, .ref (ad w1_6), .int w1_7, .int w1_8])), (ta, .inr (6, [.ref tab, .int tan])), (tab, .inl (tabt, 940, .inl tabf))] := hD
            refine lv_iload_n hx hb dX8_read_46 rfl (lv_at hl 0 rfl) ?_
            exact hret v1_2 ([(tk, .inr (7, [.ref ta, .int x_12, .int w1_1, .int w1_2, .int w1_3, .int w1_4, .long w1_5, .ref (ad w1_6), .int w1_7, .int w1_8])), (ta, .inr (6, [.ref tab, .int tan])), (tab, .inl (tabt, 940, .inl tabf)), (tw, .inr (8, [.ref twl, .ref twp, .ref twu, .int w1_9, .ref twh, .ref tws, .ref twg, .int w1_10, .ref two, .ref twd, .ref twq, .int w1_11])), (twl, .inr (2, [.ref twlc, .int w1_12])), (twlc, .inl (twlct, 5, .inr (.inl g1_18))), (twp, .inr (2, [.ref twpc, .int w1_13])), (twpc, .inl (twpct, 7, .inr (.inl g1_20))), (twu, .inr (2, [.ref twuc, .int w1_14])), (twuc, .inl (twuct, 6, .inr (.inl g1_23))), (twh, .inl (twht, 7, .inl g1_17)), (tws, .inl (twst, 6, .inl g1_22)), (twg, .inl (twgt, 6, .inl g1_16)), (two, .inl (twot, 14, .inl g1_19)), (twd, .inl (twdt, 14, .inl g1_15)), (twq, .inl (twqt, 14, .inl g1_21))], []) _ _ _ _ dX8_read_47 rfl ⟨x_12, w1_1, w1_2, w1_3, w1_4, w1_5, w1_6, w1_7, w1_8, w1_9, w1_10, w1_11, w1_12, g1_18, w1_13, g1_20, w1_14, g1_23, g1_17, g1_22, g1_16, g1_19, g1_15, g1_21, hw1_1, (z_w (c := 0) (d := 4) h_98 rfl), hw1_6, hw1_10, (z_w (c := 0) (d := 5) h_100 rfl), hw1_12, hw1_13, hw1_14, hg1_17, hg1_22, hg1_16, hg1_19, hg1_15, hg1_21, (z_w (c := (-1)) (d := 900) h_27 rfl), hI1_0, rfl⟩ (hP.sub [13, 14, 15, 0, 1, 2, 3, 4, 5, 6, 7, 8, 9, 10, 11, 12] rfl) (hK.sub [] rfl) (hD.sub [13, 14, 15, 0, 1, 2, 3, 4, 5, 6, 7, 8, 9, 10, 11, 12] (by decide +kernel) rfl) hS
          · skip
            have h_101 : z_in 0 0 w1_11 := z_leL (Int32.le_of_eq c_99) hw1_11 (z_lit (x := 0) (a := 0) (b := 0) rfl) rfl
            refine lv_iconst (v := 2) hx hb dX8_read_35 (by decide) ?_
            refine lv_goto (tgt := 43) hx hb dX8_read_36 (by decide) ?_
            refine va_put (D := D) (ci := 8) (v := .int 2) (ty := tyX8 11) (C := RX8) (T := TX8) (N := 12) hx hb hts hiX8 tyX8 tyX8_ok nmX8 hown hK hP hD hS 0 rfl rfl 11 (by decide) (hts _ (List.mem_of_getElem? (i := 1) rfl)) (fun _ h9 => h9) rfl (tyX8_ok 11 (by decide)) rfl rfl (Nat.le_of_ble_eq_true rfl) dX8_read_43 (fun H locs hP hD hS => ?_)
            have hP : va_P D vwCl [(tw, .inr (8, [.ref twl, .ref twp, .ref twu, .int w1_9, .ref twh, .ref tws, .ref twg, .int w1_10, .ref two, .ref twd, .ref twq, .int 2])), (twl, .inr (2, [.ref twlc, .int w1_12])), (twlc, .inl (twlct, 5, .inr (.inl g1_18))), (twp, .inr (2, [.ref twpc, .int w1_13])), (twpc, .inl (twpct, 7, .inr (.inl g1_20))), (twu, .inr (2, [.ref twuc, .int w1_14])), (twuc, .inl (twuct, 6, .inr (.inl g1_23))), (twh, .inl (twht, 7, .inl g1_17)), (tws, .inl (twst, 6, .inl g1_22)), (twg, .inl (twgt, 6, .inl g1_16)), (two, .inl (twot, 14, .inl g1_19)), (twd, .inl (twdt, 14, .inl g1_15)), (twq, .inl (twqt, 14, .inl g1_21)), (tk, .inr (7, [.ref ta, .int x_12, .int w1_1, .int w1_2, .int w1_3, .int w1_4, .long w1_5, .ref (ad w1_6), .int w1_7, .int w1_8])), (ta, .inr (6, [.ref tab, .int tan])), (tab, .inl (tabt, 940, .inl tabf))] H := hP
            have hD : va_D A [(tw, .inr (8, [.ref twl, .ref twp, .ref twu, .int w1_9, .ref twh, .ref tws, .ref twg, .int w1_10, .ref two, .ref twd, .ref twq, .int 2])), (twl, .inr (2, [.ref twlc, .int w1_12])), (twlc, .inl (twlct, 5, .inr (.inl g1_18))), (twp, .inr (2, [.ref twpc, .int w1_13])), (twpc, .inl (twpct, 7, .inr (.inl g1_20))), (twu, .inr (2, [.ref twuc, .int w1_14])), (twuc, .inl (twuct, 6, .inr (.inl g1_23))), (twh, .inl (twht, 7, .inl g1_17)), (tws, .inl (twst, 6, .inl g1_22)), (twg, .inl (twgt, 6, .inl g1_16)), (two, .inl (twot, 14, .inl g1_19)), (twd, .inl (twdt, 14, .inl g1_15)), (twq, .inl (twqt, 14, .inl g1_21)), (tk, .inr (7, [.ref ta, .int x_12, .int w1_1, .int w1_2, .int w1_3, .int w1_4, .long w1_5, .ref (ad w1_6), .int w1_7, .int w1_8])), (ta, .inr (6, [.ref tab, .int tan])), (tab, .inl (tabt, 940, .inl tabf))] := hD
            refine lv_iload_n hx hb dX8_read_46 rfl (lv_at hl 0 rfl) ?_
            exact hret v1_2 ([(tk, .inr (7, [.ref ta, .int x_12, .int w1_1, .int w1_2, .int w1_3, .int w1_4, .long w1_5, .ref (ad w1_6), .int w1_7, .int w1_8])), (ta, .inr (6, [.ref tab, .int tan])), (tab, .inl (tabt, 940, .inl tabf)), (tw, .inr (8, [.ref twl, .ref twp, .ref twu, .int w1_9, .ref twh, .ref tws, .ref twg, .int w1_10, .ref two, .ref twd, .ref twq, .int 2])), (twl, .inr (2, [.ref twlc, .int w1_12])), (twlc, .inl (twlct, 5, .inr (.inl g1_18))), (twp, .inr (2, [.ref twpc, .int w1_13])), (twpc, .inl (twpct, 7, .inr (.inl g1_20))), (twu, .inr (2, [.ref twuc, .int w1_14])), (twuc, .inl (twuct, 6, .inr (.inl g1_23))), (twh, .inl (twht, 7, .inl g1_17)), (tws, .inl (twst, 6, .inl g1_22)), (twg, .inl (twgt, 6, .inl g1_16)), (two, .inl (twot, 14, .inl g1_19)), (twd, .inl (twdt, 14, .inl g1_15)), (twq, .inl (twqt, 14, .inl g1_21))], []) _ _ _ _ dX8_read_47 rfl ⟨x_12, w1_1, w1_2, w1_3, w1_4, w1_5, w1_6, w1_7, w1_8, w1_9, w1_10, 2, w1_12, g1_18, w1_13, g1_20, w1_14, g1_23, g1_17, g1_22, g1_16, g1_19, g1_15, g1_21, hw1_1, (z_w (c := 0) (d := 4) h_98 rfl), hw1_6, hw1_10, (z_w (c := 0) (d := 5) (z_lit (x := 2) (a := 2) (b := 2) rfl) rfl), hw1_12, hw1_13, hw1_14, hg1_17, hg1_22, hg1_16, hg1_19, hg1_15, hg1_21, (z_w (c := (-1)) (d := 900) h_27 rfl), hI1_0, rfl⟩ (hP.sub [13, 14, 15, 0, 1, 2, 3, 4, 5, 6, 7, 8, 9, 10, 11, 12] rfl) (hK.sub [] rfl) (hD.sub [13, 14, 15, 0, 1, 2, 3, 4, 5, 6, 7, 8, 9, 10, 11, 12] (by decide +kernel) rfl) hS
  exact LP1 902 0 x_13 x_15 x_17 x_18 f_19 f_20 x_22 x_23 x_1 x_2 x_4 x_6 x_8 x_10 twdf twgf twhf twlcf twof twpcf twqf twsf twucf _ _ _ (z_w (c := 0) (d := 901) (z_lit (x := 0) (a := 0) (b := 0) rfl) rfl) h_14 h_16 h_21 h_3 h_5 h_7 h_9 h_11 htwdf htwgf htwhf htwof htwqf htwsf h_24 (by decide) hP hD hS (lv_sub hl [0, 1, 2] rfl)

set_option maxHeartbeats 8000000 in
set_option maxRecDepth 100000 in
theorem w_Word_countsSomething (l : Launch) (D : va_G) (ad : Nat → Nat) (w0 : Nat) (hw0 : w0 < 22) : z_Mi l yX9_countsSomething wsX9_countsSomething { frames := 0, cells := 0, slots := 0, locals := 0 } D ad [.ref (ad w0)] [] [] 0 0 (fun r9 u9 => z_in 0 1 r9 ∧ (r9 = 1 → z_wne w0 18) ∧ u9 = ([], [])) := by
  refine z_ofI (cc := cX9_countsSomething) (maxL := 1) (rt := .boolean) (by decide) rfl (Nat.le_of_ble_eq_true rfl) ?_
  intro p e s m below meth c Q A ls hx hb hml hown hts hin hK hP hD hA hE hO hS hl hret
  have hown : s.vm.findClass RX9 = some m.cls := hown
  have hl : lv_has ls 1 [(0, .ref (ad w0))] := hl
  refine lv_aload_n hx hb dX9_countsSomething_0 rfl (lv_at hl 0 rfl) ?_
  refine va_gets (v := .ref (ad 19)) hx hb (hE.1.1 19 (by decide)).1 hS hown (hts _ (List.mem_of_getElem? (i := 1) rfl)) (fun _ h9 => h9) dX9_countsSomething_1 ?_
  refine W.eq (g2 := F0 m 4 ls (va_rf (some (ad 19)) :: va_rf (some (ad w0)) :: [])) rfl ?_
  refine lv_acmp_eq (tgt := 21) hx hb dX9_countsSomething_4 (by decide) (fun c_1 => ?_) (fun c_1 => ?_)
  · have h_2 : w0 = 19 := (hE.1.2 w0 19 hw0 (by decide) (Option.some.inj c_1))
    refine lv_iconst (v := 1) hx hb dX9_countsSomething_21 (by decide) ?_
    refine lv_goto (tgt := 26) hx hb dX9_countsSomething_22 (by decide) ?_
    exact hret 1 ([], []) _ _ _ _ dX9_countsSomething_26 (by decide) ⟨(z_w (c := 0) (d := 1) (z_lit (x := 1) (a := 1) (b := 1) rfl) rfl), (fun _ => (fun q9 => absurd (h_2.symm.trans q9) (by decide))), rfl⟩ hP (hK.sub [] rfl) hD hS
  · have h_3 : w0 ≠ 19 := fun q9 => c_1 (by rw [q9])
    refine lv_aload_n hx hb dX9_countsSomething_7 rfl (lv_at hl 0 rfl) ?_
    refine va_gets (v := .ref (ad 20)) hx hb (hE.1.1 20 (by decide)).1 hS hown (hts _ (List.mem_of_getElem? (i := 2) rfl)) (fun _ h9 => h9) dX9_countsSomething_8 ?_
    refine W.eq (g2 := F0 m 11 ls (va_rf (some (ad 20)) :: va_rf (some (ad w0)) :: [])) rfl ?_
    refine lv_acmp_eq (tgt := 21) hx hb dX9_countsSomething_11 (by decide) (fun c_4 => ?_) (fun c_4 => ?_)
    · have h_5 : w0 = 20 := (hE.1.2 w0 20 hw0 (by decide) (Option.some.inj c_4))
      refine lv_iconst (v := 1) hx hb dX9_countsSomething_21 (by decide) ?_
      refine lv_goto (tgt := 26) hx hb dX9_countsSomething_22 (by decide) ?_
      exact hret 1 ([], []) _ _ _ _ dX9_countsSomething_26 (by decide) ⟨(z_w (c := 0) (d := 1) (z_lit (x := 1) (a := 1) (b := 1) rfl) rfl), (fun _ => (fun q9 => absurd (h_5.symm.trans q9) (by decide))), rfl⟩ hP (hK.sub [] rfl) hD hS
    · have h_6 : w0 ≠ 20 := fun q9 => c_4 (by rw [q9])
      refine lv_aload_n hx hb dX9_countsSomething_14 rfl (lv_at hl 0 rfl) ?_
      refine va_gets (v := .ref (ad 21)) hx hb (hE.1.1 21 (by decide)).1 hS hown (hts _ (List.mem_of_getElem? (i := 3) rfl)) (fun _ h9 => h9) dX9_countsSomething_15 ?_
      refine W.eq (g2 := F0 m 18 ls (va_rf (some (ad 21)) :: va_rf (some (ad w0)) :: [])) rfl ?_
      refine lv_acmp_ne (tgt := 25) hx hb dX9_countsSomething_18 (by decide) (fun c_7 => ?_) (fun c_7 => ?_)
      · have h_8 : w0 ≠ 21 := fun q9 => c_7 (by rw [q9])
        refine lv_iconst (v := 0) hx hb dX9_countsSomething_25 (by decide) ?_
        exact hret 0 ([], []) _ _ _ _ dX9_countsSomething_26 (by decide) ⟨(z_w (c := 0) (d := 1) (z_lit (x := 0) (a := 0) (b := 0) rfl) rfl), (fun h9 => absurd h9 (by decide)), rfl⟩ hP (hK.sub [] rfl) hD hS
      · have h_9 : w0 = 21 := (hE.1.2 w0 21 hw0 (by decide) (Option.some.inj c_7))
        refine lv_iconst (v := 1) hx hb dX9_countsSomething_21 (by decide) ?_
        refine lv_goto (tgt := 26) hx hb dX9_countsSomething_22 (by decide) ?_
        exact hret 1 ([], []) _ _ _ _ dX9_countsSomething_26 (by decide) ⟨(z_w (c := 0) (d := 1) (z_lit (x := 1) (a := 1) (b := 1) rfl) rfl), (fun _ => (fun q9 => absurd (h_9.symm.trans q9) (by decide))), rfl⟩ hP (hK.sub [] rfl) hD hS

set_option maxHeartbeats 8000000 in
set_option maxRecDepth 100000 in
theorem w_Word_beginsOne (l : Launch) (D : va_G) (ad : Nat → Nat) (w0 : Nat) (hw0 : w0 < 22) : z_Mi l yX9_beginsOne wsX9_beginsOne { frames := 1, cells := 0, slots := 0, locals := 20 } D ad [.ref (ad w0)] [] [] 0 0 (fun r9 u9 => z_in 0 1 r9 ∧ u9 = ([], [])) := by
  refine z_ofI (cc := cX9_beginsOne) (maxL := 1) (rt := .boolean) (by decide) rfl (Nat.le_of_ble_eq_true rfl) ?_
  intro p e s m below meth c Q A ls hx hb hml hown hts hin hK hP hD hA hE hO hS hl hret
  have hown : s.vm.findClass RX9 = some m.cls := hown
  have hl : lv_has ls 1 [(0, .ref (ad w0))] := hl
  refine lv_aload_n hx hb dX9_beginsOne_0 rfl (lv_at hl 0 rfl) ?_
  refine va_gets (v := .ref (ad 14)) hx hb (hE.1.1 14 (by decide)).1 hS hown (hts _ (List.mem_of_getElem? (i := 1) rfl)) (fun _ h9 => h9) dX9_beginsOne_1 ?_
  refine W.eq (g2 := F0 m 4 ls (va_rf (some (ad 14)) :: va_rf (some (ad w0)) :: [])) rfl ?_
  refine lv_acmp_eq (tgt := 49) hx hb dX9_beginsOne_4 (by decide) (fun c_1 => ?_) (fun c_1 => ?_)
  · have h_2 : w0 = 14 := (hE.1.2 w0 14 hw0 (by decide) (Option.some.inj c_1))
    refine lv_iconst (v := 1) hx hb dX9_beginsOne_49 (by decide) ?_
    refine lv_goto (tgt := 54) hx hb dX9_beginsOne_50 (by decide) ?_
    exact hret 1 ([], []) _ _ _ _ dX9_beginsOne_54 (by decide) ⟨(z_w (c := 0) (d := 1) (z_lit (x := 1) (a := 1) (b := 1) rfl) rfl), rfl⟩ hP (hK.sub [] rfl) hD hS
  · have h_3 : w0 ≠ 14 := fun q9 => c_1 (by rw [q9])
    refine lv_aload_n hx hb dX9_beginsOne_7 rfl (lv_at hl 0 rfl) ?_
    refine va_gets (v := .ref (ad 3)) hx hb (hE.1.1 3 (by decide)).1 hS hown (hts _ (List.mem_of_getElem? (i := 2) rfl)) (fun _ h9 => h9) dX9_beginsOne_8 ?_
    refine W.eq (g2 := F0 m 11 ls (va_rf (some (ad 3)) :: va_rf (some (ad w0)) :: [])) rfl ?_
    refine lv_acmp_eq (tgt := 49) hx hb dX9_beginsOne_11 (by decide) (fun c_4 => ?_) (fun c_4 => ?_)
    · have h_5 : w0 = 3 := (hE.1.2 w0 3 hw0 (by decide) (Option.some.inj c_4))
      refine lv_iconst (v := 1) hx hb dX9_beginsOne_49 (by decide) ?_
      refine lv_goto (tgt := 54) hx hb dX9_beginsOne_50 (by decide) ?_
      exact hret 1 ([], []) _ _ _ _ dX9_beginsOne_54 (by decide) ⟨(z_w (c := 0) (d := 1) (z_lit (x := 1) (a := 1) (b := 1) rfl) rfl), rfl⟩ hP (hK.sub [] rfl) hD hS
    · have h_6 : w0 ≠ 3 := fun q9 => c_4 (by rw [q9])
      refine lv_aload_n hx hb dX9_beginsOne_14 rfl (lv_at hl 0 rfl) ?_
      refine va_gets (v := .ref (ad 15)) hx hb (hE.1.1 15 (by decide)).1 hS hown (hts _ (List.mem_of_getElem? (i := 3) rfl)) (fun _ h9 => h9) dX9_beginsOne_15 ?_
      refine W.eq (g2 := F0 m 18 ls (va_rf (some (ad 15)) :: va_rf (some (ad w0)) :: [])) rfl ?_
      refine lv_acmp_eq (tgt := 49) hx hb dX9_beginsOne_18 (by decide) (fun c_7 => ?_) (fun c_7 => ?_)
      · have h_8 : w0 = 15 := (hE.1.2 w0 15 hw0 (by decide) (Option.some.inj c_7))
        refine lv_iconst (v := 1) hx hb dX9_beginsOne_49 (by decide) ?_
        refine lv_goto (tgt := 54) hx hb dX9_beginsOne_50 (by decide) ?_
        exact hret 1 ([], []) _ _ _ _ dX9_beginsOne_54 (by decide) ⟨(z_w (c := 0) (d := 1) (z_lit (x := 1) (a := 1) (b := 1) rfl) rfl), rfl⟩ hP (hK.sub [] rfl) hD hS
      · have h_9 : w0 ≠ 15 := fun q9 => c_7 (by rw [q9])
        refine lv_aload_n hx hb dX9_beginsOne_21 rfl (lv_at hl 0 rfl) ?_
        refine va_gets (v := .ref (ad 16)) hx hb (hE.1.1 16 (by decide)).1 hS hown (hts _ (List.mem_of_getElem? (i := 4) rfl)) (fun _ h9 => h9) dX9_beginsOne_22 ?_
        refine W.eq (g2 := F0 m 25 ls (va_rf (some (ad 16)) :: va_rf (some (ad w0)) :: [])) rfl ?_
        refine lv_acmp_eq (tgt := 49) hx hb dX9_beginsOne_25 (by decide) (fun c_10 => ?_) (fun c_10 => ?_)
        · have h_11 : w0 = 16 := (hE.1.2 w0 16 hw0 (by decide) (Option.some.inj c_10))
          refine lv_iconst (v := 1) hx hb dX9_beginsOne_49 (by decide) ?_
          refine lv_goto (tgt := 54) hx hb dX9_beginsOne_50 (by decide) ?_
          exact hret 1 ([], []) _ _ _ _ dX9_beginsOne_54 (by decide) ⟨(z_w (c := 0) (d := 1) (z_lit (x := 1) (a := 1) (b := 1) rfl) rfl), rfl⟩ hP (hK.sub [] rfl) hD hS
        · have h_12 : w0 ≠ 16 := fun q9 => c_10 (by rw [q9])
          refine lv_aload_n hx hb dX9_beginsOne_28 rfl (lv_at hl 0 rfl) ?_
          refine va_gets (v := .ref (ad 17)) hx hb (hE.1.1 17 (by decide)).1 hS hown (hts _ (List.mem_of_getElem? (i := 5) rfl)) (fun _ h9 => h9) dX9_beginsOne_29 ?_
          refine W.eq (g2 := F0 m 32 ls (va_rf (some (ad 17)) :: va_rf (some (ad w0)) :: [])) rfl ?_
          refine lv_acmp_eq (tgt := 49) hx hb dX9_beginsOne_32 (by decide) (fun c_13 => ?_) (fun c_13 => ?_)
          · have h_14 : w0 = 17 := (hE.1.2 w0 17 hw0 (by decide) (Option.some.inj c_13))
            refine lv_iconst (v := 1) hx hb dX9_beginsOne_49 (by decide) ?_
            refine lv_goto (tgt := 54) hx hb dX9_beginsOne_50 (by decide) ?_
            exact hret 1 ([], []) _ _ _ _ dX9_beginsOne_54 (by decide) ⟨(z_w (c := 0) (d := 1) (z_lit (x := 1) (a := 1) (b := 1) rfl) rfl), rfl⟩ hP (hK.sub [] rfl) hD hS
          · have h_15 : w0 ≠ 17 := fun q9 => c_13 (by rw [q9])
            refine lv_aload_n hx hb dX9_beginsOne_35 rfl (lv_at hl 0 rfl) ?_
            refine va_gets (v := .ref (ad 18)) hx hb (hE.1.1 18 (by decide)).1 hS hown (hts _ (List.mem_of_getElem? (i := 6) rfl)) (fun _ h9 => h9) dX9_beginsOne_36 ?_
            refine W.eq (g2 := F0 m 39 ls (va_rf (some (ad 18)) :: va_rf (some (ad w0)) :: [])) rfl ?_
            refine lv_acmp_eq (tgt := 49) hx hb dX9_beginsOne_39 (by decide) (fun c_16 => ?_) (fun c_16 => ?_)
            · have h_17 : w0 = 18 := (hE.1.2 w0 18 hw0 (by decide) (Option.some.inj c_16))
              refine lv_iconst (v := 1) hx hb dX9_beginsOne_49 (by decide) ?_
              refine lv_goto (tgt := 54) hx hb dX9_beginsOne_50 (by decide) ?_
              exact hret 1 ([], []) _ _ _ _ dX9_beginsOne_54 (by decide) ⟨(z_w (c := 0) (d := 1) (z_lit (x := 1) (a := 1) (b := 1) rfl) rfl), rfl⟩ hP (hK.sub [] rfl) hD hS
            · have h_18 : w0 ≠ 18 := fun q9 => c_16 (by rw [q9])
              refine lv_aload_n hx hb dX9_beginsOne_42 rfl (lv_at hl 0 rfl) ?_
              have hc9 := (w_Word_countsSomething l D ad w0 hw0)
              refine z_calli (w0 := []) (wr := []) (va_runV (As := []) (rest := []) ⟨hx, hb, hml, hown, hts⟩ (hc9 _) (cwV 0 hts gX9_beginsOne_X9_countsSomething rfl rfl rfl (by decide +kernel) ⟨Nat.le_of_ble_eq_true rfl, Nat.le_of_ble_eq_true rfl⟩) (z_preE hP hD hK hS hA hE hO [] [] rfl (by decide) rfl hw0) rfl rfl hl.1 rfl (lv_room (Nat.le_of_ble_eq_true rfl)) dX9_beginsOne_43 ⟨Nat.le_of_ble_eq_true rfl, Nat.le_of_ble_eq_true rfl⟩) hP hD hK hS hA [] [] rfl rfl (by decide +kernel) (by decide +kernel) (fun y_19 u9 H locs hw hP hD hK hS => ?_)
              obtain ⟨h_20, h_21, rfl⟩ := hw
              have hP : va_P D vwCl [] H := hP
              have hD : va_D A [] := hD
              have hK : va_K D vwCl [] s := hK
              refine W.cs (cells' := 0) (slots' := 0) rfl rfl ?_
              refine W.eq (g2 := F0 m 46 ls (.int y_19 :: [])) rfl ?_
              refine lv_if_eq (tgt := 53) hx hb dX9_beginsOne_46 (by decide) (fun c_22 => ?_) (fun c_22 => ?_)
              · skip
                have h_23 : z_in 0 0 y_19 := z_leL (Int32.le_of_eq c_22) h_20 (z_lit (x := 0) (a := 0) (b := 0) rfl) rfl
                refine lv_iconst (v := 0) hx hb dX9_beginsOne_53 (by decide) ?_
                exact hret 0 ([], []) _ _ _ _ dX9_beginsOne_54 (by decide) ⟨(z_w (c := 0) (d := 1) (z_lit (x := 0) (a := 0) (b := 0) rfl) rfl), rfl⟩ hP (hK.sub [] rfl) hD hS
              · skip
                have h_24 : z_in 1 1 y_19 := z_neLo c_22 h_20 (z_lit (x := 0) (a := 0) (b := 0) rfl) rfl
                refine lv_iconst (v := 1) hx hb dX9_beginsOne_49 (by decide) ?_
                refine lv_goto (tgt := 54) hx hb dX9_beginsOne_50 (by decide) ?_
                exact hret 1 ([], []) _ _ _ _ dX9_beginsOne_54 (by decide) ⟨(z_w (c := 0) (d := 1) (z_lit (x := 1) (a := 1) (b := 1) rfl) rfl), rfl⟩ hP (hK.sub [] rfl) hD hS

set_option maxHeartbeats 8000000 in
set_option maxRecDepth 100000 in
theorem w_Sentence_clear (l : Launch) (D : va_G) (ad : Nat → Nat) (se : Nat) (set : Int32) (sei : Int32) (seo : Int32) (sel : Int32) (sec : Int32) (sep : Nat) (sept : ClassId) (sepf : Nat → Option Nat) (seg : Nat) (segt : ClassId) (segf : Nat → Int32) (sen : Nat) (sent : ClassId) (senf : Nat → Int32) (ses : Nat) (sest : ClassId) (sesf : Nat → Int32) (sew : Nat) (sewt : ClassId) (sewf : Nat → Option Nat) (hset : z_in 0 40 set) (hseo : z_in 0 1 seo) (hsel : z_in 0 40 sel) (hsec : z_in 0 20 sec) (hsepf : z_wq ad sepf) (hsewf : z_wq ad sewf) (hwse : z_wt ad sepf senf) : z_Mv l yX5_clear wsX5_clear { frames := 0, cells := 0, slots := 0, locals := 0 } D ad [.ref se] [(se, .inr (5, [.ref sep, .ref seg, .ref sen, .ref ses, .ref sew, .int set, .int sei, .int seo, .int sel, .int sec])), (sep, .inl (sept, 40, .inr (.inr (.inr (.inr sepf))))), (seg, .inl (segt, 40, .inl segf)), (sen, .inl (sent, 40, .inl senf)), (ses, .inl (sest, 40, .inl sesf)), (sew, .inl (sewt, 40, .inr (.inr (.inr (.inr sewf)))))] [(sept, .object "FuneralUmbrellas$Word"), (segt, .int), (sent, .int), (sest, .int), (sewt, .object "FuneralUmbrellas$Word")] 0 0 (fun u9 => ∃ (x0_8 : Int32) (x0_9 : Int32), z_in 0 40 x0_8 ∧ z_in 0 20 x0_9 ∧ u9 = ([(se, .inr (5, [.ref sep, .ref seg, .ref sen, .ref ses, .ref sew, .int set, .int sei, .int seo, .int x0_8, .int x0_9])), (sep, .inl (sept, 40, .inr (.inr (.inr (.inr sepf))))), (seg, .inl (segt, 40, .inl segf)), (sen, .inl (sent, 40, .inl senf)), (ses, .inl (sest, 40, .inl sesf)), (sew, .inl (sewt, 40, .inr (.inr (.inr (.inr sewf)))))], [])) := by
  refine z_ofV (cc := cX5_clear) (maxL := 1) (by decide) rfl (Nat.le_of_ble_eq_true rfl) ?_
  intro p e s m below meth c Q A ls hx hb hml hown hts hin hK hP hD hA hE hO hS hl hret
  have hown : s.vm.findClass RX5 = some m.cls := hown
  have hiX5 : ∀ w ∈ wsX50, w ∈ wsX5_clear := fun _ h9 => List.mem_cons_of_mem _ (List.mem_append_right _ h9)
  have hl : lv_has ls 1 [(0, .ref se)] := hl
  refine lv_aload_n hx hb dX5_clear_0 rfl (lv_at hl 0 rfl) ?_
  refine lv_iconst (v := 0) hx hb dX5_clear_1 (by decide) ?_
  refine va_put (D := D) (ci := 5) (v := .int 0) (ty := tyX5 8) (C := RX5) (T := TX5) (N := 10) hx hb hts hiX5 tyX5 tyX5_ok nmX5 hown hK hP hD hS 0 rfl rfl 8 (by decide) (hts _ (List.mem_of_getElem? (i := 1) rfl)) (fun _ h9 => h9) rfl (tyX5_ok 8 (by decide)) rfl rfl (Nat.le_of_ble_eq_true rfl) dX5_clear_2 (fun H locs hP hD hS => ?_)
  have hP : va_P D vwCl [(se, .inr (5, [.ref sep, .ref seg, .ref sen, .ref ses, .ref sew, .int set, .int sei, .int seo, .int 0, .int sec])), (sep, .inl (sept, 40, .inr (.inr (.inr (.inr sepf))))), (seg, .inl (segt, 40, .inl segf)), (sen, .inl (sent, 40, .inl senf)), (ses, .inl (sest, 40, .inl sesf)), (sew, .inl (sewt, 40, .inr (.inr (.inr (.inr sewf)))))] H := hP
  have hD : va_D A [(se, .inr (5, [.ref sep, .ref seg, .ref sen, .ref ses, .ref sew, .int set, .int sei, .int seo, .int 0, .int sec])), (sep, .inl (sept, 40, .inr (.inr (.inr (.inr sepf))))), (seg, .inl (segt, 40, .inl segf)), (sen, .inl (sent, 40, .inl senf)), (ses, .inl (sest, 40, .inl sesf)), (sew, .inl (sewt, 40, .inr (.inr (.inr (.inr sewf)))))] := hD
  refine lv_aload_n hx hb dX5_clear_5 rfl (lv_at hl 0 rfl) ?_
  refine lv_iconst (v := 0) hx hb dX5_clear_6 (by decide) ?_
  refine va_put (D := D) (ci := 5) (v := .int 0) (ty := tyX5 9) (C := RX5) (T := TX5) (N := 10) hx hb hts hiX5 tyX5 tyX5_ok nmX5 hown hK hP hD hS 0 rfl rfl 9 (by decide) (hts _ (List.mem_of_getElem? (i := 2) rfl)) (fun _ h9 => h9) rfl (tyX5_ok 9 (by decide)) rfl rfl (Nat.le_of_ble_eq_true rfl) dX5_clear_7 (fun H locs hP hD hS => ?_)
  have hP : va_P D vwCl [(se, .inr (5, [.ref sep, .ref seg, .ref sen, .ref ses, .ref sew, .int set, .int sei, .int seo, .int 0, .int 0])), (sep, .inl (sept, 40, .inr (.inr (.inr (.inr sepf))))), (seg, .inl (segt, 40, .inl segf)), (sen, .inl (sent, 40, .inl senf)), (ses, .inl (sest, 40, .inl sesf)), (sew, .inl (sewt, 40, .inr (.inr (.inr (.inr sewf)))))] H := hP
  have hD : va_D A [(se, .inr (5, [.ref sep, .ref seg, .ref sen, .ref ses, .ref sew, .int set, .int sei, .int seo, .int 0, .int 0])), (sep, .inl (sept, 40, .inr (.inr (.inr (.inr sepf))))), (seg, .inl (segt, 40, .inl segf)), (sen, .inl (sent, 40, .inl senf)), (ses, .inl (sest, 40, .inl sesf)), (sew, .inl (sewt, 40, .inr (.inr (.inr (.inr sewf)))))] := hD
  exact hret ([(se, .inr (5, [.ref sep, .ref seg, .ref sen, .ref ses, .ref sew, .int set, .int sei, .int seo, .int 0, .int 0])), (sep, .inl (sept, 40, .inr (.inr (.inr (.inr sepf))))), (seg, .inl (segt, 40, .inl segf)), (sen, .inl (sent, 40, .inl senf)), (ses, .inl (sest, 40, .inl sesf)), (sew, .inl (sewt, 40, .inr (.inr (.inr (.inr sewf)))))], []) _ _ _ _ dX5_clear_10 ⟨0, 0, (z_w (c := 0) (d := 40) (z_lit (x := 0) (a := 0) (b := 0) rfl) rfl), (z_w (c := 0) (d := 20) (z_lit (x := 0) (a := 0) (b := 0) rfl) rfl), rfl⟩ hP (hK.sub [] rfl) hD hS

set_option maxHeartbeats 8000000 in
set_option maxRecDepth 100000 in
theorem w_Sentence_isWhole (l : Launch) (D : va_G) (ad : Nat → Nat) (se : Nat) (set : Int32) (sei : Int32) (seo : Int32) (sel : Int32) (sec : Int32) (sep : Nat) (sept : ClassId) (sepf : Nat → Option Nat) (seg : Nat) (segt : ClassId) (segf : Nat → Int32) (sen : Nat) (sent : ClassId) (senf : Nat → Int32) (ses : Nat) (sest : ClassId) (sesf : Nat → Int32) (sew : Nat) (sewt : ClassId) (sewf : Nat → Option Nat) (hset : z_in 0 40 set) (hseo : z_in 0 1 seo) (hsel : z_in 0 40 sel) (hsec : z_in 0 20 sec) (hsepf : z_wq ad sepf) (hsewf : z_wq ad sewf) (hwse : z_wt ad sepf senf) : z_Mi l yX5_isWhole wsX5_isWhole { frames := 0, cells := 0, slots := 0, locals := 0 } D ad [.ref se] [(se, .inr (5, [.ref sep, .ref seg, .ref sen, .ref ses, .ref sew, .int set, .int sei, .int seo, .int sel, .int sec])), (sep, .inl (sept, 40, .inr (.inr (.inr (.inr sepf))))), (seg, .inl (segt, 40, .inl segf)), (sen, .inl (sent, 40, .inl senf)), (ses, .inl (sest, 40, .inl sesf)), (sew, .inl (sewt, 40, .inr (.inr (.inr (.inr sewf)))))] [(sept, .object "FuneralUmbrellas$Word"), (segt, .int), (sent, .int), (sest, .int), (sewt, .object "FuneralUmbrellas$Word")] 0 0 (fun r9 u9 => z_in 0 1 r9 ∧ (r9 = 1 → z_in 0 0 sei) ∧ (r9 = 1 → z_in 0 0 seo) ∧ z_iw r9 seo sei ∧ u9 = ([(se, .inr (5, [.ref sep, .ref seg, .ref sen, .ref ses, .ref sew, .int set, .int sei, .int seo, .int sel, .int sec])), (sep, .inl (sept, 40, .inr (.inr (.inr (.inr sepf))))), (seg, .inl (segt, 40, .inl segf)), (sen, .inl (sent, 40, .inl senf)), (ses, .inl (sest, 40, .inl sesf)), (sew, .inl (sewt, 40, .inr (.inr (.inr (.inr sewf)))))], [])) := by
  refine z_ofI (cc := cX5_isWhole) (maxL := 1) (rt := .boolean) (by decide) rfl (Nat.le_of_ble_eq_true rfl) ?_
  intro p e s m below meth c Q A ls hx hb hml hown hts hin hK hP hD hA hE hO hS hl hret
  have hown : s.vm.findClass RX5 = some m.cls := hown
  have hiX5 : ∀ w ∈ wsX50, w ∈ wsX5_isWhole := fun _ h9 => List.mem_cons_of_mem _ (List.mem_append_right _ h9)
  have hl : lv_has ls 1 [(0, .ref se)] := hl
  refine lv_aload_n hx hb dX5_isWhole_0 rfl (lv_at hl 0 rfl) ?_
  refine va_get (D := D) (ci := 5) (v := .int seo) (C := RX5) (T := TX5) (N := 10) hx hb hts hiX5 hown hK hP 0 rfl rfl 7 (by decide) (hts _ (List.mem_of_getElem? (i := 1) rfl)) (fun _ h9 => h9) rfl dX5_isWhole_1 ?_
  refine lv_if_ne (tgt := 18) hx hb dX5_isWhole_4 (by decide) (fun c_1 => ?_) (fun c_1 => ?_)
  · skip
    have h_2 : z_in 1 1 seo := z_neLo c_1 hseo (z_lit (x := 0) (a := 0) (b := 0) rfl) rfl
    refine lv_iconst (v := 0) hx hb dX5_isWhole_18 (by decide) ?_
    exact hret 0 ([(se, .inr (5, [.ref sep, .ref seg, .ref sen, .ref ses, .ref sew, .int set, .int sei, .int seo, .int sel, .int sec])), (sep, .inl (sept, 40, .inr (.inr (.inr (.inr sepf))))), (seg, .inl (segt, 40, .inl segf)), (sen, .inl (sent, 40, .inl senf)), (ses, .inl (sest, 40, .inl sesf)), (sew, .inl (sewt, 40, .inr (.inr (.inr (.inr sewf)))))], []) _ _ _ _ dX5_isWhole_19 (by decide) ⟨(z_w (c := 0) (d := 1) (z_lit (x := 0) (a := 0) (b := 0) rfl) rfl), (fun h9 => absurd h9 (by decide)), (fun h9 => absurd h9 (by decide)), (fun _ q9 => absurd (Int.le_trans h_2.1 (Int.le_of_eq q9)) (by decide)), rfl⟩ hP (hK.sub [] rfl) hD hS
  · skip
    have h_3 : z_in 0 0 seo := z_leL (Int32.le_of_eq c_1) hseo (z_lit (x := 0) (a := 0) (b := 0) rfl) rfl
    refine lv_aload_n hx hb dX5_isWhole_7 rfl (lv_at hl 0 rfl) ?_
    refine va_get (D := D) (ci := 5) (v := .int sei) (C := RX5) (T := TX5) (N := 10) hx hb hts hiX5 hown hK hP 0 rfl rfl 6 (by decide) (hts _ (List.mem_of_getElem? (i := 2) rfl)) (fun _ h9 => h9) rfl dX5_isWhole_8 ?_
    refine lv_if_ne (tgt := 18) hx hb dX5_isWhole_11 (by decide) (fun c_4 => ?_) (fun c_4 => ?_)
    · skip
      refine lv_iconst (v := 0) hx hb dX5_isWhole_18 (by decide) ?_
      exact hret 0 ([(se, .inr (5, [.ref sep, .ref seg, .ref sen, .ref ses, .ref sew, .int set, .int sei, .int seo, .int sel, .int sec])), (sep, .inl (sept, 40, .inr (.inr (.inr (.inr sepf))))), (seg, .inl (segt, 40, .inl segf)), (sen, .inl (sent, 40, .inl senf)), (ses, .inl (sest, 40, .inl sesf)), (sew, .inl (sewt, 40, .inr (.inr (.inr (.inr sewf)))))], []) _ _ _ _ dX5_isWhole_19 (by decide) ⟨(z_w (c := 0) (d := 1) (z_lit (x := 0) (a := 0) (b := 0) rfl) rfl), (fun h9 => absurd h9 (by decide)), (fun h9 => absurd h9 (by decide)), (fun _ _ => c_4), rfl⟩ hP (hK.sub [] rfl) hD hS
    · skip
      have h_5 : z_in (-2147483648) 0 sei := z_leL (Int32.le_of_eq c_4) (z_any sei) (z_lit (x := 0) (a := 0) (b := 0) rfl) rfl
      have h_6 : z_in 0 0 sei := z_leR (Int32.le_of_eq (Eq.symm c_4)) (z_lit (x := 0) (a := 0) (b := 0) rfl) h_5 rfl
      refine lv_iconst (v := 1) hx hb dX5_isWhole_14 (by decide) ?_
      refine lv_goto (tgt := 19) hx hb dX5_isWhole_15 (by decide) ?_
      exact hret 1 ([(se, .inr (5, [.ref sep, .ref seg, .ref sen, .ref ses, .ref sew, .int set, .int sei, .int seo, .int sel, .int sec])), (sep, .inl (sept, 40, .inr (.inr (.inr (.inr sepf))))), (seg, .inl (segt, 40, .inl segf)), (sen, .inl (sent, 40, .inl senf)), (ses, .inl (sest, 40, .inl sesf)), (sew, .inl (sewt, 40, .inr (.inr (.inr (.inr sewf)))))], []) _ _ _ _ dX5_isWhole_19 (by decide) ⟨(z_w (c := 0) (d := 1) (z_lit (x := 1) (a := 1) (b := 1) rfl) rfl), (fun _ => h_6), (fun _ => h_3), (fun h9 => absurd h9 (by decide)), rfl⟩ hP (hK.sub [] rfl) hD hS

set_option maxHeartbeats 8000000 in
set_option maxRecDepth 100000 in
theorem w_Sentence_addStep (l : Launch) (D : va_G) (ad : Nat → Nat) (se : Nat) (set : Int32) (sei : Int32) (seo : Int32) (sel : Int32) (sec : Int32) (sep : Nat) (sept : ClassId) (sepf : Nat → Option Nat) (seg : Nat) (segt : ClassId) (segf : Nat → Int32) (sen : Nat) (sent : ClassId) (senf : Nat → Int32) (ses : Nat) (sest : ClassId) (sesf : Nat → Int32) (sew : Nat) (sewt : ClassId) (sewf : Nat → Option Nat) (w0 : Nat) (i0 : Int32) (i1 : Int32) (hset : z_in 0 40 set) (hseo : z_in 0 1 seo) (hsel : z_in 0 40 sel) (hsec : z_in 0 20 sec) (hsepf : z_wq ad sepf) (hsewf : z_wq ad sewf) (hw0 : w0 < 22) (hwse : z_wt ad sepf senf) (hws : z_ws w0 i1) : z_Mi l yX5_addStep wsX5_addStep { frames := 0, cells := 0, slots := 0, locals := 0 } D ad [.ref se, .ref (ad w0), .int i0, .int i1] [(se, .inr (5, [.ref sep, .ref seg, .ref sen, .ref ses, .ref sew, .int set, .int sei, .int seo, .int sel, .int sec])), (sep, .inl (sept, 40, .inr (.inr (.inr (.inr sepf))))), (seg, .inl (segt, 40, .inl segf)), (sen, .inl (sent, 40, .inl senf)), (ses, .inl (sest, 40, .inl sesf)), (sew, .inl (sewt, 40, .inr (.inr (.inr (.inr sewf)))))] [(sept, .object "FuneralUmbrellas$Word"), (segt, .int), (sent, .int), (sest, .int), (sewt, .object "FuneralUmbrellas$Word")] 0 0 (fun r9 u9 => ∃ (x0_8 : Int32) (x1_f : Nat → Option Nat) (x2_f : Nat → Int32) (x3_f : Nat → Int32), z_in 0 40 x0_8 ∧ z_wq ad x1_f ∧ z_in 0 1 r9 ∧ (r9 = 0 → z_in 40 40 sel) ∧ (r9 = 0 → z_in 40 40 x0_8) ∧ (r9 = 1 → z_in 0 39 sel) ∧ (r9 = 1 → z_in 1 40 x0_8) ∧ z_wt ad x1_f x3_f ∧ u9 = ([(se, .inr (5, [.ref sep, .ref seg, .ref sen, .ref ses, .ref sew, .int set, .int sei, .int seo, .int x0_8, .int sec])), (sep, .inl (sept, 40, .inr (.inr (.inr (.inr x1_f))))), (seg, .inl (segt, 40, .inl x2_f)), (sen, .inl (sent, 40, .inl x3_f)), (ses, .inl (sest, 40, .inl sesf)), (sew, .inl (sewt, 40, .inr (.inr (.inr (.inr sewf)))))], [])) := by
  refine z_ofI (cc := cX5_addStep) (maxL := 4) (rt := .boolean) (by decide) rfl (Nat.le_of_ble_eq_true rfl) ?_
  intro p e s m below meth c Q A ls hx hb hml hown hts hin hK hP hD hA hE hO hS hl hret
  have hown : s.vm.findClass RX5 = some m.cls := hown
  have hiX5 : ∀ w ∈ wsX50, w ∈ wsX5_addStep := fun _ h9 => List.mem_cons_of_mem _ (List.mem_append_right _ h9)
  have hl : lv_has ls 4 [(0, .ref se), (1, .ref (ad w0)), (2, .int i0), (3, .int i1)] := hl
  refine lv_aload_n hx hb dX5_addStep_0 rfl (lv_at hl 0 rfl) ?_
  refine va_get (D := D) (ci := 5) (v := .int sel) (C := RX5) (T := TX5) (N := 10) hx hb hts hiX5 hown hK hP 0 rfl rfl 8 (by decide) (hts _ (List.mem_of_getElem? (i := 1) rfl)) (fun _ h9 => h9) rfl dX5_addStep_1 ?_
  refine lv_bipush (v := 40) hx hb dX5_addStep_4 (by decide) ?_
  refine lv_icmp_lt (tgt := 11) hx hb dX5_addStep_6 (by decide) (fun c_1 => ?_) (fun c_1 => ?_)
  · skip
    have h_2 : z_in 0 39 sel := z_ltL c_1 hsel (z_lit (x := 40) (a := 40) (b := 40) rfl) rfl
    refine lv_aload_n hx hb dX5_addStep_11 rfl (lv_at hl 0 rfl) ?_
    refine va_get (D := D) (ci := 5) (v := .ref sep) (C := RX5) (T := TX5) (N := 10) hx hb hts hiX5 hown hK hP 0 rfl rfl 0 (by decide) (hts _ (List.mem_of_getElem? (i := 2) rfl)) (fun _ h9 => h9) rfl dX5_addStep_12 ?_
    refine lv_aload_n hx hb dX5_addStep_15 rfl (lv_at hl 0 rfl) ?_
    refine va_get (D := D) (ci := 5) (v := .int sel) (C := RX5) (T := TX5) (N := 10) hx hb hts hiX5 hown hK hP 0 rfl rfl 8 (by decide) (hts _ (List.mem_of_getElem? (i := 1) rfl)) (fun _ h9 => h9) rfl dX5_addStep_16 ?_
    refine lv_aload_n hx hb dX5_addStep_19 rfl (lv_at hl 1 rfl) ?_
    refine va_astqM hx hb hK hP hD hS 1 0 rfl rfl (z_anyW hE hw0 hS) (z_vp h_2 rfl) dX5_addStep_20 (fun H locs hP hD hS => ?_)
    have h_4 : z_wq ad (va_up sepf (sel : Int32).toNatClampNeg (some (ad w0))) := z_wqu hsepf hw0
    generalize ef_3 : (va_up sepf (sel : Int32).toNatClampNeg (some (ad w0))) = f_3 at hP hD h_4
    have hP : va_P D vwCl [(se, .inr (5, [.ref sep, .ref seg, .ref sen, .ref ses, .ref sew, .int set, .int sei, .int seo, .int sel, .int sec])), (sep, .inl (sept, 40, .inr (.inr (.inr (.inr f_3))))), (seg, .inl (segt, 40, .inl segf)), (sen, .inl (sent, 40, .inl senf)), (ses, .inl (sest, 40, .inl sesf)), (sew, .inl (sewt, 40, .inr (.inr (.inr (.inr sewf)))))] H := hP
    have hD : va_D A [(se, .inr (5, [.ref sep, .ref seg, .ref sen, .ref ses, .ref sew, .int set, .int sei, .int seo, .int sel, .int sec])), (sep, .inl (sept, 40, .inr (.inr (.inr (.inr f_3))))), (seg, .inl (segt, 40, .inl segf)), (sen, .inl (sent, 40, .inl senf)), (ses, .inl (sest, 40, .inl sesf)), (sew, .inl (sewt, 40, .inr (.inr (.inr (.inr sewf)))))] := hD
    refine lv_aload_n hx hb dX5_addStep_21 rfl (lv_at hl 0 rfl) ?_
    refine va_get (D := D) (ci := 5) (v := .ref seg) (C := RX5) (T := TX5) (N := 10) hx hb hts hiX5 hown hK hP 0 rfl rfl 1 (by decide) (hts _ (List.mem_of_getElem? (i := 3) rfl)) (fun _ h9 => h9) rfl dX5_addStep_22 ?_
    refine lv_aload_n hx hb dX5_addStep_25 rfl (lv_at hl 0 rfl) ?_
    refine va_get (D := D) (ci := 5) (v := .int sel) (C := RX5) (T := TX5) (N := 10) hx hb hts hiX5 hown hK hP 0 rfl rfl 8 (by decide) (hts _ (List.mem_of_getElem? (i := 1) rfl)) (fun _ h9 => h9) rfl dX5_addStep_26 ?_
    refine lv_iload_n hx hb dX5_addStep_29 rfl (lv_at hl 2 rfl) ?_
    refine va_iast hx hb hK hP hD hS 2 1 rfl rfl (z_vp h_2 rfl) dX5_addStep_30 (fun H locs hP hD hS => ?_)
    generalize ef_5 : (upd segf (sel : Int32).toNatClampNeg i0) = f_5 at hP hD
    have hP : va_P D vwCl [(se, .inr (5, [.ref sep, .ref seg, .ref sen, .ref ses, .ref sew, .int set, .int sei, .int seo, .int sel, .int sec])), (sep, .inl (sept, 40, .inr (.inr (.inr (.inr f_3))))), (seg, .inl (segt, 40, .inl f_5)), (sen, .inl (sent, 40, .inl senf)), (ses, .inl (sest, 40, .inl sesf)), (sew, .inl (sewt, 40, .inr (.inr (.inr (.inr sewf)))))] H := hP
    have hD : va_D A [(se, .inr (5, [.ref sep, .ref seg, .ref sen, .ref ses, .ref sew, .int set, .int sei, .int seo, .int sel, .int sec])), (sep, .inl (sept, 40, .inr (.inr (.inr (.inr f_3))))), (seg, .inl (segt, 40, .inl f_5)), (sen, .inl (sent, 40, .inl senf)), (ses, .inl (sest, 40, .inl sesf)), (sew, .inl (sewt, 40, .inr (.inr (.inr (.inr sewf)))))] := hD
    refine lv_aload_n hx hb dX5_addStep_31 rfl (lv_at hl 0 rfl) ?_
    refine va_get (D := D) (ci := 5) (v := .ref sen) (C := RX5) (T := TX5) (N := 10) hx hb hts hiX5 hown hK hP 0 rfl rfl 2 (by decide) (hts _ (List.mem_of_getElem? (i := 4) rfl)) (fun _ h9 => h9) rfl dX5_addStep_32 ?_
    refine lv_aload_n hx hb dX5_addStep_35 rfl (lv_at hl 0 rfl) ?_
    refine va_get (D := D) (ci := 5) (v := .int sel) (C := RX5) (T := TX5) (N := 10) hx hb hts hiX5 hown hK hP 0 rfl rfl 8 (by decide) (hts _ (List.mem_of_getElem? (i := 1) rfl)) (fun _ h9 => h9) rfl dX5_addStep_36 ?_
    refine lv_iload_n hx hb dX5_addStep_39 rfl (lv_at hl 3 rfl) ?_
    refine va_iast hx hb hK hP hD hS 3 2 rfl rfl (z_vp h_2 rfl) dX5_addStep_40 (fun H locs hP hD hS => ?_)
    generalize ef_6 : (upd senf (sel : Int32).toNatClampNeg i1) = f_6 at hP hD
    have hP : va_P D vwCl [(se, .inr (5, [.ref sep, .ref seg, .ref sen, .ref ses, .ref sew, .int set, .int sei, .int seo, .int sel, .int sec])), (sep, .inl (sept, 40, .inr (.inr (.inr (.inr f_3))))), (seg, .inl (segt, 40, .inl f_5)), (sen, .inl (sent, 40, .inl f_6)), (ses, .inl (sest, 40, .inl sesf)), (sew, .inl (sewt, 40, .inr (.inr (.inr (.inr sewf)))))] H := hP
    have hD : va_D A [(se, .inr (5, [.ref sep, .ref seg, .ref sen, .ref ses, .ref sew, .int set, .int sei, .int seo, .int sel, .int sec])), (sep, .inl (sept, 40, .inr (.inr (.inr (.inr f_3))))), (seg, .inl (segt, 40, .inl f_5)), (sen, .inl (sent, 40, .inl f_6)), (ses, .inl (sest, 40, .inl sesf)), (sew, .inl (sewt, 40, .inr (.inr (.inr (.inr sewf)))))] := hD
    refine lv_aload_n hx hb dX5_addStep_41 rfl (lv_at hl 0 rfl) ?_
    refine lv_dup hx hb dX5_addStep_42 rfl ?_
    refine va_get (D := D) (ci := 5) (v := .int sel) (C := RX5) (T := TX5) (N := 10) hx hb hts hiX5 hown hK hP 0 rfl rfl 8 (by decide) (hts _ (List.mem_of_getElem? (i := 1) rfl)) (fun _ h9 => h9) rfl dX5_addStep_43 ?_
    refine lv_iconst (v := 1) hx hb dX5_addStep_46 (by decide) ?_
    refine lv_iadd hx hb dX5_addStep_47 ?_
    refine lv_topi (fun y_7 ey_7 => ?_)
    have h_8 : z_in 1 40 y_7 := by rw [ey_7]; exact z_add h_2 (z_lit (x := 1) (a := 1) (b := 1) rfl) rfl rfl
    have ty_7 : y_7.toInt = sel.toInt + 1 := by rw [ey_7]; exact (z_addT h_2 (z_lit (x := 1) (a := 1) (b := 1) rfl) rfl).trans rfl
    refine va_put (D := D) (ci := 5) (v := .int y_7) (ty := tyX5 8) (C := RX5) (T := TX5) (N := 10) hx hb hts hiX5 tyX5 tyX5_ok nmX5 hown hK hP hD hS 0 rfl rfl 8 (by decide) (hts _ (List.mem_of_getElem? (i := 1) rfl)) (fun _ h9 => h9) rfl (tyX5_ok 8 (by decide)) rfl rfl (Nat.le_of_ble_eq_true rfl) dX5_addStep_48 (fun H locs hP hD hS => ?_)
    have hP : va_P D vwCl [(se, .inr (5, [.ref sep, .ref seg, .ref sen, .ref ses, .ref sew, .int set, .int sei, .int seo, .int y_7, .int sec])), (sep, .inl (sept, 40, .inr (.inr (.inr (.inr f_3))))), (seg, .inl (segt, 40, .inl f_5)), (sen, .inl (sent, 40, .inl f_6)), (ses, .inl (sest, 40, .inl sesf)), (sew, .inl (sewt, 40, .inr (.inr (.inr (.inr sewf)))))] H := hP
    have hD : va_D A [(se, .inr (5, [.ref sep, .ref seg, .ref sen, .ref ses, .ref sew, .int set, .int sei, .int seo, .int y_7, .int sec])), (sep, .inl (sept, 40, .inr (.inr (.inr (.inr f_3))))), (seg, .inl (segt, 40, .inl f_5)), (sen, .inl (sent, 40, .inl f_6)), (ses, .inl (sest, 40, .inl sesf)), (sew, .inl (sewt, 40, .inr (.inr (.inr (.inr sewf)))))] := hD
    refine lv_iconst (v := 1) hx hb dX5_addStep_51 (by decide) ?_
    exact hret 1 ([(se, .inr (5, [.ref sep, .ref seg, .ref sen, .ref ses, .ref sew, .int set, .int sei, .int seo, .int y_7, .int sec])), (sep, .inl (sept, 40, .inr (.inr (.inr (.inr f_3))))), (seg, .inl (segt, 40, .inl f_5)), (sen, .inl (sent, 40, .inl f_6)), (ses, .inl (sest, 40, .inl sesf)), (sew, .inl (sewt, 40, .inr (.inr (.inr (.inr sewf)))))], []) _ _ _ _ dX5_addStep_52 (by decide) ⟨y_7, f_3, f_5, f_6, (z_w (c := 0) (d := 40) h_8 rfl), h_4, (z_w (c := 0) (d := 1) (z_lit (x := 1) (a := 1) (b := 1) rfl) rfl), (fun h9 => absurd h9 (by decide)), (fun h9 => absurd h9 (by decide)), (fun _ => h_2), (fun _ => h_8), (by rw [← ef_3, ← ef_6]; exact z_wtu hE.1.2 hwse hw0 hws), rfl⟩ hP (hK.sub [] rfl) hD hS
  · skip
    have h_9 : z_in 40 40 sel := z_leR (Int32.not_lt.mp c_1) (z_lit (x := 40) (a := 40) (b := 40) rfl) hsel rfl
    refine lv_iconst (v := 0) hx hb dX5_addStep_9 (by decide) ?_
    exact hret 0 ([(se, .inr (5, [.ref sep, .ref seg, .ref sen, .ref ses, .ref sew, .int set, .int sei, .int seo, .int sel, .int sec])), (sep, .inl (sept, 40, .inr (.inr (.inr (.inr sepf))))), (seg, .inl (segt, 40, .inl segf)), (sen, .inl (sent, 40, .inl senf)), (ses, .inl (sest, 40, .inl sesf)), (sew, .inl (sewt, 40, .inr (.inr (.inr (.inr sewf)))))], []) _ _ _ _ dX5_addStep_10 (by decide) ⟨sel, sepf, segf, senf, (z_w (c := 0) (d := 40) h_9 rfl), hsepf, (z_w (c := 0) (d := 1) (z_lit (x := 0) (a := 0) (b := 0) rfl) rfl), (fun _ => h_9), (fun _ => h_9), (fun h9 => absurd h9 (by decide)), (fun h9 => absurd h9 (by decide)), hwse, rfl⟩ hP (hK.sub [] rfl) hD hS

set_option maxHeartbeats 8000000 in
set_option maxRecDepth 100000 in
theorem w_Sentence_addWaitingA (l : Launch) (D : va_G) (ad : Nat → Nat) (se : Nat) (set : Int32) (sei : Int32) (seo : Int32) (sel : Int32) (sec : Int32) (sep : Nat) (sept : ClassId) (sepf : Nat → Option Nat) (seg : Nat) (segt : ClassId) (segf : Nat → Int32) (sen : Nat) (sent : ClassId) (senf : Nat → Int32) (ses : Nat) (sest : ClassId) (sesf : Nat → Int32) (sew : Nat) (sewt : ClassId) (sewf : Nat → Option Nat) (w0 : Nat) (hset : z_in 0 40 set) (hseo : z_in 0 1 seo) (hsel : z_in 0 40 sel) (hsec : z_in 0 20 sec) (hsepf : z_wq ad sepf) (hsewf : z_wq ad sewf) (hw0 : w0 < 22) (hwse : z_wt ad sepf senf) (h13 : z_wne w0 13) (h12 : z_wne w0 12) (hcm : z_wcm ad sewf set sei) : z_Mi l yX5_addWaiting wsX5_addWaiting { frames := 0, cells := 0, slots := 0, locals := 0 } D ad [.ref se, .ref (ad w0)] [(se, .inr (5, [.ref sep, .ref seg, .ref sen, .ref ses, .ref sew, .int set, .int sei, .int seo, .int sel, .int sec])), (sep, .inl (sept, 40, .inr (.inr (.inr (.inr sepf))))), (seg, .inl (segt, 40, .inl segf)), (sen, .inl (sent, 40, .inl senf)), (ses, .inl (sest, 40, .inl sesf)), (sew, .inl (sewt, 40, .inr (.inr (.inr (.inr sewf)))))] [(sept, .object "FuneralUmbrellas$Word"), (segt, .int), (sent, .int), (sest, .int), (sewt, .object "FuneralUmbrellas$Word")] 0 0 (fun r9 u9 => ∃ (x0_5 : Int32) (x5_f : Nat → Option Nat), z_in 0 40 x0_5 ∧ z_wq ad x5_f ∧ z_in 0 1 r9 ∧ (r9 = 0 → z_in 40 40 set) ∧ (r9 = 0 → z_in 40 40 x0_5) ∧ (r9 = 1 → z_in 0 39 set) ∧ (r9 = 1 → z_in 1 40 x0_5) ∧ (r9 = 1 → z_wc ad x5_f x0_5 sei) ∧ u9 = ([(se, .inr (5, [.ref sep, .ref seg, .ref sen, .ref ses, .ref sew, .int x0_5, .int sei, .int seo, .int sel, .int sec])), (sep, .inl (sept, 40, .inr (.inr (.inr (.inr sepf))))), (seg, .inl (segt, 40, .inl segf)), (sen, .inl (sent, 40, .inl senf)), (ses, .inl (sest, 40, .inl sesf)), (sew, .inl (sewt, 40, .inr (.inr (.inr (.inr x5_f)))))], [])) := by
  refine z_ofI (cc := cX5_addWaiting) (maxL := 2) (rt := .boolean) (by decide) rfl (Nat.le_of_ble_eq_true rfl) ?_
  intro p e s m below meth c Q A ls hx hb hml hown hts hin hK hP hD hA hE hO hS hl hret
  have hown : s.vm.findClass RX5 = some m.cls := hown
  have hiX5 : ∀ w ∈ wsX50, w ∈ wsX5_addWaiting := fun _ h9 => List.mem_cons_of_mem _ (List.mem_append_right _ h9)
  have hl : lv_has ls 2 [(0, .ref se), (1, .ref (ad w0))] := hl
  refine lv_aload_n hx hb dX5_addWaiting_0 rfl (lv_at hl 0 rfl) ?_
  refine va_get (D := D) (ci := 5) (v := .int set) (C := RX5) (T := TX5) (N := 10) hx hb hts hiX5 hown hK hP 0 rfl rfl 5 (by decide) (hts _ (List.mem_of_getElem? (i := 1) rfl)) (fun _ h9 => h9) rfl dX5_addWaiting_1 ?_
  refine lv_bipush (v := 40) hx hb dX5_addWaiting_4 (by decide) ?_
  refine lv_icmp_lt (tgt := 11) hx hb dX5_addWaiting_6 (by decide) (fun c_1 => ?_) (fun c_1 => ?_)
  · skip
    have h_2 : z_in 0 39 set := z_ltL c_1 hset (z_lit (x := 40) (a := 40) (b := 40) rfl) rfl
    refine lv_aload_n hx hb dX5_addWaiting_11 rfl (lv_at hl 0 rfl) ?_
    refine va_get (D := D) (ci := 5) (v := .ref sew) (C := RX5) (T := TX5) (N := 10) hx hb hts hiX5 hown hK hP 0 rfl rfl 4 (by decide) (hts _ (List.mem_of_getElem? (i := 2) rfl)) (fun _ h9 => h9) rfl dX5_addWaiting_12 ?_
    refine lv_aload_n hx hb dX5_addWaiting_15 rfl (lv_at hl 0 rfl) ?_
    refine va_get (D := D) (ci := 5) (v := .int set) (C := RX5) (T := TX5) (N := 10) hx hb hts hiX5 hown hK hP 0 rfl rfl 5 (by decide) (hts _ (List.mem_of_getElem? (i := 1) rfl)) (fun _ h9 => h9) rfl dX5_addWaiting_16 ?_
    refine lv_aload_n hx hb dX5_addWaiting_19 rfl (lv_at hl 1 rfl) ?_
    refine va_astqM hx hb hK hP hD hS 5 4 rfl rfl (z_anyW hE hw0 hS) (z_vp h_2 rfl) dX5_addWaiting_20 (fun H locs hP hD hS => ?_)
    have h_4 : z_wq ad (va_up sewf (set : Int32).toNatClampNeg (some (ad w0))) := z_wqu hsewf hw0
    generalize ef_3 : (va_up sewf (set : Int32).toNatClampNeg (some (ad w0))) = f_3 at hP hD h_4
    have hP : va_P D vwCl [(se, .inr (5, [.ref sep, .ref seg, .ref sen, .ref ses, .ref sew, .int set, .int sei, .int seo, .int sel, .int sec])), (sep, .inl (sept, 40, .inr (.inr (.inr (.inr sepf))))), (seg, .inl (segt, 40, .inl segf)), (sen, .inl (sent, 40, .inl senf)), (ses, .inl (sest, 40, .inl sesf)), (sew, .inl (sewt, 40, .inr (.inr (.inr (.inr f_3)))))] H := hP
    have hD : va_D A [(se, .inr (5, [.ref sep, .ref seg, .ref sen, .ref ses, .ref sew, .int set, .int sei, .int seo, .int sel, .int sec])), (sep, .inl (sept, 40, .inr (.inr (.inr (.inr sepf))))), (seg, .inl (segt, 40, .inl segf)), (sen, .inl (sent, 40, .inl senf)), (ses, .inl (sest, 40, .inl sesf)), (sew, .inl (sewt, 40, .inr (.inr (.inr (.inr f_3)))))] := hD
    refine lv_aload_n hx hb dX5_addWaiting_21 rfl (lv_at hl 0 rfl) ?_
    refine lv_dup hx hb dX5_addWaiting_22 rfl ?_
    refine va_get (D := D) (ci := 5) (v := .int set) (C := RX5) (T := TX5) (N := 10) hx hb hts hiX5 hown hK hP 0 rfl rfl 5 (by decide) (hts _ (List.mem_of_getElem? (i := 1) rfl)) (fun _ h9 => h9) rfl dX5_addWaiting_23 ?_
    refine lv_iconst (v := 1) hx hb dX5_addWaiting_26 (by decide) ?_
    refine lv_iadd hx hb dX5_addWaiting_27 ?_
    refine lv_topi (fun y_5 ey_5 => ?_)
    have h_6 : z_in 1 40 y_5 := by rw [ey_5]; exact z_add h_2 (z_lit (x := 1) (a := 1) (b := 1) rfl) rfl rfl
    have ty_5 : y_5.toInt = set.toInt + 1 := by rw [ey_5]; exact (z_addT h_2 (z_lit (x := 1) (a := 1) (b := 1) rfl) rfl).trans rfl
    refine va_put (D := D) (ci := 5) (v := .int y_5) (ty := tyX5 5) (C := RX5) (T := TX5) (N := 10) hx hb hts hiX5 tyX5 tyX5_ok nmX5 hown hK hP hD hS 0 rfl rfl 5 (by decide) (hts _ (List.mem_of_getElem? (i := 1) rfl)) (fun _ h9 => h9) rfl (tyX5_ok 5 (by decide)) rfl rfl (Nat.le_of_ble_eq_true rfl) dX5_addWaiting_28 (fun H locs hP hD hS => ?_)
    have hP : va_P D vwCl [(se, .inr (5, [.ref sep, .ref seg, .ref sen, .ref ses, .ref sew, .int y_5, .int sei, .int seo, .int sel, .int sec])), (sep, .inl (sept, 40, .inr (.inr (.inr (.inr sepf))))), (seg, .inl (segt, 40, .inl segf)), (sen, .inl (sent, 40, .inl senf)), (ses, .inl (sest, 40, .inl sesf)), (sew, .inl (sewt, 40, .inr (.inr (.inr (.inr f_3)))))] H := hP
    have hD : va_D A [(se, .inr (5, [.ref sep, .ref seg, .ref sen, .ref ses, .ref sew, .int y_5, .int sei, .int seo, .int sel, .int sec])), (sep, .inl (sept, 40, .inr (.inr (.inr (.inr sepf))))), (seg, .inl (segt, 40, .inl segf)), (sen, .inl (sent, 40, .inl senf)), (ses, .inl (sest, 40, .inl sesf)), (sew, .inl (sewt, 40, .inr (.inr (.inr (.inr f_3)))))] := hD
    refine lv_iconst (v := 1) hx hb dX5_addWaiting_31 (by decide) ?_
    exact hret 1 ([(se, .inr (5, [.ref sep, .ref seg, .ref sen, .ref ses, .ref sew, .int y_5, .int sei, .int seo, .int sel, .int sec])), (sep, .inl (sept, 40, .inr (.inr (.inr (.inr sepf))))), (seg, .inl (segt, 40, .inl segf)), (sen, .inl (sent, 40, .inl senf)), (ses, .inl (sest, 40, .inl sesf)), (sew, .inl (sewt, 40, .inr (.inr (.inr (.inr f_3)))))], []) _ _ _ _ dX5_addWaiting_32 (by decide) ⟨y_5, f_3, (z_w (c := 0) (d := 40) h_6 rfl), h_4, (z_w (c := 0) (d := 1) (z_lit (x := 1) (a := 1) (b := 1) rfl) rfl), (fun h9 => absurd h9 (by decide)), (fun h9 => absurd h9 (by decide)), (fun _ => h_2), (fun _ => h_6), (fun _ => (by rw [← ef_3]; exact z_wcU hE.1.2 hcm (Int.le_trans (by decide) h_2.1) hw0 h13 h12 ty_5)), rfl⟩ hP (hK.sub [] rfl) hD hS
  · skip
    have h_7 : z_in 40 40 set := z_leR (Int32.not_lt.mp c_1) (z_lit (x := 40) (a := 40) (b := 40) rfl) hset rfl
    refine lv_iconst (v := 0) hx hb dX5_addWaiting_9 (by decide) ?_
    exact hret 0 ([(se, .inr (5, [.ref sep, .ref seg, .ref sen, .ref ses, .ref sew, .int set, .int sei, .int seo, .int sel, .int sec])), (sep, .inl (sept, 40, .inr (.inr (.inr (.inr sepf))))), (seg, .inl (segt, 40, .inl segf)), (sen, .inl (sent, 40, .inl senf)), (ses, .inl (sest, 40, .inl sesf)), (sew, .inl (sewt, 40, .inr (.inr (.inr (.inr sewf)))))], []) _ _ _ _ dX5_addWaiting_10 (by decide) ⟨set, sewf, (z_w (c := 0) (d := 40) h_7 rfl), hsewf, (z_w (c := 0) (d := 1) (z_lit (x := 0) (a := 0) (b := 0) rfl) rfl), (fun _ => h_7), (fun _ => h_7), (fun h9 => absurd h9 (by decide)), (fun h9 => absurd h9 (by decide)), (fun h9 => absurd h9 (by decide)), rfl⟩ hP (hK.sub [] rfl) hD hS

set_option maxHeartbeats 8000000 in
set_option maxRecDepth 100000 in
theorem w_Sentence_addWaitingB (l : Launch) (D : va_G) (ad : Nat → Nat) (se : Nat) (set : Int32) (sei : Int32) (seo : Int32) (sel : Int32) (sec : Int32) (sep : Nat) (sept : ClassId) (sepf : Nat → Option Nat) (seg : Nat) (segt : ClassId) (segf : Nat → Int32) (sen : Nat) (sent : ClassId) (senf : Nat → Int32) (ses : Nat) (sest : ClassId) (sesf : Nat → Int32) (sew : Nat) (sewt : ClassId) (sewf : Nat → Option Nat) (w0 : Nat) (hset : z_in 0 40 set) (hseo : z_in 0 1 seo) (hsel : z_in 0 40 sel) (hsec : z_in 0 20 sec) (hsepf : z_wq ad sepf) (hsewf : z_wq ad sewf) (hw0 : w0 < 22) (hwse : z_wt ad sepf senf) (hwj : z_wj w0) (hc0 : z_wc ad sewf set sei) : z_Mi l yX5_addWaiting wsX5_addWaiting { frames := 0, cells := 0, slots := 0, locals := 0 } D ad [.ref se, .ref (ad w0)] [(se, .inr (5, [.ref sep, .ref seg, .ref sen, .ref ses, .ref sew, .int set, .int sei, .int seo, .int sel, .int sec])), (sep, .inl (sept, 40, .inr (.inr (.inr (.inr sepf))))), (seg, .inl (segt, 40, .inl segf)), (sen, .inl (sent, 40, .inl senf)), (ses, .inl (sest, 40, .inl sesf)), (sew, .inl (sewt, 40, .inr (.inr (.inr (.inr sewf)))))] [(sept, .object "FuneralUmbrellas$Word"), (segt, .int), (sent, .int), (sest, .int), (sewt, .object "FuneralUmbrellas$Word")] 0 0 (fun r9 u9 => ∃ (x0_5 : Int32) (x5_f : Nat → Option Nat), z_in 0 40 x0_5 ∧ z_wq ad x5_f ∧ z_in 0 1 r9 ∧ (r9 = 0 → z_in 40 40 set) ∧ (r9 = 0 → z_in 40 40 x0_5) ∧ (r9 = 1 → z_in 0 39 set) ∧ (r9 = 1 → z_in 1 40 x0_5) ∧ (r9 = 1 → z_wc ad x5_f x0_5 sei) ∧ u9 = ([(se, .inr (5, [.ref sep, .ref seg, .ref sen, .ref ses, .ref sew, .int x0_5, .int sei, .int seo, .int sel, .int sec])), (sep, .inl (sept, 40, .inr (.inr (.inr (.inr sepf))))), (seg, .inl (segt, 40, .inl segf)), (sen, .inl (sent, 40, .inl senf)), (ses, .inl (sest, 40, .inl sesf)), (sew, .inl (sewt, 40, .inr (.inr (.inr (.inr x5_f)))))], [])) := by
  refine z_ofI (cc := cX5_addWaiting) (maxL := 2) (rt := .boolean) (by decide) rfl (Nat.le_of_ble_eq_true rfl) ?_
  intro p e s m below meth c Q A ls hx hb hml hown hts hin hK hP hD hA hE hO hS hl hret
  have hown : s.vm.findClass RX5 = some m.cls := hown
  have hiX5 : ∀ w ∈ wsX50, w ∈ wsX5_addWaiting := fun _ h9 => List.mem_cons_of_mem _ (List.mem_append_right _ h9)
  have hl : lv_has ls 2 [(0, .ref se), (1, .ref (ad w0))] := hl
  refine lv_aload_n hx hb dX5_addWaiting_0 rfl (lv_at hl 0 rfl) ?_
  refine va_get (D := D) (ci := 5) (v := .int set) (C := RX5) (T := TX5) (N := 10) hx hb hts hiX5 hown hK hP 0 rfl rfl 5 (by decide) (hts _ (List.mem_of_getElem? (i := 1) rfl)) (fun _ h9 => h9) rfl dX5_addWaiting_1 ?_
  refine lv_bipush (v := 40) hx hb dX5_addWaiting_4 (by decide) ?_
  refine lv_icmp_lt (tgt := 11) hx hb dX5_addWaiting_6 (by decide) (fun c_1 => ?_) (fun c_1 => ?_)
  · skip
    have h_2 : z_in 0 39 set := z_ltL c_1 hset (z_lit (x := 40) (a := 40) (b := 40) rfl) rfl
    refine lv_aload_n hx hb dX5_addWaiting_11 rfl (lv_at hl 0 rfl) ?_
    refine va_get (D := D) (ci := 5) (v := .ref sew) (C := RX5) (T := TX5) (N := 10) hx hb hts hiX5 hown hK hP 0 rfl rfl 4 (by decide) (hts _ (List.mem_of_getElem? (i := 2) rfl)) (fun _ h9 => h9) rfl dX5_addWaiting_12 ?_
    refine lv_aload_n hx hb dX5_addWaiting_15 rfl (lv_at hl 0 rfl) ?_
    refine va_get (D := D) (ci := 5) (v := .int set) (C := RX5) (T := TX5) (N := 10) hx hb hts hiX5 hown hK hP 0 rfl rfl 5 (by decide) (hts _ (List.mem_of_getElem? (i := 1) rfl)) (fun _ h9 => h9) rfl dX5_addWaiting_16 ?_
    refine lv_aload_n hx hb dX5_addWaiting_19 rfl (lv_at hl 1 rfl) ?_
    refine va_astqM hx hb hK hP hD hS 5 4 rfl rfl (z_anyW hE hw0 hS) (z_vp h_2 rfl) dX5_addWaiting_20 (fun H locs hP hD hS => ?_)
    have h_4 : z_wq ad (va_up sewf (set : Int32).toNatClampNeg (some (ad w0))) := z_wqu hsewf hw0
    generalize ef_3 : (va_up sewf (set : Int32).toNatClampNeg (some (ad w0))) = f_3 at hP hD h_4
    have hP : va_P D vwCl [(se, .inr (5, [.ref sep, .ref seg, .ref sen, .ref ses, .ref sew, .int set, .int sei, .int seo, .int sel, .int sec])), (sep, .inl (sept, 40, .inr (.inr (.inr (.inr sepf))))), (seg, .inl (segt, 40, .inl segf)), (sen, .inl (sent, 40, .inl senf)), (ses, .inl (sest, 40, .inl sesf)), (sew, .inl (sewt, 40, .inr (.inr (.inr (.inr f_3)))))] H := hP
    have hD : va_D A [(se, .inr (5, [.ref sep, .ref seg, .ref sen, .ref ses, .ref sew, .int set, .int sei, .int seo, .int sel, .int sec])), (sep, .inl (sept, 40, .inr (.inr (.inr (.inr sepf))))), (seg, .inl (segt, 40, .inl segf)), (sen, .inl (sent, 40, .inl senf)), (ses, .inl (sest, 40, .inl sesf)), (sew, .inl (sewt, 40, .inr (.inr (.inr (.inr f_3)))))] := hD
    refine lv_aload_n hx hb dX5_addWaiting_21 rfl (lv_at hl 0 rfl) ?_
    refine lv_dup hx hb dX5_addWaiting_22 rfl ?_
    refine va_get (D := D) (ci := 5) (v := .int set) (C := RX5) (T := TX5) (N := 10) hx hb hts hiX5 hown hK hP 0 rfl rfl 5 (by decide) (hts _ (List.mem_of_getElem? (i := 1) rfl)) (fun _ h9 => h9) rfl dX5_addWaiting_23 ?_
    refine lv_iconst (v := 1) hx hb dX5_addWaiting_26 (by decide) ?_
    refine lv_iadd hx hb dX5_addWaiting_27 ?_
    refine lv_topi (fun y_5 ey_5 => ?_)
    have h_6 : z_in 1 40 y_5 := by rw [ey_5]; exact z_add h_2 (z_lit (x := 1) (a := 1) (b := 1) rfl) rfl rfl
    have ty_5 : y_5.toInt = set.toInt + 1 := by rw [ey_5]; exact (z_addT h_2 (z_lit (x := 1) (a := 1) (b := 1) rfl) rfl).trans rfl
    refine va_put (D := D) (ci := 5) (v := .int y_5) (ty := tyX5 5) (C := RX5) (T := TX5) (N := 10) hx hb hts hiX5 tyX5 tyX5_ok nmX5 hown hK hP hD hS 0 rfl rfl 5 (by decide) (hts _ (List.mem_of_getElem? (i := 1) rfl)) (fun _ h9 => h9) rfl (tyX5_ok 5 (by decide)) rfl rfl (Nat.le_of_ble_eq_true rfl) dX5_addWaiting_28 (fun H locs hP hD hS => ?_)
    have hP : va_P D vwCl [(se, .inr (5, [.ref sep, .ref seg, .ref sen, .ref ses, .ref sew, .int y_5, .int sei, .int seo, .int sel, .int sec])), (sep, .inl (sept, 40, .inr (.inr (.inr (.inr sepf))))), (seg, .inl (segt, 40, .inl segf)), (sen, .inl (sent, 40, .inl senf)), (ses, .inl (sest, 40, .inl sesf)), (sew, .inl (sewt, 40, .inr (.inr (.inr (.inr f_3)))))] H := hP
    have hD : va_D A [(se, .inr (5, [.ref sep, .ref seg, .ref sen, .ref ses, .ref sew, .int y_5, .int sei, .int seo, .int sel, .int sec])), (sep, .inl (sept, 40, .inr (.inr (.inr (.inr sepf))))), (seg, .inl (segt, 40, .inl segf)), (sen, .inl (sent, 40, .inl senf)), (ses, .inl (sest, 40, .inl sesf)), (sew, .inl (sewt, 40, .inr (.inr (.inr (.inr f_3)))))] := hD
    refine lv_iconst (v := 1) hx hb dX5_addWaiting_31 (by decide) ?_
    exact hret 1 ([(se, .inr (5, [.ref sep, .ref seg, .ref sen, .ref ses, .ref sew, .int y_5, .int sei, .int seo, .int sel, .int sec])), (sep, .inl (sept, 40, .inr (.inr (.inr (.inr sepf))))), (seg, .inl (segt, 40, .inl segf)), (sen, .inl (sent, 40, .inl senf)), (ses, .inl (sest, 40, .inl sesf)), (sew, .inl (sewt, 40, .inr (.inr (.inr (.inr f_3)))))], []) _ _ _ _ dX5_addWaiting_32 (by decide) ⟨y_5, f_3, (z_w (c := 0) (d := 40) h_6 rfl), h_4, (z_w (c := 0) (d := 1) (z_lit (x := 1) (a := 1) (b := 1) rfl) rfl), (fun h9 => absurd h9 (by decide)), (fun h9 => absurd h9 (by decide)), (fun _ => h_2), (fun _ => h_6), (fun _ => (by rw [← ef_3]; exact z_wcV hc0 (Int.le_trans (by decide) h_2.1) hwj ty_5)), rfl⟩ hP (hK.sub [] rfl) hD hS
  · skip
    have h_7 : z_in 40 40 set := z_leR (Int32.not_lt.mp c_1) (z_lit (x := 40) (a := 40) (b := 40) rfl) hset rfl
    refine lv_iconst (v := 0) hx hb dX5_addWaiting_9 (by decide) ?_
    exact hret 0 ([(se, .inr (5, [.ref sep, .ref seg, .ref sen, .ref ses, .ref sew, .int set, .int sei, .int seo, .int sel, .int sec])), (sep, .inl (sept, 40, .inr (.inr (.inr (.inr sepf))))), (seg, .inl (segt, 40, .inl segf)), (sen, .inl (sent, 40, .inl senf)), (ses, .inl (sest, 40, .inl sesf)), (sew, .inl (sewt, 40, .inr (.inr (.inr (.inr sewf)))))], []) _ _ _ _ dX5_addWaiting_10 (by decide) ⟨set, sewf, (z_w (c := 0) (d := 40) h_7 rfl), hsewf, (z_w (c := 0) (d := 1) (z_lit (x := 0) (a := 0) (b := 0) rfl) rfl), (fun _ => h_7), (fun _ => h_7), (fun h9 => absurd h9 (by decide)), (fun h9 => absurd h9 (by decide)), (fun h9 => absurd h9 (by decide)), rfl⟩ hP (hK.sub [] rfl) hD hS

set_option maxHeartbeats 8000000 in
set_option maxRecDepth 100000 in
theorem w_Sentence_settleNots (l : Launch) (D : va_G) (ad : Nat → Nat) (se : Nat) (set : Int32) (sei : Int32) (seo : Int32) (sel : Int32) (sec : Int32) (sep : Nat) (sept : ClassId) (sepf : Nat → Option Nat) (seg : Nat) (segt : ClassId) (segf : Nat → Int32) (sen : Nat) (sent : ClassId) (senf : Nat → Int32) (ses : Nat) (sest : ClassId) (sesf : Nat → Int32) (sew : Nat) (sewt : ClassId) (sewf : Nat → Option Nat) (hset : z_in 0 40 set) (hseo : z_in 0 1 seo) (hsel : z_in 0 40 sel) (hsec : z_in 0 20 sec) (hsepf : z_wq ad sepf) (hsewf : z_wq ad sewf) (hwse : z_wt ad sepf senf) (hc0 : z_wc ad sewf set sei) : z_Mv l yX5_settleNots wsX5_settleNots { frames := 1, cells := 0, slots := 0, locals := 23 } D ad [.ref se] [(se, .inr (5, [.ref sep, .ref seg, .ref sen, .ref ses, .ref sew, .int set, .int sei, .int seo, .int sel, .int sec])), (sep, .inl (sept, 40, .inr (.inr (.inr (.inr sepf))))), (seg, .inl (segt, 40, .inl segf)), (sen, .inl (sent, 40, .inl senf)), (ses, .inl (sest, 40, .inl sesf)), (sew, .inl (sewt, 40, .inr (.inr (.inr (.inr sewf)))))] [(sept, .object "FuneralUmbrellas$Word"), (segt, .int), (sent, .int), (sest, .int), (sewt, .object "FuneralUmbrellas$Word")] 0 0 (fun u9 => ∃ (x0_5 : Int32) (x0_6 : Int32) (x0_8 : Int32) (x1_f : Nat → Option Nat) (x2_f : Nat → Int32) (x3_f : Nat → Int32), z_in 0 40 x0_5 ∧ z_in 0 40 x0_8 ∧ z_wq ad x1_f ∧ z_wt ad x1_f x3_f ∧ z_wc ad sewf x0_5 x0_6 ∧ u9 = ([(se, .inr (5, [.ref sep, .ref seg, .ref sen, .ref ses, .ref sew, .int x0_5, .int x0_6, .int seo, .int x0_8, .int sec])), (sep, .inl (sept, 40, .inr (.inr (.inr (.inr x1_f))))), (seg, .inl (segt, 40, .inl x2_f)), (sen, .inl (sent, 40, .inl x3_f)), (ses, .inl (sest, 40, .inl sesf)), (sew, .inl (sewt, 40, .inr (.inr (.inr (.inr sewf)))))], [])) := by
  refine z_ofV (cc := cX5_settleNots) (maxL := 2) (by decide) rfl (Nat.le_of_ble_eq_true rfl) ?_
  intro p e s m below meth c Q A ls hx hb hml hown hts hin hK hP hD hA hE hO hS hl hret
  have hown : s.vm.findClass RX5 = some m.cls := hown
  have hiX5 : ∀ w ∈ wsX50, w ∈ wsX5_settleNots := fun _ h9 => List.mem_cons_of_mem _ (List.mem_append_right _ h9)
  have hl : lv_has ls 2 [(0, .ref se)] := hl
  refine lv_iconst (v := 0) hx hb dX5_settleNots_0 (by decide) ?_
  refine lv_istore_n (lv' := [(1, .int 0), (0, .ref se)]) hx hb dX5_settleNots_1 rfl hl (by decide) rfl (fun ls hl => ?_)
  have LP1 : ∀ (n : Nat) (v1_1 : Int32) (w1_1 : Int32) (w1_2 : Int32) (w1_3 : Int32) (g1_4 : Nat → Int32) (g1_5 : Nat → Int32) (g1_6 : Nat → Option Nat) (H : Heap) (locs : List Loc) (ls : Array Slot), z_in 0 40 v1_1 → z_in 0 40 w1_1 → z_in 0 40 w1_3 → z_wq ad g1_6 → z_wt ad g1_6 g1_5 → z_wc ad sewf w1_1 w1_2 → 41 - v1_1.toInt ≤ (n : Int) → va_P D vwCl [(se, .inr (5, [.ref sep, .ref seg, .ref sen, .ref ses, .ref sew, .int w1_1, .int w1_2, .int seo, .int w1_3, .int sec])), (sep, .inl (sept, 40, .inr (.inr (.inr (.inr g1_6))))), (seg, .inl (segt, 40, .inl g1_4)), (sen, .inl (sent, 40, .inl g1_5)), (ses, .inl (sest, 40, .inl sesf)), (sew, .inl (sewt, 40, .inr (.inr (.inr (.inr sewf)))))] H → va_D A [(se, .inr (5, [.ref sep, .ref seg, .ref sen, .ref ses, .ref sew, .int w1_1, .int w1_2, .int seo, .int w1_3, .int sec])), (sep, .inl (sept, 40, .inr (.inr (.inr (.inr g1_6))))), (seg, .inl (segt, 40, .inl g1_4)), (sen, .inl (sent, 40, .inl g1_5)), (ses, .inl (sest, 40, .inl sesf)), (sew, .inl (sewt, 40, .inr (.inr (.inr (.inr sewf)))))] → va_S A s.heap H locs → lv_has ls 2 [(1, .int v1_1), (0, .ref se)] → W p l e ({ frames := 1, cells := 0, slots := 0, locals := 23 }) s m ([.ref se] : List Value).toArray below meth c H locs 0 0 Q (F0 m 2 ls []) := by
    intro n
    induction n with
    | zero => intro v1_1 w1_1 w1_2 w1_3 g1_4 g1_5 g1_6 H locs ls hv1_1 hw1_1 hw1_3 hg1_6 hI1_0 hI1_1 hn1; exact absurd hn1 (by have q1 := hv1_1.1; have q2 := hv1_1.2; omega)
    | succ n ih1 =>
      intro v1_1 w1_1 w1_2 w1_3 g1_4 g1_5 g1_6 H locs ls hv1_1 hw1_1 hw1_3 hg1_6 hI1_0 hI1_1 hn1 hP hD hS hl
      have q1 := hv1_1.1
      have q1' := hv1_1.2
      refine lv_iload_n hx hb dX5_settleNots_2 rfl (lv_at hl 0 rfl) ?_
      refine lv_bipush (v := 40) hx hb dX5_settleNots_3 (by decide) ?_
      refine lv_icmp_ge (tgt := 68) hx hb dX5_settleNots_5 (by decide) (fun c_1 => ?_) (fun c_1 => ?_)
      · skip
        have h_2 : z_in 40 40 v1_1 := z_leR c_1 (z_lit (x := 40) (a := 40) (b := 40) rfl) hv1_1 rfl
        exact hret ([(se, .inr (5, [.ref sep, .ref seg, .ref sen, .ref ses, .ref sew, .int w1_1, .int w1_2, .int seo, .int w1_3, .int sec])), (sep, .inl (sept, 40, .inr (.inr (.inr (.inr g1_6))))), (seg, .inl (segt, 40, .inl g1_4)), (sen, .inl (sent, 40, .inl g1_5)), (ses, .inl (sest, 40, .inl sesf)), (sew, .inl (sewt, 40, .inr (.inr (.inr (.inr sewf)))))], []) _ _ _ _ dX5_settleNots_68 ⟨w1_1, w1_2, w1_3, g1_6, g1_4, g1_5, hw1_1, hw1_3, hg1_6, hI1_0, hI1_1, rfl⟩ hP (hK.sub [] rfl) hD hS
      · skip
        have h_3 : z_in 0 39 v1_1 := z_ltL (Int32.not_le.mp c_1) hv1_1 (z_lit (x := 40) (a := 40) (b := 40) rfl) rfl
        refine lv_aload_n hx hb dX5_settleNots_8 rfl (lv_at hl 1 rfl) ?_
        refine va_get (D := D) (ci := 5) (v := .int w1_1) (C := RX5) (T := TX5) (N := 10) hx hb hts hiX5 hown hK hP 0 rfl rfl 5 (by decide) (hts _ (List.mem_of_getElem? (i := 1) rfl)) (fun _ h9 => h9) rfl dX5_settleNots_9 ?_
        refine lv_if_le (tgt := 68) hx hb dX5_settleNots_12 (by decide) (fun c_4 => ?_) (fun c_4 => ?_)
        · skip
          have h_5 : z_in 0 0 w1_1 := z_leL c_4 hw1_1 (z_lit (x := 0) (a := 0) (b := 0) rfl) rfl
          exact hret ([(se, .inr (5, [.ref sep, .ref seg, .ref sen, .ref ses, .ref sew, .int w1_1, .int w1_2, .int seo, .int w1_3, .int sec])), (sep, .inl (sept, 40, .inr (.inr (.inr (.inr g1_6))))), (seg, .inl (segt, 40, .inl g1_4)), (sen, .inl (sent, 40, .inl g1_5)), (ses, .inl (sest, 40, .inl sesf)), (sew, .inl (sewt, 40, .inr (.inr (.inr (.inr sewf)))))], []) _ _ _ _ dX5_settleNots_68 ⟨w1_1, w1_2, w1_3, g1_6, g1_4, g1_5, (z_w (c := 0) (d := 40) h_5 rfl), hw1_3, hg1_6, hI1_0, hI1_1, rfl⟩ hP (hK.sub [] rfl) hD hS
        · skip
          have h_6 : z_in 1 40 w1_1 := z_ltR (Int32.not_le.mp c_4) (z_lit (x := 0) (a := 0) (b := 0) rfl) hw1_1 rfl
          refine lv_aload_n hx hb dX5_settleNots_15 rfl (lv_at hl 1 rfl) ?_
          refine va_get (D := D) (ci := 5) (v := .ref sew) (C := RX5) (T := TX5) (N := 10) hx hb hts hiX5 hown hK hP 0 rfl rfl 4 (by decide) (hts _ (List.mem_of_getElem? (i := 2) rfl)) (fun _ h9 => h9) rfl dX5_settleNots_16 ?_
          refine lv_aload_n hx hb dX5_settleNots_19 rfl (lv_at hl 1 rfl) ?_
          refine va_get (D := D) (ci := 5) (v := .int w1_1) (C := RX5) (T := TX5) (N := 10) hx hb hts hiX5 hown hK hP 0 rfl rfl 5 (by decide) (hts _ (List.mem_of_getElem? (i := 1) rfl)) (fun _ h9 => h9) rfl dX5_settleNots_20 ?_
          refine lv_iconst (v := 1) hx hb dX5_settleNots_23 (by decide) ?_
          refine lv_isub hx hb dX5_settleNots_24 ?_
          refine lv_topi (fun y_7 ey_7 => ?_)
          have h_8 : z_in 0 39 y_7 := by rw [ey_7]; exact z_sub h_6 (z_lit (x := 1) (a := 1) (b := 1) rfl) rfl rfl
          have ty_7 : y_7.toInt = w1_1.toInt + (-1) := by rw [ey_7]; exact (z_subT h_6 (z_lit (x := 1) (a := 1) (b := 1) rfl) rfl).trans rfl
          refine va_aldq hx hb hK hP 5 4 rfl rfl (z_vp h_8 rfl) dX5_settleNots_25 ?_
          rcases hsewf (y_7 : Int32).toNatClampNeg with e9 | ⟨w_9, h_10, ew_9⟩
          · rw [e9]
            refine W.eq (g2 := F0 m 26 ls (.null :: [])) rfl ?_
            refine va_gets (v := .ref (ad 14)) hx hb (hE.1.1 14 (by decide)).1 hS hown (hts _ (List.mem_of_getElem? (i := 3) rfl)) (fun _ h9 => h9) dX5_settleNots_26 ?_
            refine W.eq (g2 := F0 m 29 ls (va_rf (some (ad 14)) :: va_rf (none) :: [])) rfl ?_
            refine lv_acmp_ne (tgt := 68) hx hb dX5_settleNots_29 (by decide) (fun _ => ?_) (fun h9 => by cases h9)
            exact hret ([(se, .inr (5, [.ref sep, .ref seg, .ref sen, .ref ses, .ref sew, .int w1_1, .int w1_2, .int seo, .int w1_3, .int sec])), (sep, .inl (sept, 40, .inr (.inr (.inr (.inr g1_6))))), (seg, .inl (segt, 40, .inl g1_4)), (sen, .inl (sent, 40, .inl g1_5)), (ses, .inl (sest, 40, .inl sesf)), (sew, .inl (sewt, 40, .inr (.inr (.inr (.inr sewf)))))], []) _ _ _ _ dX5_settleNots_68 ⟨w1_1, w1_2, w1_3, g1_6, g1_4, g1_5, (z_w (c := 0) (d := 40) h_6 rfl), hw1_3, hg1_6, hI1_0, hI1_1, rfl⟩ hP (hK.sub [] rfl) hD hS
          · rw [ew_9]
            refine W.eq (g2 := F0 m 26 ls (.ref (ad w_9) :: [])) rfl ?_
            refine va_gets (v := .ref (ad 14)) hx hb (hE.1.1 14 (by decide)).1 hS hown (hts _ (List.mem_of_getElem? (i := 3) rfl)) (fun _ h9 => h9) dX5_settleNots_26 ?_
            refine W.eq (g2 := F0 m 29 ls (va_rf (some (ad 14)) :: va_rf (some (ad w_9)) :: [])) rfl ?_
            refine lv_acmp_ne (tgt := 68) hx hb dX5_settleNots_29 (by decide) (fun c_11 => ?_) (fun c_11 => ?_)
            · have h_12 : w_9 ≠ 14 := fun q9 => c_11 (by rw [q9])
              exact hret ([(se, .inr (5, [.ref sep, .ref seg, .ref sen, .ref ses, .ref sew, .int w1_1, .int w1_2, .int seo, .int w1_3, .int sec])), (sep, .inl (sept, 40, .inr (.inr (.inr (.inr g1_6))))), (seg, .inl (segt, 40, .inl g1_4)), (sen, .inl (sent, 40, .inl g1_5)), (ses, .inl (sest, 40, .inl sesf)), (sew, .inl (sewt, 40, .inr (.inr (.inr (.inr sewf)))))], []) _ _ _ _ dX5_settleNots_68 ⟨w1_1, w1_2, w1_3, g1_6, g1_4, g1_5, (z_w (c := 0) (d := 40) h_6 rfl), hw1_3, hg1_6, hI1_0, hI1_1, rfl⟩ hP (hK.sub [] rfl) hD hS
            · have h_13 : w_9 = 14 := (hE.1.2 w_9 14 h_10 (by decide) (Option.some.inj c_11))
              refine lv_aload_n hx hb dX5_settleNots_32 rfl (lv_at hl 1 rfl) ?_
              refine lv_dup hx hb dX5_settleNots_33 rfl ?_
              refine va_get (D := D) (ci := 5) (v := .int w1_1) (C := RX5) (T := TX5) (N := 10) hx hb hts hiX5 hown hK hP 0 rfl rfl 5 (by decide) (hts _ (List.mem_of_getElem? (i := 1) rfl)) (fun _ h9 => h9) rfl dX5_settleNots_34 ?_
              refine lv_iconst (v := 1) hx hb dX5_settleNots_37 (by decide) ?_
              refine lv_isub hx hb dX5_settleNots_38 ?_
              refine lv_topi (fun y_14 ey_14 => ?_)
              obtain rfl : y_7 = y_14 := ey_7.trans ey_14.symm
              refine va_put (D := D) (ci := 5) (v := .int y_7) (ty := tyX5 5) (C := RX5) (T := TX5) (N := 10) hx hb hts hiX5 tyX5 tyX5_ok nmX5 hown hK hP hD hS 0 rfl rfl 5 (by decide) (hts _ (List.mem_of_getElem? (i := 1) rfl)) (fun _ h9 => h9) rfl (tyX5_ok 5 (by decide)) rfl rfl (Nat.le_of_ble_eq_true rfl) dX5_settleNots_39 (fun H locs hP hD hS => ?_)
              have hP : va_P D vwCl [(se, .inr (5, [.ref sep, .ref seg, .ref sen, .ref ses, .ref sew, .int y_7, .int w1_2, .int seo, .int w1_3, .int sec])), (sep, .inl (sept, 40, .inr (.inr (.inr (.inr g1_6))))), (seg, .inl (segt, 40, .inl g1_4)), (sen, .inl (sent, 40, .inl g1_5)), (ses, .inl (sest, 40, .inl sesf)), (sew, .inl (sewt, 40, .inr (.inr (.inr (.inr sewf)))))] H := hP
              have hD : va_D A [(se, .inr (5, [.ref sep, .ref seg, .ref sen, .ref ses, .ref sew, .int y_7, .int w1_2, .int seo, .int w1_3, .int sec])), (sep, .inl (sept, 40, .inr (.inr (.inr (.inr g1_6))))), (seg, .inl (segt, 40, .inl g1_4)), (sen, .inl (sent, 40, .inl g1_5)), (ses, .inl (sest, 40, .inl sesf)), (sew, .inl (sewt, 40, .inr (.inr (.inr (.inr sewf)))))] := hD
              refine lv_aload_n hx hb dX5_settleNots_42 rfl (lv_at hl 1 rfl) ?_
              refine lv_dup hx hb dX5_settleNots_43 rfl ?_
              refine va_get (D := D) (ci := 5) (v := .int w1_2) (C := RX5) (T := TX5) (N := 10) hx hb hts hiX5 hown hK hP 0 rfl rfl 6 (by decide) (hts _ (List.mem_of_getElem? (i := 4) rfl)) (fun _ h9 => h9) rfl dX5_settleNots_44 ?_
              refine lv_iconst (v := 1) hx hb dX5_settleNots_47 (by decide) ?_
              refine lv_isub hx hb dX5_settleNots_48 ?_
              refine lv_topi (fun y_15 ey_15 => ?_)
              refine va_put (D := D) (ci := 5) (v := .int y_15) (ty := tyX5 6) (C := RX5) (T := TX5) (N := 10) hx hb hts hiX5 tyX5 tyX5_ok nmX5 hown hK hP hD hS 0 rfl rfl 6 (by decide) (hts _ (List.mem_of_getElem? (i := 4) rfl)) (fun _ h9 => h9) rfl (tyX5_ok 6 (by decide)) rfl rfl (Nat.le_of_ble_eq_true rfl) dX5_settleNots_49 (fun H locs hP hD hS => ?_)
              have hP : va_P D vwCl [(se, .inr (5, [.ref sep, .ref seg, .ref sen, .ref ses, .ref sew, .int y_7, .int y_15, .int seo, .int w1_3, .int sec])), (sep, .inl (sept, 40, .inr (.inr (.inr (.inr g1_6))))), (seg, .inl (segt, 40, .inl g1_4)), (sen, .inl (sent, 40, .inl g1_5)), (ses, .inl (sest, 40, .inl sesf)), (sew, .inl (sewt, 40, .inr (.inr (.inr (.inr sewf)))))] H := hP
              have hD : va_D A [(se, .inr (5, [.ref sep, .ref seg, .ref sen, .ref ses, .ref sew, .int y_7, .int y_15, .int seo, .int w1_3, .int sec])), (sep, .inl (sept, 40, .inr (.inr (.inr (.inr g1_6))))), (seg, .inl (segt, 40, .inl g1_4)), (sen, .inl (sent, 40, .inl g1_5)), (ses, .inl (sest, 40, .inl sesf)), (sew, .inl (sewt, 40, .inr (.inr (.inr (.inr sewf)))))] := hD
              refine lv_aload_n hx hb dX5_settleNots_52 rfl (lv_at hl 1 rfl) ?_
              refine va_gets (v := .ref (ad 14)) hx hb (hE.1.1 14 (by decide)).1 hS hown (hts _ (List.mem_of_getElem? (i := 3) rfl)) (fun _ h9 => h9) dX5_settleNots_53 ?_
              refine lv_iconst (v := 0) hx hb dX5_settleNots_56 (by decide) ?_
              refine lv_iconst (v := 0) hx hb dX5_settleNots_57 (by decide) ?_
              have hc9 := (w_Sentence_addStep l D ad se y_7 y_15 seo w1_3 sec sep sept g1_6 seg segt g1_4 sen sent g1_5 ses sest sesf sew sewt sewf 14 0 0 (z_w (c := 0) (d := 40) h_8 rfl) hseo hw1_3 hsec hg1_6 hsewf (by decide) hI1_0 (fun _ => (z_w (c := 0) (d := 5) (z_lit (x := 0) (a := 0) (b := 0) rfl) rfl)))
              refine z_calli (w0 := [(se, .inr (5, [.ref sep, .ref seg, .ref sen, .ref ses, .ref sew, .int y_7, .int y_15, .int seo, .int w1_3, .int sec])), (sep, .inl (sept, 40, .inr (.inr (.inr (.inr g1_6))))), (seg, .inl (segt, 40, .inl g1_4)), (sen, .inl (sent, 40, .inl g1_5)), (ses, .inl (sest, 40, .inl sesf)), (sew, .inl (sewt, 40, .inr (.inr (.inr (.inr sewf)))))]) (wr := []) (va_runV (As := [.ref (ad 14), .int 0, .int 0]) (rest := []) ⟨hx, hb, hml, hown, hts⟩ (hc9 _) (cwV 3 hts gX5_settleNots_X5_addStep rfl rfl rfl (by decide +kernel) ⟨Nat.le_of_ble_eq_true rfl, Nat.le_of_ble_eq_true rfl⟩) (z_preV hP hD hK hS hA hE hO [0, 1, 2, 3, 4, 5] [0, 1, 2, 3, 4] rfl (by decide +kernel) rfl 0 5 rfl rfl rfl) rfl rfl hl.1 rfl (lv_room (Nat.le_of_ble_eq_true rfl)) dX5_settleNots_58 ⟨Nat.le_of_ble_eq_true rfl, Nat.le_of_ble_eq_true rfl⟩) hP hD hK hS hA [0, 1, 2, 3, 4, 5] [] rfl rfl (by decide +kernel) (by decide +kernel) (fun y_16 u9 H locs hw hP hD hK hS => ?_)
              refine z_ex4 hw (fun x_17 f_19 f_21 f_22 hw => ?_)
              refine z_an8 hw (fun h_18 h_20 h_23 h_24 h_25 h_26 h_27 h_28 hw => ?_)
              subst hw
              have hP : va_P D vwCl [(se, .inr (5, [.ref sep, .ref seg, .ref sen, .ref ses, .ref sew, .int y_7, .int y_15, .int seo, .int x_17, .int sec])), (sep, .inl (sept, 40, .inr (.inr (.inr (.inr f_19))))), (seg, .inl (segt, 40, .inl f_21)), (sen, .inl (sent, 40, .inl f_22)), (ses, .inl (sest, 40, .inl sesf)), (sew, .inl (sewt, 40, .inr (.inr (.inr (.inr sewf)))))] H := hP
              have hD : va_D A [(se, .inr (5, [.ref sep, .ref seg, .ref sen, .ref ses, .ref sew, .int y_7, .int y_15, .int seo, .int x_17, .int sec])), (sep, .inl (sept, 40, .inr (.inr (.inr (.inr f_19))))), (seg, .inl (segt, 40, .inl f_21)), (sen, .inl (sent, 40, .inl f_22)), (ses, .inl (sest, 40, .inl sesf)), (sew, .inl (sewt, 40, .inr (.inr (.inr (.inr sewf)))))] := hD
              have hK : va_K D vwCl [(sept, .object "FuneralUmbrellas$Word"), (segt, .int), (sent, .int), (sest, .int), (sewt, .object "FuneralUmbrellas$Word")] s := hK
              refine W.cs (cells' := 0) (slots' := 0) rfl rfl ?_
              refine W.eq (g2 := F0 m 61 ls (.int y_16 :: [])) rfl ?_
              refine lv_pop hx hb dX5_settleNots_61 rfl ?_
              obtain ⟨y_29, ey_29⟩ : ∃ y : Int32, y = v1_1 + 1 := ⟨_, rfl⟩
              have h_30 : z_in 1 40 y_29 := by rw [ey_29]; exact z_add h_3 (z_lit (x := 1) (a := 1) (b := 1) rfl) rfl rfl
              have ty_29 : y_29.toInt = v1_1.toInt + 1 := by rw [ey_29]; exact z_addT h_3 (z_lit (x := 1) (a := 1) (b := 1) rfl) rfl
              refine lv_iinc (v := y_29) (lv' := [(1, .int y_29), (0, .ref se)]) hx hb dX5_settleNots_62 hl (k := 0) rfl (by rw [ey_29]; rfl) (by decide) rfl (fun ls hl => ?_)
              refine lv_goto (tgt := 2) hx hb dX5_settleNots_65 (by decide) ?_
              exact ih1 y_29 y_7 y_15 x_17 f_21 f_22 f_19 _ _ _ (z_w (c := 0) (d := 40) h_30 rfl) (z_w (c := 0) (d := 40) h_8 rfl) h_18 h_20 h_28 (z_wcN hI1_1 ty_7 (Int.le_trans (by decide) h_8.1) (z_neW hE.1.2 ew_9 h_10 (by decide) (fun q9 => absurd (h_13.symm.trans q9) (by decide))) (z_neW hE.1.2 ew_9 h_10 (by decide) (fun q9 => absurd (h_13.symm.trans q9) (by decide))) ey_15) (by omega) hP hD hS (lv_sub hl [0, 1] rfl)
  exact LP1 41 0 set sei sel segf senf sepf _ _ _ (z_w (c := 0) (d := 40) (z_lit (x := 0) (a := 0) (b := 0) rfl) rfl) hset hsel hsepf hwse hc0 (by decide) hP hD hS (lv_sub hl [0, 1] rfl)

set_option maxHeartbeats 8000000 in
set_option maxRecDepth 100000 in
theorem w_Sentence_settleDownToOr (l : Launch) (D : va_G) (ad : Nat → Nat) (se : Nat) (set : Int32) (sei : Int32) (seo : Int32) (sel : Int32) (sec : Int32) (sep : Nat) (sept : ClassId) (sepf : Nat → Option Nat) (seg : Nat) (segt : ClassId) (segf : Nat → Int32) (sen : Nat) (sent : ClassId) (senf : Nat → Int32) (ses : Nat) (sest : ClassId) (sesf : Nat → Int32) (sew : Nat) (sewt : ClassId) (sewf : Nat → Option Nat) (hset : z_in 0 40 set) (hseo : z_in 0 1 seo) (hsel : z_in 0 40 sel) (hsec : z_in 0 20 sec) (hsepf : z_wq ad sepf) (hsewf : z_wq ad sewf) (hwse : z_wt ad sepf senf) (hc0 : z_wc ad sewf set sei) : z_Mv l yX5_settleDownTo wsX5_settleDownTo { frames := 1, cells := 0, slots := 0, locals := 23 } D ad [.ref se, .ref (ad 12)] [(se, .inr (5, [.ref sep, .ref seg, .ref sen, .ref ses, .ref sew, .int set, .int sei, .int seo, .int sel, .int sec])), (sep, .inl (sept, 40, .inr (.inr (.inr (.inr sepf))))), (seg, .inl (segt, 40, .inl segf)), (sen, .inl (sent, 40, .inl senf)), (ses, .inl (sest, 40, .inl sesf)), (sew, .inl (sewt, 40, .inr (.inr (.inr (.inr sewf)))))] [(sept, .object "FuneralUmbrellas$Word"), (segt, .int), (sent, .int), (sest, .int), (sewt, .object "FuneralUmbrellas$Word")] 0 0 (fun u9 => ∃ (x0_5 : Int32) (x0_8 : Int32) (x1_f : Nat → Option Nat) (x2_f : Nat → Int32) (x3_f : Nat → Int32), z_in 0 40 x0_5 ∧ z_in 0 40 x0_8 ∧ z_wq ad x1_f ∧ z_wt ad x1_f x3_f ∧ z_wc ad sewf x0_5 sei ∧ z_tp ad sewf x0_5 ∧ u9 = ([(se, .inr (5, [.ref sep, .ref seg, .ref sen, .ref ses, .ref sew, .int x0_5, .int sei, .int seo, .int x0_8, .int sec])), (sep, .inl (sept, 40, .inr (.inr (.inr (.inr x1_f))))), (seg, .inl (segt, 40, .inl x2_f)), (sen, .inl (sent, 40, .inl x3_f)), (ses, .inl (sest, 40, .inl sesf)), (sew, .inl (sewt, 40, .inr (.inr (.inr (.inr sewf)))))], [])) := by
  refine z_ofV (cc := cX5_settleDownTo) (maxL := 4) (by decide) rfl (Nat.le_of_ble_eq_true rfl) ?_
  intro p e s m below meth c Q A ls hx hb hml hown hts hin hK hP hD hA hE hO hS hl hret
  have hown : s.vm.findClass RX5 = some m.cls := hown
  have hiX5 : ∀ w ∈ wsX50, w ∈ wsX5_settleDownTo := fun _ h9 => List.mem_cons_of_mem _ (List.mem_append_right _ h9)
  have hl : lv_has ls 4 [(0, .ref se), (1, .ref (ad 12))] := hl
  refine lv_iconst (v := 0) hx hb dX5_settleDownTo_0 (by decide) ?_
  refine lv_istore_n (lv' := [(2, .int 0), (0, .ref se), (1, .ref (ad 12))]) hx hb dX5_settleDownTo_1 rfl hl (by decide) rfl (fun ls hl => ?_)
  have LP1 : ∀ (n : Nat) (v1_2 : Int32) (w1_1 : Int32) (w1_2 : Int32) (g1_3 : Nat → Int32) (g1_4 : Nat → Int32) (g1_5 : Nat → Option Nat) (H : Heap) (locs : List Loc) (ls : Array Slot), z_in 0 40 v1_2 → z_in 0 40 w1_1 → z_in 0 40 w1_2 → z_wq ad g1_5 → z_wt ad g1_5 g1_4 → z_wc ad sewf w1_1 sei → z_sm w1_1 v1_2 → 41 - v1_2.toInt ≤ (n : Int) → va_P D vwCl [(se, .inr (5, [.ref sep, .ref seg, .ref sen, .ref ses, .ref sew, .int w1_1, .int sei, .int seo, .int w1_2, .int sec])), (sep, .inl (sept, 40, .inr (.inr (.inr (.inr g1_5))))), (seg, .inl (segt, 40, .inl g1_3)), (sen, .inl (sent, 40, .inl g1_4)), (ses, .inl (sest, 40, .inl sesf)), (sew, .inl (sewt, 40, .inr (.inr (.inr (.inr sewf)))))] H → va_D A [(se, .inr (5, [.ref sep, .ref seg, .ref sen, .ref ses, .ref sew, .int w1_1, .int sei, .int seo, .int w1_2, .int sec])), (sep, .inl (sept, 40, .inr (.inr (.inr (.inr g1_5))))), (seg, .inl (segt, 40, .inl g1_3)), (sen, .inl (sent, 40, .inl g1_4)), (ses, .inl (sest, 40, .inl sesf)), (sew, .inl (sewt, 40, .inr (.inr (.inr (.inr sewf)))))] → va_S A s.heap H locs → lv_has ls 4 [(2, .int v1_2), (0, .ref se), (1, .ref (ad 12))] → W p l e ({ frames := 1, cells := 0, slots := 0, locals := 23 }) s m ([.ref se, .ref (ad 12)] : List Value).toArray below meth c H locs 0 0 Q (F0 m 2 ls []) := by
    intro n
    induction n with
    | zero => intro v1_2 w1_1 w1_2 g1_3 g1_4 g1_5 H locs ls hv1_2 hw1_1 hw1_2 hg1_5 hI1_0 hI1_1 hI1_2 hn1; exact absurd hn1 (by have q1 := hv1_2.1; have q2 := hv1_2.2; omega)
    | succ n ih1 =>
      intro v1_2 w1_1 w1_2 g1_3 g1_4 g1_5 H locs ls hv1_2 hw1_1 hw1_2 hg1_5 hI1_0 hI1_1 hI1_2 hn1 hP hD hS hl
      have q1 := hv1_2.1
      have q1' := hv1_2.2
      refine lv_iload_n hx hb dX5_settleDownTo_2 rfl (lv_at hl 0 rfl) ?_
      refine lv_bipush (v := 40) hx hb dX5_settleDownTo_3 (by decide) ?_
      refine lv_icmp_ge (tgt := 73) hx hb dX5_settleDownTo_5 (by decide) (fun c_1 => ?_) (fun c_1 => ?_)
      · skip
        have h_2 : z_in 40 40 v1_2 := z_leR c_1 (z_lit (x := 40) (a := 40) (b := 40) rfl) hv1_2 rfl
        exact hret ([(se, .inr (5, [.ref sep, .ref seg, .ref sen, .ref ses, .ref sew, .int w1_1, .int sei, .int seo, .int w1_2, .int sec])), (sep, .inl (sept, 40, .inr (.inr (.inr (.inr g1_5))))), (seg, .inl (segt, 40, .inl g1_3)), (sen, .inl (sent, 40, .inl g1_4)), (ses, .inl (sest, 40, .inl sesf)), (sew, .inl (sewt, 40, .inr (.inr (.inr (.inr sewf)))))], []) _ _ _ _ dX5_settleDownTo_73 ⟨w1_1, w1_2, g1_5, g1_3, g1_4, hw1_1, hw1_2, hg1_5, hI1_0, hI1_1, (Or.inl (by have q1 := h_2.1; have q2 := hw1_1.1; have q3 : _ ≤ _ := hI1_2; omega)), rfl⟩ hP (hK.sub [] rfl) hD hS
      · skip
        have h_3 : z_in 0 39 v1_2 := z_ltL (Int32.not_le.mp c_1) hv1_2 (z_lit (x := 40) (a := 40) (b := 40) rfl) rfl
        refine lv_aload_n hx hb dX5_settleDownTo_8 rfl (lv_at hl 1 rfl) ?_
        refine va_get (D := D) (ci := 5) (v := .int w1_1) (C := RX5) (T := TX5) (N := 10) hx hb hts hiX5 hown hK hP 0 rfl rfl 5 (by decide) (hts _ (List.mem_of_getElem? (i := 1) rfl)) (fun _ h9 => h9) rfl dX5_settleDownTo_9 ?_
        refine lv_if_le (tgt := 73) hx hb dX5_settleDownTo_12 (by decide) (fun c_4 => ?_) (fun c_4 => ?_)
        · skip
          have h_5 : z_in 0 0 w1_1 := z_leL c_4 hw1_1 (z_lit (x := 0) (a := 0) (b := 0) rfl) rfl
          exact hret ([(se, .inr (5, [.ref sep, .ref seg, .ref sen, .ref ses, .ref sew, .int w1_1, .int sei, .int seo, .int w1_2, .int sec])), (sep, .inl (sept, 40, .inr (.inr (.inr (.inr g1_5))))), (seg, .inl (segt, 40, .inl g1_3)), (sen, .inl (sent, 40, .inl g1_4)), (ses, .inl (sest, 40, .inl sesf)), (sew, .inl (sewt, 40, .inr (.inr (.inr (.inr sewf)))))], []) _ _ _ _ dX5_settleDownTo_73 ⟨w1_1, w1_2, g1_5, g1_3, g1_4, (z_w (c := 0) (d := 40) h_5 rfl), hw1_2, hg1_5, hI1_0, hI1_1, (Or.inl (Int.le_antisymm h_5.2 h_5.1)), rfl⟩ hP (hK.sub [] rfl) hD hS
        · skip
          have h_6 : z_in 1 40 w1_1 := z_ltR (Int32.not_le.mp c_4) (z_lit (x := 0) (a := 0) (b := 0) rfl) hw1_1 rfl
          refine lv_aload_n hx hb dX5_settleDownTo_15 rfl (lv_at hl 1 rfl) ?_
          refine va_get (D := D) (ci := 5) (v := .ref sew) (C := RX5) (T := TX5) (N := 10) hx hb hts hiX5 hown hK hP 0 rfl rfl 4 (by decide) (hts _ (List.mem_of_getElem? (i := 2) rfl)) (fun _ h9 => h9) rfl dX5_settleDownTo_16 ?_
          refine lv_aload_n hx hb dX5_settleDownTo_19 rfl (lv_at hl 1 rfl) ?_
          refine va_get (D := D) (ci := 5) (v := .int w1_1) (C := RX5) (T := TX5) (N := 10) hx hb hts hiX5 hown hK hP 0 rfl rfl 5 (by decide) (hts _ (List.mem_of_getElem? (i := 1) rfl)) (fun _ h9 => h9) rfl dX5_settleDownTo_20 ?_
          refine lv_iconst (v := 1) hx hb dX5_settleDownTo_23 (by decide) ?_
          refine lv_isub hx hb dX5_settleDownTo_24 ?_
          refine lv_topi (fun y_7 ey_7 => ?_)
          have h_8 : z_in 0 39 y_7 := by rw [ey_7]; exact z_sub h_6 (z_lit (x := 1) (a := 1) (b := 1) rfl) rfl rfl
          have ty_7 : y_7.toInt = w1_1.toInt + (-1) := by rw [ey_7]; exact (z_subT h_6 (z_lit (x := 1) (a := 1) (b := 1) rfl) rfl).trans rfl
          refine va_aldq hx hb hK hP 5 4 rfl rfl (z_vp h_8 rfl) dX5_settleDownTo_25 ?_
          rcases hsewf (y_7 : Int32).toNatClampNeg with e9 | ⟨w_9, h_10, ew_9⟩
          · rw [e9]
            refine W.eq (g2 := F0 m 26 ls (.null :: [])) rfl ?_
            refine lv_astore_nN (lv' := [(3, .null), (2, .int v1_2), (0, .ref se), (1, .ref (ad 12))]) hx hb dX5_settleDownTo_26 rfl hl (by decide) rfl (fun ls hl => ?_)
            refine lv_aload_nN hx hb dX5_settleDownTo_27 rfl (lv_at hl 0 rfl) ?_
            refine va_gets (v := .ref (ad 13)) hx hb (hE.1.1 13 (by decide)).1 hS hown (hts _ (List.mem_of_getElem? (i := 3) rfl)) (fun _ h9 => h9) dX5_settleDownTo_28 ?_
            refine W.eq (g2 := F0 m 31 ls (va_rf (some (ad 13)) :: va_rf (none) :: [])) rfl ?_
            refine lv_acmp_eq (tgt := 49) hx hb dX5_settleDownTo_31 (by decide) (fun h9 => by cases h9) (fun _ => ?_)
            refine lv_aload_nN hx hb dX5_settleDownTo_34 rfl (lv_at hl 0 rfl) ?_
            refine va_gets (v := .ref (ad 12)) hx hb (hE.1.1 12 (by decide)).1 hS hown (hts _ (List.mem_of_getElem? (i := 4) rfl)) (fun _ h9 => h9) dX5_settleDownTo_35 ?_
            refine W.eq (g2 := F0 m 38 ls (va_rf (some (ad 12)) :: va_rf (none) :: [])) rfl ?_
            refine lv_acmp_ne (tgt := 48) hx hb dX5_settleDownTo_38 (by decide) (fun _ => ?_) (fun h9 => by cases h9)
            exact hret ([(se, .inr (5, [.ref sep, .ref seg, .ref sen, .ref ses, .ref sew, .int w1_1, .int sei, .int seo, .int w1_2, .int sec])), (sep, .inl (sept, 40, .inr (.inr (.inr (.inr g1_5))))), (seg, .inl (segt, 40, .inl g1_3)), (sen, .inl (sent, 40, .inl g1_4)), (ses, .inl (sest, 40, .inl sesf)), (sew, .inl (sewt, 40, .inr (.inr (.inr (.inr sewf)))))], []) _ _ _ _ dX5_settleDownTo_48 ⟨w1_1, w1_2, g1_5, g1_3, g1_4, (z_w (c := 0) (d := 40) h_6 rfl), hw1_2, hg1_5, hI1_0, hI1_1, (z_tpE ty_7 (Int.le_trans (by decide) h_8.1) (z_neN e9) (z_neN e9)), rfl⟩ hP (hK.sub [] rfl) hD hS
          · rw [ew_9]
            refine W.eq (g2 := F0 m 26 ls (.ref (ad w_9) :: [])) rfl ?_
            refine lv_astore_n (lv' := [(3, .ref (ad w_9)), (2, .int v1_2), (0, .ref se), (1, .ref (ad 12))]) hx hb dX5_settleDownTo_26 rfl hl (by decide) rfl (fun ls hl => ?_)
            refine lv_aload_n hx hb dX5_settleDownTo_27 rfl (lv_at hl 0 rfl) ?_
            refine va_gets (v := .ref (ad 13)) hx hb (hE.1.1 13 (by decide)).1 hS hown (hts _ (List.mem_of_getElem? (i := 3) rfl)) (fun _ h9 => h9) dX5_settleDownTo_28 ?_
            refine W.eq (g2 := F0 m 31 ls (va_rf (some (ad 13)) :: va_rf (some (ad w_9)) :: [])) rfl ?_
            refine lv_acmp_eq (tgt := 49) hx hb dX5_settleDownTo_31 (by decide) (fun c_11 => ?_) (fun c_11 => ?_)
            · have h_12 : w_9 = 13 := (hE.1.2 w_9 13 h_10 (by decide) (Option.some.inj c_11))
              refine lv_aload_n hx hb dX5_settleDownTo_49 rfl (lv_at hl 2 rfl) ?_
              refine lv_dup hx hb dX5_settleDownTo_50 rfl ?_
              refine va_get (D := D) (ci := 5) (v := .int w1_1) (C := RX5) (T := TX5) (N := 10) hx hb hts hiX5 hown hK hP 0 rfl rfl 5 (by decide) (hts _ (List.mem_of_getElem? (i := 1) rfl)) (fun _ h9 => h9) rfl dX5_settleDownTo_51 ?_
              refine lv_iconst (v := 1) hx hb dX5_settleDownTo_54 (by decide) ?_
              refine lv_isub hx hb dX5_settleDownTo_55 ?_
              refine lv_topi (fun y_13 ey_13 => ?_)
              obtain rfl : y_7 = y_13 := ey_7.trans ey_13.symm
              refine va_put (D := D) (ci := 5) (v := .int y_7) (ty := tyX5 5) (C := RX5) (T := TX5) (N := 10) hx hb hts hiX5 tyX5 tyX5_ok nmX5 hown hK hP hD hS 0 rfl rfl 5 (by decide) (hts _ (List.mem_of_getElem? (i := 1) rfl)) (fun _ h9 => h9) rfl (tyX5_ok 5 (by decide)) rfl rfl (Nat.le_of_ble_eq_true rfl) dX5_settleDownTo_56 (fun H locs hP hD hS => ?_)
              have hP : va_P D vwCl [(se, .inr (5, [.ref sep, .ref seg, .ref sen, .ref ses, .ref sew, .int y_7, .int sei, .int seo, .int w1_2, .int sec])), (sep, .inl (sept, 40, .inr (.inr (.inr (.inr g1_5))))), (seg, .inl (segt, 40, .inl g1_3)), (sen, .inl (sent, 40, .inl g1_4)), (ses, .inl (sest, 40, .inl sesf)), (sew, .inl (sewt, 40, .inr (.inr (.inr (.inr sewf)))))] H := hP
              have hD : va_D A [(se, .inr (5, [.ref sep, .ref seg, .ref sen, .ref ses, .ref sew, .int y_7, .int sei, .int seo, .int w1_2, .int sec])), (sep, .inl (sept, 40, .inr (.inr (.inr (.inr g1_5))))), (seg, .inl (segt, 40, .inl g1_3)), (sen, .inl (sent, 40, .inl g1_4)), (ses, .inl (sest, 40, .inl sesf)), (sew, .inl (sewt, 40, .inr (.inr (.inr (.inr sewf)))))] := hD
              refine lv_aload_n hx hb dX5_settleDownTo_59 rfl (lv_at hl 2 rfl) ?_
              refine lv_aload_n hx hb dX5_settleDownTo_60 rfl (lv_at hl 0 rfl) ?_
              refine lv_iconst (v := 0) hx hb dX5_settleDownTo_61 (by decide) ?_
              refine lv_iconst (v := 0) hx hb dX5_settleDownTo_62 (by decide) ?_
              have hc9 := (w_Sentence_addStep l D ad se y_7 sei seo w1_2 sec sep sept g1_5 seg segt g1_3 sen sent g1_4 ses sest sesf sew sewt sewf w_9 0 0 (z_w (c := 0) (d := 40) h_8 rfl) hseo hw1_2 hsec hg1_5 hsewf h_10 hI1_0 (fun _ => (z_w (c := 0) (d := 5) (z_lit (x := 0) (a := 0) (b := 0) rfl) rfl)))
              refine z_calli (w0 := [(se, .inr (5, [.ref sep, .ref seg, .ref sen, .ref ses, .ref sew, .int y_7, .int sei, .int seo, .int w1_2, .int sec])), (sep, .inl (sept, 40, .inr (.inr (.inr (.inr g1_5))))), (seg, .inl (segt, 40, .inl g1_3)), (sen, .inl (sent, 40, .inl g1_4)), (ses, .inl (sest, 40, .inl sesf)), (sew, .inl (sewt, 40, .inr (.inr (.inr (.inr sewf)))))]) (wr := []) (va_runV (As := [.ref (ad w_9), .int 0, .int 0]) (rest := []) ⟨hx, hb, hml, hown, hts⟩ (hc9 _) (cwV 3 hts gX5_settleDownTo_X5_addStep rfl rfl rfl (by decide +kernel) ⟨Nat.le_of_ble_eq_true rfl, Nat.le_of_ble_eq_true rfl⟩) (z_preV hP hD hK hS hA hE hO [0, 1, 2, 3, 4, 5] [0, 1, 2, 3, 4] rfl (by decide +kernel) rfl 0 5 rfl rfl rfl) rfl rfl hl.1 rfl (lv_room (Nat.le_of_ble_eq_true rfl)) dX5_settleDownTo_63 ⟨Nat.le_of_ble_eq_true rfl, Nat.le_of_ble_eq_true rfl⟩) hP hD hK hS hA [0, 1, 2, 3, 4, 5] [] rfl rfl (by decide +kernel) (by decide +kernel) (fun y_14 u9 H locs hw hP hD hK hS => ?_)
              refine z_ex4 hw (fun x_15 f_17 f_19 f_20 hw => ?_)
              refine z_an8 hw (fun h_16 h_18 h_21 h_22 h_23 h_24 h_25 h_26 hw => ?_)
              subst hw
              have hP : va_P D vwCl [(se, .inr (5, [.ref sep, .ref seg, .ref sen, .ref ses, .ref sew, .int y_7, .int sei, .int seo, .int x_15, .int sec])), (sep, .inl (sept, 40, .inr (.inr (.inr (.inr f_17))))), (seg, .inl (segt, 40, .inl f_19)), (sen, .inl (sent, 40, .inl f_20)), (ses, .inl (sest, 40, .inl sesf)), (sew, .inl (sewt, 40, .inr (.inr (.inr (.inr sewf)))))] H := hP
              have hD : va_D A [(se, .inr (5, [.ref sep, .ref seg, .ref sen, .ref ses, .ref sew, .int y_7, .int sei, .int seo, .int x_15, .int sec])), (sep, .inl (sept, 40, .inr (.inr (.inr (.inr f_17))))), (seg, .inl (segt, 40, .inl f_19)), (sen, .inl (sent, 40, .inl f_20)), (ses, .inl (sest, 40, .inl sesf)), (sew, .inl (sewt, 40, .inr (.inr (.inr (.inr sewf)))))] := hD
              have hK : va_K D vwCl [(sept, .object "FuneralUmbrellas$Word"), (segt, .int), (sent, .int), (sest, .int), (sewt, .object "FuneralUmbrellas$Word")] s := hK
              refine W.cs (cells' := 0) (slots' := 0) rfl rfl ?_
              refine W.eq (g2 := F0 m 66 ls (.int y_14 :: [])) rfl ?_
              refine lv_pop hx hb dX5_settleDownTo_66 rfl ?_
              obtain ⟨y_27, ey_27⟩ : ∃ y : Int32, y = v1_2 + 1 := ⟨_, rfl⟩
              have h_28 : z_in 1 40 y_27 := by rw [ey_27]; exact z_add h_3 (z_lit (x := 1) (a := 1) (b := 1) rfl) rfl rfl
              have ty_27 : y_27.toInt = v1_2.toInt + 1 := by rw [ey_27]; exact z_addT h_3 (z_lit (x := 1) (a := 1) (b := 1) rfl) rfl
              refine lv_iinc (v := y_27) (lv' := [(2, .int y_27), (3, .ref (ad w_9)), (0, .ref se), (1, .ref (ad 12))]) hx hb dX5_settleDownTo_67 hl (k := 1) rfl (by rw [ey_27]; rfl) (by decide) rfl (fun ls hl => ?_)
              refine lv_goto (tgt := 2) hx hb dX5_settleDownTo_70 (by decide) ?_
              exact ih1 y_27 y_7 x_15 f_19 f_20 f_17 _ _ _ (z_w (c := 0) (d := 40) h_28 rfl) (z_w (c := 0) (d := 40) h_8 rfl) h_16 h_18 h_26 (z_wcJ hI1_1 ty_7 (Int.le_trans (by decide) h_8.1) (Or.inl (ew_9.trans (by rw [h_12])))) (show _ ≤ _ by have q1 := ty_7; have q2 := ty_27; have q3 : _ ≤ _ := hI1_2; omega) (by omega) hP hD hS (lv_sub hl [0, 2, 3] rfl)
            · have h_29 : w_9 ≠ 13 := fun q9 => c_11 (by rw [q9])
              refine lv_aload_n hx hb dX5_settleDownTo_34 rfl (lv_at hl 0 rfl) ?_
              refine va_gets (v := .ref (ad 12)) hx hb (hE.1.1 12 (by decide)).1 hS hown (hts _ (List.mem_of_getElem? (i := 4) rfl)) (fun _ h9 => h9) dX5_settleDownTo_35 ?_
              refine W.eq (g2 := F0 m 38 ls (va_rf (some (ad 12)) :: va_rf (some (ad w_9)) :: [])) rfl ?_
              refine lv_acmp_ne (tgt := 48) hx hb dX5_settleDownTo_38 (by decide) (fun c_30 => ?_) (fun c_30 => ?_)
              · have h_31 : w_9 ≠ 12 := fun q9 => c_30 (by rw [q9])
                exact hret ([(se, .inr (5, [.ref sep, .ref seg, .ref sen, .ref ses, .ref sew, .int w1_1, .int sei, .int seo, .int w1_2, .int sec])), (sep, .inl (sept, 40, .inr (.inr (.inr (.inr g1_5))))), (seg, .inl (segt, 40, .inl g1_3)), (sen, .inl (sent, 40, .inl g1_4)), (ses, .inl (sest, 40, .inl sesf)), (sew, .inl (sewt, 40, .inr (.inr (.inr (.inr sewf)))))], []) _ _ _ _ dX5_settleDownTo_48 ⟨w1_1, w1_2, g1_5, g1_3, g1_4, (z_w (c := 0) (d := 40) h_6 rfl), hw1_2, hg1_5, hI1_0, hI1_1, (z_tpE ty_7 (Int.le_trans (by decide) h_8.1) (z_neW hE.1.2 ew_9 h_10 (by decide) h_29) (z_neW hE.1.2 ew_9 h_10 (by decide) h_31)), rfl⟩ hP (hK.sub [] rfl) hD hS
              · have h_32 : w_9 = 12 := (hE.1.2 w_9 12 h_10 (by decide) (Option.some.inj c_30))
                refine lv_aload_n hx hb dX5_settleDownTo_41 rfl (lv_at hl 3 rfl) ?_
                refine va_gets (v := .ref (ad 12)) hx hb (hE.1.1 12 (by decide)).1 hS hown (hts _ (List.mem_of_getElem? (i := 4) rfl)) (fun _ h9 => h9) dX5_settleDownTo_42 ?_
                refine W.eq (g2 := F0 m 45 ls (va_rf (some (ad 12)) :: va_rf (some (ad 12)) :: [])) rfl ?_
                refine lv_acmp_eq (tgt := 49) hx hb dX5_settleDownTo_45 (by decide) (fun _ => ?_) (fun h9 => absurd rfl h9)
                refine lv_aload_n hx hb dX5_settleDownTo_49 rfl (lv_at hl 2 rfl) ?_
                refine lv_dup hx hb dX5_settleDownTo_50 rfl ?_
                refine va_get (D := D) (ci := 5) (v := .int w1_1) (C := RX5) (T := TX5) (N := 10) hx hb hts hiX5 hown hK hP 0 rfl rfl 5 (by decide) (hts _ (List.mem_of_getElem? (i := 1) rfl)) (fun _ h9 => h9) rfl dX5_settleDownTo_51 ?_
                refine lv_iconst (v := 1) hx hb dX5_settleDownTo_54 (by decide) ?_
                refine lv_isub hx hb dX5_settleDownTo_55 ?_
                refine lv_topi (fun y_33 ey_33 => ?_)
                obtain rfl : y_7 = y_33 := ey_7.trans ey_33.symm
                refine va_put (D := D) (ci := 5) (v := .int y_7) (ty := tyX5 5) (C := RX5) (T := TX5) (N := 10) hx hb hts hiX5 tyX5 tyX5_ok nmX5 hown hK hP hD hS 0 rfl rfl 5 (by decide) (hts _ (List.mem_of_getElem? (i := 1) rfl)) (fun _ h9 => h9) rfl (tyX5_ok 5 (by decide)) rfl rfl (Nat.le_of_ble_eq_true rfl) dX5_settleDownTo_56 (fun H locs hP hD hS => ?_)
                have hP : va_P D vwCl [(se, .inr (5, [.ref sep, .ref seg, .ref sen, .ref ses, .ref sew, .int y_7, .int sei, .int seo, .int w1_2, .int sec])), (sep, .inl (sept, 40, .inr (.inr (.inr (.inr g1_5))))), (seg, .inl (segt, 40, .inl g1_3)), (sen, .inl (sent, 40, .inl g1_4)), (ses, .inl (sest, 40, .inl sesf)), (sew, .inl (sewt, 40, .inr (.inr (.inr (.inr sewf)))))] H := hP
                have hD : va_D A [(se, .inr (5, [.ref sep, .ref seg, .ref sen, .ref ses, .ref sew, .int y_7, .int sei, .int seo, .int w1_2, .int sec])), (sep, .inl (sept, 40, .inr (.inr (.inr (.inr g1_5))))), (seg, .inl (segt, 40, .inl g1_3)), (sen, .inl (sent, 40, .inl g1_4)), (ses, .inl (sest, 40, .inl sesf)), (sew, .inl (sewt, 40, .inr (.inr (.inr (.inr sewf)))))] := hD
                refine lv_aload_n hx hb dX5_settleDownTo_59 rfl (lv_at hl 2 rfl) ?_
                refine lv_aload_n hx hb dX5_settleDownTo_60 rfl (lv_at hl 0 rfl) ?_
                refine lv_iconst (v := 0) hx hb dX5_settleDownTo_61 (by decide) ?_
                refine lv_iconst (v := 0) hx hb dX5_settleDownTo_62 (by decide) ?_
                have hc9 := (w_Sentence_addStep l D ad se y_7 sei seo w1_2 sec sep sept g1_5 seg segt g1_3 sen sent g1_4 ses sest sesf sew sewt sewf w_9 0 0 (z_w (c := 0) (d := 40) h_8 rfl) hseo hw1_2 hsec hg1_5 hsewf h_10 hI1_0 (fun _ => (z_w (c := 0) (d := 5) (z_lit (x := 0) (a := 0) (b := 0) rfl) rfl)))
                refine z_calli (w0 := [(se, .inr (5, [.ref sep, .ref seg, .ref sen, .ref ses, .ref sew, .int y_7, .int sei, .int seo, .int w1_2, .int sec])), (sep, .inl (sept, 40, .inr (.inr (.inr (.inr g1_5))))), (seg, .inl (segt, 40, .inl g1_3)), (sen, .inl (sent, 40, .inl g1_4)), (ses, .inl (sest, 40, .inl sesf)), (sew, .inl (sewt, 40, .inr (.inr (.inr (.inr sewf)))))]) (wr := []) (va_runV (As := [.ref (ad w_9), .int 0, .int 0]) (rest := []) ⟨hx, hb, hml, hown, hts⟩ (hc9 _) (cwV 3 hts gX5_settleDownTo_X5_addStep rfl rfl rfl (by decide +kernel) ⟨Nat.le_of_ble_eq_true rfl, Nat.le_of_ble_eq_true rfl⟩) (z_preV hP hD hK hS hA hE hO [0, 1, 2, 3, 4, 5] [0, 1, 2, 3, 4] rfl (by decide +kernel) rfl 0 5 rfl rfl rfl) rfl rfl hl.1 rfl (lv_room (Nat.le_of_ble_eq_true rfl)) dX5_settleDownTo_63 ⟨Nat.le_of_ble_eq_true rfl, Nat.le_of_ble_eq_true rfl⟩) hP hD hK hS hA [0, 1, 2, 3, 4, 5] [] rfl rfl (by decide +kernel) (by decide +kernel) (fun y_34 u9 H locs hw hP hD hK hS => ?_)
                refine z_ex4 hw (fun x_35 f_37 f_39 f_40 hw => ?_)
                refine z_an8 hw (fun h_36 h_38 h_41 h_42 h_43 h_44 h_45 h_46 hw => ?_)
                subst hw
                have hP : va_P D vwCl [(se, .inr (5, [.ref sep, .ref seg, .ref sen, .ref ses, .ref sew, .int y_7, .int sei, .int seo, .int x_35, .int sec])), (sep, .inl (sept, 40, .inr (.inr (.inr (.inr f_37))))), (seg, .inl (segt, 40, .inl f_39)), (sen, .inl (sent, 40, .inl f_40)), (ses, .inl (sest, 40, .inl sesf)), (sew, .inl (sewt, 40, .inr (.inr (.inr (.inr sewf)))))] H := hP
                have hD : va_D A [(se, .inr (5, [.ref sep, .ref seg, .ref sen, .ref ses, .ref sew, .int y_7, .int sei, .int seo, .int x_35, .int sec])), (sep, .inl (sept, 40, .inr (.inr (.inr (.inr f_37))))), (seg, .inl (segt, 40, .inl f_39)), (sen, .inl (sent, 40, .inl f_40)), (ses, .inl (sest, 40, .inl sesf)), (sew, .inl (sewt, 40, .inr (.inr (.inr (.inr sewf)))))] := hD
                have hK : va_K D vwCl [(sept, .object "FuneralUmbrellas$Word"), (segt, .int), (sent, .int), (sest, .int), (sewt, .object "FuneralUmbrellas$Word")] s := hK
                refine W.cs (cells' := 0) (slots' := 0) rfl rfl ?_
                refine W.eq (g2 := F0 m 66 ls (.int y_34 :: [])) rfl ?_
                refine lv_pop hx hb dX5_settleDownTo_66 rfl ?_
                obtain ⟨y_47, ey_47⟩ : ∃ y : Int32, y = v1_2 + 1 := ⟨_, rfl⟩
                have h_48 : z_in 1 40 y_47 := by rw [ey_47]; exact z_add h_3 (z_lit (x := 1) (a := 1) (b := 1) rfl) rfl rfl
                have ty_47 : y_47.toInt = v1_2.toInt + 1 := by rw [ey_47]; exact z_addT h_3 (z_lit (x := 1) (a := 1) (b := 1) rfl) rfl
                refine lv_iinc (v := y_47) (lv' := [(2, .int y_47), (3, .ref (ad w_9)), (0, .ref se), (1, .ref (ad 12))]) hx hb dX5_settleDownTo_67 hl (k := 1) rfl (by rw [ey_47]; rfl) (by decide) rfl (fun ls hl => ?_)
                refine lv_goto (tgt := 2) hx hb dX5_settleDownTo_70 (by decide) ?_
                exact ih1 y_47 y_7 x_35 f_39 f_40 f_37 _ _ _ (z_w (c := 0) (d := 40) h_48 rfl) (z_w (c := 0) (d := 40) h_8 rfl) h_36 h_38 h_46 (z_wcJ hI1_1 ty_7 (Int.le_trans (by decide) h_8.1) (Or.inr (ew_9.trans (by rw [h_32])))) (show _ ≤ _ by have q1 := ty_7; have q2 := ty_47; have q3 : _ ≤ _ := hI1_2; omega) (by omega) hP hD hS (lv_sub hl [0, 2, 3] rfl)
  exact LP1 41 0 set sel segf senf sepf _ _ _ (z_w (c := 0) (d := 40) (z_lit (x := 0) (a := 0) (b := 0) rfl) rfl) hset hsel hsepf hwse hc0 (show _ ≤ _ by have q1 := hset.2; have q2 := (z_lit (x := 0) (a := 0) (b := 0) rfl).2; omega) (by decide) hP hD hS (lv_sub hl [0, 1, 2] rfl)

set_option maxHeartbeats 8000000 in
set_option maxRecDepth 100000 in
theorem w_Sentence_settleDownTo (l : Launch) (D : va_G) (ad : Nat → Nat) (se : Nat) (set : Int32) (sei : Int32) (seo : Int32) (sel : Int32) (sec : Int32) (sep : Nat) (sept : ClassId) (sepf : Nat → Option Nat) (seg : Nat) (segt : ClassId) (segf : Nat → Int32) (sen : Nat) (sent : ClassId) (senf : Nat → Int32) (ses : Nat) (sest : ClassId) (sesf : Nat → Int32) (sew : Nat) (sewt : ClassId) (sewf : Nat → Option Nat) (w0 : Nat) (hset : z_in 0 40 set) (hseo : z_in 0 1 seo) (hsel : z_in 0 40 sel) (hsec : z_in 0 20 sec) (hsepf : z_wq ad sepf) (hsewf : z_wq ad sewf) (hw0 : w0 < 22) (hwse : z_wt ad sepf senf) (hc0 : z_wc ad sewf set sei) : z_Mv l yX5_settleDownTo wsX5_settleDownTo { frames := 1, cells := 0, slots := 0, locals := 23 } D ad [.ref se, .ref (ad w0)] [(se, .inr (5, [.ref sep, .ref seg, .ref sen, .ref ses, .ref sew, .int set, .int sei, .int seo, .int sel, .int sec])), (sep, .inl (sept, 40, .inr (.inr (.inr (.inr sepf))))), (seg, .inl (segt, 40, .inl segf)), (sen, .inl (sent, 40, .inl senf)), (ses, .inl (sest, 40, .inl sesf)), (sew, .inl (sewt, 40, .inr (.inr (.inr (.inr sewf)))))] [(sept, .object "FuneralUmbrellas$Word"), (segt, .int), (sent, .int), (sest, .int), (sewt, .object "FuneralUmbrellas$Word")] 0 0 (fun u9 => ∃ (x0_5 : Int32) (x0_8 : Int32) (x1_f : Nat → Option Nat) (x2_f : Nat → Int32) (x3_f : Nat → Int32), z_in 0 40 x0_5 ∧ z_in 0 40 x0_8 ∧ z_wq ad x1_f ∧ z_wt ad x1_f x3_f ∧ z_wc ad sewf x0_5 sei ∧ u9 = ([(se, .inr (5, [.ref sep, .ref seg, .ref sen, .ref ses, .ref sew, .int x0_5, .int sei, .int seo, .int x0_8, .int sec])), (sep, .inl (sept, 40, .inr (.inr (.inr (.inr x1_f))))), (seg, .inl (segt, 40, .inl x2_f)), (sen, .inl (sent, 40, .inl x3_f)), (ses, .inl (sest, 40, .inl sesf)), (sew, .inl (sewt, 40, .inr (.inr (.inr (.inr sewf)))))], [])) := by
  refine z_ofV (cc := cX5_settleDownTo) (maxL := 4) (by decide) rfl (Nat.le_of_ble_eq_true rfl) ?_
  intro p e s m below meth c Q A ls hx hb hml hown hts hin hK hP hD hA hE hO hS hl hret
  have hown : s.vm.findClass RX5 = some m.cls := hown
  have hiX5 : ∀ w ∈ wsX50, w ∈ wsX5_settleDownTo := fun _ h9 => List.mem_cons_of_mem _ (List.mem_append_right _ h9)
  have hl : lv_has ls 4 [(0, .ref se), (1, .ref (ad w0))] := hl
  refine lv_iconst (v := 0) hx hb dX5_settleDownTo_0 (by decide) ?_
  refine lv_istore_n (lv' := [(2, .int 0), (0, .ref se), (1, .ref (ad w0))]) hx hb dX5_settleDownTo_1 rfl hl (by decide) rfl (fun ls hl => ?_)
  have LP1 : ∀ (n : Nat) (v1_2 : Int32) (w1_1 : Int32) (w1_2 : Int32) (g1_3 : Nat → Int32) (g1_4 : Nat → Int32) (g1_5 : Nat → Option Nat) (H : Heap) (locs : List Loc) (ls : Array Slot), z_in 0 40 v1_2 → z_in 0 40 w1_1 → z_in 0 40 w1_2 → z_wq ad g1_5 → z_wt ad g1_5 g1_4 → z_wc ad sewf w1_1 sei → 41 - v1_2.toInt ≤ (n : Int) → va_P D vwCl [(se, .inr (5, [.ref sep, .ref seg, .ref sen, .ref ses, .ref sew, .int w1_1, .int sei, .int seo, .int w1_2, .int sec])), (sep, .inl (sept, 40, .inr (.inr (.inr (.inr g1_5))))), (seg, .inl (segt, 40, .inl g1_3)), (sen, .inl (sent, 40, .inl g1_4)), (ses, .inl (sest, 40, .inl sesf)), (sew, .inl (sewt, 40, .inr (.inr (.inr (.inr sewf)))))] H → va_D A [(se, .inr (5, [.ref sep, .ref seg, .ref sen, .ref ses, .ref sew, .int w1_1, .int sei, .int seo, .int w1_2, .int sec])), (sep, .inl (sept, 40, .inr (.inr (.inr (.inr g1_5))))), (seg, .inl (segt, 40, .inl g1_3)), (sen, .inl (sent, 40, .inl g1_4)), (ses, .inl (sest, 40, .inl sesf)), (sew, .inl (sewt, 40, .inr (.inr (.inr (.inr sewf)))))] → va_S A s.heap H locs → lv_has ls 4 [(2, .int v1_2), (0, .ref se), (1, .ref (ad w0))] → W p l e ({ frames := 1, cells := 0, slots := 0, locals := 23 }) s m ([.ref se, .ref (ad w0)] : List Value).toArray below meth c H locs 0 0 Q (F0 m 2 ls []) := by
    intro n
    induction n with
    | zero => intro v1_2 w1_1 w1_2 g1_3 g1_4 g1_5 H locs ls hv1_2 hw1_1 hw1_2 hg1_5 hI1_0 hI1_1 hn1; exact absurd hn1 (by have q1 := hv1_2.1; have q2 := hv1_2.2; omega)
    | succ n ih1 =>
      intro v1_2 w1_1 w1_2 g1_3 g1_4 g1_5 H locs ls hv1_2 hw1_1 hw1_2 hg1_5 hI1_0 hI1_1 hn1 hP hD hS hl
      have q1 := hv1_2.1
      have q1' := hv1_2.2
      refine lv_iload_n hx hb dX5_settleDownTo_2 rfl (lv_at hl 0 rfl) ?_
      refine lv_bipush (v := 40) hx hb dX5_settleDownTo_3 (by decide) ?_
      refine lv_icmp_ge (tgt := 73) hx hb dX5_settleDownTo_5 (by decide) (fun c_1 => ?_) (fun c_1 => ?_)
      · skip
        have h_2 : z_in 40 40 v1_2 := z_leR c_1 (z_lit (x := 40) (a := 40) (b := 40) rfl) hv1_2 rfl
        exact hret ([(se, .inr (5, [.ref sep, .ref seg, .ref sen, .ref ses, .ref sew, .int w1_1, .int sei, .int seo, .int w1_2, .int sec])), (sep, .inl (sept, 40, .inr (.inr (.inr (.inr g1_5))))), (seg, .inl (segt, 40, .inl g1_3)), (sen, .inl (sent, 40, .inl g1_4)), (ses, .inl (sest, 40, .inl sesf)), (sew, .inl (sewt, 40, .inr (.inr (.inr (.inr sewf)))))], []) _ _ _ _ dX5_settleDownTo_73 ⟨w1_1, w1_2, g1_5, g1_3, g1_4, hw1_1, hw1_2, hg1_5, hI1_0, hI1_1, rfl⟩ hP (hK.sub [] rfl) hD hS
      · skip
        have h_3 : z_in 0 39 v1_2 := z_ltL (Int32.not_le.mp c_1) hv1_2 (z_lit (x := 40) (a := 40) (b := 40) rfl) rfl
        refine lv_aload_n hx hb dX5_settleDownTo_8 rfl (lv_at hl 1 rfl) ?_
        refine va_get (D := D) (ci := 5) (v := .int w1_1) (C := RX5) (T := TX5) (N := 10) hx hb hts hiX5 hown hK hP 0 rfl rfl 5 (by decide) (hts _ (List.mem_of_getElem? (i := 1) rfl)) (fun _ h9 => h9) rfl dX5_settleDownTo_9 ?_
        refine lv_if_le (tgt := 73) hx hb dX5_settleDownTo_12 (by decide) (fun c_4 => ?_) (fun c_4 => ?_)
        · skip
          have h_5 : z_in 0 0 w1_1 := z_leL c_4 hw1_1 (z_lit (x := 0) (a := 0) (b := 0) rfl) rfl
          exact hret ([(se, .inr (5, [.ref sep, .ref seg, .ref sen, .ref ses, .ref sew, .int w1_1, .int sei, .int seo, .int w1_2, .int sec])), (sep, .inl (sept, 40, .inr (.inr (.inr (.inr g1_5))))), (seg, .inl (segt, 40, .inl g1_3)), (sen, .inl (sent, 40, .inl g1_4)), (ses, .inl (sest, 40, .inl sesf)), (sew, .inl (sewt, 40, .inr (.inr (.inr (.inr sewf)))))], []) _ _ _ _ dX5_settleDownTo_73 ⟨w1_1, w1_2, g1_5, g1_3, g1_4, (z_w (c := 0) (d := 40) h_5 rfl), hw1_2, hg1_5, hI1_0, hI1_1, rfl⟩ hP (hK.sub [] rfl) hD hS
        · skip
          have h_6 : z_in 1 40 w1_1 := z_ltR (Int32.not_le.mp c_4) (z_lit (x := 0) (a := 0) (b := 0) rfl) hw1_1 rfl
          refine lv_aload_n hx hb dX5_settleDownTo_15 rfl (lv_at hl 1 rfl) ?_
          refine va_get (D := D) (ci := 5) (v := .ref sew) (C := RX5) (T := TX5) (N := 10) hx hb hts hiX5 hown hK hP 0 rfl rfl 4 (by decide) (hts _ (List.mem_of_getElem? (i := 2) rfl)) (fun _ h9 => h9) rfl dX5_settleDownTo_16 ?_
          refine lv_aload_n hx hb dX5_settleDownTo_19 rfl (lv_at hl 1 rfl) ?_
          refine va_get (D := D) (ci := 5) (v := .int w1_1) (C := RX5) (T := TX5) (N := 10) hx hb hts hiX5 hown hK hP 0 rfl rfl 5 (by decide) (hts _ (List.mem_of_getElem? (i := 1) rfl)) (fun _ h9 => h9) rfl dX5_settleDownTo_20 ?_
          refine lv_iconst (v := 1) hx hb dX5_settleDownTo_23 (by decide) ?_
          refine lv_isub hx hb dX5_settleDownTo_24 ?_
          refine lv_topi (fun y_7 ey_7 => ?_)
          have h_8 : z_in 0 39 y_7 := by rw [ey_7]; exact z_sub h_6 (z_lit (x := 1) (a := 1) (b := 1) rfl) rfl rfl
          have ty_7 : y_7.toInt = w1_1.toInt + (-1) := by rw [ey_7]; exact (z_subT h_6 (z_lit (x := 1) (a := 1) (b := 1) rfl) rfl).trans rfl
          refine va_aldq hx hb hK hP 5 4 rfl rfl (z_vp h_8 rfl) dX5_settleDownTo_25 ?_
          rcases hsewf (y_7 : Int32).toNatClampNeg with e9 | ⟨w_9, h_10, ew_9⟩
          · rw [e9]
            refine W.eq (g2 := F0 m 26 ls (.null :: [])) rfl ?_
            refine lv_astore_nN (lv' := [(3, .null), (2, .int v1_2), (0, .ref se), (1, .ref (ad w0))]) hx hb dX5_settleDownTo_26 rfl hl (by decide) rfl (fun ls hl => ?_)
            refine lv_aload_nN hx hb dX5_settleDownTo_27 rfl (lv_at hl 0 rfl) ?_
            refine va_gets (v := .ref (ad 13)) hx hb (hE.1.1 13 (by decide)).1 hS hown (hts _ (List.mem_of_getElem? (i := 3) rfl)) (fun _ h9 => h9) dX5_settleDownTo_28 ?_
            refine W.eq (g2 := F0 m 31 ls (va_rf (some (ad 13)) :: va_rf (none) :: [])) rfl ?_
            refine lv_acmp_eq (tgt := 49) hx hb dX5_settleDownTo_31 (by decide) (fun h9 => by cases h9) (fun _ => ?_)
            refine lv_aload_nN hx hb dX5_settleDownTo_34 rfl (lv_at hl 0 rfl) ?_
            refine va_gets (v := .ref (ad 12)) hx hb (hE.1.1 12 (by decide)).1 hS hown (hts _ (List.mem_of_getElem? (i := 4) rfl)) (fun _ h9 => h9) dX5_settleDownTo_35 ?_
            refine W.eq (g2 := F0 m 38 ls (va_rf (some (ad 12)) :: va_rf (none) :: [])) rfl ?_
            refine lv_acmp_ne (tgt := 48) hx hb dX5_settleDownTo_38 (by decide) (fun _ => ?_) (fun h9 => by cases h9)
            exact hret ([(se, .inr (5, [.ref sep, .ref seg, .ref sen, .ref ses, .ref sew, .int w1_1, .int sei, .int seo, .int w1_2, .int sec])), (sep, .inl (sept, 40, .inr (.inr (.inr (.inr g1_5))))), (seg, .inl (segt, 40, .inl g1_3)), (sen, .inl (sent, 40, .inl g1_4)), (ses, .inl (sest, 40, .inl sesf)), (sew, .inl (sewt, 40, .inr (.inr (.inr (.inr sewf)))))], []) _ _ _ _ dX5_settleDownTo_48 ⟨w1_1, w1_2, g1_5, g1_3, g1_4, (z_w (c := 0) (d := 40) h_6 rfl), hw1_2, hg1_5, hI1_0, hI1_1, rfl⟩ hP (hK.sub [] rfl) hD hS
          · rw [ew_9]
            refine W.eq (g2 := F0 m 26 ls (.ref (ad w_9) :: [])) rfl ?_
            refine lv_astore_n (lv' := [(3, .ref (ad w_9)), (2, .int v1_2), (0, .ref se), (1, .ref (ad w0))]) hx hb dX5_settleDownTo_26 rfl hl (by decide) rfl (fun ls hl => ?_)
            refine lv_aload_n hx hb dX5_settleDownTo_27 rfl (lv_at hl 0 rfl) ?_
            refine va_gets (v := .ref (ad 13)) hx hb (hE.1.1 13 (by decide)).1 hS hown (hts _ (List.mem_of_getElem? (i := 3) rfl)) (fun _ h9 => h9) dX5_settleDownTo_28 ?_
            refine W.eq (g2 := F0 m 31 ls (va_rf (some (ad 13)) :: va_rf (some (ad w_9)) :: [])) rfl ?_
            refine lv_acmp_eq (tgt := 49) hx hb dX5_settleDownTo_31 (by decide) (fun c_11 => ?_) (fun c_11 => ?_)
            · have h_12 : w_9 = 13 := (hE.1.2 w_9 13 h_10 (by decide) (Option.some.inj c_11))
              refine lv_aload_n hx hb dX5_settleDownTo_49 rfl (lv_at hl 2 rfl) ?_
              refine lv_dup hx hb dX5_settleDownTo_50 rfl ?_
              refine va_get (D := D) (ci := 5) (v := .int w1_1) (C := RX5) (T := TX5) (N := 10) hx hb hts hiX5 hown hK hP 0 rfl rfl 5 (by decide) (hts _ (List.mem_of_getElem? (i := 1) rfl)) (fun _ h9 => h9) rfl dX5_settleDownTo_51 ?_
              refine lv_iconst (v := 1) hx hb dX5_settleDownTo_54 (by decide) ?_
              refine lv_isub hx hb dX5_settleDownTo_55 ?_
              refine lv_topi (fun y_13 ey_13 => ?_)
              obtain rfl : y_7 = y_13 := ey_7.trans ey_13.symm
              refine va_put (D := D) (ci := 5) (v := .int y_7) (ty := tyX5 5) (C := RX5) (T := TX5) (N := 10) hx hb hts hiX5 tyX5 tyX5_ok nmX5 hown hK hP hD hS 0 rfl rfl 5 (by decide) (hts _ (List.mem_of_getElem? (i := 1) rfl)) (fun _ h9 => h9) rfl (tyX5_ok 5 (by decide)) rfl rfl (Nat.le_of_ble_eq_true rfl) dX5_settleDownTo_56 (fun H locs hP hD hS => ?_)
              have hP : va_P D vwCl [(se, .inr (5, [.ref sep, .ref seg, .ref sen, .ref ses, .ref sew, .int y_7, .int sei, .int seo, .int w1_2, .int sec])), (sep, .inl (sept, 40, .inr (.inr (.inr (.inr g1_5))))), (seg, .inl (segt, 40, .inl g1_3)), (sen, .inl (sent, 40, .inl g1_4)), (ses, .inl (sest, 40, .inl sesf)), (sew, .inl (sewt, 40, .inr (.inr (.inr (.inr sewf)))))] H := hP
              have hD : va_D A [(se, .inr (5, [.ref sep, .ref seg, .ref sen, .ref ses, .ref sew, .int y_7, .int sei, .int seo, .int w1_2, .int sec])), (sep, .inl (sept, 40, .inr (.inr (.inr (.inr g1_5))))), (seg, .inl (segt, 40, .inl g1_3)), (sen, .inl (sent, 40, .inl g1_4)), (ses, .inl (sest, 40, .inl sesf)), (sew, .inl (sewt, 40, .inr (.inr (.inr (.inr sewf)))))] := hD
              refine lv_aload_n hx hb dX5_settleDownTo_59 rfl (lv_at hl 2 rfl) ?_
              refine lv_aload_n hx hb dX5_settleDownTo_60 rfl (lv_at hl 0 rfl) ?_
              refine lv_iconst (v := 0) hx hb dX5_settleDownTo_61 (by decide) ?_
              refine lv_iconst (v := 0) hx hb dX5_settleDownTo_62 (by decide) ?_
              have hc9 := (w_Sentence_addStep l D ad se y_7 sei seo w1_2 sec sep sept g1_5 seg segt g1_3 sen sent g1_4 ses sest sesf sew sewt sewf w_9 0 0 (z_w (c := 0) (d := 40) h_8 rfl) hseo hw1_2 hsec hg1_5 hsewf h_10 hI1_0 (fun _ => (z_w (c := 0) (d := 5) (z_lit (x := 0) (a := 0) (b := 0) rfl) rfl)))
              refine z_calli (w0 := [(se, .inr (5, [.ref sep, .ref seg, .ref sen, .ref ses, .ref sew, .int y_7, .int sei, .int seo, .int w1_2, .int sec])), (sep, .inl (sept, 40, .inr (.inr (.inr (.inr g1_5))))), (seg, .inl (segt, 40, .inl g1_3)), (sen, .inl (sent, 40, .inl g1_4)), (ses, .inl (sest, 40, .inl sesf)), (sew, .inl (sewt, 40, .inr (.inr (.inr (.inr sewf)))))]) (wr := []) (va_runV (As := [.ref (ad w_9), .int 0, .int 0]) (rest := []) ⟨hx, hb, hml, hown, hts⟩ (hc9 _) (cwV 3 hts gX5_settleDownTo_X5_addStep rfl rfl rfl (by decide +kernel) ⟨Nat.le_of_ble_eq_true rfl, Nat.le_of_ble_eq_true rfl⟩) (z_preV hP hD hK hS hA hE hO [0, 1, 2, 3, 4, 5] [0, 1, 2, 3, 4] rfl (by decide +kernel) rfl 0 5 rfl rfl rfl) rfl rfl hl.1 rfl (lv_room (Nat.le_of_ble_eq_true rfl)) dX5_settleDownTo_63 ⟨Nat.le_of_ble_eq_true rfl, Nat.le_of_ble_eq_true rfl⟩) hP hD hK hS hA [0, 1, 2, 3, 4, 5] [] rfl rfl (by decide +kernel) (by decide +kernel) (fun y_14 u9 H locs hw hP hD hK hS => ?_)
              refine z_ex4 hw (fun x_15 f_17 f_19 f_20 hw => ?_)
              refine z_an8 hw (fun h_16 h_18 h_21 h_22 h_23 h_24 h_25 h_26 hw => ?_)
              subst hw
              have hP : va_P D vwCl [(se, .inr (5, [.ref sep, .ref seg, .ref sen, .ref ses, .ref sew, .int y_7, .int sei, .int seo, .int x_15, .int sec])), (sep, .inl (sept, 40, .inr (.inr (.inr (.inr f_17))))), (seg, .inl (segt, 40, .inl f_19)), (sen, .inl (sent, 40, .inl f_20)), (ses, .inl (sest, 40, .inl sesf)), (sew, .inl (sewt, 40, .inr (.inr (.inr (.inr sewf)))))] H := hP
              have hD : va_D A [(se, .inr (5, [.ref sep, .ref seg, .ref sen, .ref ses, .ref sew, .int y_7, .int sei, .int seo, .int x_15, .int sec])), (sep, .inl (sept, 40, .inr (.inr (.inr (.inr f_17))))), (seg, .inl (segt, 40, .inl f_19)), (sen, .inl (sent, 40, .inl f_20)), (ses, .inl (sest, 40, .inl sesf)), (sew, .inl (sewt, 40, .inr (.inr (.inr (.inr sewf)))))] := hD
              have hK : va_K D vwCl [(sept, .object "FuneralUmbrellas$Word"), (segt, .int), (sent, .int), (sest, .int), (sewt, .object "FuneralUmbrellas$Word")] s := hK
              refine W.cs (cells' := 0) (slots' := 0) rfl rfl ?_
              refine W.eq (g2 := F0 m 66 ls (.int y_14 :: [])) rfl ?_
              refine lv_pop hx hb dX5_settleDownTo_66 rfl ?_
              obtain ⟨y_27, ey_27⟩ : ∃ y : Int32, y = v1_2 + 1 := ⟨_, rfl⟩
              have h_28 : z_in 1 40 y_27 := by rw [ey_27]; exact z_add h_3 (z_lit (x := 1) (a := 1) (b := 1) rfl) rfl rfl
              have ty_27 : y_27.toInt = v1_2.toInt + 1 := by rw [ey_27]; exact z_addT h_3 (z_lit (x := 1) (a := 1) (b := 1) rfl) rfl
              refine lv_iinc (v := y_27) (lv' := [(2, .int y_27), (3, .ref (ad w_9)), (0, .ref se), (1, .ref (ad w0))]) hx hb dX5_settleDownTo_67 hl (k := 1) rfl (by rw [ey_27]; rfl) (by decide) rfl (fun ls hl => ?_)
              refine lv_goto (tgt := 2) hx hb dX5_settleDownTo_70 (by decide) ?_
              exact ih1 y_27 y_7 x_15 f_19 f_20 f_17 _ _ _ (z_w (c := 0) (d := 40) h_28 rfl) (z_w (c := 0) (d := 40) h_8 rfl) h_16 h_18 h_26 (z_wcJ hI1_1 ty_7 (Int.le_trans (by decide) h_8.1) (Or.inl (ew_9.trans (by rw [h_12])))) (by omega) hP hD hS (lv_sub hl [0, 2, 3] rfl)
            · have h_29 : w_9 ≠ 13 := fun q9 => c_11 (by rw [q9])
              refine lv_aload_n hx hb dX5_settleDownTo_34 rfl (lv_at hl 0 rfl) ?_
              refine va_gets (v := .ref (ad 12)) hx hb (hE.1.1 12 (by decide)).1 hS hown (hts _ (List.mem_of_getElem? (i := 4) rfl)) (fun _ h9 => h9) dX5_settleDownTo_35 ?_
              refine W.eq (g2 := F0 m 38 ls (va_rf (some (ad 12)) :: va_rf (some (ad w_9)) :: [])) rfl ?_
              refine lv_acmp_ne (tgt := 48) hx hb dX5_settleDownTo_38 (by decide) (fun c_30 => ?_) (fun c_30 => ?_)
              · have h_31 : w_9 ≠ 12 := fun q9 => c_30 (by rw [q9])
                exact hret ([(se, .inr (5, [.ref sep, .ref seg, .ref sen, .ref ses, .ref sew, .int w1_1, .int sei, .int seo, .int w1_2, .int sec])), (sep, .inl (sept, 40, .inr (.inr (.inr (.inr g1_5))))), (seg, .inl (segt, 40, .inl g1_3)), (sen, .inl (sent, 40, .inl g1_4)), (ses, .inl (sest, 40, .inl sesf)), (sew, .inl (sewt, 40, .inr (.inr (.inr (.inr sewf)))))], []) _ _ _ _ dX5_settleDownTo_48 ⟨w1_1, w1_2, g1_5, g1_3, g1_4, (z_w (c := 0) (d := 40) h_6 rfl), hw1_2, hg1_5, hI1_0, hI1_1, rfl⟩ hP (hK.sub [] rfl) hD hS
              · have h_32 : w_9 = 12 := (hE.1.2 w_9 12 h_10 (by decide) (Option.some.inj c_30))
                refine lv_aload_n hx hb dX5_settleDownTo_41 rfl (lv_at hl 3 rfl) ?_
                refine va_gets (v := .ref (ad 12)) hx hb (hE.1.1 12 (by decide)).1 hS hown (hts _ (List.mem_of_getElem? (i := 4) rfl)) (fun _ h9 => h9) dX5_settleDownTo_42 ?_
                refine W.eq (g2 := F0 m 45 ls (va_rf (some (ad 12)) :: va_rf (some (ad w0)) :: [])) rfl ?_
                refine lv_acmp_eq (tgt := 49) hx hb dX5_settleDownTo_45 (by decide) (fun c_33 => ?_) (fun c_33 => ?_)
                · have h_34 : w0 = 12 := (hE.1.2 w0 12 hw0 (by decide) (Option.some.inj c_33))
                  refine lv_aload_n hx hb dX5_settleDownTo_49 rfl (lv_at hl 2 rfl) ?_
                  refine lv_dup hx hb dX5_settleDownTo_50 rfl ?_
                  refine va_get (D := D) (ci := 5) (v := .int w1_1) (C := RX5) (T := TX5) (N := 10) hx hb hts hiX5 hown hK hP 0 rfl rfl 5 (by decide) (hts _ (List.mem_of_getElem? (i := 1) rfl)) (fun _ h9 => h9) rfl dX5_settleDownTo_51 ?_
                  refine lv_iconst (v := 1) hx hb dX5_settleDownTo_54 (by decide) ?_
                  refine lv_isub hx hb dX5_settleDownTo_55 ?_
                  refine lv_topi (fun y_35 ey_35 => ?_)
                  obtain rfl : y_7 = y_35 := ey_7.trans ey_35.symm
                  refine va_put (D := D) (ci := 5) (v := .int y_7) (ty := tyX5 5) (C := RX5) (T := TX5) (N := 10) hx hb hts hiX5 tyX5 tyX5_ok nmX5 hown hK hP hD hS 0 rfl rfl 5 (by decide) (hts _ (List.mem_of_getElem? (i := 1) rfl)) (fun _ h9 => h9) rfl (tyX5_ok 5 (by decide)) rfl rfl (Nat.le_of_ble_eq_true rfl) dX5_settleDownTo_56 (fun H locs hP hD hS => ?_)
                  have hP : va_P D vwCl [(se, .inr (5, [.ref sep, .ref seg, .ref sen, .ref ses, .ref sew, .int y_7, .int sei, .int seo, .int w1_2, .int sec])), (sep, .inl (sept, 40, .inr (.inr (.inr (.inr g1_5))))), (seg, .inl (segt, 40, .inl g1_3)), (sen, .inl (sent, 40, .inl g1_4)), (ses, .inl (sest, 40, .inl sesf)), (sew, .inl (sewt, 40, .inr (.inr (.inr (.inr sewf)))))] H := hP
                  have hD : va_D A [(se, .inr (5, [.ref sep, .ref seg, .ref sen, .ref ses, .ref sew, .int y_7, .int sei, .int seo, .int w1_2, .int sec])), (sep, .inl (sept, 40, .inr (.inr (.inr (.inr g1_5))))), (seg, .inl (segt, 40, .inl g1_3)), (sen, .inl (sent, 40, .inl g1_4)), (ses, .inl (sest, 40, .inl sesf)), (sew, .inl (sewt, 40, .inr (.inr (.inr (.inr sewf)))))] := hD
                  refine lv_aload_n hx hb dX5_settleDownTo_59 rfl (lv_at hl 2 rfl) ?_
                  refine lv_aload_n hx hb dX5_settleDownTo_60 rfl (lv_at hl 0 rfl) ?_
                  refine lv_iconst (v := 0) hx hb dX5_settleDownTo_61 (by decide) ?_
                  refine lv_iconst (v := 0) hx hb dX5_settleDownTo_62 (by decide) ?_
                  have hc9 := (w_Sentence_addStep l D ad se y_7 sei seo w1_2 sec sep sept g1_5 seg segt g1_3 sen sent g1_4 ses sest sesf sew sewt sewf w_9 0 0 (z_w (c := 0) (d := 40) h_8 rfl) hseo hw1_2 hsec hg1_5 hsewf h_10 hI1_0 (fun _ => (z_w (c := 0) (d := 5) (z_lit (x := 0) (a := 0) (b := 0) rfl) rfl)))
                  refine z_calli (w0 := [(se, .inr (5, [.ref sep, .ref seg, .ref sen, .ref ses, .ref sew, .int y_7, .int sei, .int seo, .int w1_2, .int sec])), (sep, .inl (sept, 40, .inr (.inr (.inr (.inr g1_5))))), (seg, .inl (segt, 40, .inl g1_3)), (sen, .inl (sent, 40, .inl g1_4)), (ses, .inl (sest, 40, .inl sesf)), (sew, .inl (sewt, 40, .inr (.inr (.inr (.inr sewf)))))]) (wr := []) (va_runV (As := [.ref (ad w_9), .int 0, .int 0]) (rest := []) ⟨hx, hb, hml, hown, hts⟩ (hc9 _) (cwV 3 hts gX5_settleDownTo_X5_addStep rfl rfl rfl (by decide +kernel) ⟨Nat.le_of_ble_eq_true rfl, Nat.le_of_ble_eq_true rfl⟩) (z_preV hP hD hK hS hA hE hO [0, 1, 2, 3, 4, 5] [0, 1, 2, 3, 4] rfl (by decide +kernel) rfl 0 5 rfl rfl rfl) rfl rfl hl.1 rfl (lv_room (Nat.le_of_ble_eq_true rfl)) dX5_settleDownTo_63 ⟨Nat.le_of_ble_eq_true rfl, Nat.le_of_ble_eq_true rfl⟩) hP hD hK hS hA [0, 1, 2, 3, 4, 5] [] rfl rfl (by decide +kernel) (by decide +kernel) (fun y_36 u9 H locs hw hP hD hK hS => ?_)
                  refine z_ex4 hw (fun x_37 f_39 f_41 f_42 hw => ?_)
                  refine z_an8 hw (fun h_38 h_40 h_43 h_44 h_45 h_46 h_47 h_48 hw => ?_)
                  subst hw
                  have hP : va_P D vwCl [(se, .inr (5, [.ref sep, .ref seg, .ref sen, .ref ses, .ref sew, .int y_7, .int sei, .int seo, .int x_37, .int sec])), (sep, .inl (sept, 40, .inr (.inr (.inr (.inr f_39))))), (seg, .inl (segt, 40, .inl f_41)), (sen, .inl (sent, 40, .inl f_42)), (ses, .inl (sest, 40, .inl sesf)), (sew, .inl (sewt, 40, .inr (.inr (.inr (.inr sewf)))))] H := hP
                  have hD : va_D A [(se, .inr (5, [.ref sep, .ref seg, .ref sen, .ref ses, .ref sew, .int y_7, .int sei, .int seo, .int x_37, .int sec])), (sep, .inl (sept, 40, .inr (.inr (.inr (.inr f_39))))), (seg, .inl (segt, 40, .inl f_41)), (sen, .inl (sent, 40, .inl f_42)), (ses, .inl (sest, 40, .inl sesf)), (sew, .inl (sewt, 40, .inr (.inr (.inr (.inr sewf)))))] := hD
                  have hK : va_K D vwCl [(sept, .object "FuneralUmbrellas$Word"), (segt, .int), (sent, .int), (sest, .int), (sewt, .object "FuneralUmbrellas$Word")] s := hK
                  refine W.cs (cells' := 0) (slots' := 0) rfl rfl ?_
                  refine W.eq (g2 := F0 m 66 ls (.int y_36 :: [])) rfl ?_
                  refine lv_pop hx hb dX5_settleDownTo_66 rfl ?_
                  obtain ⟨y_49, ey_49⟩ : ∃ y : Int32, y = v1_2 + 1 := ⟨_, rfl⟩
                  have h_50 : z_in 1 40 y_49 := by rw [ey_49]; exact z_add h_3 (z_lit (x := 1) (a := 1) (b := 1) rfl) rfl rfl
                  have ty_49 : y_49.toInt = v1_2.toInt + 1 := by rw [ey_49]; exact z_addT h_3 (z_lit (x := 1) (a := 1) (b := 1) rfl) rfl
                  refine lv_iinc (v := y_49) (lv' := [(2, .int y_49), (3, .ref (ad w_9)), (0, .ref se), (1, .ref (ad w0))]) hx hb dX5_settleDownTo_67 hl (k := 1) rfl (by rw [ey_49]; rfl) (by decide) rfl (fun ls hl => ?_)
                  refine lv_goto (tgt := 2) hx hb dX5_settleDownTo_70 (by decide) ?_
                  exact ih1 y_49 y_7 x_37 f_41 f_42 f_39 _ _ _ (z_w (c := 0) (d := 40) h_50 rfl) (z_w (c := 0) (d := 40) h_8 rfl) h_38 h_40 h_48 (z_wcJ hI1_1 ty_7 (Int.le_trans (by decide) h_8.1) (Or.inr (ew_9.trans (by rw [h_32])))) (by omega) hP hD hS (lv_sub hl [0, 2, 3] rfl)
                · have h_51 : w0 ≠ 12 := fun q9 => c_33 (by rw [q9])
                  exact hret ([(se, .inr (5, [.ref sep, .ref seg, .ref sen, .ref ses, .ref sew, .int w1_1, .int sei, .int seo, .int w1_2, .int sec])), (sep, .inl (sept, 40, .inr (.inr (.inr (.inr g1_5))))), (seg, .inl (segt, 40, .inl g1_3)), (sen, .inl (sent, 40, .inl g1_4)), (ses, .inl (sest, 40, .inl sesf)), (sew, .inl (sewt, 40, .inr (.inr (.inr (.inr sewf)))))], []) _ _ _ _ dX5_settleDownTo_48 ⟨w1_1, w1_2, g1_5, g1_3, g1_4, (z_w (c := 0) (d := 40) h_6 rfl), hw1_2, hg1_5, hI1_0, hI1_1, rfl⟩ hP (hK.sub [] rfl) hD hS
  exact LP1 41 0 set sel segf senf sepf _ _ _ (z_w (c := 0) (d := 40) (z_lit (x := 0) (a := 0) (b := 0) rfl) rfl) hset hsel hsepf hwse hc0 (by decide) hP hD hS (lv_sub hl [0, 1, 2] rfl)

set_option maxHeartbeats 8000000 in
set_option maxRecDepth 100000 in
theorem w_Tokens_passNumber_0_999 (l : Launch) (D : va_G) (ad : Nat → Nat) (tk : Nat) (tkm : Int32) (tkb : Int32) (tkk : Int32) (tka : Int32) (tkv : Int32) (tkc : Int64) (tkf : Int32) (tkg : Int32) (tkw : Nat) (ta : Nat) (tan : Int32) (tab : Nat) (tabt : ClassId) (tabf : Nat → Int32) (htkb : z_in 0 940 tkb) (htkk : z_in 0 4 tkk) (htkw : tkw < 22) (htan : z_in 0 940 tan) (httk : z_tk tkk tkw) : z_Mi l yX7_passNumber wsX7_passNumber { frames := 3, cells := 0, slots := 0, locals := 66 } D ad [.ref tk, .int 0, .int 999] [(tk, .inr (7, [.ref ta, .int tkm, .int tkb, .int tkk, .int tka, .int tkv, .long tkc, .ref (ad tkw), .int tkf, .int tkg])), (ta, .inr (6, [.ref tab, .int tan])), (tab, .inl (tabt, 940, .inl tabf))] [(tabt, .byte)] 0 0 (fun r9 u9 => ∃ (x0_2 : Int32) (x0_3 : Int32) (x0_4 : Int32) (x0_5 : Int32) (x0_6 : Int64) (x0_7 : Nat) (x0_8 : Int32) (x0_9 : Int32), z_in 0 940 x0_2 ∧ z_in 0 4 x0_3 ∧ x0_7 < 22 ∧ z_in (-1) 999 r9 ∧ (0 ≤ r9.toInt → z_in 3 3 tkk) ∧ (0 ≤ r9.toInt → z_in 0 999 tkv) ∧ z_tk x0_3 x0_7 ∧ u9 = ([(tk, .inr (7, [.ref ta, .int tkm, .int x0_2, .int x0_3, .int x0_4, .int x0_5, .long x0_6, .ref (ad x0_7), .int x0_8, .int x0_9])), (ta, .inr (6, [.ref tab, .int tan])), (tab, .inl (tabt, 940, .inl tabf))], [])) := by
  refine z_ofI (cc := cX7_passNumber) (maxL := 4) (rt := .int) (by decide) rfl (Nat.le_of_ble_eq_true rfl) ?_
  intro p e s m below meth c Q A ls hx hb hml hown hts hin hK hP hD hA hE hO hS hl hret
  have hown : s.vm.findClass RX7 = some m.cls := hown
  have hiX7 : ∀ w ∈ wsX70, w ∈ wsX7_passNumber := fun _ h9 => List.mem_cons_of_mem _ (List.mem_append_left _ (List.mem_append_right _ h9))
  have hiX6 : ∀ w ∈ wsX60, w ∈ wsX7_passNumber := fun _ h9 => List.mem_cons_of_mem _ (List.mem_append_right _ h9)
  have hl : lv_has ls 4 [(0, .ref tk), (1, .int 0), (2, .int 999)] := hl
  refine lv_aload_n hx hb dX7_passNumber_0 rfl (lv_at hl 0 rfl) ?_
  refine va_get (D := D) (ci := 7) (v := .int tkk) (C := RX7) (T := TX7) (N := 10) hx hb hts hiX7 hown hK hP 0 rfl rfl 3 (by decide) (hts _ (List.mem_of_getElem? (i := 1) rfl)) (fun _ h9 => h9) rfl dX7_passNumber_1 ?_
  refine lv_iconst (v := 3) hx hb dX7_passNumber_4 (by decide) ?_
  refine lv_icmp_eq (tgt := 16) hx hb dX7_passNumber_5 (by decide) (fun c_1 => ?_) (fun c_1 => ?_)
  · skip
    have h_2 : z_in 0 3 tkk := z_leL (Int32.le_of_eq c_1) htkk (z_lit (x := 3) (a := 3) (b := 3) rfl) rfl
    have h_3 : z_in 3 3 tkk := z_leR (Int32.le_of_eq (Eq.symm c_1)) (z_lit (x := 3) (a := 3) (b := 3) rfl) h_2 rfl
    refine lv_aload_n hx hb dX7_passNumber_16 rfl (lv_at hl 0 rfl) ?_
    refine va_get (D := D) (ci := 7) (v := .int tkv) (C := RX7) (T := TX7) (N := 10) hx hb hts hiX7 hown hK hP 0 rfl rfl 5 (by decide) (hts _ (List.mem_of_getElem? (i := 2) rfl)) (fun _ h9 => h9) rfl dX7_passNumber_17 ?_
    refine lv_iload_n hx hb dX7_passNumber_20 rfl (lv_at hl 1 rfl) ?_
    refine lv_icmp_lt (tgt := 32) hx hb dX7_passNumber_21 (by decide) (fun c_4 => ?_) (fun c_4 => ?_)
    · skip
      have h_5 : z_in (-2147483648) (-1) tkv := z_ltL c_4 (z_any tkv) (z_lit (x := 0) (a := 0) (b := 0) rfl) rfl
      refine lv_aload_n hx hb dX7_passNumber_32 rfl (lv_at hl 0 rfl) ?_
      refine lv_iconst (v := 2) hx hb dX7_passNumber_33 (by decide) ?_
      have hc9 := (w_Tokens_fails l D ad tk tkm tkb tkk tka tkv tkc tkf tkg tkw ta tan tab tabt tabf 2 htkb (z_w (c := 0) (d := 4) h_3 rfl) htkw htan httk)
      refine z_calli (w0 := [(tk, .inr (7, [.ref ta, .int tkm, .int tkb, .int tkk, .int tka, .int tkv, .long tkc, .ref (ad tkw), .int tkf, .int tkg])), (ta, .inr (6, [.ref tab, .int tan])), (tab, .inl (tabt, 940, .inl tabf))]) (wr := []) (va_runV (As := [.int 2]) (rest := []) ⟨hx, hb, hml, hown, hts⟩ (hc9 _) (cwV 1 hts gX7_passNumber_X7_fails rfl rfl rfl (by decide +kernel) ⟨Nat.le_of_ble_eq_true rfl, Nat.le_of_ble_eq_true rfl⟩) (z_preV hP hD hK hS hA hE hO [0, 1, 2] [0] rfl (by decide +kernel) rfl 0 7 rfl rfl rfl) rfl rfl hl.1 rfl (lv_room (Nat.le_of_ble_eq_true rfl)) dX7_passNumber_34 ⟨Nat.le_of_ble_eq_true rfl, Nat.le_of_ble_eq_true rfl⟩) hP hD hK hS hA [0, 1, 2] [] rfl rfl (by decide +kernel) (by decide +kernel) (fun y_6 u9 H locs hw hP hD hK hS => ?_)
      obtain ⟨x_7, x_8, h_9, rfl⟩ := hw
      have hP : va_P D vwCl [(tk, .inr (7, [.ref ta, .int tkm, .int tkb, .int tkk, .int tka, .int tkv, .long tkc, .ref (ad tkw), .int x_7, .int x_8])), (ta, .inr (6, [.ref tab, .int tan])), (tab, .inl (tabt, 940, .inl tabf))] H := hP
      have hD : va_D A [(tk, .inr (7, [.ref ta, .int tkm, .int tkb, .int tkk, .int tka, .int tkv, .long tkc, .ref (ad tkw), .int x_7, .int x_8])), (ta, .inr (6, [.ref tab, .int tan])), (tab, .inl (tabt, 940, .inl tabf))] := hD
      have hK : va_K D vwCl [(tabt, .byte)] s := hK
      refine W.cs (cells' := 0) (slots' := 0) rfl rfl ?_
      refine W.eq (g2 := F0 m 37 ls (.int y_6 :: [])) rfl ?_
      refine lv_pop hx hb dX7_passNumber_37 rfl ?_
      refine lv_iconst (v := (-1)) hx hb dX7_passNumber_38 (by decide) ?_
      exact hret (-1) ([(tk, .inr (7, [.ref ta, .int tkm, .int tkb, .int tkk, .int tka, .int tkv, .long tkc, .ref (ad tkw), .int x_7, .int x_8])), (ta, .inr (6, [.ref tab, .int tan])), (tab, .inl (tabt, 940, .inl tabf))], []) _ _ _ _ dX7_passNumber_39 rfl ⟨tkb, tkk, tka, tkv, tkc, tkw, x_7, x_8, htkb, (z_w (c := 0) (d := 4) h_3 rfl), htkw, (z_w (c := (-1)) (d := 999) (z_lit (x := (-1)) (a := (-1)) (b := (-1)) rfl) rfl), (fun h9 => absurd (Int.le_trans h9 (z_lit (x := (-1)) (a := (-1)) (b := (-1)) rfl).2) (by decide)), (fun h9 => absurd (Int.le_trans h9 (z_lit (x := (-1)) (a := (-1)) (b := (-1)) rfl).2) (by decide)), httk, rfl⟩ hP (hK.sub [] rfl) hD hS
    · skip
      have h_10 : z_in 0 2147483647 tkv := z_leR (Int32.not_lt.mp c_4) (z_lit (x := 0) (a := 0) (b := 0) rfl) (z_any tkv) rfl
      refine lv_aload_n hx hb dX7_passNumber_24 rfl (lv_at hl 0 rfl) ?_
      refine va_get (D := D) (ci := 7) (v := .int tkv) (C := RX7) (T := TX7) (N := 10) hx hb hts hiX7 hown hK hP 0 rfl rfl 5 (by decide) (hts _ (List.mem_of_getElem? (i := 2) rfl)) (fun _ h9 => h9) rfl dX7_passNumber_25 ?_
      refine lv_iload_n hx hb dX7_passNumber_28 rfl (lv_at hl 2 rfl) ?_
      refine lv_icmp_le (tgt := 40) hx hb dX7_passNumber_29 (by decide) (fun c_11 => ?_) (fun c_11 => ?_)
      · skip
        have h_12 : z_in 0 999 tkv := z_leL c_11 h_10 (z_lit (x := 999) (a := 999) (b := 999) rfl) rfl
        refine lv_aload_n hx hb dX7_passNumber_40 rfl (lv_at hl 0 rfl) ?_
        refine va_get (D := D) (ci := 7) (v := .int tkv) (C := RX7) (T := TX7) (N := 10) hx hb hts hiX7 hown hK hP 0 rfl rfl 5 (by decide) (hts _ (List.mem_of_getElem? (i := 2) rfl)) (fun _ h9 => h9) rfl dX7_passNumber_41 ?_
        refine lv_istore_n (lv' := [(3, .int tkv), (0, .ref tk), (1, .int 0), (2, .int 999)]) hx hb dX7_passNumber_44 rfl hl (by decide) rfl (fun ls hl => ?_)
        refine lv_aload_n hx hb dX7_passNumber_45 rfl (lv_at hl 1 rfl) ?_
        have hc9 := (w_Tokens_advance l D ad tk tkm tkb tkk tka tkv tkc tkf tkg tkw ta tan tab tabt tabf htkb (z_w (c := 0) (d := 4) h_3 rfl) htkw htan httk)
        refine z_callv (w0 := [(tk, .inr (7, [.ref ta, .int tkm, .int tkb, .int tkk, .int tka, .int tkv, .long tkc, .ref (ad tkw), .int tkf, .int tkg])), (ta, .inr (6, [.ref tab, .int tan])), (tab, .inl (tabt, 940, .inl tabf))]) (wr := []) (va_runV (As := []) (rest := []) ⟨hx, hb, hml, hown, hts⟩ (hc9 _) (cwV 0 hts gX7_passNumber_X7_advance rfl rfl rfl (by decide +kernel) ⟨Nat.le_of_ble_eq_true rfl, Nat.le_of_ble_eq_true rfl⟩) (z_preV hP hD hK hS hA hE hO [0, 1, 2] [0] rfl (by decide +kernel) rfl 0 7 rfl rfl rfl) rfl rfl hl.1 rfl (lv_room (Nat.le_of_ble_eq_true rfl)) dX7_passNumber_46 ⟨Nat.le_of_ble_eq_true rfl, Nat.le_of_ble_eq_true rfl⟩) hP hD hK hS hA [0, 1, 2] [] rfl rfl (by decide +kernel) (by decide +kernel) (fun u9 H locs hw hP hD hK hS => ?_)
        refine z_ex6 hw (fun x_13 x_15 x_17 x_18 f_19 f_20 hw => ?_)
        refine z_an4 hw (fun h_14 h_16 h_21 h_22 hw => ?_)
        subst hw
        have hP : va_P D vwCl [(tk, .inr (7, [.ref ta, .int tkm, .int x_13, .int x_15, .int x_17, .int x_18, .long f_19, .ref (ad f_20), .int tkf, .int tkg])), (ta, .inr (6, [.ref tab, .int tan])), (tab, .inl (tabt, 940, .inl tabf))] H := hP
        have hD : va_D A [(tk, .inr (7, [.ref ta, .int tkm, .int x_13, .int x_15, .int x_17, .int x_18, .long f_19, .ref (ad f_20), .int tkf, .int tkg])), (ta, .inr (6, [.ref tab, .int tan])), (tab, .inl (tabt, 940, .inl tabf))] := hD
        have hK : va_K D vwCl [(tabt, .byte)] s := hK
        refine W.cs (cells' := 0) (slots' := 0) rfl rfl ?_
        refine lv_iload_n hx hb dX7_passNumber_49 rfl (lv_at hl 0 rfl) ?_
        exact hret tkv ([(tk, .inr (7, [.ref ta, .int tkm, .int x_13, .int x_15, .int x_17, .int x_18, .long f_19, .ref (ad f_20), .int tkf, .int tkg])), (ta, .inr (6, [.ref tab, .int tan])), (tab, .inl (tabt, 940, .inl tabf))], []) _ _ _ _ dX7_passNumber_50 rfl ⟨x_13, x_15, x_17, x_18, f_19, f_20, tkf, tkg, h_14, h_16, h_21, (z_w (c := (-1)) (d := 999) h_12 rfl), (fun _ => h_3), (fun _ => h_12), h_22, rfl⟩ hP (hK.sub [] rfl) hD hS
      · skip
        have h_23 : z_in 1000 2147483647 tkv := z_ltR (Int32.not_le.mp c_11) (z_lit (x := 999) (a := 999) (b := 999) rfl) h_10 rfl
        refine lv_aload_n hx hb dX7_passNumber_32 rfl (lv_at hl 0 rfl) ?_
        refine lv_iconst (v := 2) hx hb dX7_passNumber_33 (by decide) ?_
        have hc9 := (w_Tokens_fails l D ad tk tkm tkb tkk tka tkv tkc tkf tkg tkw ta tan tab tabt tabf 2 htkb (z_w (c := 0) (d := 4) h_3 rfl) htkw htan httk)
        refine z_calli (w0 := [(tk, .inr (7, [.ref ta, .int tkm, .int tkb, .int tkk, .int tka, .int tkv, .long tkc, .ref (ad tkw), .int tkf, .int tkg])), (ta, .inr (6, [.ref tab, .int tan])), (tab, .inl (tabt, 940, .inl tabf))]) (wr := []) (va_runV (As := [.int 2]) (rest := []) ⟨hx, hb, hml, hown, hts⟩ (hc9 _) (cwV 1 hts gX7_passNumber_X7_fails rfl rfl rfl (by decide +kernel) ⟨Nat.le_of_ble_eq_true rfl, Nat.le_of_ble_eq_true rfl⟩) (z_preV hP hD hK hS hA hE hO [0, 1, 2] [0] rfl (by decide +kernel) rfl 0 7 rfl rfl rfl) rfl rfl hl.1 rfl (lv_room (Nat.le_of_ble_eq_true rfl)) dX7_passNumber_34 ⟨Nat.le_of_ble_eq_true rfl, Nat.le_of_ble_eq_true rfl⟩) hP hD hK hS hA [0, 1, 2] [] rfl rfl (by decide +kernel) (by decide +kernel) (fun y_24 u9 H locs hw hP hD hK hS => ?_)
        obtain ⟨x_25, x_26, h_27, rfl⟩ := hw
        have hP : va_P D vwCl [(tk, .inr (7, [.ref ta, .int tkm, .int tkb, .int tkk, .int tka, .int tkv, .long tkc, .ref (ad tkw), .int x_25, .int x_26])), (ta, .inr (6, [.ref tab, .int tan])), (tab, .inl (tabt, 940, .inl tabf))] H := hP
        have hD : va_D A [(tk, .inr (7, [.ref ta, .int tkm, .int tkb, .int tkk, .int tka, .int tkv, .long tkc, .ref (ad tkw), .int x_25, .int x_26])), (ta, .inr (6, [.ref tab, .int tan])), (tab, .inl (tabt, 940, .inl tabf))] := hD
        have hK : va_K D vwCl [(tabt, .byte)] s := hK
        refine W.cs (cells' := 0) (slots' := 0) rfl rfl ?_
        refine W.eq (g2 := F0 m 37 ls (.int y_24 :: [])) rfl ?_
        refine lv_pop hx hb dX7_passNumber_37 rfl ?_
        refine lv_iconst (v := (-1)) hx hb dX7_passNumber_38 (by decide) ?_
        exact hret (-1) ([(tk, .inr (7, [.ref ta, .int tkm, .int tkb, .int tkk, .int tka, .int tkv, .long tkc, .ref (ad tkw), .int x_25, .int x_26])), (ta, .inr (6, [.ref tab, .int tan])), (tab, .inl (tabt, 940, .inl tabf))], []) _ _ _ _ dX7_passNumber_39 rfl ⟨tkb, tkk, tka, tkv, tkc, tkw, x_25, x_26, htkb, (z_w (c := 0) (d := 4) h_3 rfl), htkw, (z_w (c := (-1)) (d := 999) (z_lit (x := (-1)) (a := (-1)) (b := (-1)) rfl) rfl), (fun h9 => absurd (Int.le_trans h9 (z_lit (x := (-1)) (a := (-1)) (b := (-1)) rfl).2) (by decide)), (fun h9 => absurd (Int.le_trans h9 (z_lit (x := (-1)) (a := (-1)) (b := (-1)) rfl).2) (by decide)), httk, rfl⟩ hP (hK.sub [] rfl) hD hS
  · skip
    refine lv_aload_n hx hb dX7_passNumber_8 rfl (lv_at hl 0 rfl) ?_
    refine lv_iconst (v := 1) hx hb dX7_passNumber_9 (by decide) ?_
    have hc9 := (w_Tokens_fails l D ad tk tkm tkb tkk tka tkv tkc tkf tkg tkw ta tan tab tabt tabf 1 htkb htkk htkw htan httk)
    refine z_calli (w0 := [(tk, .inr (7, [.ref ta, .int tkm, .int tkb, .int tkk, .int tka, .int tkv, .long tkc, .ref (ad tkw), .int tkf, .int tkg])), (ta, .inr (6, [.ref tab, .int tan])), (tab, .inl (tabt, 940, .inl tabf))]) (wr := []) (va_runV (As := [.int 1]) (rest := []) ⟨hx, hb, hml, hown, hts⟩ (hc9 _) (cwV 1 hts gX7_passNumber_X7_fails rfl rfl rfl (by decide +kernel) ⟨Nat.le_of_ble_eq_true rfl, Nat.le_of_ble_eq_true rfl⟩) (z_preV hP hD hK hS hA hE hO [0, 1, 2] [0] rfl (by decide +kernel) rfl 0 7 rfl rfl rfl) rfl rfl hl.1 rfl (lv_room (Nat.le_of_ble_eq_true rfl)) dX7_passNumber_10 ⟨Nat.le_of_ble_eq_true rfl, Nat.le_of_ble_eq_true rfl⟩) hP hD hK hS hA [0, 1, 2] [] rfl rfl (by decide +kernel) (by decide +kernel) (fun y_28 u9 H locs hw hP hD hK hS => ?_)
    obtain ⟨x_29, x_30, h_31, rfl⟩ := hw
    have hP : va_P D vwCl [(tk, .inr (7, [.ref ta, .int tkm, .int tkb, .int tkk, .int tka, .int tkv, .long tkc, .ref (ad tkw), .int x_29, .int x_30])), (ta, .inr (6, [.ref tab, .int tan])), (tab, .inl (tabt, 940, .inl tabf))] H := hP
    have hD : va_D A [(tk, .inr (7, [.ref ta, .int tkm, .int tkb, .int tkk, .int tka, .int tkv, .long tkc, .ref (ad tkw), .int x_29, .int x_30])), (ta, .inr (6, [.ref tab, .int tan])), (tab, .inl (tabt, 940, .inl tabf))] := hD
    have hK : va_K D vwCl [(tabt, .byte)] s := hK
    refine W.cs (cells' := 0) (slots' := 0) rfl rfl ?_
    refine W.eq (g2 := F0 m 13 ls (.int y_28 :: [])) rfl ?_
    refine lv_pop hx hb dX7_passNumber_13 rfl ?_
    refine lv_iconst (v := (-1)) hx hb dX7_passNumber_14 (by decide) ?_
    exact hret (-1) ([(tk, .inr (7, [.ref ta, .int tkm, .int tkb, .int tkk, .int tka, .int tkv, .long tkc, .ref (ad tkw), .int x_29, .int x_30])), (ta, .inr (6, [.ref tab, .int tan])), (tab, .inl (tabt, 940, .inl tabf))], []) _ _ _ _ dX7_passNumber_15 rfl ⟨tkb, tkk, tka, tkv, tkc, tkw, x_29, x_30, htkb, htkk, htkw, (z_w (c := (-1)) (d := 999) (z_lit (x := (-1)) (a := (-1)) (b := (-1)) rfl) rfl), (fun h9 => absurd (Int.le_trans h9 (z_lit (x := (-1)) (a := (-1)) (b := (-1)) rfl).2) (by decide)), (fun h9 => absurd (Int.le_trans h9 (z_lit (x := (-1)) (a := (-1)) (b := (-1)) rfl).2) (by decide)), httk, rfl⟩ hP (hK.sub [] rfl) hD hS
