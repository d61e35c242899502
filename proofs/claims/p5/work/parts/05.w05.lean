theorem dX5_clear_0 : decode cX5_clear 0 = .ok (.aload_n 0, 1) := by decide +kernel
theorem dX5_clear_1 : decode cX5_clear 1 = .ok (.iconst 0, 1) := by decide +kernel
theorem dX5_clear_2 : decode cX5_clear 2 = .ok (.putfield 30, 3) := by decide +kernel
theorem dX5_clear_5 : decode cX5_clear 5 = .ok (.aload_n 0, 1) := by decide +kernel
theorem dX5_clear_6 : decode cX5_clear 6 = .ok (.iconst 0, 1) := by decide +kernel
theorem dX5_clear_7 : decode cX5_clear 7 = .ok (.putfield 34, 3) := by decide +kernel
theorem dX5_clear_10 : decode cX5_clear 10 = .ok (.return_, 1) := by decide +kernel
theorem dX5_isWhole_0 : decode cX5_isWhole 0 = .ok (.aload_n 0, 1) := by decide +kernel
theorem dX5_isWhole_1 : decode cX5_isWhole 1 = .ok (.getfield 46, 3) := by decide +kernel
theorem dX5_isWhole_4 : decode cX5_isWhole 4 = .ok (.ifCond .ne 14, 3) := by decide +kernel
theorem dX5_isWhole_7 : decode cX5_isWhole 7 = .ok (.aload_n 0, 1) := by decide +kernel
theorem dX5_isWhole_8 : decode cX5_isWhole 8 = .ok (.getfield 43, 3) := by decide +kernel
theorem dX5_isWhole_11 : decode cX5_isWhole 11 = .ok (.ifCond .ne 7, 3) := by decide +kernel
theorem dX5_isWhole_14 : decode cX5_isWhole 14 = .ok (.iconst 1, 1) := by decide +kernel
theorem dX5_isWhole_15 : decode cX5_isWhole 15 = .ok (.goto 4, 3) := by decide +kernel
theorem dX5_isWhole_18 : decode cX5_isWhole 18 = .ok (.iconst 0, 1) := by decide +kernel
theorem dX5_isWhole_19 : decode cX5_isWhole 19 = .ok (.ireturn, 1) := by decide +kernel
theorem dX5_addWaiting_0 : decode cX5_addWaiting 0 = .ok (.aload_n 0, 1) := by decide +kernel
theorem dX5_addWaiting_1 : decode cX5_addWaiting 1 = .ok (.getfield 40, 3) := by decide +kernel
theorem dX5_addWaiting_4 : decode cX5_addWaiting 4 = .ok (.bipush 40, 2) := by decide +kernel
theorem dX5_addWaiting_6 : decode cX5_addWaiting 6 = .ok (.if_icmp .lt 5, 3) := by decide +kernel
theorem dX5_addWaiting_11 : decode cX5_addWaiting 11 = .ok (.aload_n 0, 1) := by decide +kernel
theorem dX5_addWaiting_12 : decode cX5_addWaiting 12 = .ok (.getfield 27, 3) := by decide +kernel
theorem dX5_addWaiting_15 : decode cX5_addWaiting 15 = .ok (.aload_n 0, 1) := by decide +kernel
theorem dX5_addWaiting_16 : decode cX5_addWaiting 16 = .ok (.getfield 40, 3) := by decide +kernel
theorem dX5_addWaiting_19 : decode cX5_addWaiting 19 = .ok (.aload_n 1, 1) := by decide +kernel
theorem dX5_addWaiting_20 : decode cX5_addWaiting 20 = .ok (.aastore, 1) := by decide +kernel
theorem dX5_addWaiting_21 : decode cX5_addWaiting 21 = .ok (.aload_n 0, 1) := by decide +kernel
theorem dX5_addWaiting_22 : decode cX5_addWaiting 22 = .ok (.dup, 1) := by decide +kernel
theorem dX5_addWaiting_23 : decode cX5_addWaiting 23 = .ok (.getfield 40, 3) := by decide +kernel
theorem dX5_addWaiting_26 : decode cX5_addWaiting 26 = .ok (.iconst 1, 1) := by decide +kernel
theorem dX5_addWaiting_27 : decode cX5_addWaiting 27 = .ok (.iadd, 1) := by decide +kernel
theorem dX5_addWaiting_28 : decode cX5_addWaiting 28 = .ok (.putfield 40, 3) := by decide +kernel
theorem dX5_addWaiting_31 : decode cX5_addWaiting 31 = .ok (.iconst 1, 1) := by decide +kernel
theorem dX5_addWaiting_32 : decode cX5_addWaiting 32 = .ok (.ireturn, 1) := by decide +kernel
theorem dX5_settleNots_0 : decode cX5_settleNots 0 = .ok (.iconst 0, 1) := by decide +kernel
theorem dX5_settleNots_1 : decode cX5_settleNots 1 = .ok (.istore_n 1, 1) := by decide +kernel
theorem dX5_settleNots_2 : decode cX5_settleNots 2 = .ok (.iload_n 1, 1) := by decide +kernel
theorem dX5_settleNots_3 : decode cX5_settleNots 3 = .ok (.bipush 40, 2) := by decide +kernel
theorem dX5_settleNots_5 : decode cX5_settleNots 5 = .ok (.if_icmp .ge 63, 3) := by decide +kernel
theorem dX5_settleNots_8 : decode cX5_settleNots 8 = .ok (.aload_n 0, 1) := by decide +kernel
theorem dX5_settleNots_9 : decode cX5_settleNots 9 = .ok (.getfield 40, 3) := by decide +kernel
theorem dX5_settleNots_12 : decode cX5_settleNots 12 = .ok (.ifCond .le 56, 3) := by decide +kernel
theorem dX5_settleNots_15 : decode cX5_settleNots 15 = .ok (.aload_n 0, 1) := by decide +kernel
theorem dX5_settleNots_16 : decode cX5_settleNots 16 = .ok (.getfield 27, 3) := by decide +kernel
theorem dX5_settleNots_19 : decode cX5_settleNots 19 = .ok (.aload_n 0, 1) := by decide +kernel
theorem dX5_settleNots_20 : decode cX5_settleNots 20 = .ok (.getfield 40, 3) := by decide +kernel
theorem dX5_settleNots_23 : decode cX5_settleNots 23 = .ok (.iconst 1, 1) := by decide +kernel
theorem dX5_settleNots_24 : decode cX5_settleNots 24 = .ok (.isub, 1) := by decide +kernel
theorem dX5_settleNots_25 : decode cX5_settleNots 25 = .ok (.aaload, 1) := by decide +kernel
theorem dX5_settleNots_26 : decode cX5_settleNots 26 = .ok (.getstatic 97, 3) := by decide +kernel
theorem dX5_settleNots_29 : decode cX5_settleNots 29 = .ok (.if_acmp .ne 39, 3) := by decide +kernel
theorem dX5_settleNots_32 : decode cX5_settleNots 32 = .ok (.aload_n 0, 1) := by decide +kernel
theorem dX5_settleNots_33 : decode cX5_settleNots 33 = .ok (.dup, 1) := by decide +kernel
theorem dX5_settleNots_34 : decode cX5_settleNots 34 = .ok (.getfield 40, 3) := by decide +kernel
theorem dX5_settleNots_37 : decode cX5_settleNots 37 = .ok (.iconst 1, 1) := by decide +kernel
theorem dX5_settleNots_38 : decode cX5_settleNots 38 = .ok (.isub, 1) := by decide +kernel
theorem dX5_settleNots_39 : decode cX5_settleNots 39 = .ok (.putfield 40, 3) := by decide +kernel
theorem dX5_settleNots_42 : decode cX5_settleNots 42 = .ok (.aload_n 0, 1) := by decide +kernel
theorem dX5_settleNots_43 : decode cX5_settleNots 43 = .ok (.dup, 1) := by decide +kernel
theorem dX5_settleNots_44 : decode cX5_settleNots 44 = .ok (.getfield 43, 3) := by decide +kernel
theorem dX5_settleNots_47 : decode cX5_settleNots 47 = .ok (.iconst 1, 1) := by decide +kernel
theorem dX5_settleNots_48 : decode cX5_settleNots 48 = .ok (.isub, 1) := by decide +kernel
theorem dX5_settleNots_49 : decode cX5_settleNots 49 = .ok (.putfield 43, 3) := by decide +kernel
theorem dX5_settleNots_52 : decode cX5_settleNots 52 = .ok (.aload_n 0, 1) := by decide +kernel
theorem dX5_settleNots_53 : decode cX5_settleNots 53 = .ok (.getstatic 97, 3) := by decide +kernel
theorem dX5_settleNots_56 : decode cX5_settleNots 56 = .ok (.iconst 0, 1) := by decide +kernel
theorem dX5_settleNots_57 : decode cX5_settleNots 57 = .ok (.iconst 0, 1) := by decide +kernel
theorem dX5_settleNots_58 : decode cX5_settleNots 58 = .ok (.invokevirtual 124, 3) := by decide +kernel
theorem dX5_settleNots_61 : decode cX5_settleNots 61 = .ok (.pop, 1) := by decide +kernel
theorem dX5_settleNots_62 : decode cX5_settleNots 62 = .ok (.iinc 1 1, 3) := by decide +kernel
theorem dX5_settleNots_65 : decode cX5_settleNots 65 = .ok (.goto (-63), 3) := by decide +kernel
theorem dX5_settleNots_68 : decode cX5_settleNots 68 = .ok (.return_, 1) := by decide +kernel
theorem dX5_settleDownTo_0 : decode cX5_settleDownTo 0 = .ok (.iconst 0, 1) := by decide +kernel
theorem dX5_settleDownTo_1 : decode cX5_settleDownTo 1 = .ok (.istore_n 2, 1) := by decide +kernel
theorem dX5_settleDownTo_2 : decode cX5_settleDownTo 2 = .ok (.iload_n 2, 1) := by decide +kernel
theorem dX5_settleDownTo_3 : decode cX5_settleDownTo 3 = .ok (.bipush 40, 2) := by decide +kernel
theorem dX5_settleDownTo_5 : decode cX5_settleDownTo 5 = .ok (.if_icmp .ge 68, 3) := by decide +kernel
theorem dX5_settleDownTo_8 : decode cX5_settleDownTo 8 = .ok (.aload_n 0, 1) := by decide +kernel
theorem dX5_settleDownTo_9 : decode cX5_settleDownTo 9 = .ok (.getfield 40, 3) := by decide +kernel
theorem dX5_settleDownTo_12 : decode cX5_settleDownTo 12 = .ok (.ifCond .le 61, 3) := by decide +kernel
theorem dX5_settleDownTo_15 : decode cX5_settleDownTo 15 = .ok (.aload_n 0, 1) := by decide +kernel
theorem dX5_settleDownTo_16 : decode cX5_settleDownTo 16 = .ok (.getfield 27, 3) := by decide +kernel
theorem dX5_settleDownTo_19 : decode cX5_settleDownTo 19 = .ok (.aload_n 0, 1) := by decide +kernel
theorem dX5_settleDownTo_20 : decode cX5_settleDownTo 20 = .ok (.getfield 40, 3) := by decide +kernel
theorem dX5_settleDownTo_23 : decode cX5_settleDownTo 23 = .ok (.iconst 1, 1) := by decide +kernel
theorem dX5_settleDownTo_24 : decode cX5_settleDownTo 24 = .ok (.isub, 1) := by decide +kernel
theorem dX5_settleDownTo_25 : decode cX5_settleDownTo 25 = .ok (.aaload, 1) := by decide +kernel
theorem dX5_settleDownTo_26 : decode cX5_settleDownTo 26 = .ok (.astore_n 3, 1) := by decide +kernel
theorem dX5_settleDownTo_27 : decode cX5_settleDownTo 27 = .ok (.aload_n 3, 1) := by decide +kernel
theorem dX5_settleDownTo_28 : decode cX5_settleDownTo 28 = .ok (.getstatic 118, 3) := by decide +kernel
theorem dX5_settleDownTo_31 : decode cX5_settleDownTo 31 = .ok (.if_acmp .eq 18, 3) := by decide +kernel
theorem dX5_settleDownTo_34 : decode cX5_settleDownTo 34 = .ok (.aload_n 3, 1) := by decide +kernel
theorem dX5_settleDownTo_35 : decode cX5_settleDownTo 35 = .ok (.getstatic 63, 3) := by decide +kernel
theorem dX5_settleDownTo_38 : decode cX5_settleDownTo 38 = .ok (.if_acmp .ne 10, 3) := by decide +kernel
theorem dX5_settleDownTo_41 : decode cX5_settleDownTo 41 = .ok (.aload_n 1, 1) := by decide +kernel
theorem dX5_settleDownTo_42 : decode cX5_settleDownTo 42 = .ok (.getstatic 63, 3) := by decide +kernel
theorem dX5_settleDownTo_45 : decode cX5_settleDownTo 45 = .ok (.if_acmp .eq 4, 3) := by decide +kernel
theorem dX5_settleDownTo_48 : decode cX5_settleDownTo 48 = .ok (.return_, 1) := by decide +kernel
theorem dX5_settleDownTo_49 : decode cX5_settleDownTo 49 = .ok (.aload_n 0, 1) := by decide +kernel
theorem dX5_settleDownTo_50 : decode cX5_settleDownTo 50 = .ok (.dup, 1) := by decide +kernel
theorem dX5_settleDownTo_51 : decode cX5_settleDownTo 51 = .ok (.getfield 40, 3) := by decide +kernel
theorem dX5_settleDownTo_54 : decode cX5_settleDownTo 54 = .ok (.iconst 1, 1) := by decide +kernel
theorem dX5_settleDownTo_55 : decode cX5_settleDownTo 55 = .ok (.isub, 1) := by decide +kernel
theorem dX5_settleDownTo_56 : decode cX5_settleDownTo 56 = .ok (.putfield 40, 3) := by decide +kernel
theorem dX5_settleDownTo_59 : decode cX5_settleDownTo 59 = .ok (.aload_n 0, 1) := by decide +kernel
theorem dX5_settleDownTo_60 : decode cX5_settleDownTo 60 = .ok (.aload_n 3, 1) := by decide +kernel
theorem dX5_settleDownTo_61 : decode cX5_settleDownTo 61 = .ok (.iconst 0, 1) := by decide +kernel
theorem dX5_settleDownTo_62 : decode cX5_settleDownTo 62 = .ok (.iconst 0, 1) := by decide +kernel
theorem dX5_settleDownTo_63 : decode cX5_settleDownTo 63 = .ok (.invokevirtual 124, 3) := by decide +kernel
theorem dX5_settleDownTo_66 : decode cX5_settleDownTo 66 = .ok (.pop, 1) := by decide +kernel
theorem dX5_settleDownTo_67 : decode cX5_settleDownTo 67 = .ok (.iinc 2 1, 3) := by decide +kernel
theorem dX5_settleDownTo_70 : decode cX5_settleDownTo 70 = .ok (.goto (-68), 3) := by decide +kernel
theorem dX5_settleDownTo_73 : decode cX5_settleDownTo 73 = .ok (.return_, 1) := by decide +kernel
theorem dX5_addStep_0 : decode cX5_addStep 0 = .ok (.aload_n 0, 1) := by decide +kernel
theorem dX5_addStep_1 : decode cX5_addStep 1 = .ok (.getfield 30, 3) := by decide +kernel
theorem dX5_addStep_4 : decode cX5_addStep 4 = .ok (.bipush 40, 2) := by decide +kernel
theorem dX5_addStep_6 : decode cX5_addStep 6 = .ok (.if_icmp .lt 5, 3) := by decide +kernel
theorem dX5_addStep_9 : decode cX5_addStep 9 = .ok (.iconst 0, 1) := by decide +kernel
theorem dX5_addStep_10 : decode cX5_addStep 10 = .ok (.ireturn, 1) := by decide +kernel
theorem dX5_addStep_11 : decode cX5_addStep 11 = .ok (.aload_n 0, 1) := by decide +kernel
theorem dX5_addStep_12 : decode cX5_addStep 12 = .ok (.getfield 13, 3) := by decide +kernel
theorem dX5_addStep_15 : decode cX5_addStep 15 = .ok (.aload_n 0, 1) := by decide +kernel
theorem dX5_addStep_16 : decode cX5_addStep 16 = .ok (.getfield 30, 3) := by decide +kernel
theorem dX5_addStep_19 : decode cX5_addStep 19 = .ok (.aload_n 1, 1) := by decide +kernel
theorem dX5_addStep_20 : decode cX5_addStep 20 = .ok (.aastore, 1) := by decide +kernel
theorem dX5_addStep_21 : decode cX5_addStep 21 = .ok (.aload_n 0, 1) := by decide +kernel
theorem dX5_addStep_22 : decode cX5_addStep 22 = .ok (.getfield 17, 3) := by decide +kernel
theorem dX5_addStep_25 : decode cX5_addStep 25 = .ok (.aload_n 0, 1) := by decide +kernel
theorem dX5_addStep_26 : decode cX5_addStep 26 = .ok (.getfield 30, 3) := by decide +kernel
theorem dX5_addStep_29 : decode cX5_addStep 29 = .ok (.iload_n 2, 1) := by decide +kernel
theorem dX5_addStep_30 : decode cX5_addStep 30 = .ok (.iastore, 1) := by decide +kernel
theorem dX5_addStep_31 : decode cX5_addStep 31 = .ok (.aload_n 0, 1) := by decide +kernel
theorem dX5_addStep_32 : decode cX5_addStep 32 = .ok (.getfield 21, 3) := by decide +kernel
theorem dX5_addStep_35 : decode cX5_addStep 35 = .ok (.aload_n 0, 1) := by decide +kernel
theorem dX5_addStep_36 : decode cX5_addStep 36 = .ok (.getfield 30, 3) := by decide +kernel
theorem dX5_addStep_39 : decode cX5_addStep 39 = .ok (.iload_n 3, 1) := by decide +kernel
theorem dX5_addStep_40 : decode cX5_addStep 40 = .ok (.iastore, 1) := by decide +kernel
theorem dX5_addStep_41 : decode cX5_addStep 41 = .ok (.aload_n 0, 1) := by decide +kernel
theorem dX5_addStep_42 : decode cX5_addStep 42 = .ok (.dup, 1) := by decide +kernel
theorem dX5_addStep_43 : decode cX5_addStep 43 = .ok (.getfield 30, 3) := by decide +kernel
theorem dX5_addStep_46 : decode cX5_addStep 46 = .ok (.iconst 1, 1) := by decide +kernel
theorem dX5_addStep_47 : decode cX5_addStep 47 = .ok (.iadd, 1) := by decide +kernel
theorem dX5_addStep_48 : decode cX5_addStep 48 = .ok (.putfield 30, 3) := by decide +kernel
theorem dX5_addStep_51 : decode cX5_addStep 51 = .ok (.iconst 1, 1) := by decide +kernel
theorem dX5_addStep_52 : decode cX5_addStep 52 = .ok (.ireturn, 1) := by decide +kernel
theorem dX9_countsSomething_0 : decode cX9_countsSomething 0 = .ok (.aload_n 0, 1) := by decide +kernel
theorem dX9_countsSomething_1 : decode cX9_countsSomething 1 = .ok (.getstatic 61, 3) := by decide +kernel
theorem dX9_countsSomething_4 : decode cX9_countsSomething 4 = .ok (.if_acmp .eq 17, 3) := by decide +kernel
theorem dX9_countsSomething_7 : decode cX9_countsSomething 7 = .ok (.aload_n 0, 1) := by decide +kernel
theorem dX9_countsSomething_8 : decode cX9_countsSomething 8 = .ok (.getstatic 64, 3) := by decide +kernel
theorem dX9_countsSomething_11 : decode cX9_countsSomething 11 = .ok (.if_acmp .eq 10, 3) := by decide +kernel
theorem dX9_countsSomething_14 : decode cX9_countsSomething 14 = .ok (.aload_n 0, 1) := by decide +kernel
theorem dX9_countsSomething_15 : decode cX9_countsSomething 15 = .ok (.getstatic 67, 3) := by decide +kernel
theorem dX9_countsSomething_18 : decode cX9_countsSomething 18 = .ok (.if_acmp .ne 7, 3) := by decide +kernel
theorem dX9_countsSomething_21 : decode cX9_countsSomething 21 = .ok (.iconst 1, 1) := by decide +kernel
theorem dX9_countsSomething_22 : decode cX9_countsSomething 22 = .ok (.goto 4, 3) := by decide +kernel
theorem dX9_countsSomething_25 : decode cX9_countsSomething 25 = .ok (.iconst 0, 1) := by decide +kernel
theorem dX9_countsSomething_26 : decode cX9_countsSomething 26 = .ok (.ireturn, 1) := by decide +kernel
theorem dX9_beginsOne_0 : decode cX9_beginsOne 0 = .ok (.aload_n 0, 1) := by decide +kernel
theorem dX9_beginsOne_1 : decode cX9_beginsOne 1 = .ok (.getstatic 46, 3) := by decide +kernel
theorem dX9_beginsOne_4 : decode cX9_beginsOne 4 = .ok (.if_acmp .eq 45, 3) := by decide +kernel
theorem dX9_beginsOne_7 : decode cX9_beginsOne 7 = .ok (.aload_n 0, 1) := by decide +kernel
theorem dX9_beginsOne_8 : decode cX9_beginsOne 8 = .ok (.getstatic 13, 3) := by decide +kernel
theorem dX9_beginsOne_11 : decode cX9_beginsOne 11 = .ok (.if_acmp .eq 38, 3) := by decide +kernel
theorem dX9_beginsOne_14 : decode cX9_beginsOne 14 = .ok (.aload_n 0, 1) := by decide +kernel
theorem dX9_beginsOne_15 : decode cX9_beginsOne 15 = .ok (.getstatic 49, 3) := by decide +kernel
theorem dX9_beginsOne_18 : decode cX9_beginsOne 18 = .ok (.if_acmp .eq 31, 3) := by decide +kernel
theorem dX9_beginsOne_21 : decode cX9_beginsOne 21 = .ok (.aload_n 0, 1) := by decide +kernel
theorem dX9_beginsOne_22 : decode cX9_beginsOne 22 = .ok (.getstatic 52, 3) := by decide +kernel
theorem dX9_beginsOne_25 : decode cX9_beginsOne 25 = .ok (.if_acmp .eq 24, 3) := by decide +kernel
theorem dX9_beginsOne_28 : decode cX9_beginsOne 28 = .ok (.aload_n 0, 1) := by decide +kernel
theorem dX9_beginsOne_29 : decode cX9_beginsOne 29 = .ok (.getstatic 55, 3) := by decide +kernel
theorem dX9_beginsOne_32 : decode cX9_beginsOne 32 = .ok (.if_acmp .eq 17, 3) := by decide +kernel
theorem dX9_beginsOne_35 : decode cX9_beginsOne 35 = .ok (.aload_n 0, 1) := by decide +kernel
theorem dX9_beginsOne_36 : decode cX9_beginsOne 36 = .ok (.getstatic 58, 3) := by decide +kernel
theorem dX9_beginsOne_39 : decode cX9_beginsOne 39 = .ok (.if_acmp .eq 10, 3) := by decide +kernel
theorem dX9_beginsOne_42 : decode cX9_beginsOne 42 = .ok (.aload_n 0, 1) := by decide +kernel
theorem dX9_beginsOne_43 : decode cX9_beginsOne 43 = .ok (.invokevirtual 114, 3) := by decide +kernel
theorem dX9_beginsOne_46 : decode cX9_beginsOne 46 = .ok (.ifCond .eq 7, 3) := by decide +kernel
theorem dX9_beginsOne_49 : decode cX9_beginsOne 49 = .ok (.iconst 1, 1) := by decide +kernel
theorem dX9_beginsOne_50 : decode cX9_beginsOne 50 = .ok (.goto 4, 3) := by decide +kernel
theorem dX9_beginsOne_53 : decode cX9_beginsOne 53 = .ok (.iconst 0, 1) := by decide +kernel
theorem dX9_beginsOne_54 : decode cX9_beginsOne 54 = .ok (.ireturn, 1) := by decide +kernel
set_option maxRecDepth 20000 in
theorem ggX5_settleNots_X5_addStep : GoodIn wsX5_settleNots wsX5_addStep := goodIn_r _ [9, 10, 11, 12, 13, 14, 15, 16, 17, 18, 19, 20, 21, 22, 23] rfl (by decide +kernel)
set_option maxRecDepth 20000 in
theorem gX5_settleNots_X5_addStep : GoodIn wsX5_settleNots (wsV RX5 124 RX5 yX5_addStep wsX5_addStep) := goodIn_app (a := [.methodLink RX5 124 yX5_addStep, .instanceMethod yX5_addStep, .selects RX5 yX5_addStep yX5_addStep, .initialized RX5]) (g_c9 (List.mem_cons_of_mem _ (List.mem_append_left _ (List.mem_of_getElem? (i := 4) rfl))) rfl (g_c9 (List.mem_cons_of_mem _ (List.mem_append_left _ (List.mem_of_getElem? (i := 5) rfl))) rfl (g_c9 (List.mem_cons_of_mem _ (List.mem_append_left _ (List.mem_of_getElem? (i := 6) rfl))) rfl (g_c9 (List.mem_cons_of_mem _ (List.mem_append_left _ (List.mem_of_getElem? (i := 7) rfl))) rfl g_n9)))) ggX5_settleNots_X5_addStep
set_option maxRecDepth 20000 in
theorem ggX5_settleDownTo_X5_addStep : GoodIn wsX5_settleDownTo wsX5_addStep := goodIn_r _ [9, 10, 11, 12, 13, 14, 15, 16, 17, 18, 19, 20, 21, 22, 23] rfl (by decide +kernel)
set_option maxRecDepth 20000 in
theorem gX5_settleDownTo_X5_addStep : GoodIn wsX5_settleDownTo (wsV RX5 124 RX5 yX5_addStep wsX5_addStep) := goodIn_app (a := [.methodLink RX5 124 yX5_addStep, .instanceMethod yX5_addStep, .selects RX5 yX5_addStep yX5_addStep, .initialized RX5]) (g_c9 (List.mem_cons_of_mem _ (List.mem_append_left _ (List.mem_of_getElem? (i := 4) rfl))) rfl (g_c9 (List.mem_cons_of_mem _ (List.mem_append_left _ (List.mem_of_getElem? (i := 5) rfl))) rfl (g_c9 (List.mem_cons_of_mem _ (List.mem_append_left _ (List.mem_of_getElem? (i := 6) rfl))) rfl (g_c9 (List.mem_cons_of_mem _ (List.mem_append_left _ (List.mem_of_getElem? (i := 7) rfl))) rfl g_n9)))) ggX5_settleDownTo_X5_addStep
set_option maxRecDepth 20000 in
theorem ggX9_beginsOne_X9_countsSomething : GoodIn wsX9_beginsOne wsX9_countsSomething := goodIn_r _ [11, 12, 13, 14] rfl (by decide +kernel)
set_option maxRecDepth 20000 in
theorem gX9_beginsOne_X9_countsSomething : GoodIn wsX9_beginsOne (wsV RX9 114 RX9 yX9_countsSomething wsX9_countsSomething) := goodIn_app (a := [.methodLink RX9 114 yX9_countsSomething, .instanceMethod yX9_countsSomething, .selects RX9 yX9_countsSomething yX9_countsSomething, .initialized RX9]) (g_c9 (List.mem_cons_of_mem _ (List.mem_of_getElem? (i := 6) rfl)) rfl (g_c9 (List.mem_cons_of_mem _ (List.mem_of_getElem? (i := 7) rfl)) rfl (g_c9 (List.mem_cons_of_mem _ (List.mem_of_getElem? (i := 8) rfl)) rfl (g_c9 (List.mem_cons_of_mem _ (List.mem_of_getElem? (i := 9) rfl)) rfl g_n9)))) ggX9_beginsOne_X9_countsSomething
set_option maxHeartbeats 8000000 in
set_option maxRecDepth 100000 in
theorem w_Word_countsSomething (l : Launch) (D : va_G) (ad : Nat → Nat) (w0 : Nat) (hw0 : w0 < 22) : z_Mi l yX9_countsSomething wsX9_countsSomething { frames := 0, cells := 0, slots := 0, locals := 0 } D ad [.ref (ad w0)] [] [] 0 0 (fun r9 u9 => z_in 0 1 r9 ∧ (r9 = 1 → z_wne w0 18) ∧ z_csq r9 w0 ∧ u9 = ([], [])) := by
  refine z_ofI (cc := cX9_countsSomething) (maxL := 1) (rt := .boolean) (by decide) rfl (Nat.le_of_ble_eq_true rfl) ?_
  intro p e s m below meth c Q A ls hx hb hml hown hts hin hK hP hD hA hE hO hS hl hret
  have hown : s.vm.findClass RX9 = some m.cls := hown
  have hl : lv_has ls 1 [(0, .ref (ad w0))] := hl
  refine lv_aload_n hx hb dX9_countsSomething_0 rfl (lv_at hl 0 rfl) ?_
  refine va_gets (v := .ref (ad 19)) hx hb (hE.1.1 19 (by decide)).1 hS hown (hts _ (List.mem_of_getElem? (i := 1) rfl)) (fun _ h9 => h9) dX9_countsSomething_1 ?_
  refine W.eq (g2 := F0 m 4 ls (va_rf (some (ad 19)) :: va_rf (some (ad w0)) :: [])) rfl ?_
  refine lv_acmp_eq (tgt := 21) hx hb dX9_countsSomething_4 (by decide) (fun c_1 => ?_) (fun c_1 => ?_)
  · have h_2 : w0 = 19 := (hE.1.2 w0 19 hw0 (by decide) (Option.some.inj c_1))
    refine lv_iconst (v := 1) hx hb dX9_countsSomething_21 (by decide) ?_
    refine lv_goto (tgt := 26) hx hb dX9_countsSomething_22 (by decide) ?_
    exact hret 1 ([], []) _ _ _ _ dX9_countsSomething_26 (by decide) ⟨(z_w (c := 0) (d := 1) (z_lit (x := 1) (a := 1) (b := 1) rfl) rfl), (fun _ => (fun q9 => absurd (h_2.symm.trans q9) (by decide))), (z_csA h_2), rfl⟩ hP (hK.sub [] rfl) hD hS
  · have h_3 : w0 ≠ 19 := fun q9 => c_1 (by rw [q9])
    refine lv_aload_n hx hb dX9_countsSomething_7 rfl (lv_at hl 0 rfl) ?_
    refine va_gets (v := .ref (ad 20)) hx hb (hE.1.1 20 (by decide)).1 hS hown (hts _ (List.mem_of_getElem? (i := 2) rfl)) (fun _ h9 => h9) dX9_countsSomething_8 ?_
    refine W.eq (g2 := F0 m 11 ls (va_rf (some (ad 20)) :: va_rf (some (ad w0)) :: [])) rfl ?_
    refine lv_acmp_eq (tgt := 21) hx hb dX9_countsSomething_11 (by decide) (fun c_4 => ?_) (fun c_4 => ?_)
    · have h_5 : w0 = 20 := (hE.1.2 w0 20 hw0 (by decide) (Option.some.inj c_4))
      refine lv_iconst (v := 1) hx hb dX9_countsSomething_21 (by decide) ?_
      refine lv_goto (tgt := 26) hx hb dX9_countsSomething_22 (by decide) ?_
      exact hret 1 ([], []) _ _ _ _ dX9_countsSomething_26 (by decide) ⟨(z_w (c := 0) (d := 1) (z_lit (x := 1) (a := 1) (b := 1) rfl) rfl), (fun _ => (fun q9 => absurd (h_5.symm.trans q9) (by decide))), (z_csB h_5), rfl⟩ hP (hK.sub [] rfl) hD hS
    · have h_6 : w0 ≠ 20 := fun q9 => c_4 (by rw [q9])
      refine lv_aload_n hx hb dX9_countsSomething_14 rfl (lv_at hl 0 rfl) ?_
      refine va_gets (v := .ref (ad 21)) hx hb (hE.1.1 21 (by decide)).1 hS hown (hts _ (List.mem_of_getElem? (i := 3) rfl)) (fun _ h9 => h9) dX9_countsSomething_15 ?_
      refine W.eq (g2 := F0 m 18 ls (va_rf (some (ad 21)) :: va_rf (some (ad w0)) :: [])) rfl ?_
      refine lv_acmp_ne (tgt := 25) hx hb dX9_countsSomething_18 (by decide) (fun c_7 => ?_) (fun c_7 => ?_)
      · have h_8 : w0 ≠ 21 := fun q9 => c_7 (by rw [q9])
        refine lv_iconst (v := 0) hx hb dX9_countsSomething_25 (by decide) ?_
        exact hret 0 ([], []) _ _ _ _ dX9_countsSomething_26 (by decide) ⟨(z_w (c := 0) (d := 1) (z_lit (x := 0) (a := 0) (b := 0) rfl) rfl), (fun h9 => absurd h9 (by decide)), (z_csO h_3 h_6 h_8), rfl⟩ hP (hK.sub [] rfl) hD hS
      · have h_9 : w0 = 21 := (hE.1.2 w0 21 hw0 (by decide) (Option.some.inj c_7))
        refine lv_iconst (v := 1) hx hb dX9_countsSomething_21 (by decide) ?_
        refine lv_goto (tgt := 26) hx hb dX9_countsSomething_22 (by decide) ?_
        exact hret 1 ([], []) _ _ _ _ dX9_countsSomething_26 (by decide) ⟨(z_w (c := 0) (d := 1) (z_lit (x := 1) (a := 1) (b := 1) rfl) rfl), (fun _ => (fun q9 => absurd (h_9.symm.trans q9) (by decide))), (z_csD h_9), rfl⟩ hP (hK.sub [] rfl) hD hS

set_option maxHeartbeats 8000000 in
set_option maxRecDepth 100000 in
theorem w_Word_beginsOne (l : Launch) (D : va_G) (ad : Nat → Nat) (w0 : Nat) (hw0 : w0 < 22) : z_Mi l yX9_beginsOne wsX9_beginsOne { frames := 1, cells := 0, slots := 0, locals := 20 } D ad [.ref (ad w0)] [] [] 0 0 (fun r9 u9 => z_in 0 1 r9 ∧ z_bgq r9 w0 ∧ u9 = ([], [])) := by
  refine z_ofI (cc := cX9_beginsOne) (maxL := 1) (rt := .boolean) (by decide) rfl (Nat.le_of_ble_eq_true rfl) ?_
  intro p e s m below meth c Q A ls hx hb hml hown hts hin hK hP hD hA hE hO hS hl hret
  have hown : s.vm.findClass RX9 = some m.cls := hown
  have hl : lv_has ls 1 [(0, .ref (ad w0))] := hl
  refine lv_aload_n hx hb dX9_beginsOne_0 rfl (lv_at hl 0 rfl) ?_
  refine va_gets (v := .ref (ad 14)) hx hb (hE.1.1 14 (by decide)).1 hS hown (hts _ (List.mem_of_getElem? (i := 1) rfl)) (fun _ h9 => h9) dX9_beginsOne_1 ?_
  refine W.eq (g2 := F0 m 4 ls (va_rf (some (ad 14)) :: va_rf (some (ad w0)) :: [])) rfl ?_
  refine lv_acmp_eq (tgt := 49) hx hb dX9_beginsOne_4 (by decide) (fun c_1 => ?_) (fun c_1 => ?_)
  · have h_2 : w0 = 14 := (hE.1.2 w0 14 hw0 (by decide) (Option.some.inj c_1))
    refine lv_iconst (v := 1) hx hb dX9_beginsOne_49 (by decide) ?_
    refine lv_goto (tgt := 54) hx hb dX9_beginsOne_50 (by decide) ?_
    exact hret 1 ([], []) _ _ _ _ dX9_beginsOne_54 (by decide) ⟨(z_w (c := 0) (d := 1) (z_lit (x := 1) (a := 1) (b := 1) rfl) rfl), (z_bg1 (i := 14) rfl h_2), rfl⟩ hP (hK.sub [] rfl) hD hS
  · have h_3 : w0 ≠ 14 := fun q9 => c_1 (by rw [q9])
    refine lv_aload_n hx hb dX9_beginsOne_7 rfl (lv_at hl 0 rfl) ?_
    refine va_gets (v := .ref (ad 3)) hx hb (hE.1.1 3 (by decide)).1 hS hown (hts _ (List.mem_of_getElem? (i := 2) rfl)) (fun _ h9 => h9) dX9_beginsOne_8 ?_
    refine W.eq (g2 := F0 m 11 ls (va_rf (some (ad 3)) :: va_rf (some (ad w0)) :: [])) rfl ?_
    refine lv_acmp_eq (tgt := 49) hx hb dX9_beginsOne_11 (by decide) (fun c_4 => ?_) (fun c_4 => ?_)
    · have h_5 : w0 = 3 := (hE.1.2 w0 3 hw0 (by decide) (Option.some.inj c_4))
      refine lv_iconst (v := 1) hx hb dX9_beginsOne_49 (by decide) ?_
      refine lv_goto (tgt := 54) hx hb dX9_beginsOne_50 (by decide) ?_
      exact hret 1 ([], []) _ _ _ _ dX9_beginsOne_54 (by decide) ⟨(z_w (c := 0) (d := 1) (z_lit (x := 1) (a := 1) (b := 1) rfl) rfl), (z_bg1 (i := 3) rfl h_5), rfl⟩ hP (hK.sub [] rfl) hD hS
    · have h_6 : w0 ≠ 3 := fun q9 => c_4 (by rw [q9])
      refine lv_aload_n hx hb dX9_beginsOne_14 rfl (lv_at hl 0 rfl) ?_
      refine va_gets (v := .ref (ad 15)) hx hb (hE.1.1 15 (by decide)).1 hS hown (hts _ (List.mem_of_getElem? (i := 3) rfl)) (fun _ h9 => h9) dX9_beginsOne_15 ?_
      refine W.eq (g2 := F0 m 18 ls (va_rf (some (ad 15)) :: va_rf (some (ad w0)) :: [])) rfl ?_
      refine lv_acmp_eq (tgt := 49) hx hb dX9_beginsOne_18 (by decide) (fun c_7 => ?_) (fun c_7 => ?_)
      · have h_8 : w0 = 15 := (hE.1.2 w0 15 hw0 (by decide) (Option.some.inj c_7))
        refine lv_iconst (v := 1) hx hb dX9_beginsOne_49 (by decide) ?_
        refine lv_goto (tgt := 54) hx hb dX9_beginsOne_50 (by decide) ?_
        exact hret 1 ([], []) _ _ _ _ dX9_beginsOne_54 (by decide) ⟨(z_w (c := 0) (d := 1) (z_lit (x := 1) (a := 1) (b := 1) rfl) rfl), (z_bg1 (i := 15) rfl h_8), rfl⟩ hP (hK.sub [] rfl) hD hS
      · have h_9 : w0 ≠ 15 := fun q9 => c_7 (by rw [q9])
        refine lv_aload_n hx hb dX9_beginsOne_21 rfl (lv_at hl 0 rfl) ?_
        refine va_gets (v := .ref (ad 16)) hx hb (hE.1.1 16 (by decide)).1 hS hown (hts _ (List.mem_of_getElem? (i := 4) rfl)) (fun _ h9 => h9) dX9_beginsOne_22 ?_
        refine W.eq (g2 := F0 m 25 ls (va_rf (some (ad 16)) :: va_rf (some (ad w0)) :: [])) rfl ?_
        refine lv_acmp_eq (tgt := 49) hx hb dX9_beginsOne_25 (by decide) (fun c_10 => ?_) (fun c_10 => ?_)
        · have h_11 : w0 = 16 := (hE.1.2 w0 16 hw0 (by decide) (Option.some.inj c_10))
          refine lv_iconst (v := 1) hx hb dX9_beginsOne_49 (by decide) ?_
          refine lv_goto (tgt := 54) hx hb dX9_beginsOne_50 (by decide) ?_
          exact hret 1 ([], []) _ _ _ _ dX9_beginsOne_54 (by decide) ⟨(z_w (c := 0) (d := 1) (z_lit (x := 1) (a := 1) (b := 1) rfl) rfl), (z_bg1 (i := 16) rfl h_11), rfl⟩ hP (hK.sub [] rfl) hD hS
        · have h_12 : w0 ≠ 16 := fun q9 => c_10 (by rw [q9])
          refine lv_aload_n hx hb dX9_beginsOne_28 rfl (lv_at hl 0 rfl) ?_
          refine va_gets (v := .ref (ad 17)) hx hb (hE.1.1 17 (by decide)).1 hS hown (hts _ (List.mem_of_getElem? (i := 5) rfl)) (fun _ h9 => h9) dX9_beginsOne_29 ?_
          refine W.eq (g2 := F0 m 32 ls (va_rf (some (ad 17)) :: va_rf (some (ad w0)) :: [])) rfl ?_
          refine lv_acmp_eq (tgt := 49) hx hb dX9_beginsOne_32 (by decide) (fun c_13 => ?_) (fun c_13 => ?_)
          · have h_14 : w0 = 17 := (hE.1.2 w0 17 hw0 (by decide) (Option.some.inj c_13))
            refine lv_iconst (v := 1) hx hb dX9_beginsOne_49 (by decide) ?_
            refine lv_goto (tgt := 54) hx hb dX9_beginsOne_50 (by decide) ?_
            exact hret 1 ([], []) _ _ _ _ dX9_beginsOne_54 (by decide) ⟨(z_w (c := 0) (d := 1) (z_lit (x := 1) (a := 1) (b := 1) rfl) rfl), (z_bg1 (i := 17) rfl h_14), rfl⟩ hP (hK.sub [] rfl) hD hS
          · have h_15 : w0 ≠ 17 := fun q9 => c_13 (by rw [q9])
            refine lv_aload_n hx hb dX9_beginsOne_35 rfl (lv_at hl 0 rfl) ?_
            refine va_gets (v := .ref (ad 18)) hx hb (hE.1.1 18 (by decide)).1 hS hown (hts _ (List.mem_of_getElem? (i := 6) rfl)) (fun _ h9 => h9) dX9_beginsOne_36 ?_
            refine W.eq (g2 := F0 m 39 ls (va_rf (some (ad 18)) :: va_rf (some (ad w0)) :: [])) rfl ?_
            refine lv_acmp_eq (tgt := 49) hx hb dX9_beginsOne_39 (by decide) (fun c_16 => ?_) (fun c_16 => ?_)
            · have h_17 : w0 = 18 := (hE.1.2 w0 18 hw0 (by decide) (Option.some.inj c_16))
              refine lv_iconst (v := 1) hx hb dX9_beginsOne_49 (by decide) ?_
              refine lv_goto (tgt := 54) hx hb dX9_beginsOne_50 (by decide) ?_
              exact hret 1 ([], []) _ _ _ _ dX9_beginsOne_54 (by decide) ⟨(z_w (c := 0) (d := 1) (z_lit (x := 1) (a := 1) (b := 1) rfl) rfl), (z_bg1 (i := 18) rfl h_17), rfl⟩ hP (hK.sub [] rfl) hD hS
            · have h_18 : w0 ≠ 18 := fun q9 => c_16 (by rw [q9])
              refine lv_aload_n hx hb dX9_beginsOne_42 rfl (lv_at hl 0 rfl) ?_
              have hc9 := (w_Word_countsSomething l D ad w0 hw0)
              refine z_calli (w0 := []) (wr := []) (va_runV (As := []) (rest := []) ⟨hx, hb, hml, hown, hts⟩ (hc9 _) (cwV 0 hts gX9_beginsOne_X9_countsSomething rfl rfl rfl (by decide +kernel) ⟨Nat.le_of_ble_eq_true rfl, Nat.le_of_ble_eq_true rfl⟩) (z_preE hP hD hK hS hA hE hO [] [] rfl (by decide) rfl hw0) rfl rfl hl.1 rfl (lv_room (Nat.le_of_ble_eq_true rfl)) dX9_beginsOne_43 ⟨Nat.le_of_ble_eq_true rfl, Nat.le_of_ble_eq_true rfl⟩) hP hD hK hS hA [] [] rfl rfl (by decide +kernel) (by decide +kernel) (fun y_19 u9 H locs hw hP hD hK hS => ?_)
              obtain ⟨h_20, h_21, h_22, rfl⟩ := hw
              have hP : va_P D vwCl [] H := hP
              have hD : va_D A [] := hD
              have hK : va_K D vwCl [] s := hK
              refine W.cs (cells' := 0) (slots' := 0) rfl rfl ?_
              refine W.eq (g2 := F0 m 46 ls (.int y_19 :: [])) rfl ?_
              refine lv_if_eq (tgt := 53) hx hb dX9_beginsOne_46 (by decide) (fun c_23 => ?_) (fun c_23 => ?_)
              · skip
                have h_24 : z_in 0 0 y_19 := z_leL (Int32.le_of_eq c_23) h_20 (z_lit (x := 0) (a := 0) (b := 0) rfl) rfl
                refine lv_iconst (v := 0) hx hb dX9_beginsOne_53 (by decide) ?_
                exact hret 0 ([], []) _ _ _ _ dX9_beginsOne_54 (by decide) ⟨(z_w (c := 0) (d := 1) (z_lit (x := 0) (a := 0) (b := 0) rfl) rfl), (z_bg0 h_3 h_6 h_9 h_12 h_15 h_18 h_22 (z_eqk h_24 rfl)), rfl⟩ hP (hK.sub [] rfl) hD hS
              · skip
                have h_25 : z_in 1 1 y_19 := z_neLo c_23 h_20 (z_lit (x := 0) (a := 0) (b := 0) rfl) rfl
                refine lv_iconst (v := 1) hx hb dX9_beginsOne_49 (by decide) ?_
                refine lv_goto (tgt := 54) hx hb dX9_beginsOne_50 (by decide) ?_
                exact hret 1 ([], []) _ _ _ _ dX9_beginsOne_54 (by decide) ⟨(z_w (c := 0) (d := 1) (z_lit (x := 1) (a := 1) (b := 1) rfl) rfl), (z_bg2 h_22 (z_eqk h_25 rfl)), rfl⟩ hP (hK.sub [] rfl) hD hS

set_option maxHeartbeats 8000000 in
set_option maxRecDepth 100000 in
theorem w_Sentence_clear (l : Launch) (D : va_G) (ad : Nat → Nat) (se : Nat) (set : Int32) (sei : Int32) (seo : Int32) (sel : Int32) (sec : Int32) (sep : Nat) (sept : ClassId) (sepf : Nat → Option Nat) (seg : Nat) (segt : ClassId) (segf : Nat → Int32) (sen : Nat) (sent : ClassId) (senf : Nat → Int32) (ses : Nat) (sest : ClassId) (sesf : Nat → Int32) (sew : Nat) (sewt : ClassId) (sewf : Nat → Option Nat) (hset : z_in 0 40 set) (hseo : z_in 0 1 seo) (hsel : z_in 0 40 sel) (hsec : z_in 0 20 sec) (hsepf : z_wq ad sepf) (hsewf : z_wq ad sewf) (hwse : z_wt ad sepf senf) : z_Mv l yX5_clear wsX5_clear { frames := 0, cells := 0, slots := 0, locals := 0 } D ad [.ref se] [(se, .inr (5, [.ref sep, .ref seg, .ref sen, .ref ses, .ref sew, .int set, .int sei, .int seo, .int sel, .int sec])), (sep, .inl (sept, 40, .inr (.inr (.inr (.inr sepf))))), (seg, .inl (segt, 40, .inl segf)), (sen, .inl (sent, 40, .inl senf)), (ses, .inl (sest, 40, .inl sesf)), (sew, .inl (sewt, 40, .inr (.inr (.inr (.inr sewf)))))] [(sept, .object "FuneralUmbrellas$Word"), (segt, .int), (sent, .int), (sest, .int), (sewt, .object "FuneralUmbrellas$Word")] 0 0 (fun u9 => ∃ (x0_8 : Int32) (x0_9 : Int32), z_in 0 0 x0_8 ∧ z_in 0 0 x0_9 ∧ u9 = ([(se, .inr (5, [.ref sep, .ref seg, .ref sen, .ref ses, .ref sew, .int set, .int sei, .int seo, .int x0_8, .int x0_9])), (sep, .inl (sept, 40, .inr (.inr (.inr (.inr sepf))))), (seg, .inl (segt, 40, .inl segf)), (sen, .inl (sent, 40, .inl senf)), (ses, .inl (sest, 40, .inl sesf)), (sew, .inl (sewt, 40, .inr (.inr (.inr (.inr sewf)))))], [])) := by
  refine z_ofV (cc := cX5_clear) (maxL := 1) (by decide) rfl (Nat.le_of_ble_eq_true rfl) ?_
  intro p e s m below meth c Q A ls hx hb hml hown hts hin hK hP hD hA hE hO hS hl hret
  have hown : s.vm.findClass RX5 = some m.cls := hown
  have hiX5 : ∀ w ∈ wsX50, w ∈ wsX5_clear := fun _ h9 => List.mem_cons_of_mem _ (List.mem_append_right _ h9)
  have hl : lv_has ls 1 [(0, .ref se)] := hl
  refine lv_aload_n hx hb dX5_clear_0 rfl (lv_at hl 0 rfl) ?_
  refine lv_iconst (v := 0) hx hb dX5_clear_1 (by decide) ?_
  refine va_put (D := D) (ci := 5) (v := .int 0) (ty := tyX5 8) (C := RX5) (T := TX5) (N := 10) hx hb hts hiX5 tyX5 tyX5_ok nmX5 hown hK hP hD hS 0 rfl rfl 8 (by decide) (hts _ (List.mem_of_getElem? (i := 1) rfl)) (fun _ h9 => h9) rfl (tyX5_ok 8 (by decide)) rfl rfl (Nat.le_of_ble_eq_true rfl) dX5_clear_2 (fun H locs hP hD hS => ?_)
  have hP : va_P D vwCl [(se, .inr (5, [.ref sep, .ref seg, .ref sen, .ref ses, .ref sew, .int set, .int sei, .int seo, .int 0, .int sec])), (sep, .inl (sept, 40, .inr (.inr (.inr (.inr sepf))))), (seg, .inl (segt, 40, .inl segf)), (sen, .inl (sent, 40, .inl senf)), (ses, .inl (sest, 40, .inl sesf)), (sew, .inl (sewt, 40, .inr (.inr (.inr (.inr sewf)))))] H := hP
  have hD : va_D A [(se, .inr (5, [.ref sep, .ref seg, .ref sen, .ref ses, .ref sew, .int set, .int sei, .int seo, .int 0, .int sec])), (sep, .inl (sept, 40, .inr (.inr (.inr (.inr sepf))))), (seg, .inl (segt, 40, .inl segf)), (sen, .inl (sent, 40, .inl senf)), (ses, .inl (sest, 40, .inl sesf)), (sew, .inl (sewt, 40, .inr (.inr (.inr (.inr sewf)))))] := hD
  refine lv_aload_n hx hb dX5_clear_5 rfl (lv_at hl 0 rfl) ?_
  refine lv_iconst (v := 0) hx hb dX5_clear_6 (by decide) ?_
  refine va_put (D := D) (ci := 5) (v := .int 0) (ty := tyX5 9) (C := RX5) (T := TX5) (N := 10) hx hb hts hiX5 tyX5 tyX5_ok nmX5 hown hK hP hD hS 0 rfl rfl 9 (by decide) (hts _ (List.mem_of_getElem? (i := 2) rfl)) (fun _ h9 => h9) rfl (tyX5_ok 9 (by decide)) rfl rfl (Nat.le_of_ble_eq_true rfl) dX5_clear_7 (fun H locs hP hD hS => ?_)
  have hP : va_P D vwCl [(se, .inr (5, [.ref sep, .ref seg, .ref sen, .ref ses, .ref sew, .int set, .int sei, .int seo, .int 0, .int 0])), (sep, .inl (sept, 40, .inr (.inr (.inr (.inr sepf))))), (seg, .inl (segt, 40, .inl segf)), (sen, .inl (sent, 40, .inl senf)), (ses, .inl (sest, 40, .inl sesf)), (sew, .inl (sewt, 40, .inr (.inr (.inr (.inr sewf)))))] H := hP
  have hD : va_D A [(se, .inr (5, [.ref sep, .ref seg, .ref sen, .ref ses, .ref sew, .int set, .int sei, .int seo, .int 0, .int 0])), (sep, .inl (sept, 40, .inr (.inr (.inr (.inr sepf))))), (seg, .inl (segt, 40, .inl segf)), (sen, .inl (sent, 40, .inl senf)), (ses, .inl (sest, 40, .inl sesf)), (sew, .inl (sewt, 40, .inr (.inr (.inr (.inr sewf)))))] := hD
  exact hret ([(se, .inr (5, [.ref sep, .ref seg, .ref sen, .ref ses, .ref sew, .int set, .int sei, .int seo, .int 0, .int 0])), (sep, .inl (sept, 40, .inr (.inr (.inr (.inr sepf))))), (seg, .inl (segt, 40, .inl segf)), (sen, .inl (sent, 40, .inl senf)), (ses, .inl (sest, 40, .inl sesf)), (sew, .inl (sewt, 40, .inr (.inr (.inr (.inr sewf)))))], []) _ _ _ _ dX5_clear_10 ⟨0, 0, (z_lit (x := 0) (a := 0) (b := 0) rfl), (z_lit (x := 0) (a := 0) (b := 0) rfl), rfl⟩ hP (hK.sub [] rfl) hD hS

set_option maxHeartbeats 8000000 in
set_option maxRecDepth 100000 in
theorem w_Sentence_isWhole (l : Launch) (D : va_G) (ad : Nat → Nat) (se : Nat) (set : Int32) (sei : Int32) (seo : Int32) (sel : Int32) (sec : Int32) (sep : Nat) (sept : ClassId) (sepf : Nat → Option Nat) (seg : Nat) (segt : ClassId) (segf : Nat → Int32) (sen : Nat) (sent : ClassId) (senf : Nat → Int32) (ses : Nat) (sest : ClassId) (sesf : Nat → Int32) (sew : Nat) (sewt : ClassId) (sewf : Nat → Option Nat) (hset : z_in 0 40 set) (hseo : z_in 0 1 seo) (hsel : z_in 0 40 sel) (hsec : z_in 0 20 sec) (hsepf : z_wq ad sepf) (hsewf : z_wq ad sewf) (hwse : z_wt ad sepf senf) : z_Mi l yX5_isWhole wsX5_isWhole { frames := 0, cells := 0, slots := 0, locals := 0 } D ad [.ref se] [(se, .inr (5, [.ref sep, .ref seg, .ref sen, .ref ses, .ref sew, .int set, .int sei, .int seo, .int sel, .int sec])), (sep, .inl (sept, 40, .inr (.inr (.inr (.inr sepf))))), (seg, .inl (segt, 40, .inl segf)), (sen, .inl (sent, 40, .inl senf)), (ses, .inl (sest, 40, .inl sesf)), (sew, .inl (sewt, 40, .inr (.inr (.inr (.inr sewf)))))] [(sept, .object "FuneralUmbrellas$Word"), (segt, .int), (sent, .int), (sest, .int), (sewt, .object "FuneralUmbrellas$Word")] 0 0 (fun r9 u9 => z_in 0 1 r9 ∧ (r9 = 1 → z_in 0 0 sei) ∧ (r9 = 1 → z_in 0 0 seo) ∧ z_iw r9 seo sei ∧ z_wh9 r9 seo sei ∧ u9 = ([(se, .inr (5, [.ref sep, .ref seg, .ref sen, .ref ses, .ref sew, .int set, .int sei, .int seo, .int sel, .int sec])), (sep, .inl (sept, 40, .inr (.inr (.inr (.inr sepf))))), (seg, .inl (segt, 40, .inl segf)), (sen, .inl (sent, 40, .inl senf)), (ses, .inl (sest, 40, .inl sesf)), (sew, .inl (sewt, 40, .inr (.inr (.inr (.inr sewf)))))], [])) := by
  refine z_ofI (cc := cX5_isWhole) (maxL := 1) (rt := .boolean) (by decide) rfl (Nat.le_of_ble_eq_true rfl) ?_
  intro p e s m below meth c Q A ls hx hb hml hown hts hin hK hP hD hA hE hO hS hl hret
  have hown : s.vm.findClass RX5 = some m.cls := hown
  have hiX5 : ∀ w ∈ wsX50, w ∈ wsX5_isWhole := fun _ h9 => List.mem_cons_of_mem _ (List.mem_append_right _ h9)
  have hl : lv_has ls 1 [(0, .ref se)] := hl
  refine lv_aload_n hx hb dX5_isWhole_0 rfl (lv_at hl 0 rfl) ?_
  refine va_get (D := D) (ci := 5) (v := .int seo) (C := RX5) (T := TX5) (N := 10) hx hb hts hiX5 hown hK hP 0 rfl rfl 7 (by decide) (hts _ (List.mem_of_getElem? (i := 1) rfl)) (fun _ h9 => h9) rfl dX5_isWhole_1 ?_
  refine lv_if_ne (tgt := 18) hx hb dX5_isWhole_4 (by decide) (fun c_1 => ?_) (fun c_1 => ?_)
  · skip
    have h_2 : z_in 1 1 seo := z_neLo c_1 hseo (z_lit (x := 0) (a := 0) (b := 0) rfl) rfl
    refine lv_iconst (v := 0) hx hb dX5_isWhole_18 (by decide) ?_
    exact hret 0 ([(se, .inr (5, [.ref sep, .ref seg, .ref sen, .ref ses, .ref sew, .int set, .int sei, .int seo, .int sel, .int sec])), (sep, .inl (sept, 40, .inr (.inr (.inr (.inr sepf))))), (seg, .inl (segt, 40, .inl segf)), (sen, .inl (sent, 40, .inl senf)), (ses, .inl (sest, 40, .inl sesf)), (sew, .inl (sewt, 40, .inr (.inr (.inr (.inr sewf)))))], []) _ _ _ _ dX5_isWhole_19 (by decide) ⟨(z_w (c := 0) (d := 1) (z_lit (x := 0) (a := 0) (b := 0) rfl) rfl), (fun h9 => absurd h9 (by decide)), (fun h9 => absurd h9 (by decide)), (fun _ q9 => absurd (Int.le_trans h_2.1 (Int.le_of_eq q9)) (by decide)), (z_wh9w c_1), rfl⟩ hP (hK.sub [] rfl) hD hS
  · skip
    have h_3 : z_in 0 0 seo := z_leL (Int32.le_of_eq c_1) hseo (z_lit (x := 0) (a := 0) (b := 0) rfl) rfl
    refine lv_aload_n hx hb dX5_isWhole_7 rfl (lv_at hl 0 rfl) ?_
    refine va_get (D := D) (ci := 5) (v := .int sei) (C := RX5) (T := TX5) (N := 10) hx hb hts hiX5 hown hK hP 0 rfl rfl 6 (by decide) (hts _ (List.mem_of_getElem? (i := 2) rfl)) (fun _ h9 => h9) rfl dX5_isWhole_8 ?_
    refine lv_if_ne (tgt := 18) hx hb dX5_isWhole_11 (by decide) (fun c_4 => ?_) (fun c_4 => ?_)
    · skip
      refine lv_iconst (v := 0) hx hb dX5_isWhole_18 (by decide) ?_
      exact hret 0 ([(se, .inr (5, [.ref sep, .ref seg, .ref sen, .ref ses, .ref sew, .int set, .int sei, .int seo, .int sel, .int sec])), (sep, .inl (sept, 40, .inr (.inr (.inr (.inr sepf))))), (seg, .inl (segt, 40, .inl segf)), (sen, .inl (sent, 40, .inl senf)), (ses, .inl (sest, 40, .inl sesf)), (sew, .inl (sewt, 40, .inr (.inr (.inr (.inr sewf)))))], []) _ _ _ _ dX5_isWhole_19 (by decide) ⟨(z_w (c := 0) (d := 1) (z_lit (x := 0) (a := 0) (b := 0) rfl) rfl), (fun h9 => absurd h9 (by decide)), (fun h9 => absurd h9 (by decide)), (fun _ _ => c_4), (z_wh9k c_4), rfl⟩ hP (hK.sub [] rfl) hD hS
    · skip
      have h_5 : z_in (-2147483648) 0 sei := z_leL (Int32.le_of_eq c_4) (z_any sei) (z_lit (x := 0) (a := 0) (b := 0) rfl) rfl
      have h_6 : z_in 0 0 sei := z_leR (Int32.le_of_eq (Eq.symm c_4)) (z_lit (x := 0) (a := 0) (b := 0) rfl) h_5 rfl
      refine lv_iconst (v := 1) hx hb dX5_isWhole_14 (by decide) ?_
      refine lv_goto (tgt := 19) hx hb dX5_isWhole_15 (by decide) ?_
      exact hret 1 ([(se, .inr (5, [.ref sep, .ref seg, .ref sen, .ref ses, .ref sew, .int set, .int sei, .int seo, .int sel, .int sec])), (sep, .inl (sept, 40, .inr (.inr (.inr (.inr sepf))))), (seg, .inl (segt, 40, .inl segf)), (sen, .inl (sent, 40, .inl senf)), (ses, .inl (sest, 40, .inl sesf)), (sew, .inl (sewt, 40, .inr (.inr (.inr (.inr sewf)))))], []) _ _ _ _ dX5_isWhole_19 (by decide) ⟨(z_w (c := 0) (d := 1) (z_lit (x := 1) (a := 1) (b := 1) rfl) rfl), (fun _ => h_6), (fun _ => h_3), (fun h9 => absurd h9 (by decide)), (z_wh91 (z_eqk h_3 rfl) (z_eqk h_6 rfl)), rfl⟩ hP (hK.sub [] rfl) hD hS

set_option maxHeartbeats 8000000 in
set_option maxRecDepth 100000 in
theorem s_Sentence_addStep (l : Launch) (D : va_G) (ad : Nat → Nat) (se : Nat) (set : Int32) (sei : Int32) (seo : Int32) (sel : Int32) (sec : Int32) (sep : Nat) (sept : ClassId) (sepf : Nat → Option Nat) (seg : Nat) (segt : ClassId) (segf : Nat → Int32) (sen : Nat) (sent : ClassId) (senf : Nat → Int32) (ses : Nat) (sest : ClassId) (sesf : Nat → Int32) (sew : Nat) (sewt : ClassId) (sewf : Nat → Option Nat) (w0 : Nat) (i0 : Int32) (i1 : Int32) (hset : z_in 0 40 set) (hseo : z_in 0 1 seo) (hsel : z_in 0 39 sel) (hsec : z_in 0 20 sec) (hsepf : z_wq ad sepf) (hsewf : z_wq ad sewf) (hw0 : w0 < 22) (hwse : z_wt ad sepf senf) (hws : z_ws w0 i1) : z_Mi l yX5_addStep wsX5_addStep { frames := 0, cells := 0, slots := 0, locals := 0 } D ad [.ref se, .ref (ad w0), .int i0, .int i1] [(se, .inr (5, [.ref sep, .ref seg, .ref sen, .ref ses, .ref sew, .int set, .int sei, .int seo, .int sel, .int sec])), (sep, .inl (sept, 40, .inr (.inr (.inr (.inr sepf))))), (seg, .inl (segt, 40, .inl segf)), (sen, .inl (sent, 40, .inl senf)), (ses, .inl (sest, 40, .inl sesf)), (sew, .inl (sewt, 40, .inr (.inr (.inr (.inr sewf)))))] [(sept, .object "FuneralUmbrellas$Word"), (segt, .int), (sent, .int), (sest, .int), (sewt, .object "FuneralUmbrellas$Word")] 0 0 (fun r9 u9 => ∃ (x0_8 : Int32) (x1_f : Nat → Option Nat) (x2_f : Nat → Int32) (x3_f : Nat → Int32), z_in 1 40 x0_8 ∧ z_wq ad x1_f ∧ z_in 1 1 r9 ∧ z_wt ad x1_f x3_f ∧ z_l1 sel x0_8 ∧ u9 = ([(se, .inr (5, [.ref sep, .ref seg, .ref sen, .ref ses, .ref sew, .int set, .int sei, .int seo, .int x0_8, .int sec])), (sep, .inl (sept, 40, .inr (.inr (.inr (.inr x1_f))))), (seg, .inl (segt, 40, .inl x2_f)), (sen, .inl (sent, 40, .inl x3_f)), (ses, .inl (sest, 40, .inl sesf)), (sew, .inl (sewt, 40, .inr (.inr (.inr (.inr sewf)))))], [])) := by
  refine z_ofI (cc := cX5_addStep) (maxL := 4) (rt := .boolean) (by decide) rfl (Nat.le_of_ble_eq_true rfl) ?_
  intro p e s m below meth c Q A ls hx hb hml hown hts hin hK hP hD hA hE hO hS hl hret
  have hown : s.vm.findClass RX5 = some m.cls := hown
  have hiX5 : ∀ w ∈ wsX50, w ∈ wsX5_addStep := fun _ h9 => List.mem_cons_of_mem _ (List.mem_append_right _ h9)
  have hl : lv_has ls 4 [(0, .ref se), (1, .ref (ad w0)), (2, .int i0), (3, .int i1)] := hl
  refine lv_aload_n hx hb dX5_addStep_0 rfl (lv_at hl 0 rfl) ?_
  refine va_get (D := D) (ci := 5) (v := .int sel) (C := RX5) (T := TX5) (N := 10) hx hb hts hiX5 hown hK hP 0 rfl rfl 8 (by decide) (hts _ (List.mem_of_getElem? (i := 1) rfl)) (fun _ h9 => h9) rfl dX5_addStep_1 ?_
  refine lv_bipush (v := 40) hx hb dX5_addStep_4 (by decide) ?_
  refine lv_icmp_lt (tgt := 11) hx hb dX5_addStep_6 (by decide) (fun c_1 => ?_) (fun c_1 => ?_)
  · skip
    refine lv_aload_n hx hb dX5_addStep_11 rfl (lv_at hl 0 rfl) ?_
    refine va_get (D := D) (ci := 5) (v := .ref sep) (C := RX5) (T := TX5) (N := 10) hx hb hts hiX5 hown hK hP 0 rfl rfl 0 (by decide) (hts _ (List.mem_of_getElem? (i := 2) rfl)) (fun _ h9 => h9) rfl dX5_addStep_12 ?_
    refine lv_aload_n hx hb dX5_addStep_15 rfl (lv_at hl 0 rfl) ?_
    refine va_get (D := D) (ci := 5) (v := .int sel) (C := RX5) (T := TX5) (N := 10) hx hb hts hiX5 hown hK hP 0 rfl rfl 8 (by decide) (hts _ (List.mem_of_getElem? (i := 1) rfl)) (fun _ h9 => h9) rfl dX5_addStep_16 ?_
    refine lv_aload_n hx hb dX5_addStep_19 rfl (lv_at hl 1 rfl) ?_
    refine va_astqM hx hb hK hP hD hS 1 0 rfl rfl (z_anyW hE hw0 hS) (z_vp hsel rfl) dX5_addStep_20 (fun H locs hP hD hS => ?_)
    have h_3 : z_wq ad (va_up sepf (sel : Int32).toNatClampNeg (some (ad w0))) := z_wqu hsepf hw0
    generalize ef_2 : (va_up sepf (sel : Int32).toNatClampNeg (some (ad w0))) = f_2 at hP hD h_3
    have hP : va_P D vwCl [(se, .inr (5, [.ref sep, .ref seg, .ref sen, .ref ses, .ref sew, .int set, .int sei, .int seo, .int sel, .int sec])), (sep, .inl (sept, 40, .inr (.inr (.inr (.inr f_2))))), (seg, .inl (segt, 40, .inl segf)), (sen, .inl (sent, 40, .inl senf)), (ses, .inl (sest, 40, .inl sesf)), (sew, .inl (sewt, 40, .inr (.inr (.inr (.inr sewf)))))] H := hP
    have hD : va_D A [(se, .inr (5, [.ref sep, .ref seg, .ref sen, .ref ses, .ref sew, .int set, .int sei, .int seo, .int sel, .int sec])), (sep, .inl (sept, 40, .inr (.inr (.inr (.inr f_2))))), (seg, .inl (segt, 40, .inl segf)), (sen, .inl (sent, 40, .inl senf)), (ses, .inl (sest, 40, .inl sesf)), (sew, .inl (sewt, 40, .inr (.inr (.inr (.inr sewf)))))] := hD
    refine lv_aload_n hx hb dX5_addStep_21 rfl (lv_at hl 0 rfl) ?_
    refine va_get (D := D) (ci := 5) (v := .ref seg) (C := RX5) (T := TX5) (N := 10) hx hb hts hiX5 hown hK hP 0 rfl rfl 1 (by decide) (hts _ (List.mem_of_getElem? (i := 3) rfl)) (fun _ h9 => h9) rfl dX5_addStep_22 ?_
    refine lv_aload_n hx hb dX5_addStep_25 rfl (lv_at hl 0 rfl) ?_
    refine va_get (D := D) (ci := 5) (v := .int sel) (C := RX5) (T := TX5) (N := 10) hx hb hts hiX5 hown hK hP 0 rfl rfl 8 (by decide) (hts _ (List.mem_of_getElem? (i := 1) rfl)) (fun _ h9 => h9) rfl dX5_addStep_26 ?_
    refine lv_iload_n hx hb dX5_addStep_29 rfl (lv_at hl 2 rfl) ?_
    refine va_iast hx hb hK hP hD hS 2 1 rfl rfl (z_vp hsel rfl) dX5_addStep_30 (fun H locs hP hD hS => ?_)
    generalize ef_4 : (upd segf (sel : Int32).toNatClampNeg i0) = f_4 at hP hD
    have hP : va_P D vwCl [(se, .inr (5, [.ref sep, .ref seg, .ref sen, .ref ses, .ref sew, .int set, .int sei, .int seo, .int sel, .int sec])), (sep, .inl (sept, 40, .inr (.inr (.inr (.inr f_2))))), (seg, .inl (segt, 40, .inl f_4)), (sen, .inl (sent, 40, .inl senf)), (ses, .inl (sest, 40, .inl sesf)), (sew, .inl (sewt, 40, .inr (.inr (.inr (.inr sewf)))))] H := hP
    have hD : va_D A [(se, .inr (5, [.ref sep, .ref seg, .ref sen, .ref ses, .ref sew, .int set, .int sei, .int seo, .int sel, .int sec])), (sep, .inl (sept, 40, .inr (.inr (.inr (.inr f_2))))), (seg, .inl (segt, 40, .inl f_4)), (sen, .inl (sent, 40, .inl senf)), (ses, .inl (sest, 40, .inl sesf)), (sew, .inl (sewt, 40, .inr (.inr (.inr (.inr sewf)))))] := hD
    refine lv_aload_n hx hb dX5_addStep_31 rfl (lv_at hl 0 rfl) ?_
    refine va_get (D := D) (ci := 5) (v := .ref sen) (C := RX5) (T := TX5) (N := 10) hx hb hts hiX5 hown hK hP 0 rfl rfl 2 (by decide) (hts _ (List.mem_of_getElem? (i := 4) rfl)) (fun _ h9 => h9) rfl dX5_addStep_32 ?_
    refine lv_aload_n hx hb dX5_addStep_35 rfl (lv_at hl 0 rfl) ?_
    refine va_get (D := D) (ci := 5) (v := .int sel) (C := RX5) (T := TX5) (N := 10) hx hb hts hiX5 hown hK hP 0 rfl rfl 8 (by decide) (hts _ (List.mem_of_getElem? (i := 1) rfl)) (fun _ h9 => h9) rfl dX5_addStep_36 ?_
    refine lv_iload_n hx hb dX5_addStep_39 rfl (lv_at hl 3 rfl) ?_
    refine va_iast hx hb hK hP hD hS 3 2 rfl rfl (z_vp hsel rfl) dX5_addStep_40 (fun H locs hP hD hS => ?_)
    generalize ef_5 : (upd senf (sel : Int32).toNatClampNeg i1) = f_5 at hP hD
    have hP : va_P D vwCl [(se, .inr (5, [.ref sep, .ref seg, .ref sen, .ref ses, .ref sew, .int set, .int sei, .int seo, .int sel, .int sec])), (sep, .inl (sept, 40, .inr (.inr (.inr (.inr f_2))))), (seg, .inl (segt, 40, .inl f_4)), (sen, .inl (sent, 40, .inl f_5)), (ses, .inl (sest, 40, .inl sesf)), (sew, .inl (sewt, 40, .inr (.inr (.inr (.inr sewf)))))] H := hP
    have hD : va_D A [(se, .inr (5, [.ref sep, .ref seg, .ref sen, .ref ses, .ref sew, .int set, .int sei, .int seo, .int sel, .int sec])), (sep, .inl (sept, 40, .inr (.inr (.inr (.inr f_2))))), (seg, .inl (segt, 40, .inl f_4)), (sen, .inl (sent, 40, .inl f_5)), (ses, .inl (sest, 40, .inl sesf)), (sew, .inl (sewt, 40, .inr (.inr (.inr (.inr sewf)))))] := hD
    refine lv_aload_n hx hb dX5_addStep_41 rfl (lv_at hl 0 rfl) ?_
    refine lv_dup hx hb dX5_addStep_42 rfl ?_
    refine va_get (D := D) (ci := 5) (v := .int sel) (C := RX5) (T := TX5) (N := 10) hx hb hts hiX5 hown hK hP 0 rfl rfl 8 (by decide) (hts _ (List.mem_of_getElem? (i := 1) rfl)) (fun _ h9 => h9) rfl dX5_addStep_43 ?_
    refine lv_iconst (v := 1) hx hb dX5_addStep_46 (by decide) ?_
    refine lv_iadd hx hb dX5_addStep_47 ?_
    refine lv_topi (fun y_6 ey_6 => ?_)
    have h_7 : z_in 1 40 y_6 := by rw [ey_6]; exact z_add hsel (z_lit (x := 1) (a := 1) (b := 1) rfl) rfl rfl
    have ty_6 : y_6.toInt = sel.toInt + 1 := by rw [ey_6]; exact (z_addT hsel (z_lit (x := 1) (a := 1) (b := 1) rfl) rfl).trans rfl
    refine va_put (D := D) (ci := 5) (v := .int y_6) (ty := tyX5 8) (C := RX5) (T := TX5) (N := 10) hx hb hts hiX5 tyX5 tyX5_ok nmX5 hown hK hP hD hS 0 rfl rfl 8 (by decide) (hts _ (List.mem_of_getElem? (i := 1) rfl)) (fun _ h9 => h9) rfl (tyX5_ok 8 (by decide)) rfl rfl (Nat.le_of_ble_eq_true rfl) dX5_addStep_48 (fun H locs hP hD hS => ?_)
    have hP : va_P D vwCl [(se, .inr (5, [.ref sep, .ref seg, .ref sen, .ref ses, .ref sew, .int set, .int sei, .int seo, .int y_6, .int sec])), (sep, .inl (sept, 40, .inr (.inr (.inr (.inr f_2))))), (seg, .inl (segt, 40, .inl f_4)), (sen, .inl (sent, 40, .inl f_5)), (ses, .inl (sest, 40, .inl sesf)), (sew, .inl (sewt, 40, .inr (.inr (.inr (.inr sewf)))))] H := hP
    have hD : va_D A [(se, .inr (5, [.ref sep, .ref seg, .ref sen, .ref ses, .ref sew, .int set, .int sei, .int seo, .int y_6, .int sec])), (sep, .inl (sept, 40, .inr (.inr (.inr (.inr f_2))))), (seg, .inl (segt, 40, .inl f_4)), (sen, .inl (sent, 40, .inl f_5)), (ses, .inl (sest, 40, .inl sesf)), (sew, .inl (sewt, 40, .inr (.inr (.inr (.inr sewf)))))] := hD
    refine lv_iconst (v := 1) hx hb dX5_addStep_51 (by decide) ?_
    exact hret 1 ([(se, .inr (5, [.ref sep, .ref seg, .ref sen, .ref ses, .ref sew, .int set, .int sei, .int seo, .int y_6, .int sec])), (sep, .inl (sept, 40, .inr (.inr (.inr (.inr f_2))))), (seg, .inl (segt, 40, .inl f_4)), (sen, .inl (sent, 40, .inl f_5)), (ses, .inl (sest, 40, .inl sesf)), (sew, .inl (sewt, 40, .inr (.inr (.inr (.inr sewf)))))], []) _ _ _ _ dX5_addStep_52 (by decide) ⟨y_6, f_2, f_4, f_5, h_7, h_3, (z_lit (x := 1) (a := 1) (b := 1) rfl), (by rw [← ef_2, ← ef_5]; exact z_wtu hE.1.2 hwse hw0 hws), (show z_l1 sel y_6 from by unfold z_l1; have r1 := ty_6; have a1 := h_7.1; have b1 := h_7.2; have a2 := hsel.1; have b2 := hsel.2; omega), rfl⟩ hP (hK.sub [] rfl) hD hS
  · skip
    exact (z_no (z_leL (e := 39) (Int32.not_lt.mp c_1) (z_lit (x := 40) (a := 40) (b := 40) rfl) hsel rfl) rfl).elim

set_option maxHeartbeats 8000000 in
set_option maxRecDepth 100000 in
theorem w_Sentence_addStep (l : Launch) (D : va_G) (ad : Nat → Nat) (se : Nat) (set : Int32) (sei : Int32) (seo : Int32) (sel : Int32) (sec : Int32) (sep : Nat) (sept : ClassId) (sepf : Nat → Option Nat) (seg : Nat) (segt : ClassId) (segf : Nat → Int32) (sen : Nat) (sent : ClassId) (senf : Nat → Int32) (ses : Nat) (sest : ClassId) (sesf : Nat → Int32) (sew : Nat) (sewt : ClassId) (sewf : Nat → Option Nat) (w0 : Nat) (i0 : Int32) (i1 : Int32) (hset : z_in 0 40 set) (hseo : z_in 0 1 seo) (hsel : z_in 0 40 sel) (hsec : z_in 0 20 sec) (hsepf : z_wq ad sepf) (hsewf : z_wq ad sewf) (hw0 : w0 < 22) (hwse : z_wt ad sepf senf) (hws : z_ws w0 i1) : z_Mi l yX5_addStep wsX5_addStep { frames := 0, cells := 0, slots := 0, locals := 0 } D ad [.ref se, .ref (ad w0), .int i0, .int i1] [(se, .inr (5, [.ref sep, .ref seg, .ref sen, .ref ses, .ref sew, .int set, .int sei, .int seo, .int sel, .int sec])), (sep, .inl (sept, 40, .inr (.inr (.inr (.inr sepf))))), (seg, .inl (segt, 40, .inl segf)), (sen, .inl (sent, 40, .inl senf)), (ses, .inl (sest, 40, .inl sesf)), (sew, .inl (sewt, 40, .inr (.inr (.inr (.inr sewf)))))] [(sept, .object "FuneralUmbrellas$Word"), (segt, .int), (sent, .int), (sest, .int), (sewt, .object "FuneralUmbrellas$Word")] 0 0 (fun r9 u9 => ∃ (x0_8 : Int32) (x1_f : Nat → Option Nat) (x2_f : Nat → Int32) (x3_f : Nat → Int32), z_in 0 40 x0_8 ∧ z_wq ad x1_f ∧ z_in 0 1 r9 ∧ (r9 = 0 → z_in 40 40 sel) ∧ (r9 = 0 → z_in 40 40 x0_8) ∧ (r9 = 1 → z_in 0 39 sel) ∧ (r9 = 1 → z_in 1 40 x0_8) ∧ z_wt ad x1_f x3_f ∧ z_l1 sel x0_8 ∧ u9 = ([(se, .inr (5, [.ref sep, .ref seg, .ref sen, .ref ses, .ref sew, .int set, .int sei, .int seo, .int x0_8, .int sec])), (sep, .inl (sept, 40, .inr (.inr (.inr (.inr x1_f))))), (seg, .inl (segt, 40, .inl x2_f)), (sen, .inl (sent, 40, .inl x3_f)), (ses, .inl (sest, 40, .inl sesf)), (sew, .inl (sewt, 40, .inr (.inr (.inr (.inr sewf)))))], [])) := by
  refine z_ofI (cc := cX5_addStep) (maxL := 4) (rt := .boolean) (by decide) rfl (Nat.le_of_ble_eq_true rfl) ?_
  intro p e s m below meth c Q A ls hx hb hml hown hts hin hK hP hD hA hE hO hS hl hret
  have hown : s.vm.findClass RX5 = some m.cls := hown
  have hiX5 : ∀ w ∈ wsX50, w ∈ wsX5_addStep := fun _ h9 => List.mem_cons_of_mem _ (List.mem_append_right _ h9)
  have hl : lv_has ls 4 [(0, .ref se), (1, .ref (ad w0)), (2, .int i0), (3, .int i1)] := hl
  refine lv_aload_n hx hb dX5_addStep_0 rfl (lv_at hl 0 rfl) ?_
  refine va_get (D := D) (ci := 5) (v := .int sel) (C := RX5) (T := TX5) (N := 10) hx hb hts hiX5 hown hK hP 0 rfl rfl 8 (by decide) (hts _ (List.mem_of_getElem? (i := 1) rfl)) (fun _ h9 => h9) rfl dX5_addStep_1 ?_
  refine lv_bipush (v := 40) hx hb dX5_addStep_4 (by decide) ?_
  refine lv_icmp_lt (tgt := 11) hx hb dX5_addStep_6 (by decide) (fun c_1 => ?_) (fun c_1 => ?_)
  · skip
    have h_2 : z_in 0 39 sel := z_ltL c_1 hsel (z_lit (x := 40) (a := 40) (b := 40) rfl) rfl
    refine lv_aload_n hx hb dX5_addStep_11 rfl (lv_at hl 0 rfl) ?_
    refine va_get (D := D) (ci := 5) (v := .ref sep) (C := RX5) (T := TX5) (N := 10) hx hb hts hiX5 hown hK hP 0 rfl rfl 0 (by decide) (hts _ (List.mem_of_getElem? (i := 2) rfl)) (fun _ h9 => h9) rfl dX5_addStep_12 ?_
    refine lv_aload_n hx hb dX5_addStep_15 rfl (lv_at hl 0 rfl) ?_
    refine va_get (D := D) (ci := 5) (v := .int sel) (C := RX5) (T := TX5) (N := 10) hx hb hts hiX5 hown hK hP 0 rfl rfl 8 (by decide) (hts _ (List.mem_of_getElem? (i := 1) rfl)) (fun _ h9 => h9) rfl dX5_addStep_16 ?_
    refine lv_aload_n hx hb dX5_addStep_19 rfl (lv_at hl 1 rfl) ?_
    refine va_astqM hx hb hK hP hD hS 1 0 rfl rfl (z_anyW hE hw0 hS) (z_vp h_2 rfl) dX5_addStep_20 (fun H locs hP hD hS => ?_)
    have h_4 : z_wq ad (va_up sepf (sel : Int32).toNatClampNeg (some (ad w0))) := z_wqu hsepf hw0
    generalize ef_3 : (va_up sepf (sel : Int32).toNatClampNeg (some (ad w0))) = f_3 at hP hD h_4
    have hP : va_P D vwCl [(se, .inr (5, [.ref sep, .ref seg, .ref sen, .ref ses, .ref sew, .int set, .int sei, .int seo, .int sel, .int sec])), (sep, .inl (sept, 40, .inr (.inr (.inr (.inr f_3))))), (seg, .inl (segt, 40, .inl segf)), (sen, .inl (sent, 40, .inl senf)), (ses, .inl (sest, 40, .inl sesf)), (sew, .inl (sewt, 40, .inr (.inr (.inr (.inr sewf)))))] H := hP
    have hD : va_D A [(se, .inr (5, [.ref sep, .ref seg, .ref sen, .ref ses, .ref sew, .int set, .int sei, .int seo, .int sel, .int sec])), (sep, .inl (sept, 40, .inr (.inr (.inr (.inr f_3))))), (seg, .inl (segt, 40, .inl segf)), (sen, .inl (sent, 40, .inl senf)), (ses, .inl (sest, 40, .inl sesf)), (sew, .inl (sewt, 40, .inr (.inr (.inr (.inr sewf)))))] := hD
    refine lv_aload_n hx hb dX5_addStep_21 rfl (lv_at hl 0 rfl) ?_
    refine va_get (D := D) (ci := 5) (v := .ref seg) (C := RX5) (T := TX5) (N := 10) hx hb hts hiX5 hown hK hP 0 rfl rfl 1 (by decide) (hts _ (List.mem_of_getElem? (i := 3) rfl)) (fun _ h9 => h9) rfl dX5_addStep_22 ?_
    refine lv_aload_n hx hb dX5_addStep_25 rfl (lv_at hl 0 rfl) ?_
    refine va_get (D := D) (ci := 5) (v := .int sel) (C := RX5) (T := TX5) (N := 10) hx hb hts hiX5 hown hK hP 0 rfl rfl 8 (by decide) (hts _ (List.mem_of_getElem? (i := 1) rfl)) (fun _ h9 => h9) rfl dX5_addStep_26 ?_
    refine lv_iload_n hx hb dX5_addStep_29 rfl (lv_at hl 2 rfl) ?_
    refine va_iast hx hb hK hP hD hS 2 1 rfl rfl (z_vp h_2 rfl) dX5_addStep_30 (fun H locs hP hD hS => ?_)
    generalize ef_5 : (upd segf (sel : Int32).toNatClampNeg i0) = f_5 at hP hD
    have hP : va_P D vwCl [(se, .inr (5, [.ref sep, .ref seg, .ref sen, .ref ses, .ref sew, .int set, .int sei, .int seo, .int sel, .int sec])), (sep, .inl (sept, 40, .inr (.inr (.inr (.inr f_3))))), (seg, .inl (segt, 40, .inl f_5)), (sen, .inl (sent, 40, .inl senf)), (ses, .inl (sest, 40, .inl sesf)), (sew, .inl (sewt, 40, .inr (.inr (.inr (.inr sewf)))))] H := hP
    have hD : va_D A [(se, .inr (5, [.ref sep, .ref seg, .ref sen, .ref ses, .ref sew, .int set, .int sei, .int seo, .int sel, .int sec])), (sep, .inl (sept, 40, .inr (.inr (.inr (.inr f_3))))), (seg, .inl (segt, 40, .inl f_5)), (sen, .inl (sent, 40, .inl senf)), (ses, .inl (sest, 40, .inl sesf)), (sew, .inl (sewt, 40, .inr (.inr (.inr (.inr sewf)))))] := hD
    refine lv_aload_n hx hb dX5_addStep_31 rfl (lv_at hl 0 rfl) ?_
    refine va_get (D := D) (ci := 5) (v := .ref sen) (C := RX5) (T := TX5) (N := 10) hx hb hts hiX5 hown hK hP 0 rfl rfl 2 (by decide) (hts _ (List.mem_of_getElem? (i := 4) rfl)) (fun _ h9 => h9) rfl dX5_addStep_32 ?_
    refine lv_aload_n hx hb dX5_addStep_35 rfl (lv_at hl 0 rfl) ?_
    refine va_get (D := D) (ci := 5) (v := .int sel) (C := RX5) (T := TX5) (N := 10) hx hb hts hiX5 hown hK hP 0 rfl rfl 8 (by decide) (hts _ (List.mem_of_getElem? (i := 1) rfl)) (fun _ h9 => h9) rfl dX5_addStep_36 ?_
    refine lv_iload_n hx hb dX5_addStep_39 rfl (lv_at hl 3 rfl) ?_
    refine va_iast hx hb hK hP hD hS 3 2 rfl rfl (z_vp h_2 rfl) dX5_addStep_40 (fun H locs hP hD hS => ?_)
    generalize ef_6 : (upd senf (sel : Int32).toNatClampNeg i1) = f_6 at hP hD
    have hP : va_P D vwCl [(se, .inr (5, [.ref sep, .ref seg, .ref sen, .ref ses, .ref sew, .int set, .int sei, .int seo, .int sel, .int sec])), (sep, .inl (sept, 40, .inr (.inr (.inr (.inr f_3))))), (seg, .inl (segt, 40, .inl f_5)), (sen, .inl (sent, 40, .inl f_6)), (ses, .inl (sest, 40, .inl sesf)), (sew, .inl (sewt, 40, .inr (.inr (.inr (.inr sewf)))))] H := hP
    have hD : va_D A [(se, .inr (5, [.ref sep, .ref seg, .ref sen, .ref ses, .ref sew, .int set, .int sei, .int seo, .int sel, .int sec])), (sep, .inl (sept, 40, .inr (.inr (.inr (.inr f_3))))), (seg, .inl (segt, 40, .inl f_5)), (sen, .inl (sent, 40, .inl f_6)), (ses, .inl (sest, 40, .inl sesf)), (sew, .inl (sewt, 40, .inr (.inr (.inr (.inr sewf)))))] := hD
    refine lv_aload_n hx hb dX5_addStep_41 rfl (lv_at hl 0 rfl) ?_
    refine lv_dup hx hb dX5_addStep_42 rfl ?_
    refine va_get (D := D) (ci := 5) (v := .int sel) (C := RX5) (T := TX5) (N := 10) hx hb hts hiX5 hown hK hP 0 rfl rfl 8 (by decide) (hts _ (List.mem_of_getElem? (i := 1) rfl)) (fun _ h9 => h9) rfl dX5_addStep_43 ?_
    refine lv_iconst (v := 1) hx hb dX5_addStep_46 (by decide) ?_
    refine lv_iadd hx hb dX5_addStep_47 ?_
    refine lv_topi (fun y_7 ey_7 => ?_)
    have h_8 : z_in 1 40 y_7 := by rw [ey_7]; exact z_add h_2 (z_lit (x := 1) (a := 1) (b := 1) rfl) rfl rfl
    have ty_7 : y_7.toInt = sel.toInt + 1 := by rw [ey_7]; exact (z_addT h_2 (z_lit (x := 1) (a := 1) (b := 1) rfl) rfl).trans rfl
    refine va_put (D := D) (ci := 5) (v := .int y_7) (ty := tyX5 8) (C := RX5) (T := TX5) (N := 10) hx hb hts hiX5 tyX5 tyX5_ok nmX5 hown hK hP hD hS 0 rfl rfl 8 (by decide) (hts _ (List.mem_of_getElem? (i := 1) rfl)) (fun _ h9 => h9) rfl (tyX5_ok 8 (by decide)) rfl rfl (Nat.le_of_ble_eq_true rfl) dX5_addStep_48 (fun H locs hP hD hS => ?_)
    have hP : va_P D vwCl [(se, .inr (5, [.ref sep, .ref seg, .ref sen, .ref ses, .ref sew, .int set, .int sei, .int seo, .int y_7, .int sec])), (sep, .inl (sept, 40, .inr (.inr (.inr (.inr f_3))))), (seg, .inl (segt, 40, .inl f_5)), (sen, .inl (sent, 40, .inl f_6)), (ses, .inl (sest, 40, .inl sesf)), (sew, .inl (sewt, 40, .inr (.inr (.inr (.inr sewf)))))] H := hP
    have hD : va_D A [(se, .inr (5, [.ref sep, .ref seg, .ref sen, .ref ses, .ref sew, .int set, .int sei, .int seo, .int y_7, .int sec])), (sep, .inl (sept, 40, .inr (.inr (.inr (.inr f_3))))), (seg, .inl (segt, 40, .inl f_5)), (sen, .inl (sent, 40, .inl f_6)), (ses, .inl (sest, 40, .inl sesf)), (sew, .inl (sewt, 40, .inr (.inr (.inr (.inr sewf)))))] := hD
    refine lv_iconst (v := 1) hx hb dX5_addStep_51 (by decide) ?_
    exact hret 1 ([(se, .inr (5, [.ref sep, .ref seg, .ref sen, .ref ses, .ref sew, .int set, .int sei, .int seo, .int y_7, .int sec])), (sep, .inl (sept, 40, .inr (.inr (.inr (.inr f_3))))), (seg, .inl (segt, 40, .inl f_5)), (sen, .inl (sent, 40, .inl f_6)), (ses, .inl (sest, 40, .inl sesf)), (sew, .inl (sewt, 40, .inr (.inr (.inr (.inr sewf)))))], []) _ _ _ _ dX5_addStep_52 (by decide) ⟨y_7, f_3, f_5, f_6, (z_w (c := 0) (d := 40) h_8 rfl), h_4, (z_w (c := 0) (d := 1) (z_lit (x := 1) (a := 1) (b := 1) rfl) rfl), (fun h9 => absurd h9 (by decide)), (fun h9 => absurd h9 (by decide)), (fun _ => h_2), (fun _ => h_8), (by rw [← ef_3, ← ef_6]; exact z_wtu hE.1.2 hwse hw0 hws), (show z_l1 sel y_7 from by unfold z_l1; have r1 := ty_7; have a1 := h_8.1; have b1 := h_8.2; have a2 := h_2.1; have b2 := h_2.2; omega), rfl⟩ hP (hK.sub [] rfl) hD hS
  · skip
    have h_9 : z_in 40 40 sel := z_leR (Int32.not_lt.mp c_1) (z_lit (x := 40) (a := 40) (b := 40) rfl) hsel rfl
    refine lv_iconst (v := 0) hx hb dX5_addStep_9 (by decide) ?_
    exact hret 0 ([(se, .inr (5, [.ref sep, .ref seg, .ref sen, .ref ses, .ref sew, .int set, .int sei, .int seo, .int sel, .int sec])), (sep, .inl (sept, 40, .inr (.inr (.inr (.inr sepf))))), (seg, .inl (segt, 40, .inl segf)), (sen, .inl (sent, 40, .inl senf)), (ses, .inl (sest, 40, .inl sesf)), (sew, .inl (sewt, 40, .inr (.inr (.inr (.inr sewf)))))], []) _ _ _ _ dX5_addStep_10 (by decide) ⟨sel, sepf, segf, senf, (z_w (c := 0) (d := 40) h_9 rfl), hsepf, (z_w (c := 0) (d := 1) (z_lit (x := 0) (a := 0) (b := 0) rfl) rfl), (fun _ => h_9), (fun _ => h_9), (fun h9 => absurd h9 (by decide)), (fun h9 => absurd h9 (by decide)), hwse, (show z_l1 sel sel from by unfold z_l1; have a1 := h_9.1; have b1 := h_9.2; omega), rfl⟩ hP (hK.sub [] rfl) hD hS

set_option maxHeartbeats 8000000 in
set_option maxRecDepth 100000 in
theorem w_Sentence_addWaitingA (l : Launch) (D : va_G) (ad : Nat → Nat) (se : Nat) (set : Int32) (sei : Int32) (seo : Int32) (sel : Int32) (sec : Int32) (sep : Nat) (sept : ClassId) (sepf : Nat → Option Nat) (seg : Nat) (segt : ClassId) (segf : Nat → Int32) (sen : Nat) (sent : ClassId) (senf : Nat → Int32) (ses : Nat) (sest : ClassId) (sesf : Nat → Int32) (sew : Nat) (sewt : ClassId) (sewf : Nat → Option Nat) (w0 : Nat) (hset : z_in 0 39 set) (hseo : z_in 0 1 seo) (hsel : z_in 0 40 sel) (hsec : z_in 0 20 sec) (hsepf : z_wq ad sepf) (hsewf : z_wq ad sewf) (hw0 : w0 < 22) (hwse : z_wt ad sepf senf) (h13 : z_wne w0 13) (h12 : z_wne w0 12) (hcm : z_wcm ad sewf set sei) : z_Mi l yX5_addWaiting wsX5_addWaiting { frames := 0, cells := 0, slots := 0, locals := 0 } D ad [.ref se, .ref (ad w0)] [(se, .inr (5, [.ref sep, .ref seg, .ref sen, .ref ses, .ref sew, .int set, .int sei, .int seo, .int sel, .int sec])), (sep, .inl (sept, 40, .inr (.inr (.inr (.inr sepf))))), (seg, .inl (segt, 40, .inl segf)), (sen, .inl (sent, 40, .inl senf)), (ses, .inl (sest, 40, .inl sesf)), (sew, .inl (sewt, 40, .inr (.inr (.inr (.inr sewf)))))] [(sept, .object "FuneralUmbrellas$Word"), (segt, .int), (sent, .int), (sest, .int), (sewt, .object "FuneralUmbrellas$Word")] 0 0 (fun r9 u9 => ∃ (x0_5 : Int32) (x5_f : Nat → Option Nat), z_in 1 40 x0_5 ∧ z_wq ad x5_f ∧ z_in 1 1 r9 ∧ z_psh ad sewf set x5_f x0_5 w0 ∧ z_suc set x0_5 ∧ (r9 = 1 → z_wc ad x5_f x0_5 sei) ∧ u9 = ([(se, .inr (5, [.ref sep, .ref seg, .ref sen, .ref ses, .ref sew, .int x0_5, .int sei, .int seo, .int sel, .int sec])), (sep, .inl (sept, 40, .inr (.inr (.inr (.inr sepf))))), (seg, .inl (segt, 40, .inl segf)), (sen, .inl (sent, 40, .inl senf)), (ses, .inl (sest, 40, .inl sesf)), (sew, .inl (sewt, 40, .inr (.inr (.inr (.inr x5_f)))))], [])) := by
  refine z_ofI (cc := cX5_addWaiting) (maxL := 2) (rt := .boolean) (by decide) rfl (Nat.le_of_ble_eq_true rfl) ?_
  intro p e s m below meth c Q A ls hx hb hml hown hts hin hK hP hD hA hE hO hS hl hret
  have hown : s.vm.findClass RX5 = some m.cls := hown
  have hiX5 : ∀ w ∈ wsX50, w ∈ wsX5_addWaiting := fun _ h9 => List.mem_cons_of_mem _ (List.mem_append_right _ h9)
  have hl : lv_has ls 2 [(0, .ref se), (1, .ref (ad w0))] := hl
  refine lv_aload_n hx hb dX5_addWaiting_0 rfl (lv_at hl 0 rfl) ?_
  refine va_get (D := D) (ci := 5) (v := .int set) (C := RX5) (T := TX5) (N := 10) hx hb hts hiX5 hown hK hP 0 rfl rfl 5 (by decide) (hts _ (List.mem_of_getElem? (i := 1) rfl)) (fun _ h9 => h9) rfl dX5_addWaiting_1 ?_
  refine lv_bipush (v := 40) hx hb dX5_addWaiting_4 (by decide) ?_
  refine lv_icmp_lt (tgt := 11) hx hb dX5_addWaiting_6 (by decide) (fun c_1 => ?_) (fun c_1 => ?_)
  · skip
    refine lv_aload_n hx hb dX5_addWaiting_11 rfl (lv_at hl 0 rfl) ?_
    refine va_get (D := D) (ci := 5) (v := .ref sew) (C := RX5) (T := TX5) (N := 10) hx hb hts hiX5 hown hK hP 0 rfl rfl 4 (by decide) (hts _ (List.mem_of_getElem? (i := 2) rfl)) (fun _ h9 => h9) rfl dX5_addWaiting_12 ?_
    refine lv_aload_n hx hb dX5_addWaiting_15 rfl (lv_at hl 0 rfl) ?_
    refine va_get (D := D) (ci := 5) (v := .int set) (C := RX5) (T := TX5) (N := 10) hx hb hts hiX5 hown hK hP 0 rfl rfl 5 (by decide) (hts _ (List.mem_of_getElem? (i := 1) rfl)) (fun _ h9 => h9) rfl dX5_addWaiting_16 ?_
    refine lv_aload_n hx hb dX5_addWaiting_19 rfl (lv_at hl 1 rfl) ?_
    refine va_astqM hx hb hK hP hD hS 5 4 rfl rfl (z_anyW hE hw0 hS) (z_vp hset rfl) dX5_addWaiting_20 (fun H locs hP hD hS => ?_)
    have h_3 : z_wq ad (va_up sewf (set : Int32).toNatClampNeg (some (ad w0))) := z_wqu hsewf hw0
    generalize ef_2 : (va_up sewf (set : Int32).toNatClampNeg (some (ad w0))) = f_2 at hP hD h_3
    have hP : va_P D vwCl [(se, .inr (5, [.ref sep, .ref seg, .ref sen, .ref ses, .ref sew, .int set, .int sei, .int seo, .int sel, .int sec])), (sep, .inl (sept, 40, .inr (.inr (.inr (.inr sepf))))), (seg, .inl (segt, 40, .inl segf)), (sen, .inl (sent, 40, .inl senf)), (ses, .inl (sest, 40, .inl sesf)), (sew, .inl (sewt, 40, .inr (.inr (.inr (.inr f_2)))))] H := hP
    have hD : va_D A [(se, .inr (5, [.ref sep, .ref seg, .ref sen, .ref ses, .ref sew, .int set, .int sei, .int seo, .int sel, .int sec])), (sep, .inl (sept, 40, .inr (.inr (.inr (.inr sepf))))), (seg, .inl (segt, 40, .inl segf)), (sen, .inl (sent, 40, .inl senf)), (ses, .inl (sest, 40, .inl sesf)), (sew, .inl (sewt, 40, .inr (.inr (.inr (.inr f_2)))))] := hD
    refine lv_aload_n hx hb dX5_addWaiting_21 rfl (lv_at hl 0 rfl) ?_
    refine lv_dup hx hb dX5_addWaiting_22 rfl ?_
    refine va_get (D := D) (ci := 5) (v := .int set) (C := RX5) (T := TX5) (N := 10) hx hb hts hiX5 hown hK hP 0 rfl rfl 5 (by decide) (hts _ (List.mem_of_getElem? (i := 1) rfl)) (fun _ h9 => h9) rfl dX5_addWaiting_23 ?_
    refine lv_iconst (v := 1) hx hb dX5_addWaiting_26 (by decide) ?_
    refine lv_iadd hx hb dX5_addWaiting_27 ?_
    refine lv_topi (fun y_4 ey_4 => ?_)
    have h_5 : z_in 1 40 y_4 := by rw [ey_4]; exact z_add hset (z_lit (x := 1) (a := 1) (b := 1) rfl) rfl rfl
    have ty_4 : y_4.toInt = set.toInt + 1 := by rw [ey_4]; exact (z_addT hset (z_lit (x := 1) (a := 1) (b := 1) rfl) rfl).trans rfl
    refine va_put (D := D) (ci := 5) (v := .int y_4) (ty := tyX5 5) (C := RX5) (T := TX5) (N := 10) hx hb hts hiX5 tyX5 tyX5_ok nmX5 hown hK hP hD hS 0 rfl rfl 5 (by decide) (hts _ (List.mem_of_getElem? (i := 1) rfl)) (fun _ h9 => h9) rfl (tyX5_ok 5 (by decide)) rfl rfl (Nat.le_of_ble_eq_true rfl) dX5_addWaiting_28 (fun H locs hP hD hS => ?_)
    have hP : va_P D vwCl [(se, .inr (5, [.ref sep, .ref seg, .ref sen, .ref ses, .ref sew, .int y_4, .int sei, .int seo, .int sel, .int sec])), (sep, .inl (sept, 40, .inr (.inr (.inr (.inr sepf))))), (seg, .inl (segt, 40, .inl segf)), (sen, .inl (sent, 40, .inl senf)), (ses, .inl (sest, 40, .inl sesf)), (sew, .inl (sewt, 40, .inr (.inr (.inr (.inr f_2)))))] H := hP
    have hD : va_D A [(se, .inr (5, [.ref sep, .ref seg, .ref sen, .ref ses, .ref sew, .int y_4, .int sei, .int seo, .int sel, .int sec])), (sep, .inl (sept, 40, .inr (.inr (.inr (.inr sepf))))), (seg, .inl (segt, 40, .inl segf)), (sen, .inl (sent, 40, .inl senf)), (ses, .inl (sest, 40, .inl sesf)), (sew, .inl (sewt, 40, .inr (.inr (.inr (.inr f_2)))))] := hD
    refine lv_iconst (v := 1) hx hb dX5_addWaiting_31 (by decide) ?_
    exact hret 1 ([(se, .inr (5, [.ref sep, .ref seg, .ref sen, .ref ses, .ref sew, .int y_4, .int sei, .int seo, .int sel, .int sec])), (sep, .inl (sept, 40, .inr (.inr (.inr (.inr sepf))))), (seg, .inl (segt, 40, .inl segf)), (sen, .inl (sent, 40, .inl senf)), (ses, .inl (sest, 40, .inl sesf)), (sew, .inl (sewt, 40, .inr (.inr (.inr (.inr f_2)))))], []) _ _ _ _ dX5_addWaiting_32 (by decide) ⟨y_4, f_2, h_5, h_3, (z_lit (x := 1) (a := 1) (b := 1) rfl), (z_pshI hE.1.2 (Int.le_trans (by decide) hset.1) ty_4 hw0 ef_2), ty_4, (fun _ => (by rw [← ef_2]; exact z_wcU hE.1.2 hcm (Int.le_trans (by decide) hset.1) hw0 h13 h12 ty_4)), rfl⟩ hP (hK.sub [] rfl) hD hS
  · skip
    exact (z_no (z_leL (e := 39) (Int32.not_lt.mp c_1) (z_lit (x := 40) (a := 40) (b := 40) rfl) hset rfl) rfl).elim

set_option maxHeartbeats 8000000 in
set_option maxRecDepth 100000 in
theorem w_Sentence_addWaitingB (l : Launch) (D : va_G) (ad : Nat → Nat) (se : Nat) (set : Int32) (sei : Int32) (seo : Int32) (sel : Int32) (sec : Int32) (sep : Nat) (sept : ClassId) (sepf : Nat → Option Nat) (seg : Nat) (segt : ClassId) (segf : Nat → Int32) (sen : Nat) (sent : ClassId) (senf : Nat → Int32) (ses : Nat) (sest : ClassId) (sesf : Nat → Int32) (sew : Nat) (sewt : ClassId) (sewf : Nat → Option Nat) (w0 : Nat) (hset : z_in 0 39 set) (hseo : z_in 0 1 seo) (hsel : z_in 0 40 sel) (hsec : z_in 0 20 sec) (hsepf : z_wq ad sepf) (hsewf : z_wq ad sewf) (hw0 : w0 < 22) (hwse : z_wt ad sepf senf) (hwj : z_wj w0) (hc0 : z_wc ad sewf set sei) : z_Mi l yX5_addWaiting wsX5_addWaiting { frames := 0, cells := 0, slots := 0, locals := 0 } D ad [.ref se, .ref (ad w0)] [(se, .inr (5, [.ref sep, .ref seg, .ref sen, .ref ses, .ref sew, .int set, .int sei, .int seo, .int sel, .int sec])), (sep, .inl (sept, 40, .inr (.inr (.inr (.inr sepf))))), (seg, .inl (segt, 40, .inl segf)), (sen, .inl (sent, 40, .inl senf)), (ses, .inl (sest, 40, .inl sesf)), (sew, .inl (sewt, 40, .inr (.inr (.inr (.inr sewf)))))] [(sept, .object "FuneralUmbrellas$Word"), (segt, .int), (sent, .int), (sest, .int), (sewt, .object "FuneralUmbrellas$Word")] 0 0 (fun r9 u9 => ∃ (x0_5 : Int32) (x5_f : Nat → Option Nat), z_in 1 40 x0_5 ∧ z_wq ad x5_f ∧ z_in 1 1 r9 ∧ z_psh ad sewf set x5_f x0_5 w0 ∧ z_suc set x0_5 ∧ (r9 = 1 → z_wc ad x5_f x0_5 sei) ∧ u9 = ([(se, .inr (5, [.ref sep, .ref seg, .ref sen, .ref ses, .ref sew, .int x0_5, .int sei, .int seo, .int sel, .int sec])), (sep, .inl (sept, 40, .inr (.inr (.inr (.inr sepf))))), (seg, .inl (segt, 40, .inl segf)), (sen, .inl (sent, 40, .inl senf)), (ses, .inl (sest, 40, .inl sesf)), (sew, .inl (sewt, 40, .inr (.inr (.inr (.inr x5_f)))))], [])) := by
  refine z_ofI (cc := cX5_addWaiting) (maxL := 2) (rt := .boolean) (by decide) rfl (Nat.le_of_ble_eq_true rfl) ?_
  intro p e s m below meth c Q A ls hx hb hml hown hts hin hK hP hD hA hE hO hS hl hret
  have hown : s.vm.findClass RX5 = some m.cls := hown
  have hiX5 : ∀ w ∈ wsX50, w ∈ wsX5_addWaiting := fun _ h9 => List.mem_cons_of_mem _ (List.mem_append_right _ h9)
  have hl : lv_has ls 2 [(0, .ref se), (1, .ref (ad w0))] := hl
  refine lv_aload_n hx hb dX5_addWaiting_0 rfl (lv_at hl 0 rfl) ?_
  refine va_get (D := D) (ci := 5) (v := .int set) (C := RX5) (T := TX5) (N := 10) hx hb hts hiX5 hown hK hP 0 rfl rfl 5 (by decide) (hts _ (List.mem_of_getElem? (i := 1) rfl)) (fun _ h9 => h9) rfl dX5_addWaiting_1 ?_
  refine lv_bipush (v := 40) hx hb dX5_addWaiting_4 (by decide) ?_
  refine lv_icmp_lt (tgt := 11) hx hb dX5_addWaiting_6 (by decide) (fun c_1 => ?_) (fun c_1 => ?_)
  · skip
    refine lv_aload_n hx hb dX5_addWaiting_11 rfl (lv_at hl 0 rfl) ?_
    refine va_get (D := D) (ci := 5) (v := .ref sew) (C := RX5) (T := TX5) (N := 10) hx hb hts hiX5 hown hK hP 0 rfl rfl 4 (by decide) (hts _ (List.mem_of_getElem? (i := 2) rfl)) (fun _ h9 => h9) rfl dX5_addWaiting_12 ?_
    refine lv_aload_n hx hb dX5_addWaiting_15 rfl (lv_at hl 0 rfl) ?_
    refine va_get (D := D) (ci := 5) (v := .int set) (C := RX5) (T := TX5) (N := 10) hx hb hts hiX5 hown hK hP 0 rfl rfl 5 (by decide) (hts _ (List.mem_of_getElem? (i := 1) rfl)) (fun _ h9 => h9) rfl dX5_addWaiting_16 ?_
    refine lv_aload_n hx hb dX5_addWaiting_19 rfl (lv_at hl 1 rfl) ?_
    refine va_astqM hx hb hK hP hD hS 5 4 rfl rfl (z_anyW hE hw0 hS) (z_vp hset rfl) dX5_addWaiting_20 (fun H locs hP hD hS => ?_)
    have h_3 : z_wq ad (va_up sewf (set : Int32).toNatClampNeg (some (ad w0))) := z_wqu hsewf hw0
    generalize ef_2 : (va_up sewf (set : Int32).toNatClampNeg (some (ad w0))) = f_2 at hP hD h_3
    have hP : va_P D vwCl [(se, .inr (5, [.ref sep, .ref seg, .ref sen, .ref ses, .ref sew, .int set, .int sei, .int seo, .int sel, .int sec])), (sep, .inl (sept, 40, .inr (.inr (.inr (.inr sepf))))), (seg, .inl (segt, 40, .inl segf)), (sen, .inl (sent, 40, .inl senf)), (ses, .inl (sest, 40, .inl sesf)), (sew, .inl (sewt, 40, .inr (.inr (.inr (.inr f_2)))))] H := hP
    have hD : va_D A [(se, .inr (5, [.ref sep, .ref seg, .ref sen, .ref ses, .ref sew, .int set, .int sei, .int seo, .int sel, .int sec])), (sep, .inl (sept, 40, .inr (.inr (.inr (.inr sepf))))), (seg, .inl (segt, 40, .inl segf)), (sen, .inl (sent, 40, .inl senf)), (ses, .inl (sest, 40, .inl sesf)), (sew, .inl (sewt, 40, .inr (.inr (.inr (.inr f_2)))))] := hD
    refine lv_aload_n hx hb dX5_addWaiting_21 rfl (lv_at hl 0 rfl) ?_
    refine lv_dup hx hb dX5_addWaiting_22 rfl ?_
    refine va_get (D := D) (ci := 5) (v := .int set) (C := RX5) (T := TX5) (N := 10) hx hb hts hiX5 hown hK hP 0 rfl rfl 5 (by decide) (hts _ (List.mem_of_getElem? (i := 1) rfl)) (fun _ h9 => h9) rfl dX5_addWaiting_23 ?_
    refine lv_iconst (v := 1) hx hb dX5_addWaiting_26 (by decide) ?_
    refine lv_iadd hx hb dX5_addWaiting_27 ?_
    refine lv_topi (fun y_4 ey_4 => ?_)
    have h_5 : z_in 1 40 y_4 := by rw [ey_4]; exact z_add hset (z_lit (x := 1) (a := 1) (b := 1) rfl) rfl rfl
    have ty_4 : y_4.toInt = set.toInt + 1 := by rw [ey_4]; exact (z_addT hset (z_lit (x := 1) (a := 1) (b := 1) rfl) rfl).trans rfl
    refine va_put (D := D) (ci := 5) (v := .int y_4) (ty := tyX5 5) (C := RX5) (T := TX5) (N := 10) hx hb hts hiX5 tyX5 tyX5_ok nmX5 hown hK hP hD hS 0 rfl rfl 5 (by decide) (hts _ (List.mem_of_getElem? (i := 1) rfl)) (fun _ h9 => h9) rfl (tyX5_ok 5 (by decide)) rfl rfl (Nat.le_of_ble_eq_true rfl) dX5_addWaiting_28 (fun H locs hP hD hS => ?_)
    have hP : va_P D vwCl [(se, .inr (5, [.ref sep, .ref seg, .ref sen, .ref ses, .ref sew, .int y_4, .int sei, .int seo, .int sel, .int sec])), (sep, .inl (sept, 40, .inr (.inr (.inr (.inr sepf))))), (seg, .inl (segt, 40, .inl segf)), (sen, .inl (sent, 40, .inl senf)), (ses, .inl (sest, 40, .inl sesf)), (sew, .inl (sewt, 40, .inr (.inr (.inr (.inr f_2)))))] H := hP
    have hD : va_D A [(se, .inr (5, [.ref sep, .ref seg, .ref sen, .ref ses, .ref sew, .int y_4, .int sei, .int seo, .int sel, .int sec])), (sep, .inl (sept, 40, .inr (.inr (.inr (.inr sepf))))), (seg, .inl (segt, 40, .inl segf)), (sen, .inl (sent, 40, .inl senf)), (ses, .inl (sest, 40, .inl sesf)), (sew, .inl (sewt, 40, .inr (.inr (.inr (.inr f_2)))))] := hD
    refine lv_iconst (v := 1) hx hb dX5_addWaiting_31 (by decide) ?_
    exact hret 1 ([(se, .inr (5, [.ref sep, .ref seg, .ref sen, .ref ses, .ref sew, .int y_4, .int sei, .int seo, .int sel, .int sec])), (sep, .inl (sept, 40, .inr (.inr (.inr (.inr sepf))))), (seg, .inl (segt, 40, .inl segf)), (sen, .inl (sent, 40, .inl senf)), (ses, .inl (sest, 40, .inl sesf)), (sew, .inl (sewt, 40, .inr (.inr (.inr (.inr f_2)))))], []) _ _ _ _ dX5_addWaiting_32 (by decide) ⟨y_4, f_2, h_5, h_3, (z_lit (x := 1) (a := 1) (b := 1) rfl), (z_pshI hE.1.2 (Int.le_trans (by decide) hset.1) ty_4 hw0 ef_2), ty_4, (fun _ => (by rw [← ef_2]; exact z_wcV hc0 (Int.le_trans (by decide) hset.1) hwj ty_4)), rfl⟩ hP (hK.sub [] rfl) hD hS
  · skip
    exact (z_no (z_leL (e := 39) (Int32.not_lt.mp c_1) (z_lit (x := 40) (a := 40) (b := 40) rfl) hset rfl) rfl).elim

set_option maxHeartbeats 8000000 in
set_option maxRecDepth 100000 in
theorem w_Sentence_settleNots (l : Launch) (D : va_G) (ad : Nat → Nat) (se : Nat) (set : Int32) (sei : Int32) (seo : Int32) (sel : Int32) (sec : Int32) (sep : Nat) (sept : ClassId) (sepf : Nat → Option Nat) (seg : Nat) (segt : ClassId) (segf : Nat → Int32) (sen : Nat) (sent : ClassId) (senf : Nat → Int32) (ses : Nat) (sest : ClassId) (sesf : Nat → Int32) (sew : Nat) (sewt : ClassId) (sewf : Nat → Option Nat) (hset : z_in 0 40 set) (hseo : z_in 0 1 seo) (hsel : z_in 0 40 sel) (hsec : z_in 0 20 sec) (hsepf : z_wq ad sepf) (hsewf : z_wq ad sewf) (hwse : z_wt ad sepf senf) (hc0 : z_wc ad sewf set sei) : z_Mv l yX5_settleNots wsX5_settleNots { frames := 1, cells := 0, slots := 0, locals := 23 } D ad [.ref se] [(se, .inr (5, [.ref sep, .ref seg, .ref sen, .ref ses, .ref sew, .int set, .int sei, .int seo, .int sel, .int sec])), (sep, .inl (sept, 40, .inr (.inr (.inr (.inr sepf))))), (seg, .inl (segt, 40, .inl segf)), (sen, .inl (sent, 40, .inl senf)), (ses, .inl (sest, 40, .inl sesf)), (sew, .inl (sewt, 40, .inr (.inr (.inr (.inr sewf)))))] [(sept, .object "FuneralUmbrellas$Word"), (segt, .int), (sent, .int), (sest, .int), (sewt, .object "FuneralUmbrellas$Word")] 0 0 (fun u9 => ∃ (x0_5 : Int32) (x0_6 : Int32) (x0_8 : Int32) (x1_f : Nat → Option Nat) (x2_f : Nat → Int32) (x3_f : Nat → Int32), z_in 0 40 x0_5 ∧ z_in 0 40 x0_8 ∧ z_wq ad x1_f ∧ z_wt ad x1_f x3_f ∧ z_wc ad sewf x0_5 x0_6 ∧ z_dnr ad sewf set x0_5 ∧ z_nl9 set sel x0_5 x0_8 ∧ u9 = ([(se, .inr (5, [.ref sep, .ref seg, .ref sen, .ref ses, .ref sew, .int x0_5, .int x0_6, .int seo, .int x0_8, .int sec])), (sep, .inl (sept, 40, .inr (.inr (.inr (.inr x1_f))))), (seg, .inl (segt, 40, .inl x2_f)), (sen, .inl (sent, 40, .inl x3_f)), (ses, .inl (sest, 40, .inl sesf)), (sew, .inl (sewt, 40, .inr (.inr (.inr (.inr sewf)))))], [])) := by
  refine z_ofV (cc := cX5_settleNots) (maxL := 2) (by decide) rfl (Nat.le_of_ble_eq_true rfl) ?_
  intro p e s m below meth c Q A ls hx hb hml hown hts hin hK hP hD hA hE hO hS hl hret
  have hown : s.vm.findClass RX5 = some m.cls := hown
  have hiX5 : ∀ w ∈ wsX50, w ∈ wsX5_settleNots := fun _ h9 => List.mem_cons_of_mem _ (List.mem_append_right _ h9)
  have hl : lv_has ls 2 [(0, .ref se)] := hl
  refine lv_iconst (v := 0) hx hb dX5_settleNots_0 (by decide) ?_
  refine lv_istore_n (lv' := [(1, .int 0), (0, .ref se)]) hx hb dX5_settleNots_1 rfl hl (by decide) rfl (fun ls hl => ?_)
  have LP1 : ∀ (n : Nat) (v1_1 : Int32) (w1_1 : Int32) (w1_2 : Int32) (w1_3 : Int32) (g1_4 : Nat → Int32) (g1_5 : Nat → Int32) (g1_6 : Nat → Option Nat) (H : Heap) (locs : List Loc) (ls : Array Slot), z_in 0 40 v1_1 → z_in 0 40 w1_1 → z_in 0 40 w1_3 → z_wq ad g1_6 → z_wt ad g1_6 g1_5 → z_wc ad sewf w1_1 w1_2 → z_sm w1_1 v1_1 → z_dnI ad sewf set w1_1 → z_nl9 set sel w1_1 w1_3 → 41 - v1_1.toInt ≤ (n : Int) → va_P D vwCl [(se, .inr (5, [.ref sep, .ref seg, .ref sen, .ref ses, .ref sew, .int w1_1, .int w1_2, .int seo, .int w1_3, .int sec])), (sep, .inl (sept, 40, .inr (.inr (.inr (.inr g1_6))))), (seg, .inl (segt, 40, .inl g1_4)), (sen, .inl (sent, 40, .inl g1_5)), (ses, .inl (sest, 40, .inl sesf)), (sew, .inl (sewt, 40, .inr (.inr (.inr (.inr sewf)))))] H → va_D A [(se, .inr (5, [.ref sep, .ref seg, .ref sen, .ref ses, .ref sew, .int w1_1, .int w1_2, .int seo, .int w1_3, .int sec])), (sep, .inl (sept, 40, .inr (.inr (.inr (.inr g1_6))))), (seg, .inl (segt, 40, .inl g1_4)), (sen, .inl (sent, 40, .inl g1_5)), (ses, .inl (sest, 40, .inl sesf)), (sew, .inl (sewt, 40, .inr (.inr (.inr (.inr sewf)))))] → va_S A s.heap H locs → lv_has ls 2 [(1, .int v1_1), (0, .ref se)] → W p l e ({ frames := 1, cells := 0, slots := 0, locals := 23 }) s m ([.ref se] : List Value).toArray below meth c H locs 0 0 Q (F0 m 2 ls []) := by
    intro n
    induction n with
    | zero => intro v1_1 w1_1 w1_2 w1_3 g1_4 g1_5 g1_6 H locs ls hv1_1 hw1_1 hw1_3 hg1_6 hI1_0 hI1_1 hI1_2 hI1_3 hI1_4 hn1; exact absurd hn1 (by have q1 := hv1_1.1; have q2 := hv1_1.2; omega)
    | succ n ih1 =>
      intro v1_1 w1_1 w1_2 w1_3 g1_4 g1_5 g1_6 H locs ls hv1_1 hw1_1 hw1_3 hg1_6 hI1_0 hI1_1 hI1_2 hI1_3 hI1_4 hn1 hP hD hS hl
      have q1 := hv1_1.1
      have q1' := hv1_1.2
      refine lv_iload_n hx hb dX5_settleNots_2 rfl (lv_at hl 0 rfl) ?_
      refine lv_bipush (v := 40) hx hb dX5_settleNots_3 (by decide) ?_
      refine lv_icmp_ge (tgt := 68) hx hb dX5_settleNots_5 (by decide) (fun c_1 => ?_) (fun c_1 => ?_)
      · skip
        have h_2 : z_in 40 40 v1_1 := z_leR c_1 (z_lit (x := 40) (a := 40) (b := 40) rfl) hv1_1 rfl
        exact hret ([(se, .inr (5, [.ref sep, .ref seg, .ref sen, .ref ses, .ref sew, .int w1_1, .int w1_2, .int seo, .int w1_3, .int sec])), (sep, .inl (sept, 40, .inr (.inr (.inr (.inr g1_6))))), (seg, .inl (segt, 40, .inl g1_4)), (sen, .inl (sent, 40, .inl g1_5)), (ses, .inl (sest, 40, .inl sesf)), (sew, .inl (sewt, 40, .inr (.inr (.inr (.inr sewf)))))], []) _ _ _ _ dX5_settleNots_68 ⟨w1_1, w1_2, w1_3, g1_6, g1_4, g1_5, hw1_1, hw1_3, hg1_6, hI1_0, hI1_1, (z_dnr0 hI1_3 (by have q1 := h_2.1; have q3 : _ ≤ _ := hI1_2; omega)), hI1_4, rfl⟩ hP (hK.sub [] rfl) hD hS
      · skip
        have h_3 : z_in 0 39 v1_1 := z_ltL (Int32.not_le.mp c_1) hv1_1 (z_lit (x := 40) (a := 40) (b := 40) rfl) rfl
        refine lv_aload_n hx hb dX5_settleNots_8 rfl (lv_at hl 1 rfl) ?_
        refine va_get (D := D) (ci := 5) (v := .int w1_1) (C := RX5) (T := TX5) (N := 10) hx hb hts hiX5 hown hK hP 0 rfl rfl 5 (by decide) (hts _ (List.mem_of_getElem? (i := 1) rfl)) (fun _ h9 => h9) rfl dX5_settleNots_9 ?_
        refine lv_if_le (tgt := 68) hx hb dX5_settleNots_12 (by decide) (fun c_4 => ?_) (fun c_4 => ?_)
        · skip
          have h_5 : z_in 0 0 w1_1 := z_leL c_4 hw1_1 (z_lit (x := 0) (a := 0) (b := 0) rfl) rfl
          exact hret ([(se, .inr (5, [.ref sep, .ref seg, .ref sen, .ref ses, .ref sew, .int w1_1, .int w1_2, .int seo, .int w1_3, .int sec])), (sep, .inl (sept, 40, .inr (.inr (.inr (.inr g1_6))))), (seg, .inl (segt, 40, .inl g1_4)), (sen, .inl (sent, 40, .inl g1_5)), (ses, .inl (sest, 40, .inl sesf)), (sew, .inl (sewt, 40, .inr (.inr (.inr (.inr sewf)))))], []) _ _ _ _ dX5_settleNots_68 ⟨w1_1, w1_2, w1_3, g1_6, g1_4, g1_5, (z_w (c := 0) (d := 40) h_5 rfl), hw1_3, hg1_6, hI1_0, hI1_1, (z_dnr0 hI1_3 (Int.le_trans h_5.2 (by decide))), hI1_4, rfl⟩ hP (hK.sub [] rfl) hD hS
        · skip
          have h_6 : z_in 1 40 w1_1 := z_ltR (Int32.not_le.mp c_4) (z_lit (x := 0) (a := 0) (b := 0) rfl) hw1_1 rfl
          refine lv_aload_n hx hb dX5_settleNots_15 rfl (lv_at hl 1 rfl) ?_
          refine va_get (D := D) (ci := 5) (v := .ref sew) (C := RX5) (T := TX5) (N := 10) hx hb hts hiX5 hown hK hP 0 rfl rfl 4 (by decide) (hts _ (List.mem_of_getElem? (i := 2) rfl)) (fun _ h9 => h9) rfl dX5_settleNots_16 ?_
          refine lv_aload_n hx hb dX5_settleNots_19 rfl (lv_at hl 1 rfl) ?_
          refine va_get (D := D) (ci := 5) (v := .int w1_1) (C := RX5) (T := TX5) (N := 10) hx hb hts hiX5 hown hK hP 0 rfl rfl 5 (by decide) (hts _ (List.mem_of_getElem? (i := 1) rfl)) (fun _ h9 => h9) rfl dX5_settleNots_20 ?_
          refine lv_iconst (v := 1) hx hb dX5_settleNots_23 (by decide) ?_
          refine lv_isub hx hb dX5_settleNots_24 ?_
          refine lv_topi (fun y_7 ey_7 => ?_)
          have h_8 : z_in 0 39 y_7 := by rw [ey_7]; exact z_sub h_6 (z_lit (x := 1) (a := 1) (b := 1) rfl) rfl rfl
          have ty_7 : y_7.toInt = w1_1.toInt + (-1) := by rw [ey_7]; exact (z_subT h_6 (z_lit (x := 1) (a := 1) (b := 1) rfl) rfl).trans rfl
          refine va_aldq hx hb hK hP 5 4 rfl rfl (z_vp h_8 rfl) dX5_settleNots_25 ?_
          rcases hsewf (y_7 : Int32).toNatClampNeg with e9 | ⟨w_9, h_10, ew_9⟩
          · rw [e9]
            refine W.eq (g2 := F0 m 26 ls (.null :: [])) rfl ?_
            refine va_gets (v := .ref (ad 14)) hx hb (hE.1.1 14 (by decide)).1 hS hown (hts _ (List.mem_of_getElem? (i := 3) rfl)) (fun _ h9 => h9) dX5_settleNots_26 ?_
            refine W.eq (g2 := F0 m 29 ls (va_rf (some (ad 14)) :: va_rf (none) :: [])) rfl ?_
            refine lv_acmp_ne (tgt := 68) hx hb dX5_settleNots_29 (by decide) (fun _ => ?_) (fun h9 => by cases h9)
            exact hret ([(se, .inr (5, [.ref sep, .ref seg, .ref sen, .ref ses, .ref sew, .int w1_1, .int w1_2, .int seo, .int w1_3, .int sec])), (sep, .inl (sept, 40, .inr (.inr (.inr (.inr g1_6))))), (seg, .inl (segt, 40, .inl g1_4)), (sen, .inl (sent, 40, .inl g1_5)), (ses, .inl (sest, 40, .inl sesf)), (sew, .inl (sewt, 40, .inr (.inr (.inr (.inr sewf)))))], []) _ _ _ _ dX5_settleNots_68 ⟨w1_1, w1_2, w1_3, g1_6, g1_4, g1_5, (z_w (c := 0) (d := 40) h_6 rfl), hw1_3, hg1_6, hI1_0, hI1_1, (z_dnrN hI1_3 ty_7 (Int.le_trans (by decide) h_8.1) (z_neN e9)), hI1_4, rfl⟩ hP (hK.sub [] rfl) hD hS
          · rw [ew_9]
            refine W.eq (g2 := F0 m 26 ls (.ref (ad w_9) :: [])) rfl ?_
            refine va_gets (v := .ref (ad 14)) hx hb (hE.1.1 14 (by decide)).1 hS hown (hts _ (List.mem_of_getElem? (i := 3) rfl)) (fun _ h9 => h9) dX5_settleNots_26 ?_
            refine W.eq (g2 := F0 m 29 ls (va_rf (some (ad 14)) :: va_rf (some (ad w_9)) :: [])) rfl ?_
            refine lv_acmp_ne (tgt := 68) hx hb dX5_settleNots_29 (by decide) (fun c_11 => ?_) (fun c_11 => ?_)
            · have h_12 : w_9 ≠ 14 := fun q9 => c_11 (by rw [q9])
              exact hret ([(se, .inr (5, [.ref sep, .ref seg, .ref sen, .ref ses, .ref sew, .int w1_1, .int w1_2, .int seo, .int w1_3, .int sec])), (sep, .inl (sept, 40, .inr (.inr (.inr (.inr g1_6))))), (seg, .inl (segt, 40, .inl g1_4)), (sen, .inl (sent, 40, .inl g1_5)), (ses, .inl (sest, 40, .inl sesf)), (sew, .inl (sewt, 40, .inr (.inr (.inr (.inr sewf)))))], []) _ _ _ _ dX5_settleNots_68 ⟨w1_1, w1_2, w1_3, g1_6, g1_4, g1_5, (z_w (c := 0) (d := 40) h_6 rfl), hw1_3, hg1_6, hI1_0, hI1_1, (z_dnrN hI1_3 ty_7 (Int.le_trans (by decide) h_8.1) (z_neW hE.1.2 ew_9 h_10 (by decide) h_12)), hI1_4, rfl⟩ hP (hK.sub [] rfl) hD hS
            · have h_13 : w_9 = 14 := (hE.1.2 w_9 14 h_10 (by decide) (Option.some.inj c_11))
              refine lv_aload_n hx hb dX5_settleNots_32 rfl (lv_at hl 1 rfl) ?_
              refine lv_dup hx hb dX5_settleNots_33 rfl ?_
              refine va_get (D := D) (ci := 5) (v := .int w1_1) (C := RX5) (T := TX5) (N := 10) hx hb hts hiX5 hown hK hP 0 rfl rfl 5 (by decide) (hts _ (List.mem_of_getElem? (i := 1) rfl)) (fun _ h9 => h9) rfl dX5_settleNots_34 ?_
              refine lv_iconst (v := 1) hx hb dX5_settleNots_37 (by decide) ?_
              refine lv_isub hx hb dX5_settleNots_38 ?_
              refine lv_topi (fun y_14 ey_14 => ?_)
              obtain rfl : y_7 = y_14 := ey_7.trans ey_14.symm
              refine va_put (D := D) (ci := 5) (v := .int y_7) (ty := tyX5 5) (C := RX5) (T := TX5) (N := 10) hx hb hts hiX5 tyX5 tyX5_ok nmX5 hown hK hP hD hS 0 rfl rfl 5 (by decide) (hts _ (List.mem_of_getElem? (i := 1) rfl)) (fun _ h9 => h9) rfl (tyX5_ok 5 (by decide)) rfl rfl (Nat.le_of_ble_eq_true rfl) dX5_settleNots_39 (fun H locs hP hD hS => ?_)
              have hP : va_P D vwCl [(se, .inr (5, [.ref sep, .ref seg, .ref sen, .ref ses, .ref sew, .int y_7, .int w1_2, .int seo, .int w1_3, .int sec])), (sep, .inl (sept, 40, .inr (.inr (.inr (.inr g1_6))))), (seg, .inl (segt, 40, .inl g1_4)), (sen, .inl (sent, 40, .inl g1_5)), (ses, .inl (sest, 40, .inl sesf)), (sew, .inl (sewt, 40, .inr (.inr (.inr (.inr sewf)))))] H := hP
              have hD : va_D A [(se, .inr (5, [.ref sep, .ref seg, .ref sen, .ref ses, .ref sew, .int y_7, .int w1_2, .int seo, .int w1_3, .int sec])), (sep, .inl (sept, 40, .inr (.inr (.inr (.inr g1_6))))), (seg, .inl (segt, 40, .inl g1_4)), (sen, .inl (sent, 40, .inl g1_5)), (ses, .inl (sest, 40, .inl sesf)), (sew, .inl (sewt, 40, .inr (.inr (.inr (.inr sewf)))))] := hD
              refine lv_aload_n hx hb dX5_settleNots_42 rfl (lv_at hl 1 rfl) ?_
              refine lv_dup hx hb dX5_settleNots_43 rfl ?_
              refine va_get (D := D) (ci := 5) (v := .int w1_2) (C := RX5) (T := TX5) (N := 10) hx hb hts hiX5 hown hK hP 0 rfl rfl 6 (by decide) (hts _ (List.mem_of_getElem? (i := 4) rfl)) (fun _ h9 => h9) rfl dX5_settleNots_44 ?_
              refine lv_iconst (v := 1) hx hb dX5_settleNots_47 (by decide) ?_
              refine lv_isub hx hb dX5_settleNots_48 ?_
              refine lv_topi (fun y_15 ey_15 => ?_)
              refine va_put (D := D) (ci := 5) (v := .int y_15) (ty := tyX5 6) (C := RX5) (T := TX5) (N := 10) hx hb hts hiX5 tyX5 tyX5_ok nmX5 hown hK hP hD hS 0 rfl rfl 6 (by decide) (hts _ (List.mem_of_getElem? (i := 4) rfl)) (fun _ h9 => h9) rfl (tyX5_ok 6 (by decide)) rfl rfl (Nat.le_of_ble_eq_true rfl) dX5_settleNots_49 (fun H locs hP hD hS => ?_)
              have hP : va_P D vwCl [(se, .inr (5, [.ref sep, .ref seg, .ref sen, .ref ses, .ref sew, .int y_7, .int y_15, .int seo, .int w1_3, .int sec])), (sep, .inl (sept, 40, .inr (.inr (.inr (.inr g1_6))))), (seg, .inl (segt, 40, .inl g1_4)), (sen, .inl (sent, 40, .inl g1_5)), (ses, .inl (sest, 40, .inl sesf)), (sew, .inl (sewt, 40, .inr (.inr (.inr (.inr sewf)))))] H := hP
              have hD : va_D A [(se, .inr (5, [.ref sep, .ref seg, .ref sen, .ref ses, .ref sew, .int y_7, .int y_15, .int seo, .int w1_3, .int sec])), (sep, .inl (sept, 40, .inr (.inr (.inr (.inr g1_6))))), (seg, .inl (segt, 40, .inl g1_4)), (sen, .inl (sent, 40, .inl g1_5)), (ses, .inl (sest, 40, .inl sesf)), (sew, .inl (sewt, 40, .inr (.inr (.inr (.inr sewf)))))] := hD
              refine lv_aload_n hx hb dX5_settleNots_52 rfl (lv_at hl 1 rfl) ?_
              refine va_gets (v := .ref (ad 14)) hx hb (hE.1.1 14 (by decide)).1 hS hown (hts _ (List.mem_of_getElem? (i := 3) rfl)) (fun _ h9 => h9) dX5_settleNots_53 ?_
              refine lv_iconst (v := 0) hx hb dX5_settleNots_56 (by decide) ?_
              refine lv_iconst (v := 0) hx hb dX5_settleNots_57 (by decide) ?_
              have hc9 := (w_Sentence_addStep l D ad se y_7 y_15 seo w1_3 sec sep sept g1_6 seg segt g1_4 sen sent g1_5 ses sest sesf sew sewt sewf 14 0 0 (z_w (c := 0) (d := 40) h_8 rfl) hseo hw1_3 hsec hg1_6 hsewf (by decide) hI1_0 (fun _ => (z_w (c := 0) (d := 5) (z_lit (x := 0) (a := 0) (b := 0) rfl) rfl)))
              refine z_calli (w0 := [(se, .inr (5, [.ref sep, .ref seg, .ref sen, .ref ses, .ref sew, .int y_7, .int y_15, .int seo, .int w1_3, .int sec])), (sep, .inl (sept, 40, .inr (.inr (.inr (.inr g1_6))))), (seg, .inl (segt, 40, .inl g1_4)), (sen, .inl (sent, 40, .inl g1_5)), (ses, .inl (sest, 40, .inl sesf)), (sew, .inl (sewt, 40, .inr (.inr (.inr (.inr sewf)))))]) (wr := []) (va_runV (As := [.ref (ad 14), .int 0, .int 0]) (rest := []) ⟨hx, hb, hml, hown, hts⟩ (hc9 _) (cwV 3 hts gX5_settleNots_X5_addStep rfl rfl rfl (by decide +kernel) ⟨Nat.le_of_ble_eq_true rfl, Nat.le_of_ble_eq_true rfl⟩) (z_preV hP hD hK hS hA hE hO [0, 1, 2, 3, 4, 5] [0, 1, 2, 3, 4] rfl (by decide +kernel) rfl 0 5 rfl rfl rfl) rfl rfl hl.1 rfl (lv_room (Nat.le_of_ble_eq_true rfl)) dX5_settleNots_58 ⟨Nat.le_of_ble_eq_true rfl, Nat.le_of_ble_eq_true rfl⟩) hP hD hK hS hA [0, 1, 2, 3, 4, 5] [] rfl rfl (by decide +kernel) (by decide +kernel) (fun y_16 u9 H locs hw hP hD hK hS => ?_)
              refine z_ex4 hw (fun x_17 f_19 f_21 f_22 hw => ?_)
              refine z_an9 hw (fun h_18 h_20 h_23 h_24 h_25 h_26 h_27 h_28 h_29 hw => ?_)
              subst hw
              have hP : va_P D vwCl [(se, .inr (5, [.ref sep, .ref seg, .ref sen, .ref ses, .ref sew, .int y_7, .int y_15, .int seo, .int x_17, .int sec])), (sep, .inl (sept, 40, .inr (.inr (.inr (.inr f_19))))), (seg, .inl (segt, 40, .inl f_21)), (sen, .inl (sent, 40, .inl f_22)), (ses, .inl (sest, 40, .inl sesf)), (sew, .inl (sewt, 40, .inr (.inr (.inr (.inr sewf)))))] H := hP
              have hD : va_D A [(se, .inr (5, [.ref sep, .ref seg, .ref sen, .ref ses, .ref sew, .int y_7, .int y_15, .int seo, .int x_17, .int sec])), (sep, .inl (sept, 40, .inr (.inr (.inr (.inr f_19))))), (seg, .inl (segt, 40, .inl f_21)), (sen, .inl (sent, 40, .inl f_22)), (ses, .inl (sest, 40, .inl sesf)), (sew, .inl (sewt, 40, .inr (.inr (.inr (.inr sewf)))))] := hD
              have hK : va_K D vwCl [(sept, .object "FuneralUmbrellas$Word"), (segt, .int), (sent, .int), (sest, .int), (sewt, .object "FuneralUmbrellas$Word")] s := hK
              refine W.cs (cells' := 0) (slots' := 0) rfl rfl ?_
              refine W.eq (g2 := F0 m 61 ls (.int y_16 :: [])) rfl ?_
              refine lv_pop hx hb dX5_settleNots_61 rfl ?_
              obtain ⟨y_30, ey_30⟩ : ∃ y : Int32, y = v1_1 + 1 := ⟨_, rfl⟩
              have h_31 : z_in 1 40 y_30 := by rw [ey_30]; exact z_add h_3 (z_lit (x := 1) (a := 1) (b := 1) rfl) rfl rfl
              have ty_30 : y_30.toInt = v1_1.toInt + 1 := by rw [ey_30]; exact z_addT h_3 (z_lit (x := 1) (a := 1) (b := 1) rfl) rfl
              refine lv_iinc (v := y_30) (lv' := [(1, .int y_30), (0, .ref se)]) hx hb dX5_settleNots_62 hl (k := 0) rfl (by rw [ey_30]; rfl) (by decide) rfl (fun ls hl => ?_)
              refine lv_goto (tgt := 2) hx hb dX5_settleNots_65 (by decide) ?_
              exact ih1 y_30 y_7 y_15 x_17 f_21 f_22 f_19 _ _ _ (z_w (c := 0) (d := 40) h_31 rfl) (z_w (c := 0) (d := 40) h_8 rfl) h_18 h_20 h_28 (z_wcN hI1_1 ty_7 (Int.le_trans (by decide) h_8.1) (z_neW hE.1.2 ew_9 h_10 (by decide) (fun q9 => absurd (h_13.symm.trans q9) (by decide))) (z_neW hE.1.2 ew_9 h_10 (by decide) (fun q9 => absurd (h_13.symm.trans q9) (by decide))) ey_15) (show _ ≤ _ by have q1 := ty_7; have q2 := ty_30; have q3 : _ ≤ _ := hI1_2; omega) (z_dnIS hI1_3 ty_7 (Int.le_trans (by decide) h_8.1) (ew_9.trans (by rw [h_13]))) (show z_nl9 set sel y_7 x_17 from by unfold z_nl9; have a1 := h_18.1; have b1 := h_18.2; have l1 := h_29; unfold z_l1 at l1; have a2 := hw1_3.1; have b2 := hw1_3.2; have l0 := hI1_4; unfold z_nl9 at l0; have a3 := h_6.1; have b3 := h_6.2; have a4 := hsel.1; have b4 := hsel.2; have a5 := hset.1; have b5 := hset.2; have r6 := ty_7; have a6 := h_8.1; have b6 := h_8.2; omega) (by omega) hP hD hS (lv_sub hl [0, 1] rfl)
  exact LP1 41 0 set sei sel segf senf sepf _ _ _ (z_w (c := 0) (d := 40) (z_lit (x := 0) (a := 0) (b := 0) rfl) rfl) hset hsel hsepf hwse hc0 (show _ ≤ _ by have q1 := hset.2; have q2 := (z_lit (x := 0) (a := 0) (b := 0) rfl).2; omega) z_dnIr (show z_nl9 set sel set sel from by unfold z_nl9; have a1 := hsel.1; have b1 := hsel.2; have a2 := hset.1; have b2 := hset.2; omega) (by decide) hP hD hS (lv_sub hl [0, 1] rfl)

set_option maxHeartbeats 8000000 in
set_option maxRecDepth 100000 in
theorem w_Sentence_settleDownToOr (l : Launch) (D : va_G) (ad : Nat → Nat) (se : Nat) (set : Int32) (sei : Int32) (seo : Int32) (sel : Int32) (sec : Int32) (sep : Nat) (sept : ClassId) (sepf : Nat → Option Nat) (seg : Nat) (segt : ClassId) (segf : Nat → Int32) (sen : Nat) (sent : ClassId) (senf : Nat → Int32) (ses : Nat) (sest : ClassId) (sesf : Nat → Int32) (sew : Nat) (sewt : ClassId) (sewf : Nat → Option Nat) (hset : z_in 0 40 set) (hseo : z_in 0 1 seo) (hsel : z_in 0 40 sel) (hsec : z_in 0 20 sec) (hsepf : z_wq ad sepf) (hsewf : z_wq ad sewf) (hwse : z_wt ad sepf senf) (hc0 : z_wc ad sewf set sei) : z_Mv l yX5_settleDownTo wsX5_settleDownTo { frames := 1, cells := 0, slots := 0, locals := 23 } D ad [.ref se, .ref (ad 12)] [(se, .inr (5, [.ref sep, .ref seg, .ref sen, .ref ses, .ref sew, .int set, .int sei, .int seo, .int sel, .int sec])), (sep, .inl (sept, 40, .inr (.inr (.inr (.inr sepf))))), (seg, .inl (segt, 40, .inl segf)), (sen, .inl (sent, 40, .inl senf)), (ses, .inl (sest, 40, .inl sesf)), (sew, .inl (sewt, 40, .inr (.inr (.inr (.inr sewf)))))] [(sept, .object "FuneralUmbrellas$Word"), (segt, .int), (sent, .int), (sest, .int), (sewt, .object "FuneralUmbrellas$Word")] 0 0 (fun u9 => ∃ (x0_5 : Int32) (x0_8 : Int32) (x1_f : Nat → Option Nat) (x2_f : Nat → Int32) (x3_f : Nat → Int32), z_in 0 40 x0_5 ∧ z_in 0 40 x0_8 ∧ z_wq ad x1_f ∧ z_wt ad x1_f x3_f ∧ z_wc ad sewf x0_5 sei ∧ z_tp ad sewf x0_5 ∧ z_djr 2 ad sewf set x0_5 ∧ z_nl9 set sel x0_5 x0_8 ∧ u9 = ([(se, .inr (5, [.ref sep, .ref seg, .ref sen, .ref ses, .ref sew, .int x0_5, .int sei, .int seo, .int x0_8, .int sec])), (sep, .inl (sept, 40, .inr (.inr (.inr (.inr x1_f))))), (seg, .inl (segt, 40, .inl x2_f)), (sen, .inl (sent, 40, .inl x3_f)), (ses, .inl (sest, 40, .inl sesf)), (sew, .inl (sewt, 40, .inr (.inr (.inr (.inr sewf)))))], [])) := by
  refine z_ofV (cc := cX5_settleDownTo) (maxL := 4) (by decide) rfl (Nat.le_of_ble_eq_true rfl) ?_
  intro p e s m below meth c Q A ls hx hb hml hown hts hin hK hP hD hA hE hO hS hl hret
  have hown : s.vm.findClass RX5 = some m.cls := hown
  have hiX5 : ∀ w ∈ wsX50, w ∈ wsX5_settleDownTo := fun _ h9 => List.mem_cons_of_mem _ (List.mem_append_right _ h9)
  have hl : lv_has ls 4 [(0, .ref se), (1, .ref (ad 12))] := hl
  refine lv_iconst (v := 0) hx hb dX5_settleDownTo_0 (by decide) ?_
  refine lv_istore_n (lv' := [(2, .int 0), (0, .ref se), (1, .ref (ad 12))]) hx hb dX5_settleDownTo_1 rfl hl (by decide) rfl (fun ls hl => ?_)
  have LP1 : ∀ (n : Nat) (v1_2 : Int32) (w1_1 : Int32) (w1_2 : Int32) (g1_3 : Nat → Int32) (g1_4 : Nat → Int32) (g1_5 : Nat → Option Nat) (H : Heap) (locs : List Loc) (ls : Array Slot), z_in 0 40 v1_2 → z_in 0 40 w1_1 → z_in 0 40 w1_2 → z_wq ad g1_5 → z_wt ad g1_5 g1_4 → z_wc ad sewf w1_1 sei → z_sm w1_1 v1_2 → z_djI 2 ad sewf set w1_1 → z_nl9 set sel w1_1 w1_2 → 41 - v1_2.toInt ≤ (n : Int) → va_P D vwCl [(se, .inr (5, [.ref sep, .ref seg, .ref sen, .ref ses, .ref sew, .int w1_1, .int sei, .int seo, .int w1_2, .int sec])), (sep, .inl (sept, 40, .inr (.inr (.inr (.inr g1_5))))), (seg, .inl (segt, 40, .inl g1_3)), (sen, .inl (sent, 40, .inl g1_4)), (ses, .inl (sest, 40, .inl sesf)), (sew, .inl (sewt, 40, .inr (.inr (.inr (.inr sewf)))))] H → va_D A [(se, .inr (5, [.ref sep, .ref seg, .ref sen, .ref ses, .ref sew, .int w1_1, .int sei, .int seo, .int w1_2, .int sec])), (sep, .inl (sept, 40, .inr (.inr (.inr (.inr g1_5))))), (seg, .inl (segt, 40, .inl g1_3)), (sen, .inl (sent, 40, .inl g1_4)), (ses, .inl (sest, 40, .inl sesf)), (sew, .inl (sewt, 40, .inr (.inr (.inr (.inr sewf)))))] → va_S A s.heap H locs → lv_has ls 4 [(2, .int v1_2), (0, .ref se), (1, .ref (ad 12))] → W p l e ({ frames := 1, cells := 0, slots := 0, locals := 23 }) s m ([.ref se, .ref (ad 12)] : List Value).toArray below meth c H locs 0 0 Q (F0 m 2 ls []) := by
    intro n
    induction n with
    | zero => intro v1_2 w1_1 w1_2 g1_3 g1_4 g1_5 H locs ls hv1_2 hw1_1 hw1_2 hg1_5 hI1_0 hI1_1 hI1_2 hI1_3 hI1_4 hn1; exact absurd hn1 (by have q1 := hv1_2.1; have q2 := hv1_2.2; omega)
    | succ n ih1 =>
      intro v1_2 w1_1 w1_2 g1_3 g1_4 g1_5 H locs ls hv1_2 hw1_1 hw1_2 hg1_5 hI1_0 hI1_1 hI1_2 hI1_3 hI1_4 hn1 hP hD hS hl
      have q1 := hv1_2.1
      have q1' := hv1_2.2
      refine lv_iload_n hx hb dX5_settleDownTo_2 rfl (lv_at hl 0 rfl) ?_
      refine lv_bipush (v := 40) hx hb dX5_settleDownTo_3 (by decide) ?_
      refine lv_icmp_ge (tgt := 73) hx hb dX5_settleDownTo_5 (by decide) (fun c_1 => ?_) (fun c_1 => ?_)
      · skip
        have h_2 : z_in 40 40 v1_2 := z_leR c_1 (z_lit (x := 40) (a := 40) (b := 40) rfl) hv1_2 rfl
        exact hret ([(se, .inr (5, [.ref sep, .ref seg, .ref sen, .ref ses, .ref sew, .int w1_1, .int sei, .int seo, .int w1_2, .int sec])), (sep, .inl (sept, 40, .inr (.inr (.inr (.inr g1_5))))), (seg, .inl (segt, 40, .inl g1_3)), (sen, .inl (sent, 40, .inl g1_4)), (ses, .inl (sest, 40, .inl sesf)), (sew, .inl (sewt, 40, .inr (.inr (.inr (.inr sewf)))))], []) _ _ _ _ dX5_settleDownTo_73 ⟨w1_1, w1_2, g1_5, g1_3, g1_4, hw1_1, hw1_2, hg1_5, hI1_0, hI1_1, (Or.inl (by have q1 := h_2.1; have q2 := hw1_1.1; have q3 : _ ≤ _ := hI1_2; omega)), (z_djr0 hI1_3 (by have q1 := h_2.1; have q3 : _ ≤ _ := hI1_2; omega)), hI1_4, rfl⟩ hP (hK.sub [] rfl) hD hS
      · skip
        have h_3 : z_in 0 39 v1_2 := z_ltL (Int32.not_le.mp c_1) hv1_2 (z_lit (x := 40) (a := 40) (b := 40) rfl) rfl
        refine lv_aload_n hx hb dX5_settleDownTo_8 rfl (lv_at hl 1 rfl) ?_
        refine va_get (D := D) (ci := 5) (v := .int w1_1) (C := RX5) (T := TX5) (N := 10) hx hb hts hiX5 hown hK hP 0 rfl rfl 5 (by decide) (hts _ (List.mem_of_getElem? (i := 1) rfl)) (fun _ h9 => h9) rfl dX5_settleDownTo_9 ?_
        refine lv_if_le (tgt := 73) hx hb dX5_settleDownTo_12 (by decide) (fun c_4 => ?_) (fun c_4 => ?_)
        · skip
          have h_5 : z_in 0 0 w1_1 := z_leL c_4 hw1_1 (z_lit (x := 0) (a := 0) (b := 0) rfl) rfl
          exact hret ([(se, .inr (5, [.ref sep, .ref seg, .ref sen, .ref ses, .ref sew, .int w1_1, .int sei, .int seo, .int w1_2, .int sec])), (sep, .inl (sept, 40, .inr (.inr (.inr (.inr g1_5))))), (seg, .inl (segt, 40, .inl g1_3)), (sen, .inl (sent, 40, .inl g1_4)), (ses, .inl (sest, 40, .inl sesf)), (sew, .inl (sewt, 40, .inr (.inr (.inr (.inr sewf)))))], []) _ _ _ _ dX5_settleDownTo_73 ⟨w1_1, w1_2, g1_5, g1_3, g1_4, (z_w (c := 0) (d := 40) h_5 rfl), hw1_2, hg1_5, hI1_0, hI1_1, (Or.inl (Int.le_antisymm h_5.2 h_5.1)), (z_djr0 hI1_3 (Int.le_trans h_5.2 (by decide))), hI1_4, rfl⟩ hP (hK.sub [] rfl) hD hS
        · skip
          have h_6 : z_in 1 40 w1_1 := z_ltR (Int32.not_le.mp c_4) (z_lit (x := 0) (a := 0) (b := 0) rfl) hw1_1 rfl
          refine lv_aload_n hx hb dX5_settleDownTo_15 rfl (lv_at hl 1 rfl) ?_
          refine va_get (D := D) (ci := 5) (v := .ref sew) (C := RX5) (T := TX5) (N := 10) hx hb hts hiX5 hown hK hP 0 rfl rfl 4 (by decide) (hts _ (List.mem_of_getElem? (i := 2) rfl)) (fun _ h9 => h9) rfl dX5_settleDownTo_16 ?_
          refine lv_aload_n hx hb dX5_settleDownTo_19 rfl (lv_at hl 1 rfl) ?_
          refine va_get (D := D) (ci := 5) (v := .int w1_1) (C := RX5) (T := TX5) (N := 10) hx hb hts hiX5 hown hK hP 0 rfl rfl 5 (by decide) (hts _ (List.mem_of_getElem? (i := 1) rfl)) (fun _ h9 => h9) rfl dX5_settleDownTo_20 ?_
          refine lv_iconst (v := 1) hx hb dX5_settleDownTo_23 (by decide) ?_
          refine lv_isub hx hb dX5_settleDownTo_24 ?_
          refine lv_topi (fun y_7 ey_7 => ?_)
          have h_8 : z_in 0 39 y_7 := by rw [ey_7]; exact z_sub h_6 (z_lit (x := 1) (a := 1) (b := 1) rfl) rfl rfl
          have ty_7 : y_7.toInt = w1_1.toInt + (-1) := by rw [ey_7]; exact (z_subT h_6 (z_lit (x := 1) (a := 1) (b := 1) rfl) rfl).trans rfl
          refine va_aldq hx hb hK hP 5 4 rfl rfl (z_vp h_8 rfl) dX5_settleDownTo_25 ?_
          rcases hsewf (y_7 : Int32).toNatClampNeg with e9 | ⟨w_9, h_10, ew_9⟩
          · rw [e9]
            refine W.eq (g2 := F0 m 26 ls (.null :: [])) rfl ?_
            refine lv_astore_nN (lv' := [(3, .null), (2, .int v1_2), (0, .ref se), (1, .ref (ad 12))]) hx hb dX5_settleDownTo_26 rfl hl (by decide) rfl (fun ls hl => ?_)
            refine lv_aload_nN hx hb dX5_settleDownTo_27 rfl (lv_at hl 0 rfl) ?_
            refine va_gets (v := .ref (ad 13)) hx hb (hE.1.1 13 (by decide)).1 hS hown (hts _ (List.mem_of_getElem? (i := 3) rfl)) (fun _ h9 => h9) dX5_settleDownTo_28 ?_
            refine W.eq (g2 := F0 m 31 ls (va_rf (some (ad 13)) :: va_rf (none) :: [])) rfl ?_
            refine lv_acmp_eq (tgt := 49) hx hb dX5_settleDownTo_31 (by decide) (fun h9 => by cases h9) (fun _ => ?_)
            refine lv_aload_nN hx hb dX5_settleDownTo_34 rfl (lv_at hl 0 rfl) ?_
            refine va_gets (v := .ref (ad 12)) hx hb (hE.1.1 12 (by decide)).1 hS hown (hts _ (List.mem_of_getElem? (i := 4) rfl)) (fun _ h9 => h9) dX5_settleDownTo_35 ?_
            refine W.eq (g2 := F0 m 38 ls (va_rf (some (ad 12)) :: va_rf (none) :: [])) rfl ?_
            refine lv_acmp_ne (tgt := 48) hx hb dX5_settleDownTo_38 (by decide) (fun _ => ?_) (fun h9 => by cases h9)
            exact hret ([(se, .inr (5, [.ref sep, .ref seg, .ref sen, .ref ses, .ref sew, .int w1_1, .int sei, .int seo, .int w1_2, .int sec])), (sep, .inl (sept, 40, .inr (.inr (.inr (.inr g1_5))))), (seg, .inl (segt, 40, .inl g1_3)), (sen, .inl (sent, 40, .inl g1_4)), (ses, .inl (sest, 40, .inl sesf)), (sew, .inl (sewt, 40, .inr (.inr (.inr (.inr sewf)))))], []) _ _ _ _ dX5_settleDownTo_48 ⟨w1_1, w1_2, g1_5, g1_3, g1_4, (z_w (c := 0) (d := 40) h_6 rfl), hw1_2, hg1_5, hI1_0, hI1_1, (z_tpE ty_7 (Int.le_trans (by decide) h_8.1) (z_neN e9) (z_neN e9)), (z_djr2 hE.1.2 hI1_3 ty_7 (Int.le_trans (by decide) h_8.1) (z_neN e9) (z_neN e9)), hI1_4, rfl⟩ hP (hK.sub [] rfl) hD hS
          · rw [ew_9]
            refine W.eq (g2 := F0 m 26 ls (.ref (ad w_9) :: [])) rfl ?_
            refine lv_astore_n (lv' := [(3, .ref (ad w_9)), (2, .int v1_2), (0, .ref se), (1, .ref (ad 12))]) hx hb dX5_settleDownTo_26 rfl hl (by decide) rfl (fun ls hl => ?_)
            refine lv_aload_n hx hb dX5_settleDownTo_27 rfl (lv_at hl 0 rfl) ?_
            refine va_gets (v := .ref (ad 13)) hx hb (hE.1.1 13 (by decide)).1 hS hown (hts _ (List.mem_of_getElem? (i := 3) rfl)) (fun _ h9 => h9) dX5_settleDownTo_28 ?_
            refine W.eq (g2 := F0 m 31 ls (va_rf (some (ad 13)) :: va_rf (some (ad w_9)) :: [])) rfl ?_
            refine lv_acmp_eq (tgt := 49) hx hb dX5_settleDownTo_31 (by decide) (fun c_11 => ?_) (fun c_11 => ?_)
            · have h_12 : w_9 = 13 := (hE.1.2 w_9 13 h_10 (by decide) (Option.some.inj c_11))
              refine lv_aload_n hx hb dX5_settleDownTo_49 rfl (lv_at hl 2 rfl) ?_
              refine lv_dup hx hb dX5_settleDownTo_50 rfl ?_
              refine va_get (D := D) (ci := 5) (v := .int w1_1) (C := RX5) (T := TX5) (N := 10) hx hb hts hiX5 hown hK hP 0 rfl rfl 5 (by decide) (hts _ (List.mem_of_getElem? (i := 1) rfl)) (fun _ h9 => h9) rfl dX5_settleDownTo_51 ?_
              refine lv_iconst (v := 1) hx hb dX5_settleDownTo_54 (by decide) ?_
              refine lv_isub hx hb dX5_settleDownTo_55 ?_
              refine lv_topi (fun y_13 ey_13 => ?_)
              obtain rfl : y_7 = y_13 := ey_7.trans ey_13.symm
              refine va_put (D := D) (ci := 5) (v := .int y_7) (ty := tyX5 5) (C := RX5) (T := TX5) (N := 10) hx hb hts hiX5 tyX5 tyX5_ok nmX5 hown hK hP hD hS 0 rfl rfl 5 (by decide) (hts _ (List.mem_of_getElem? (i := 1) rfl)) (fun _ h9 => h9) rfl (tyX5_ok 5 (by decide)) rfl rfl (Nat.le_of_ble_eq_true rfl) dX5_settleDownTo_56 (fun H locs hP hD hS => ?_)
              have hP : va_P D vwCl [(se, .inr (5, [.ref sep, .ref seg, .ref sen, .ref ses, .ref sew, .int y_7, .int sei, .int seo, .int w1_2, .int sec])), (sep, .inl (sept, 40, .inr (.inr (.inr (.inr g1_5))))), (seg, .inl (segt, 40, .inl g1_3)), (sen, .inl (sent, 40, .inl g1_4)), (ses, .inl (sest, 40, .inl sesf)), (sew, .inl (sewt, 40, .inr (.inr (.inr (.inr sewf)))))] H := hP
              have hD : va_D A [(se, .inr (5, [.ref sep, .ref seg, .ref sen, .ref ses, .ref sew, .int y_7, .int sei, .int seo, .int w1_2, .int sec])), (sep, .inl (sept, 40, .inr (.inr (.inr (.inr g1_5))))), (seg, .inl (segt, 40, .inl g1_3)), (sen, .inl (sent, 40, .inl g1_4)), (ses, .inl (sest, 40, .inl sesf)), (sew, .inl (sewt, 40, .inr (.inr (.inr (.inr sewf)))))] := hD
              refine lv_aload_n hx hb dX5_settleDownTo_59 rfl (lv_at hl 2 rfl) ?_
              refine lv_aload_n hx hb dX5_settleDownTo_60 rfl (lv_at hl 0 rfl) ?_
              refine lv_iconst (v := 0) hx hb dX5_settleDownTo_61 (by decide) ?_
              refine lv_iconst (v := 0) hx hb dX5_settleDownTo_62 (by decide) ?_
              have hc9 := (w_Sentence_addStep l D ad se y_7 sei seo w1_2 sec sep sept g1_5 seg segt g1_3 sen sent g1_4 ses sest sesf sew sewt sewf w_9 0 0 (z_w (c := 0) (d := 40) h_8 rfl) hseo hw1_2 hsec hg1_5 hsewf h_10 hI1_0 (fun _ => (z_w (c := 0) (d := 5) (z_lit (x := 0) (a := 0) (b := 0) rfl) rfl)))
              refine z_calli (w0 := [(se, .inr (5, [.ref sep, .ref seg, .ref sen, .ref ses, .ref sew, .int y_7, .int sei, .int seo, .int w1_2, .int sec])), (sep, .inl (sept, 40, .inr (.inr (.inr (.inr g1_5))))), (seg, .inl (segt, 40, .inl g1_3)), (sen, .inl (sent, 40, .inl g1_4)), (ses, .inl (sest, 40, .inl sesf)), (sew, .inl (sewt, 40, .inr (.inr (.inr (.inr sewf)))))]) (wr := []) (va_runV (As := [.ref (ad w_9), .int 0, .int 0]) (rest := []) ⟨hx, hb, hml, hown, hts⟩ (hc9 _) (cwV 3 hts gX5_settleDownTo_X5_addStep rfl rfl rfl (by decide +kernel) ⟨Nat.le_of_ble_eq_true rfl, Nat.le_of_ble_eq_true rfl⟩) (z_preV hP hD hK hS hA hE hO [0, 1, 2, 3, 4, 5] [0, 1, 2, 3, 4] rfl (by decide +kernel) rfl 0 5 rfl rfl rfl) rfl rfl hl.1 rfl (lv_room (Nat.le_of_ble_eq_true rfl)) dX5_settleDownTo_63 ⟨Nat.le_of_ble_eq_true rfl, Nat.le_of_ble_eq_true rfl⟩) hP hD hK hS hA [0, 1, 2, 3, 4, 5] [] rfl rfl (by decide +kernel) (by decide +kernel) (fun y_14 u9 H locs hw hP hD hK hS => ?_)
              refine z_ex4 hw (fun x_15 f_17 f_19 f_20 hw => ?_)
              refine z_an9 hw (fun h_16 h_18 h_21 h_22 h_23 h_24 h_25 h_26 h_27 hw => ?_)
              subst hw
              have hP : va_P D vwCl [(se, .inr (5, [.ref sep, .ref seg, .ref sen, .ref ses, .ref sew, .int y_7, .int sei, .int seo, .int x_15, .int sec])), (sep, .inl (sept, 40, .inr (.inr (.inr (.inr f_17))))), (seg, .inl (segt, 40, .inl f_19)), (sen, .inl (sent, 40, .inl f_20)), (ses, .inl (sest, 40, .inl sesf)), (sew, .inl (sewt, 40, .inr (.inr (.inr (.inr sewf)))))] H := hP
              have hD : va_D A [(se, .inr (5, [.ref sep, .ref seg, .ref sen, .ref ses, .ref sew, .int y_7, .int sei, .int seo, .int x_15, .int sec])), (sep, .inl (sept, 40, .inr (.inr (.inr (.inr f_17))))), (seg, .inl (segt, 40, .inl f_19)), (sen, .inl (sent, 40, .inl f_20)), (ses, .inl (sest, 40, .inl sesf)), (sew, .inl (sewt, 40, .inr (.inr (.inr (.inr sewf)))))] := hD
              have hK : va_K D vwCl [(sept, .object "FuneralUmbrellas$Word"), (segt, .int), (sent, .int), (sest, .int), (sewt, .object "FuneralUmbrellas$Word")] s := hK
              refine W.cs (cells' := 0) (slots' := 0) rfl rfl ?_
              refine W.eq (g2 := F0 m 66 ls (.int y_14 :: [])) rfl ?_
              refine lv_pop hx hb dX5_settleDownTo_66 rfl ?_
              obtain ⟨y_28, ey_28⟩ : ∃ y : Int32, y = v1_2 + 1 := ⟨_, rfl⟩
              have h_29 : z_in 1 40 y_28 := by rw [ey_28]; exact z_add h_3 (z_lit (x := 1) (a := 1) (b := 1) rfl) rfl rfl
              have ty_28 : y_28.toInt = v1_2.toInt + 1 := by rw [ey_28]; exact z_addT h_3 (z_lit (x := 1) (a := 1) (b := 1) rfl) rfl
              refine lv_iinc (v := y_28) (lv' := [(2, .int y_28), (3, .ref (ad w_9)), (0, .ref se), (1, .ref (ad 12))]) hx hb dX5_settleDownTo_67 hl (k := 1) rfl (by rw [ey_28]; rfl) (by decide) rfl (fun ls hl => ?_)
              refine lv_goto (tgt := 2) hx hb dX5_settleDownTo_70 (by decide) ?_
              exact ih1 y_28 y_7 x_15 f_19 f_20 f_17 _ _ _ (z_w (c := 0) (d := 40) h_29 rfl) (z_w (c := 0) (d := 40) h_8 rfl) h_16 h_18 h_26 (z_wcJ hI1_1 ty_7 (Int.le_trans (by decide) h_8.1) (Or.inl (ew_9.trans (by rw [h_12])))) (show _ ≤ _ by have q1 := ty_7; have q2 := ty_28; have q3 : _ ≤ _ := hI1_2; omega) (z_djIA hE.1.2 hI1_3 ty_7 (Int.le_trans (by decide) h_8.1) (ew_9.trans (by rw [h_12]))) (show z_nl9 set sel y_7 x_15 from by unfold z_nl9; have a1 := h_16.1; have b1 := h_16.2; have l1 := h_27; unfold z_l1 at l1; have a2 := hw1_2.1; have b2 := hw1_2.2; have l0 := hI1_4; unfold z_nl9 at l0; have a3 := h_6.1; have b3 := h_6.2; have a4 := hsel.1; have b4 := hsel.2; have a5 := hset.1; have b5 := hset.2; have r6 := ty_7; have a6 := h_8.1; have b6 := h_8.2; omega) (by omega) hP hD hS (lv_sub hl [0, 2, 3] rfl)
            · have h_30 : w_9 ≠ 13 := fun q9 => c_11 (by rw [q9])
              refine lv_aload_n hx hb dX5_settleDownTo_34 rfl (lv_at hl 0 rfl) ?_
              refine va_gets (v := .ref (ad 12)) hx hb (hE.1.1 12 (by decide)).1 hS hown (hts _ (List.mem_of_getElem? (i := 4) rfl)) (fun _ h9 => h9) dX5_settleDownTo_35 ?_
              refine W.eq (g2 := F0 m 38 ls (va_rf (some (ad 12)) :: va_rf (some (ad w_9)) :: [])) rfl ?_
              refine lv_acmp_ne (tgt := 48) hx hb dX5_settleDownTo_38 (by decide) (fun c_31 => ?_) (fun c_31 => ?_)
              · have h_32 : w_9 ≠ 12 := fun q9 => c_31 (by rw [q9])
                exact hret ([(se, .inr (5, [.ref sep, .ref seg, .ref sen, .ref ses, .ref sew, .int w1_1, .int sei, .int seo, .int w1_2, .int sec])), (sep, .inl (sept, 40, .inr (.inr (.inr (.inr g1_5))))), (seg, .inl (segt, 40, .inl g1_3)), (sen, .inl (sent, 40, .inl g1_4)), (ses, .inl (sest, 40, .inl sesf)), (sew, .inl (sewt, 40, .inr (.inr (.inr (.inr sewf)))))], []) _ _ _ _ dX5_settleDownTo_48 ⟨w1_1, w1_2, g1_5, g1_3, g1_4, (z_w (c := 0) (d := 40) h_6 rfl), hw1_2, hg1_5, hI1_0, hI1_1, (z_tpE ty_7 (Int.le_trans (by decide) h_8.1) (z_neW hE.1.2 ew_9 h_10 (by decide) h_30) (z_neW hE.1.2 ew_9 h_10 (by decide) h_32)), (z_djr2 hE.1.2 hI1_3 ty_7 (Int.le_trans (by decide) h_8.1) (z_neW hE.1.2 ew_9 h_10 (by decide) h_30) (z_neW hE.1.2 ew_9 h_10 (by decide) h_32)), hI1_4, rfl⟩ hP (hK.sub [] rfl) hD hS
              · have h_33 : w_9 = 12 := (hE.1.2 w_9 12 h_10 (by decide) (Option.some.inj c_31))
                refine lv_aload_n hx hb dX5_settleDownTo_41 rfl (lv_at hl 3 rfl) ?_
                refine va_gets (v := .ref (ad 12)) hx hb (hE.1.1 12 (by decide)).1 hS hown (hts _ (List.mem_of_getElem? (i := 4) rfl)) (fun _ h9 => h9) dX5_settleDownTo_42 ?_
                refine W.eq (g2 := F0 m 45 ls (va_rf (some (ad 12)) :: va_rf (some (ad 12)) :: [])) rfl ?_
                refine lv_acmp_eq (tgt := 49) hx hb dX5_settleDownTo_45 (by decide) (fun _ => ?_) (fun h9 => absurd rfl h9)
                refine lv_aload_n hx hb dX5_settleDownTo_49 rfl (lv_at hl 2 rfl) ?_
                refine lv_dup hx hb dX5_settleDownTo_50 rfl ?_
                refine va_get (D := D) (ci := 5) (v := .int w1_1) (C := RX5) (T := TX5) (N := 10) hx hb hts hiX5 hown hK hP 0 rfl rfl 5 (by decide) (hts _ (List.mem_of_getElem? (i := 1) rfl)) (fun _ h9 => h9) rfl dX5_settleDownTo_51 ?_
                refine lv_iconst (v := 1) hx hb dX5_settleDownTo_54 (by decide) ?_
                refine lv_isub hx hb dX5_settleDownTo_55 ?_
                refine lv_topi (fun y_34 ey_34 => ?_)
                obtain rfl : y_7 = y_34 := ey_7.trans ey_34.symm
                refine va_put (D := D) (ci := 5) (v := .int y_7) (ty := tyX5 5) (C := RX5) (T := TX5) (N := 10) hx hb hts hiX5 tyX5 tyX5_ok nmX5 hown hK hP hD hS 0 rfl rfl 5 (by decide) (hts _ (List.mem_of_getElem? (i := 1) rfl)) (fun _ h9 => h9) rfl (tyX5_ok 5 (by decide)) rfl rfl (Nat.le_of_ble_eq_true rfl) dX5_settleDownTo_56 (fun H locs hP hD hS => ?_)
                have hP : va_P D vwCl [(se, .inr (5, [.ref sep, .ref seg, .ref sen, .ref ses, .ref sew, .int y_7, .int sei, .int seo, .int w1_2, .int sec])), (sep, .inl (sept, 40, .inr (.inr (.inr (.inr g1_5))))), (seg, .inl (segt, 40, .inl g1_3)), (sen, .inl (sent, 40, .inl g1_4)), (ses, .inl (sest, 40, .inl sesf)), (sew, .inl (sewt, 40, .inr (.inr (.inr (.inr sewf)))))] H := hP
                have hD : va_D A [(se, .inr (5, [.ref sep, .ref seg, .ref sen, .ref ses, .ref sew, .int y_7, .int sei, .int seo, .int w1_2, .int sec])), (sep, .inl (sept, 40, .inr (.inr (.inr (.inr g1_5))))), (seg, .inl (segt, 40, .inl g1_3)), (sen, .inl (sent, 40, .inl g1_4)), (ses, .inl (sest, 40, .inl sesf)), (sew, .inl (sewt, 40, .inr (.inr (.inr (.inr sewf)))))] := hD
                refine lv_aload_n hx hb dX5_settleDownTo_59 rfl (lv_at hl 2 rfl) ?_
                refine lv_aload_n hx hb dX5_settleDownTo_60 rfl (lv_at hl 0 rfl) ?_
                refine lv_iconst (v := 0) hx hb dX5_settleDownTo_61 (by decide) ?_
                refine lv_iconst (v := 0) hx hb dX5_settleDownTo_62 (by decide) ?_
                have hc9 := (w_Sentence_addStep l D ad se y_7 sei seo w1_2 sec sep sept g1_5 seg segt g1_3 sen sent g1_4 ses sest sesf sew sewt sewf w_9 0 0 (z_w (c := 0) (d := 40) h_8 rfl) hseo hw1_2 hsec hg1_5 hsewf h_10 hI1_0 (fun _ => (z_w (c := 0) (d := 5) (z_lit (x := 0) (a := 0) (b := 0) rfl) rfl)))
                refine z_calli (w0 := [(se, .inr (5, [.ref sep, .ref seg, .ref sen, .ref ses, .ref sew, .int y_7, .int sei, .int seo, .int w1_2, .int sec])), (sep, .inl (sept, 40, .inr (.inr (.inr (.inr g1_5))))), (seg, .inl (segt, 40, .inl g1_3)), (sen, .inl (sent, 40, .inl g1_4)), (ses, .inl (sest, 40, .inl sesf)), (sew, .inl (sewt, 40, .inr (.inr (.inr (.inr sewf)))))]) (wr := []) (va_runV (As := [.ref (ad w_9), .int 0, .int 0]) (rest := []) ⟨hx, hb, hml, hown, hts⟩ (hc9 _) (cwV 3 hts gX5_settleDownTo_X5_addStep rfl rfl rfl (by decide +kernel) ⟨Nat.le_of_ble_eq_true rfl, Nat.le_of_ble_eq_true rfl⟩) (z_preV hP hD hK hS hA hE hO [0, 1, 2, 3, 4, 5] [0, 1, 2, 3, 4] rfl (by decide +kernel) rfl 0 5 rfl rfl rfl) rfl rfl hl.1 rfl (lv_room (Nat.le_of_ble_eq_true rfl)) dX5_settleDownTo_63 ⟨Nat.le_of_ble_eq_true rfl, Nat.le_of_ble_eq_true rfl⟩) hP hD hK hS hA [0, 1, 2, 3, 4, 5] [] rfl rfl (by decide +kernel) (by decide +kernel) (fun y_35 u9 H locs hw hP hD hK hS => ?_)
                refine z_ex4 hw (fun x_36 f_38 f_40 f_41 hw => ?_)
                refine z_an9 hw (fun h_37 h_39 h_42 h_43 h_44 h_45 h_46 h_47 h_48 hw => ?_)
                subst hw
                have hP : va_P D vwCl [(se, .inr (5, [.ref sep, .ref seg, .ref sen, .ref ses, .ref sew, .int y_7, .int sei, .int seo, .int x_36, .int sec])), (sep, .inl (sept, 40, .inr (.inr (.inr (.inr f_38))))), (seg, .inl (segt, 40, .inl f_40)), (sen, .inl (sent, 40, .inl f_41)), (ses, .inl (sest, 40, .inl sesf)), (sew, .inl (sewt, 40, .inr (.inr (.inr (.inr sewf)))))] H := hP
                have hD : va_D A [(se, .inr (5, [.ref sep, .ref seg, .ref sen, .ref ses, .ref sew, .int y_7, .int sei, .int seo, .int x_36, .int sec])), (sep, .inl (sept, 40, .inr (.inr (.inr (.inr f_38))))), (seg, .inl (segt, 40, .inl f_40)), (sen, .inl (sent, 40, .inl f_41)), (ses, .inl (sest, 40, .inl sesf)), (sew, .inl (sewt, 40, .inr (.inr (.inr (.inr sewf)))))] := hD
                have hK : va_K D vwCl [(sept, .object "FuneralUmbrellas$Word"), (segt, .int), (sent, .int), (sest, .int), (sewt, .object "FuneralUmbrellas$Word")] s := hK
                refine W.cs (cells' := 0) (slots' := 0) rfl rfl ?_
                refine W.eq (g2 := F0 m 66 ls (.int y_35 :: [])) rfl ?_
                refine lv_pop hx hb dX5_settleDownTo_66 rfl ?_
                obtain ⟨y_49, ey_49⟩ : ∃ y : Int32, y = v1_2 + 1 := ⟨_, rfl⟩
                have h_50 : z_in 1 40 y_49 := by rw [ey_49]; exact z_add h_3 (z_lit (x := 1) (a := 1) (b := 1) rfl) rfl rfl
                have ty_49 : y_49.toInt = v1_2.toInt + 1 := by rw [ey_49]; exact z_addT h_3 (z_lit (x := 1) (a := 1) (b := 1) rfl) rfl
                refine lv_iinc (v := y_49) (lv' := [(2, .int y_49), (3, .ref (ad w_9)), (0, .ref se), (1, .ref (ad 12))]) hx hb dX5_settleDownTo_67 hl (k := 1) rfl (by rw [ey_49]; rfl) (by decide) rfl (fun ls hl => ?_)
                refine lv_goto (tgt := 2) hx hb dX5_settleDownTo_70 (by decide) ?_
                exact ih1 y_49 y_7 x_36 f_40 f_41 f_38 _ _ _ (z_w (c := 0) (d := 40) h_50 rfl) (z_w (c := 0) (d := 40) h_8 rfl) h_37 h_39 h_47 (z_wcJ hI1_1 ty_7 (Int.le_trans (by decide) h_8.1) (Or.inr (ew_9.trans (by rw [h_33])))) (show _ ≤ _ by have q1 := ty_7; have q2 := ty_49; have q3 : _ ≤ _ := hI1_2; omega) (z_djIO hE.1.2 hI1_3 ty_7 (Int.le_trans (by decide) h_8.1) (ew_9.trans (by rw [h_33]))) (show z_nl9 set sel y_7 x_36 from by unfold z_nl9; have a1 := h_37.1; have b1 := h_37.2; have l1 := h_48; unfold z_l1 at l1; have a2 := hw1_2.1; have b2 := hw1_2.2; have l0 := hI1_4; unfold z_nl9 at l0; have a3 := h_6.1; have b3 := h_6.2; have a4 := hsel.1; have b4 := hsel.2; have a5 := hset.1; have b5 := hset.2; have r6 := ty_7; have a6 := h_8.1; have b6 := h_8.2; omega) (by omega) hP hD hS (lv_sub hl [0, 2, 3] rfl)
  exact LP1 41 0 set sel segf senf sepf _ _ _ (z_w (c := 0) (d := 40) (z_lit (x := 0) (a := 0) (b := 0) rfl) rfl) hset hsel hsepf hwse hc0 (show _ ≤ _ by have q1 := hset.2; have q2 := (z_lit (x := 0) (a := 0) (b := 0) rfl).2; omega) z_djIr (show z_nl9 set sel set sel from by unfold z_nl9; have a1 := hsel.1; have b1 := hsel.2; have a2 := hset.1; have b2 := hset.2; omega) (by decide) hP hD hS (lv_sub hl [0, 1, 2] rfl)

set_option maxHeartbeats 8000000 in
set_option maxRecDepth 100000 in
theorem s_Sentence_settleDownToA (l : Launch) (D : va_G) (ad : Nat → Nat) (se : Nat) (set : Int32) (sei : Int32) (seo : Int32) (sel : Int32) (sec : Int32) (sep : Nat) (sept : ClassId) (sepf : Nat → Option Nat) (seg : Nat) (segt : ClassId) (segf : Nat → Int32) (sen : Nat) (sent : ClassId) (senf : Nat → Int32) (ses : Nat) (sest : ClassId) (sesf : Nat → Int32) (sew : Nat) (sewt : ClassId) (sewf : Nat → Option Nat) (w0 : Nat) (hset : z_in 0 40 set) (hseo : z_in 0 1 seo) (hsel : z_in 0 40 sel) (hsec : z_in 0 20 sec) (hsepf : z_wq ad sepf) (hsewf : z_wq ad sewf) (hw0 : w0 < 22) (hwse : z_wt ad sepf senf) (hc0 : z_wc ad sewf set sei) (hwq : z_weq w0 13) : z_Mv l yX5_settleDownTo wsX5_settleDownTo { frames := 1, cells := 0, slots := 0, locals := 23 } D ad [.ref se, .ref (ad w0)] [(se, .inr (5, [.ref sep, .ref seg, .ref sen, .ref ses, .ref sew, .int set, .int sei, .int seo, .int sel, .int sec])), (sep, .inl (sept, 40, .inr (.inr (.inr (.inr sepf))))), (seg, .inl (segt, 40, .inl segf)), (sen, .inl (sent, 40, .inl senf)), (ses, .inl (sest, 40, .inl sesf)), (sew, .inl (sewt, 40, .inr (.inr (.inr (.inr sewf)))))] [(sept, .object "FuneralUmbrellas$Word"), (segt, .int), (sent, .int), (sest, .int), (sewt, .object "FuneralUmbrellas$Word")] 0 0 (fun u9 => ∃ (x0_5 : Int32) (x0_8 : Int32) (x1_f : Nat → Option Nat) (x2_f : Nat → Int32) (x3_f : Nat → Int32), z_in 0 40 x0_5 ∧ z_in 0 40 x0_8 ∧ z_wq ad x1_f ∧ z_wt ad x1_f x3_f ∧ z_wc ad sewf x0_5 sei ∧ z_djr 1 ad sewf set x0_5 ∧ z_nl9 set sel x0_5 x0_8 ∧ u9 = ([(se, .inr (5, [.ref sep, .ref seg, .ref sen, .ref ses, .ref sew, .int x0_5, .int sei, .int seo, .int x0_8, .int sec])), (sep, .inl (sept, 40, .inr (.inr (.inr (.inr x1_f))))), (seg, .inl (segt, 40, .inl x2_f)), (sen, .inl (sent, 40, .inl x3_f)), (ses, .inl (sest, 40, .inl sesf)), (sew, .inl (sewt, 40, .inr (.inr (.inr (.inr sewf)))))], [])) := by
  refine z_ofV (cc := cX5_settleDownTo) (maxL := 4) (by decide) rfl (Nat.le_of_ble_eq_true rfl) ?_
  intro p e s m below meth c Q A ls hx hb hml hown hts hin hK hP hD hA hE hO hS hl hret
  have hown : s.vm.findClass RX5 = some m.cls := hown
  have hiX5 : ∀ w ∈ wsX50, w ∈ wsX5_settleDownTo := fun _ h9 => List.mem_cons_of_mem _ (List.mem_append_right _ h9)
  have hl : lv_has ls 4 [(0, .ref se), (1, .ref (ad w0))] := hl
  refine lv_iconst (v := 0) hx hb dX5_settleDownTo_0 (by decide) ?_
  refine lv_istore_n (lv' := [(2, .int 0), (0, .ref se), (1, .ref (ad w0))]) hx hb dX5_settleDownTo_1 rfl hl (by decide) rfl (fun ls hl => ?_)
  have LP1 : ∀ (n : Nat) (v1_2 : Int32) (w1_1 : Int32) (w1_2 : Int32) (g1_3 : Nat → Int32) (g1_4 : Nat → Int32) (g1_5 : Nat → Option Nat) (H : Heap) (locs : List Loc) (ls : Array Slot), z_in 0 40 v1_2 → z_in 0 40 w1_1 → z_in 0 40 w1_2 → z_wq ad g1_5 → z_wt ad g1_5 g1_4 → z_wc ad sewf w1_1 sei → z_sm w1_1 v1_2 → z_djI 1 ad sewf set w1_1 → z_nl9 set sel w1_1 w1_2 → 41 - v1_2.toInt ≤ (n : Int) → va_P D vwCl [(se, .inr (5, [.ref sep, .ref seg, .ref sen, .ref ses, .ref sew, .int w1_1, .int sei, .int seo, .int w1_2, .int sec])), (sep, .inl (sept, 40, .inr (.inr (.inr (.inr g1_5))))), (seg, .inl (segt, 40, .inl g1_3)), (sen, .inl (sent, 40, .inl g1_4)), (ses, .inl (sest, 40, .inl sesf)), (sew, .inl (sewt, 40, .inr (.inr (.inr (.inr sewf)))))] H → va_D A [(se, .inr (5, [.ref sep, .ref seg, .ref sen, .ref ses, .ref sew, .int w1_1, .int sei, .int seo, .int w1_2, .int sec])), (sep, .inl (sept, 40, .inr (.inr (.inr (.inr g1_5))))), (seg, .inl (segt, 40, .inl g1_3)), (sen, .inl (sent, 40, .inl g1_4)), (ses, .inl (sest, 40, .inl sesf)), (sew, .inl (sewt, 40, .inr (.inr (.inr (.inr sewf)))))] → va_S A s.heap H locs → lv_has ls 4 [(2, .int v1_2), (0, .ref se), (1, .ref (ad w0))] → W p l e ({ frames := 1, cells := 0, slots := 0, locals := 23 }) s m ([.ref se, .ref (ad w0)] : List Value).toArray below meth c H locs 0 0 Q (F0 m 2 ls []) := by
    intro n
    induction n with
    | zero => intro v1_2 w1_1 w1_2 g1_3 g1_4 g1_5 H locs ls hv1_2 hw1_1 hw1_2 hg1_5 hI1_0 hI1_1 hI1_2 hI1_3 hI1_4 hn1; exact absurd hn1 (by have q1 := hv1_2.1; have q2 := hv1_2.2; omega)
    | succ n ih1 =>
      intro v1_2 w1_1 w1_2 g1_3 g1_4 g1_5 H locs ls hv1_2 hw1_1 hw1_2 hg1_5 hI1_0 hI1_1 hI1_2 hI1_3 hI1_4 hn1 hP hD hS hl
      have q1 := hv1_2.1
      have q1' := hv1_2.2
      refine lv_iload_n hx hb dX5_settleDownTo_2 rfl (lv_at hl 0 rfl) ?_
      refine lv_bipush (v := 40) hx hb dX5_settleDownTo_3 (by decide) ?_
      refine lv_icmp_ge (tgt := 73) hx hb dX5_settleDownTo_5 (by decide) (fun c_1 => ?_) (fun c_1 => ?_)
      · skip
        have h_2 : z_in 40 40 v1_2 := z_leR c_1 (z_lit (x := 40) (a := 40) (b := 40) rfl) hv1_2 rfl
        exact hret ([(se, .inr (5, [.ref sep, .ref seg, .ref sen, .ref ses, .ref sew, .int w1_1, .int sei, .int seo, .int w1_2, .int sec])), (sep, .inl (sept, 40, .inr (.inr (.inr (.inr g1_5))))), (seg, .inl (segt, 40, .inl g1_3)), (sen, .inl (sent, 40, .inl g1_4)), (ses, .inl (sest, 40, .inl sesf)), (sew, .inl (sewt, 40, .inr (.inr (.inr (.inr sewf)))))], []) _ _ _ _ dX5_settleDownTo_73 ⟨w1_1, w1_2, g1_5, g1_3, g1_4, hw1_1, hw1_2, hg1_5, hI1_0, hI1_1, (z_djr0 hI1_3 (by have q1 := h_2.1; have q3 : _ ≤ _ := hI1_2; omega)), hI1_4, rfl⟩ hP (hK.sub [] rfl) hD hS
      · skip
        have h_3 : z_in 0 39 v1_2 := z_ltL (Int32.not_le.mp c_1) hv1_2 (z_lit (x := 40) (a := 40) (b := 40) rfl) rfl
        refine lv_aload_n hx hb dX5_settleDownTo_8 rfl (lv_at hl 1 rfl) ?_
        refine va_get (D := D) (ci := 5) (v := .int w1_1) (C := RX5) (T := TX5) (N := 10) hx hb hts hiX5 hown hK hP 0 rfl rfl 5 (by decide) (hts _ (List.mem_of_getElem? (i := 1) rfl)) (fun _ h9 => h9) rfl dX5_settleDownTo_9 ?_
        refine lv_if_le (tgt := 73) hx hb dX5_settleDownTo_12 (by decide) (fun c_4 => ?_) (fun c_4 => ?_)
        · skip
          have h_5 : z_in 0 0 w1_1 := z_leL c_4 hw1_1 (z_lit (x := 0) (a := 0) (b := 0) rfl) rfl
          exact hret ([(se, .inr (5, [.ref sep, .ref seg, .ref sen, .ref ses, .ref sew, .int w1_1, .int sei, .int seo, .int w1_2, .int sec])), (sep, .inl (sept, 40, .inr (.inr (.inr (.inr g1_5))))), (seg, .inl (segt, 40, .inl g1_3)), (sen, .inl (sent, 40, .inl g1_4)), (ses, .inl (sest, 40, .inl sesf)), (sew, .inl (sewt, 40, .inr (.inr (.inr (.inr sewf)))))], []) _ _ _ _ dX5_settleDownTo_73 ⟨w1_1, w1_2, g1_5, g1_3, g1_4, (z_w (c := 0) (d := 40) h_5 rfl), hw1_2, hg1_5, hI1_0, hI1_1, (z_djr0 hI1_3 (Int.le_trans h_5.2 (by decide))), hI1_4, rfl⟩ hP (hK.sub [] rfl) hD hS
        · skip
          have h_6 : z_in 1 40 w1_1 := z_ltR (Int32.not_le.mp c_4) (z_lit (x := 0) (a := 0) (b := 0) rfl) hw1_1 rfl
          refine lv_aload_n hx hb dX5_settleDownTo_15 rfl (lv_at hl 1 rfl) ?_
          refine va_get (D := D) (ci := 5) (v := .ref sew) (C := RX5) (T := TX5) (N := 10) hx hb hts hiX5 hown hK hP 0 rfl rfl 4 (by decide) (hts _ (List.mem_of_getElem? (i := 2) rfl)) (fun _ h9 => h9) rfl dX5_settleDownTo_16 ?_
          refine lv_aload_n hx hb dX5_settleDownTo_19 rfl (lv_at hl 1 rfl) ?_
          refine va_get (D := D) (ci := 5) (v := .int w1_1) (C := RX5) (T := TX5) (N := 10) hx hb hts hiX5 hown hK hP 0 rfl rfl 5 (by decide) (hts _ (List.mem_of_getElem? (i := 1) rfl)) (fun _ h9 => h9) rfl dX5_settleDownTo_20 ?_
          refine lv_iconst (v := 1) hx hb dX5_settleDownTo_23 (by decide) ?_
          refine lv_isub hx hb dX5_settleDownTo_24 ?_
          refine lv_topi (fun y_7 ey_7 => ?_)
          have h_8 : z_in 0 39 y_7 := by rw [ey_7]; exact z_sub h_6 (z_lit (x := 1) (a := 1) (b := 1) rfl) rfl rfl
          have ty_7 : y_7.toInt = w1_1.toInt + (-1) := by rw [ey_7]; exact (z_subT h_6 (z_lit (x := 1) (a := 1) (b := 1) rfl) rfl).trans rfl
          refine va_aldq hx hb hK hP 5 4 rfl rfl (z_vp h_8 rfl) dX5_settleDownTo_25 ?_
          rcases hsewf (y_7 : Int32).toNatClampNeg with e9 | ⟨w_9, h_10, ew_9⟩
          · rw [e9]
            refine W.eq (g2 := F0 m 26 ls (.null :: [])) rfl ?_
            refine lv_astore_nN (lv' := [(3, .null), (2, .int v1_2), (0, .ref se), (1, .ref (ad w0))]) hx hb dX5_settleDownTo_26 rfl hl (by decide) rfl (fun ls hl => ?_)
            refine lv_aload_nN hx hb dX5_settleDownTo_27 rfl (lv_at hl 0 rfl) ?_
            refine va_gets (v := .ref (ad 13)) hx hb (hE.1.1 13 (by decide)).1 hS hown (hts _ (List.mem_of_getElem? (i := 3) rfl)) (fun _ h9 => h9) dX5_settleDownTo_28 ?_
            refine W.eq (g2 := F0 m 31 ls (va_rf (some (ad 13)) :: va_rf (none) :: [])) rfl ?_
            refine lv_acmp_eq (tgt := 49) hx hb dX5_settleDownTo_31 (by decide) (fun h9 => by cases h9) (fun _ => ?_)
            refine lv_aload_nN hx hb dX5_settleDownTo_34 rfl (lv_at hl 0 rfl) ?_
            refine va_gets (v := .ref (ad 12)) hx hb (hE.1.1 12 (by decide)).1 hS hown (hts _ (List.mem_of_getElem? (i := 4) rfl)) (fun _ h9 => h9) dX5_settleDownTo_35 ?_
            refine W.eq (g2 := F0 m 38 ls (va_rf (some (ad 12)) :: va_rf (none) :: [])) rfl ?_
            refine lv_acmp_ne (tgt := 48) hx hb dX5_settleDownTo_38 (by decide) (fun _ => ?_) (fun h9 => by cases h9)
            exact hret ([(se, .inr (5, [.ref sep, .ref seg, .ref sen, .ref ses, .ref sew, .int w1_1, .int sei, .int seo, .int w1_2, .int sec])), (sep, .inl (sept, 40, .inr (.inr (.inr (.inr g1_5))))), (seg, .inl (segt, 40, .inl g1_3)), (sen, .inl (sent, 40, .inl g1_4)), (ses, .inl (sest, 40, .inl sesf)), (sew, .inl (sewt, 40, .inr (.inr (.inr (.inr sewf)))))], []) _ _ _ _ dX5_settleDownTo_48 ⟨w1_1, w1_2, g1_5, g1_3, g1_4, (z_w (c := 0) (d := 40) h_6 rfl), hw1_2, hg1_5, hI1_0, hI1_1, (z_djr1 hE.1.2 hI1_3 ty_7 (Int.le_trans (by decide) h_8.1) (z_neN e9)), hI1_4, rfl⟩ hP (hK.sub [] rfl) hD hS
          · rw [ew_9]
            refine W.eq (g2 := F0 m 26 ls (.ref (ad w_9) :: [])) rfl ?_
            refine lv_astore_n (lv' := [(3, .ref (ad w_9)), (2, .int v1_2), (0, .ref se), (1, .ref (ad w0))]) hx hb dX5_settleDownTo_26 rfl hl (by decide) rfl (fun ls hl => ?_)
            refine lv_aload_n hx hb dX5_settleDownTo_27 rfl (lv_at hl 0 rfl) ?_
            refine va_gets (v := .ref (ad 13)) hx hb (hE.1.1 13 (by decide)).1 hS hown (hts _ (List.mem_of_getElem? (i := 3) rfl)) (fun _ h9 => h9) dX5_settleDownTo_28 ?_
            refine W.eq (g2 := F0 m 31 ls (va_rf (some (ad 13)) :: va_rf (some (ad w_9)) :: [])) rfl ?_
            refine lv_acmp_eq (tgt := 49) hx hb dX5_settleDownTo_31 (by decide) (fun c_11 => ?_) (fun c_11 => ?_)
            · have h_12 : w_9 = 13 := (hE.1.2 w_9 13 h_10 (by decide) (Option.some.inj c_11))
              refine lv_aload_n hx hb dX5_settleDownTo_49 rfl (lv_at hl 2 rfl) ?_
              refine lv_dup hx hb dX5_settleDownTo_50 rfl ?_
              refine va_get (D := D) (ci := 5) (v := .int w1_1) (C := RX5) (T := TX5) (N := 10) hx hb hts hiX5 hown hK hP 0 rfl rfl 5 (by decide) (hts _ (List.mem_of_getElem? (i := 1) rfl)) (fun _ h9 => h9) rfl dX5_settleDownTo_51 ?_
              refine lv_iconst (v := 1) hx hb dX5_settleDownTo_54 (by decide) ?_
              refine lv_isub hx hb dX5_settleDownTo_55 ?_
              refine lv_topi (fun y_13 ey_13 => ?_)
              obtain rfl : y_7 = y_13 := ey_7.trans ey_13.symm
              refine va_put (D := D) (ci := 5) (v := .int y_7) (ty := tyX5 5) (C := RX5) (T := TX5) (N := 10) hx hb hts hiX5 tyX5 tyX5_ok nmX5 hown hK hP hD hS 0 rfl rfl 5 (by decide) (hts _ (List.mem_of_getElem? (i := 1) rfl)) (fun _ h9 => h9) rfl (tyX5_ok 5 (by decide)) rfl rfl (Nat.le_of_ble_eq_true rfl) dX5_settleDownTo_56 (fun H locs hP hD hS => ?_)
              have hP : va_P D vwCl [(se, .inr (5, [.ref sep, .ref seg, .ref sen, .ref ses, .ref sew, .int y_7, .int sei, .int seo, .int w1_2, .int sec])), (sep, .inl (sept, 40, .inr (.inr (.inr (.inr g1_5))))), (seg, .inl (segt, 40, .inl g1_3)), (sen, .inl (sent, 40, .inl g1_4)), (ses, .inl (sest, 40, .inl sesf)), (sew, .inl (sewt, 40, .inr (.inr (.inr (.inr sewf)))))] H := hP
              have hD : va_D A [(se, .inr (5, [.ref sep, .ref seg, .ref sen, .ref ses, .ref sew, .int y_7, .int sei, .int seo, .int w1_2, .int sec])), (sep, .inl (sept, 40, .inr (.inr (.inr (.inr g1_5))))), (seg, .inl (segt, 40, .inl g1_3)), (sen, .inl (sent, 40, .inl g1_4)), (ses, .inl (sest, 40, .inl sesf)), (sew, .inl (sewt, 40, .inr (.inr (.inr (.inr sewf)))))] := hD
              refine lv_aload_n hx hb dX5_settleDownTo_59 rfl (lv_at hl 2 rfl) ?_
              refine lv_aload_n hx hb dX5_settleDownTo_60 rfl (lv_at hl 0 rfl) ?_
              refine lv_iconst (v := 0) hx hb dX5_settleDownTo_61 (by decide) ?_
              refine lv_iconst (v := 0) hx hb dX5_settleDownTo_62 (by decide) ?_
              have hc9 := (w_Sentence_addStep l D ad se y_7 sei seo w1_2 sec sep sept g1_5 seg segt g1_3 sen sent g1_4 ses sest sesf sew sewt sewf w_9 0 0 (z_w (c := 0) (d := 40) h_8 rfl) hseo hw1_2 hsec hg1_5 hsewf h_10 hI1_0 (fun _ => (z_w (c := 0) (d := 5) (z_lit (x := 0) (a := 0) (b := 0) rfl) rfl)))
              refine z_calli (w0 := [(se, .inr (5, [.ref sep, .ref seg, .ref sen, .ref ses, .ref sew, .int y_7, .int sei, .int seo, .int w1_2, .int sec])), (sep, .inl (sept, 40, .inr (.inr (.inr (.inr g1_5))))), (seg, .inl (segt, 40, .inl g1_3)), (sen, .inl (sent, 40, .inl g1_4)), (ses, .inl (sest, 40, .inl sesf)), (sew, .inl (sewt, 40, .inr (.inr (.inr (.inr sewf)))))]) (wr := []) (va_runV (As := [.ref (ad w_9), .int 0, .int 0]) (rest := []) ⟨hx, hb, hml, hown, hts⟩ (hc9 _) (cwV 3 hts gX5_settleDownTo_X5_addStep rfl rfl rfl (by decide +kernel) ⟨Nat.le_of_ble_eq_true rfl, Nat.le_of_ble_eq_true rfl⟩) (z_preV hP hD hK hS hA hE hO [0, 1, 2, 3, 4, 5] [0, 1, 2, 3, 4] rfl (by decide +kernel) rfl 0 5 rfl rfl rfl) rfl rfl hl.1 rfl (lv_room (Nat.le_of_ble_eq_true rfl)) dX5_settleDownTo_63 ⟨Nat.le_of_ble_eq_true rfl, Nat.le_of_ble_eq_true rfl⟩) hP hD hK hS hA [0, 1, 2, 3, 4, 5] [] rfl rfl (by decide +kernel) (by decide +kernel) (fun y_14 u9 H locs hw hP hD hK hS => ?_)
              refine z_ex4 hw (fun x_15 f_17 f_19 f_20 hw => ?_)
              refine z_an9 hw (fun h_16 h_18 h_21 h_22 h_23 h_24 h_25 h_26 h_27 hw => ?_)
              subst hw
              have hP : va_P D vwCl [(se, .inr (5, [.ref sep, .ref seg, .ref sen, .ref ses, .ref sew, .int y_7, .int sei, .int seo, .int x_15, .int sec])), (sep, .inl (sept, 40, .inr (.inr (.inr (.inr f_17))))), (seg, .inl (segt, 40, .inl f_19)), (sen, .inl (sent, 40, .inl f_20)), (ses, .inl (sest, 40, .inl sesf)), (sew, .inl (sewt, 40, .inr (.inr (.inr (.inr sewf)))))] H := hP
              have hD : va_D A [(se, .inr (5, [.ref sep, .ref seg, .ref sen, .ref ses, .ref sew, .int y_7, .int sei, .int seo, .int x_15, .int sec])), (sep, .inl (sept, 40, .inr (.inr (.inr (.inr f_17))))), (seg, .inl (segt, 40, .inl f_19)), (sen, .inl (sent, 40, .inl f_20)), (ses, .inl (sest, 40, .inl sesf)), (sew, .inl (sewt, 40, .inr (.inr (.inr (.inr sewf)))))] := hD
              have hK : va_K D vwCl [(sept, .object "FuneralUmbrellas$Word"), (segt, .int), (sent, .int), (sest, .int), (sewt, .object "FuneralUmbrellas$Word")] s := hK
              refine W.cs (cells' := 0) (slots' := 0) rfl rfl ?_
              refine W.eq (g2 := F0 m 66 ls (.int y_14 :: [])) rfl ?_
              refine lv_pop hx hb dX5_settleDownTo_66 rfl ?_
              obtain ⟨y_28, ey_28⟩ : ∃ y : Int32, y = v1_2 + 1 := ⟨_, rfl⟩
              have h_29 : z_in 1 40 y_28 := by rw [ey_28]; exact z_add h_3 (z_lit (x := 1) (a := 1) (b := 1) rfl) rfl rfl
              have ty_28 : y_28.toInt = v1_2.toInt + 1 := by rw [ey_28]; exact z_addT h_3 (z_lit (x := 1) (a := 1) (b := 1) rfl) rfl
              refine lv_iinc (v := y_28) (lv' := [(2, .int y_28), (3, .ref (ad w_9)), (0, .ref se), (1, .ref (ad w0))]) hx hb dX5_settleDownTo_67 hl (k := 1) rfl (by rw [ey_28]; rfl) (by decide) rfl (fun ls hl => ?_)
              refine lv_goto (tgt := 2) hx hb dX5_settleDownTo_70 (by decide) ?_
              exact ih1 y_28 y_7 x_15 f_19 f_20 f_17 _ _ _ (z_w (c := 0) (d := 40) h_29 rfl) (z_w (c := 0) (d := 40) h_8 rfl) h_16 h_18 h_26 (z_wcJ hI1_1 ty_7 (Int.le_trans (by decide) h_8.1) (Or.inl (ew_9.trans (by rw [h_12])))) (show _ ≤ _ by have q1 := ty_7; have q2 := ty_28; have q3 : _ ≤ _ := hI1_2; omega) (z_djIA hE.1.2 hI1_3 ty_7 (Int.le_trans (by decide) h_8.1) (ew_9.trans (by rw [h_12]))) (show z_nl9 set sel y_7 x_15 from by unfold z_nl9; have a1 := h_16.1; have b1 := h_16.2; have l1 := h_27; unfold z_l1 at l1; have a2 := hw1_2.1; have b2 := hw1_2.2; have l0 := hI1_4; unfold z_nl9 at l0; have a3 := h_6.1; have b3 := h_6.2; have a4 := hsel.1; have b4 := hsel.2; have a5 := hset.1; have b5 := hset.2; have r6 := ty_7; have a6 := h_8.1; have b6 := h_8.2; omega) (by omega) hP hD hS (lv_sub hl [0, 2, 3] rfl)
            · have h_30 : w_9 ≠ 13 := fun q9 => c_11 (by rw [q9])
              refine lv_aload_n hx hb dX5_settleDownTo_34 rfl (lv_at hl 0 rfl) ?_
              refine va_gets (v := .ref (ad 12)) hx hb (hE.1.1 12 (by decide)).1 hS hown (hts _ (List.mem_of_getElem? (i := 4) rfl)) (fun _ h9 => h9) dX5_settleDownTo_35 ?_
              refine W.eq (g2 := F0 m 38 ls (va_rf (some (ad 12)) :: va_rf (some (ad w_9)) :: [])) rfl ?_
              refine lv_acmp_ne (tgt := 48) hx hb dX5_settleDownTo_38 (by decide) (fun c_31 => ?_) (fun c_31 => ?_)
              · have h_32 : w_9 ≠ 12 := fun q9 => c_31 (by rw [q9])
                exact hret ([(se, .inr (5, [.ref sep, .ref seg, .ref sen, .ref ses, .ref sew, .int w1_1, .int sei, .int seo, .int w1_2, .int sec])), (sep, .inl (sept, 40, .inr (.inr (.inr (.inr g1_5))))), (seg, .inl (segt, 40, .inl g1_3)), (sen, .inl (sent, 40, .inl g1_4)), (ses, .inl (sest, 40, .inl sesf)), (sew, .inl (sewt, 40, .inr (.inr (.inr (.inr sewf)))))], []) _ _ _ _ dX5_settleDownTo_48 ⟨w1_1, w1_2, g1_5, g1_3, g1_4, (z_w (c := 0) (d := 40) h_6 rfl), hw1_2, hg1_5, hI1_0, hI1_1, (z_djr1 hE.1.2 hI1_3 ty_7 (Int.le_trans (by decide) h_8.1) (z_neW hE.1.2 ew_9 h_10 (by decide) h_30)), hI1_4, rfl⟩ hP (hK.sub [] rfl) hD hS
              · have h_33 : w_9 = 12 := (hE.1.2 w_9 12 h_10 (by decide) (Option.some.inj c_31))
                refine lv_aload_n hx hb dX5_settleDownTo_41 rfl (lv_at hl 3 rfl) ?_
                refine va_gets (v := .ref (ad 12)) hx hb (hE.1.1 12 (by decide)).1 hS hown (hts _ (List.mem_of_getElem? (i := 4) rfl)) (fun _ h9 => h9) dX5_settleDownTo_42 ?_
                refine W.eq (g2 := F0 m 45 ls (va_rf (some (ad 12)) :: va_rf (some (ad w0)) :: [])) rfl ?_
                refine lv_acmp_eq (tgt := 49) hx hb dX5_settleDownTo_45 (by decide) (fun h9 => absurd (hwq.symm.trans (hE.1.2 w0 12 hw0 (by decide) (Option.some.inj h9))) (by decide)) (fun _ => ?_)
                exact hret ([(se, .inr (5, [.ref sep, .ref seg, .ref sen, .ref ses, .ref sew, .int w1_1, .int sei, .int seo, .int w1_2, .int sec])), (sep, .inl (sept, 40, .inr (.inr (.inr (.inr g1_5))))), (seg, .inl (segt, 40, .inl g1_3)), (sen, .inl (sent, 40, .inl g1_4)), (ses, .inl (sest, 40, .inl sesf)), (sew, .inl (sewt, 40, .inr (.inr (.inr (.inr sewf)))))], []) _ _ _ _ dX5_settleDownTo_48 ⟨w1_1, w1_2, g1_5, g1_3, g1_4, (z_w (c := 0) (d := 40) h_6 rfl), hw1_2, hg1_5, hI1_0, hI1_1, (z_djr1 hE.1.2 hI1_3 ty_7 (Int.le_trans (by decide) h_8.1) (z_neW hE.1.2 ew_9 h_10 (by decide) (fun q9 => absurd (h_33.symm.trans q9) (by decide)))), hI1_4, rfl⟩ hP (hK.sub [] rfl) hD hS
  exact LP1 41 0 set sel segf senf sepf _ _ _ (z_w (c := 0) (d := 40) (z_lit (x := 0) (a := 0) (b := 0) rfl) rfl) hset hsel hsepf hwse hc0 (show _ ≤ _ by have q1 := hset.2; have q2 := (z_lit (x := 0) (a := 0) (b := 0) rfl).2; omega) z_djIr (show z_nl9 set sel set sel from by unfold z_nl9; have a1 := hsel.1; have b1 := hsel.2; have a2 := hset.1; have b2 := hset.2; omega) (by decide) hP hD hS (lv_sub hl [0, 1, 2] rfl)

set_option maxHeartbeats 8000000 in
set_option maxRecDepth 100000 in
theorem s_Sentence_settleDownToO (l : Launch) (D : va_G) (ad : Nat → Nat) (se : Nat) (set : Int32) (sei : Int32) (seo : Int32) (sel : Int32) (sec : Int32) (sep : Nat) (sept : ClassId) (sepf : Nat → Option Nat) (seg : Nat) (segt : ClassId) (segf : Nat → Int32) (sen : Nat) (sent : ClassId) (senf : Nat → Int32) (ses : Nat) (sest : ClassId) (sesf : Nat → Int32) (sew : Nat) (sewt : ClassId) (sewf : Nat → Option Nat) (w0 : Nat) (hset : z_in 0 40 set) (hseo : z_in 0 1 seo) (hsel : z_in 0 40 sel) (hsec : z_in 0 20 sec) (hsepf : z_wq ad sepf) (hsewf : z_wq ad sewf) (hw0 : w0 < 22) (hwse : z_wt ad sepf senf) (hc0 : z_wc ad sewf set sei) (hwq : z_weq w0 12) : z_Mv l yX5_settleDownTo wsX5_settleDownTo { frames := 1, cells := 0, slots := 0, locals := 23 } D ad [.ref se, .ref (ad w0)] [(se, .inr (5, [.ref sep, .ref seg, .ref sen, .ref ses, .ref sew, .int set, .int sei, .int seo, .int sel, .int sec])), (sep, .inl (sept, 40, .inr (.inr (.inr (.inr sepf))))), (seg, .inl (segt, 40, .inl segf)), (sen, .inl (sent, 40, .inl senf)), (ses, .inl (sest, 40, .inl sesf)), (sew, .inl (sewt, 40, .inr (.inr (.inr (.inr sewf)))))] [(sept, .object "FuneralUmbrellas$Word"), (segt, .int), (sent, .int), (sest, .int), (sewt, .object "FuneralUmbrellas$Word")] 0 0 (fun u9 => ∃ (x0_5 : Int32) (x0_8 : Int32) (x1_f : Nat → Option Nat) (x2_f : Nat → Int32) (x3_f : Nat → Int32), z_in 0 40 x0_5 ∧ z_in 0 40 x0_8 ∧ z_wq ad x1_f ∧ z_wt ad x1_f x3_f ∧ z_wc ad sewf x0_5 sei ∧ z_djr 2 ad sewf set x0_5 ∧ z_nl9 set sel x0_5 x0_8 ∧ u9 = ([(se, .inr (5, [.ref sep, .ref seg, .ref sen, .ref ses, .ref sew, .int x0_5, .int sei, .int seo, .int x0_8, .int sec])), (sep, .inl (sept, 40, .inr (.inr (.inr (.inr x1_f))))), (seg, .inl (segt, 40, .inl x2_f)), (sen, .inl (sent, 40, .inl x3_f)), (ses, .inl (sest, 40, .inl sesf)), (sew, .inl (sewt, 40, .inr (.inr (.inr (.inr sewf)))))], [])) := by
  refine z_ofV (cc := cX5_settleDownTo) (maxL := 4) (by decide) rfl (Nat.le_of_ble_eq_true rfl) ?_
  intro p e s m below meth c Q A ls hx hb hml hown hts hin hK hP hD hA hE hO hS hl hret
  have hown : s.vm.findClass RX5 = some m.cls := hown
  have hiX5 : ∀ w ∈ wsX50, w ∈ wsX5_settleDownTo := fun _ h9 => List.mem_cons_of_mem _ (List.mem_append_right _ h9)
  have hl : lv_has ls 4 [(0, .ref se), (1, .ref (ad w0))] := hl
  refine lv_iconst (v := 0) hx hb dX5_settleDownTo_0 (by decide) ?_
  refine lv_istore_n (lv' := [(2, .int 0), (0, .ref se), (1, .ref (ad w0))]) hx hb dX5_settleDownTo_1 rfl hl (by decide) rfl (fun ls hl => ?_)
  have LP1 : ∀ (n : Nat) (v1_2 : Int32) (w1_1 : Int32) (w1_2 : Int32) (g1_3 : Nat → Int32) (g1_4 : Nat → Int32) (g1_5 : Nat → Option Nat) (H : Heap) (locs : List Loc) (ls : Array Slot), z_in 0 40 v1_2 → z_in 0 40 w1_1 → z_in 0 40 w1_2 → z_wq ad g1_5 → z_wt ad g1_5 g1_4 → z_wc ad sewf w1_1 sei → z_sm w1_1 v1_2 → z_djI 2 ad sewf set w1_1 → z_nl9 set sel w1_1 w1_2 → 41 - v1_2.toInt ≤ (n : Int) → va_P D vwCl [(se, .inr (5, [.ref sep, .ref seg, .ref sen, .ref ses, .ref sew, .int w1_1, .int sei, .int seo, .int w1_2, .int sec])), (sep, .inl (sept, 40, .inr (.inr (.inr (.inr g1_5))))), (seg, .inl (segt, 40, .inl g1_3)), (sen, .inl (sent, 40, .inl g1_4)), (ses, .inl (sest, 40, .inl sesf)), (sew, .inl (sewt, 40, .inr (.inr (.inr (.inr sewf)))))] H → va_D A [(se, .inr (5, [.ref sep, .ref seg, .ref sen, .ref ses, .ref sew, .int w1_1, .int sei, .int seo, .int w1_2, .int sec])), (sep, .inl (sept, 40, .inr (.inr (.inr (.inr g1_5))))), (seg, .inl (segt, 40, .inl g1_3)), (sen, .inl (sent, 40, .inl g1_4)), (ses, .inl (sest, 40, .inl sesf)), (sew, .inl (sewt, 40, .inr (.inr (.inr (.inr sewf)))))] → va_S A s.heap H locs → lv_has ls 4 [(2, .int v1_2), (0, .ref se), (1, .ref (ad w0))] → W p l e ({ frames := 1, cells := 0, slots := 0, locals := 23 }) s m ([.ref se, .ref (ad w0)] : List Value).toArray below meth c H locs 0 0 Q (F0 m 2 ls []) := by
    intro n
    induction n with
    | zero => intro v1_2 w1_1 w1_2 g1_3 g1_4 g1_5 H locs ls hv1_2 hw1_1 hw1_2 hg1_5 hI1_0 hI1_1 hI1_2 hI1_3 hI1_4 hn1; exact absurd hn1 (by have q1 := hv1_2.1; have q2 := hv1_2.2; omega)
    | succ n ih1 =>
      intro v1_2 w1_1 w1_2 g1_3 g1_4 g1_5 H locs ls hv1_2 hw1_1 hw1_2 hg1_5 hI1_0 hI1_1 hI1_2 hI1_3 hI1_4 hn1 hP hD hS hl
      have q1 := hv1_2.1
      have q1' := hv1_2.2
      refine lv_iload_n hx hb dX5_settleDownTo_2 rfl (lv_at hl 0 rfl) ?_
      refine lv_bipush (v := 40) hx hb dX5_settleDownTo_3 (by decide) ?_
      refine lv_icmp_ge (tgt := 73) hx hb dX5_settleDownTo_5 (by decide) (fun c_1 => ?_) (fun c_1 => ?_)
      · skip
        have h_2 : z_in 40 40 v1_2 := z_leR c_1 (z_lit (x := 40) (a := 40) (b := 40) rfl) hv1_2 rfl
        exact hret ([(se, .inr (5, [.ref sep, .ref seg, .ref sen, .ref ses, .ref sew, .int w1_1, .int sei, .int seo, .int w1_2, .int sec])), (sep, .inl (sept, 40, .inr (.inr (.inr (.inr g1_5))))), (seg, .inl (segt, 40, .inl g1_3)), (sen, .inl (sent, 40, .inl g1_4)), (ses, .inl (sest, 40, .inl sesf)), (sew, .inl (sewt, 40, .inr (.inr (.inr (.inr sewf)))))], []) _ _ _ _ dX5_settleDownTo_73 ⟨w1_1, w1_2, g1_5, g1_3, g1_4, hw1_1, hw1_2, hg1_5, hI1_0, hI1_1, (z_djr0 hI1_3 (by have q1 := h_2.1; have q3 : _ ≤ _ := hI1_2; omega)), hI1_4, rfl⟩ hP (hK.sub [] rfl) hD hS
      · skip
        have h_3 : z_in 0 39 v1_2 := z_ltL (Int32.not_le.mp c_1) hv1_2 (z_lit (x := 40) (a := 40) (b := 40) rfl) rfl
        refine lv_aload_n hx hb dX5_settleDownTo_8 rfl (lv_at hl 1 rfl) ?_
        refine va_get (D := D) (ci := 5) (v := .int w1_1) (C := RX5) (T := TX5) (N := 10) hx hb hts hiX5 hown hK hP 0 rfl rfl 5 (by decide) (hts _ (List.mem_of_getElem? (i := 1) rfl)) (fun _ h9 => h9) rfl dX5_settleDownTo_9 ?_
        refine lv_if_le (tgt := 73) hx hb dX5_settleDownTo_12 (by decide) (fun c_4 => ?_) (fun c_4 => ?_)
        · skip
          have h_5 : z_in 0 0 w1_1 := z_leL c_4 hw1_1 (z_lit (x := 0) (a := 0) (b := 0) rfl) rfl
          exact hret ([(se, .inr (5, [.ref sep, .ref seg, .ref sen, .ref ses, .ref sew, .int w1_1, .int sei, .int seo, .int w1_2, .int sec])), (sep, .inl (sept, 40, .inr (.inr (.inr (.inr g1_5))))), (seg, .inl (segt, 40, .inl g1_3)), (sen, .inl (sent, 40, .inl g1_4)), (ses, .inl (sest, 40, .inl sesf)), (sew, .inl (sewt, 40, .inr (.inr (.inr (.inr sewf)))))], []) _ _ _ _ dX5_settleDownTo_73 ⟨w1_1, w1_2, g1_5, g1_3, g1_4, (z_w (c := 0) (d := 40) h_5 rfl), hw1_2, hg1_5, hI1_0, hI1_1, (z_djr0 hI1_3 (Int.le_trans h_5.2 (by decide))), hI1_4, rfl⟩ hP (hK.sub [] rfl) hD hS
        · skip
          have h_6 : z_in 1 40 w1_1 := z_ltR (Int32.not_le.mp c_4) (z_lit (x := 0) (a := 0) (b := 0) rfl) hw1_1 rfl
          refine lv_aload_n hx hb dX5_settleDownTo_15 rfl (lv_at hl 1 rfl) ?_
          refine va_get (D := D) (ci := 5) (v := .ref sew) (C := RX5) (T := TX5) (N := 10) hx hb hts hiX5 hown hK hP 0 rfl rfl 4 (by decide) (hts _ (List.mem_of_getElem? (i := 2) rfl)) (fun _ h9 => h9) rfl dX5_settleDownTo_16 ?_
          refine lv_aload_n hx hb dX5_settleDownTo_19 rfl (lv_at hl 1 rfl) ?_
          refine va_get (D := D) (ci := 5) (v := .int w1_1) (C := RX5) (T := TX5) (N := 10) hx hb hts hiX5 hown hK hP 0 rfl rfl 5 (by decide) (hts _ (List.mem_of_getElem? (i := 1) rfl)) (fun _ h9 => h9) rfl dX5_settleDownTo_20 ?_
          refine lv_iconst (v := 1) hx hb dX5_settleDownTo_23 (by decide) ?_
          refine lv_isub hx hb dX5_settleDownTo_24 ?_
          refine lv_topi (fun y_7 ey_7 => ?_)
          have h_8 : z_in 0 39 y_7 := by rw [ey_7]; exact z_sub h_6 (z_lit (x := 1) (a := 1) (b := 1) rfl) rfl rfl
          have ty_7 : y_7.toInt = w1_1.toInt + (-1) := by rw [ey_7]; exact (z_subT h_6 (z_lit (x := 1) (a := 1) (b := 1) rfl) rfl).trans rfl
          refine va_aldq hx hb hK hP 5 4 rfl rfl (z_vp h_8 rfl) dX5_settleDownTo_25 ?_
          rcases hsewf (y_7 : Int32).toNatClampNeg with e9 | ⟨w_9, h_10, ew_9⟩
          · rw [e9]
            refine W.eq (g2 := F0 m 26 ls (.null :: [])) rfl ?_
            refine lv_astore_nN (lv' := [(3, .null), (2, .int v1_2), (0, .ref se), (1, .ref (ad w0))]) hx hb dX5_settleDownTo_26 rfl hl (by decide) rfl (fun ls hl => ?_)
            refine lv_aload_nN hx hb dX5_settleDownTo_27 rfl (lv_at hl 0 rfl) ?_
            refine va_gets (v := .ref (ad 13)) hx hb (hE.1.1 13 (by decide)).1 hS hown (hts _ (List.mem_of_getElem? (i := 3) rfl)) (fun _ h9 => h9) dX5_settleDownTo_28 ?_
            refine W.eq (g2 := F0 m 31 ls (va_rf (some (ad 13)) :: va_rf (none) :: [])) rfl ?_
            refine lv_acmp_eq (tgt := 49) hx hb dX5_settleDownTo_31 (by decide) (fun h9 => by cases h9) (fun _ => ?_)
            refine lv_aload_nN hx hb dX5_settleDownTo_34 rfl (lv_at hl 0 rfl) ?_
            refine va_gets (v := .ref (ad 12)) hx hb (hE.1.1 12 (by decide)).1 hS hown (hts _ (List.mem_of_getElem? (i := 4) rfl)) (fun _ h9 => h9) dX5_settleDownTo_35 ?_
            refine W.eq (g2 := F0 m 38 ls (va_rf (some (ad 12)) :: va_rf (none) :: [])) rfl ?_
            refine lv_acmp_ne (tgt := 48) hx hb dX5_settleDownTo_38 (by decide) (fun _ => ?_) (fun h9 => by cases h9)
            exact hret ([(se, .inr (5, [.ref sep, .ref seg, .ref sen, .ref ses, .ref sew, .int w1_1, .int sei, .int seo, .int w1_2, .int sec])), (sep, .inl (sept, 40, .inr (.inr (.inr (.inr g1_5))))), (seg, .inl (segt, 40, .inl g1_3)), (sen, .inl (sent, 40, .inl g1_4)), (ses, .inl (sest, 40, .inl sesf)), (sew, .inl (sewt, 40, .inr (.inr (.inr (.inr sewf)))))], []) _ _ _ _ dX5_settleDownTo_48 ⟨w1_1, w1_2, g1_5, g1_3, g1_4, (z_w (c := 0) (d := 40) h_6 rfl), hw1_2, hg1_5, hI1_0, hI1_1, (z_djr2 hE.1.2 hI1_3 ty_7 (Int.le_trans (by decide) h_8.1) (z_neN e9) (z_neN e9)), hI1_4, rfl⟩ hP (hK.sub [] rfl) hD hS
          · rw [ew_9]
            refine W.eq (g2 := F0 m 26 ls (.ref (ad w_9) :: [])) rfl ?_
            refine lv_astore_n (lv' := [(3, .ref (ad w_9)), (2, .int v1_2), (0, .ref se), (1, .ref (ad w0))]) hx hb dX5_settleDownTo_26 rfl hl (by decide) rfl (fun ls hl => ?_)
            refine lv_aload_n hx hb dX5_settleDownTo_27 rfl (lv_at hl 0 rfl) ?_
            refine va_gets (v := .ref (ad 13)) hx hb (hE.1.1 13 (by decide)).1 hS hown (hts _ (List.mem_of_getElem? (i := 3) rfl)) (fun _ h9 => h9) dX5_settleDownTo_28 ?_
            refine W.eq (g2 := F0 m 31 ls (va_rf (some (ad 13)) :: va_rf (some (ad w_9)) :: [])) rfl ?_
            refine lv_acmp_eq (tgt := 49) hx hb dX5_settleDownTo_31 (by decide) (fun c_11 => ?_) (fun c_11 => ?_)
            · have h_12 : w_9 = 13 := (hE.1.2 w_9 13 h_10 (by decide) (Option.some.inj c_11))
              refine lv_aload_n hx hb dX5_settleDownTo_49 rfl (lv_at hl 2 rfl) ?_
              refine lv_dup hx hb dX5_settleDownTo_50 rfl ?_
              refine va_get (D := D) (ci := 5) (v := .int w1_1) (C := RX5) (T := TX5) (N := 10) hx hb hts hiX5 hown hK hP 0 rfl rfl 5 (by decide) (hts _ (List.mem_of_getElem? (i := 1) rfl)) (fun _ h9 => h9) rfl dX5_settleDownTo_51 ?_
              refine lv_iconst (v := 1) hx hb dX5_settleDownTo_54 (by decide) ?_
              refine lv_isub hx hb dX5_settleDownTo_55 ?_
              refine lv_topi (fun y_13 ey_13 => ?_)
              obtain rfl : y_7 = y_13 := ey_7.trans ey_13.symm
              refine va_put (D := D) (ci := 5) (v := .int y_7) (ty := tyX5 5) (C := RX5) (T := TX5) (N := 10) hx hb hts hiX5 tyX5 tyX5_ok nmX5 hown hK hP hD hS 0 rfl rfl 5 (by decide) (hts _ (List.mem_of_getElem? (i := 1) rfl)) (fun _ h9 => h9) rfl (tyX5_ok 5 (by decide)) rfl rfl (Nat.le_of_ble_eq_true rfl) dX5_settleDownTo_56 (fun H locs hP hD hS => ?_)
              have hP : va_P D vwCl [(se, .inr (5, [.ref sep, .ref seg, .ref sen, .ref ses, .ref sew, .int y_7, .int sei, .int seo, .int w1_2, .int sec])), (sep, .inl (sept, 40, .inr (.inr (.inr (.inr g1_5))))), (seg, .inl (segt, 40, .inl g1_3)), (sen, .inl (sent, 40, .inl g1_4)), (ses, .inl (sest, 40, .inl sesf)), (sew, .inl (sewt, 40, .inr (.inr (.inr (.inr sewf)))))] H := hP
              have hD : va_D A [(se, .inr (5, [.ref sep, .ref seg, .ref sen, .ref ses, .ref sew, .int y_7, .int sei, .int seo, .int w1_2, .int sec])), (sep, .inl (sept, 40, .inr (.inr (.inr (.inr g1_5))))), (seg, .inl (segt, 40, .inl g1_3)), (sen, .inl (sent, 40, .inl g1_4)), (ses, .inl (sest, 40, .inl sesf)), (sew, .inl (sewt, 40, .inr (.inr (.inr (.inr sewf)))))] := hD
              refine lv_aload_n hx hb dX5_settleDownTo_59 rfl (lv_at hl 2 rfl) ?_
              refine lv_aload_n hx hb dX5_settleDownTo_60 rfl (lv_at hl 0 rfl) ?_
              refine lv_iconst (v := 0) hx hb dX5_settleDownTo_61 (by decide) ?_
              refine lv_iconst (v := 0) hx hb dX5_settleDownTo_62 (by decide) ?_
              have hc9 := (w_Sentence_addStep l D ad se y_7 sei seo w1_2 sec sep sept g1_5 seg segt g1_3 sen sent g1_4 ses sest sesf sew sewt sewf w_9 0 0 (z_w (c := 0) (d := 40) h_8 rfl) hseo hw1_2 hsec hg1_5 hsewf h_10 hI1_0 (fun _ => (z_w (c := 0) (d := 5) (z_lit (x := 0) (a := 0) (b := 0) rfl) rfl)))
              refine z_calli (w0 := [(se, .inr (5, [.ref sep, .ref seg, .ref sen, .ref ses, .ref sew, .int y_7, .int sei, .int seo, .int w1_2, .int sec])), (sep, .inl (sept, 40, .inr (.inr (.inr (.inr g1_5))))), (seg, .inl (segt, 40, .inl g1_3)), (sen, .inl (sent, 40, .inl g1_4)), (ses, .inl (sest, 40, .inl sesf)), (sew, .inl (sewt, 40, .inr (.inr (.inr (.inr sewf)))))]) (wr := []) (va_runV (As := [.ref (ad w_9), .int 0, .int 0]) (rest := []) ⟨hx, hb, hml, hown, hts⟩ (hc9 _) (cwV 3 hts gX5_settleDownTo_X5_addStep rfl rfl rfl (by decide +kernel) ⟨Nat.le_of_ble_eq_true rfl, Nat.le_of_ble_eq_true rfl⟩) (z_preV hP hD hK hS hA hE hO [0, 1, 2, 3, 4, 5] [0, 1, 2, 3, 4] rfl (by decide +kernel) rfl 0 5 rfl rfl rfl) rfl rfl hl.1 rfl (lv_room (Nat.le_of_ble_eq_true rfl)) dX5_settleDownTo_63 ⟨Nat.le_of_ble_eq_true rfl, Nat.le_of_ble_eq_true rfl⟩) hP hD hK hS hA [0, 1, 2, 3, 4, 5] [] rfl rfl (by decide +kernel) (by decide +kernel) (fun y_14 u9 H locs hw hP hD hK hS => ?_)
              refine z_ex4 hw (fun x_15 f_17 f_19 f_20 hw => ?_)
              refine z_an9 hw (fun h_16 h_18 h_21 h_22 h_23 h_24 h_25 h_26 h_27 hw => ?_)
              subst hw
              have hP : va_P D vwCl [(se, .inr (5, [.ref sep, .ref seg, .ref sen, .ref ses, .ref sew, .int y_7, .int sei, .int seo, .int x_15, .int sec])), (sep, .inl (sept, 40, .inr (.inr (.inr (.inr f_17))))), (seg, .inl (segt, 40, .inl f_19)), (sen, .inl (sent, 40, .inl f_20)), (ses, .inl (sest, 40, .inl sesf)), (sew, .inl (sewt, 40, .inr (.inr (.inr (.inr sewf)))))] H := hP
              have hD : va_D A [(se, .inr (5, [.ref sep, .ref seg, .ref sen, .ref ses, .ref sew, .int y_7, .int sei, .int seo, .int x_15, .int sec])), (sep, .inl (sept, 40, .inr (.inr (.inr (.inr f_17))))), (seg, .inl (segt, 40, .inl f_19)), (sen, .inl (sent, 40, .inl f_20)), (ses, .inl (sest, 40, .inl sesf)), (sew, .inl (sewt, 40, .inr (.inr (.inr (.inr sewf)))))] := hD
              have hK : va_K D vwCl [(sept, .object "FuneralUmbrellas$Word"), (segt, .int), (sent, .int), (sest, .int), (sewt, .object "FuneralUmbrellas$Word")] s := hK
              refine W.cs (cells' := 0) (slots' := 0) rfl rfl ?_
              refine W.eq (g2 := F0 m 66 ls (.int y_14 :: [])) rfl ?_
              refine lv_pop hx hb dX5_settleDownTo_66 rfl ?_
              obtain ⟨y_28, ey_28⟩ : ∃ y : Int32, y = v1_2 + 1 := ⟨_, rfl⟩
              have h_29 : z_in 1 40 y_28 := by rw [ey_28]; exact z_add h_3 (z_lit (x := 1) (a := 1) (b := 1) rfl) rfl rfl
              have ty_28 : y_28.toInt = v1_2.toInt + 1 := by rw [ey_28]; exact z_addT h_3 (z_lit (x := 1) (a := 1) (b := 1) rfl) rfl
              refine lv_iinc (v := y_28) (lv' := [(2, .int y_28), (3, .ref (ad w_9)), (0, .ref se), (1, .ref (ad w0))]) hx hb dX5_settleDownTo_67 hl (k := 1) rfl (by rw [ey_28]; rfl) (by decide) rfl (fun ls hl => ?_)
              refine lv_goto (tgt := 2) hx hb dX5_settleDownTo_70 (by decide) ?_
              exact ih1 y_28 y_7 x_15 f_19 f_20 f_17 _ _ _ (z_w (c := 0) (d := 40) h_29 rfl) (z_w (c := 0) (d := 40) h_8 rfl) h_16 h_18 h_26 (z_wcJ hI1_1 ty_7 (Int.le_trans (by decide) h_8.1) (Or.inl (ew_9.trans (by rw [h_12])))) (show _ ≤ _ by have q1 := ty_7; have q2 := ty_28; have q3 : _ ≤ _ := hI1_2; omega) (z_djIA hE.1.2 hI1_3 ty_7 (Int.le_trans (by decide) h_8.1) (ew_9.trans (by rw [h_12]))) (show z_nl9 set sel y_7 x_15 from by unfold z_nl9; have a1 := h_16.1; have b1 := h_16.2; have l1 := h_27; unfold z_l1 at l1; have a2 := hw1_2.1; have b2 := hw1_2.2; have l0 := hI1_4; unfold z_nl9 at l0; have a3 := h_6.1; have b3 := h_6.2; have a4 := hsel.1; have b4 := hsel.2; have a5 := hset.1; have b5 := hset.2; have r6 := ty_7; have a6 := h_8.1; have b6 := h_8.2; omega) (by omega) hP hD hS (lv_sub hl [0, 2, 3] rfl)
            · have h_30 : w_9 ≠ 13 := fun q9 => c_11 (by rw [q9])
              refine lv_aload_n hx hb dX5_settleDownTo_34 rfl (lv_at hl 0 rfl) ?_
              refine va_gets (v := .ref (ad 12)) hx hb (hE.1.1 12 (by decide)).1 hS hown (hts _ (List.mem_of_getElem? (i := 4) rfl)) (fun _ h9 => h9) dX5_settleDownTo_35 ?_
              refine W.eq (g2 := F0 m 38 ls (va_rf (some (ad 12)) :: va_rf (some (ad w_9)) :: [])) rfl ?_
              refine lv_acmp_ne (tgt := 48) hx hb dX5_settleDownTo_38 (by decide) (fun c_31 => ?_) (fun c_31 => ?_)
              · have h_32 : w_9 ≠ 12 := fun q9 => c_31 (by rw [q9])
                exact hret ([(se, .inr (5, [.ref sep, .ref seg, .ref sen, .ref ses, .ref sew, .int w1_1, .int sei, .int seo, .int w1_2, .int sec])), (sep, .inl (sept, 40, .inr (.inr (.inr (.inr g1_5))))), (seg, .inl (segt, 40, .inl g1_3)), (sen, .inl (sent, 40, .inl g1_4)), (ses, .inl (sest, 40, .inl sesf)), (sew, .inl (sewt, 40, .inr (.inr (.inr (.inr sewf)))))], []) _ _ _ _ dX5_settleDownTo_48 ⟨w1_1, w1_2, g1_5, g1_3, g1_4, (z_w (c := 0) (d := 40) h_6 rfl), hw1_2, hg1_5, hI1_0, hI1_1, (z_djr2 hE.1.2 hI1_3 ty_7 (Int.le_trans (by decide) h_8.1) (z_neW hE.1.2 ew_9 h_10 (by decide) h_30) (z_neW hE.1.2 ew_9 h_10 (by decide) h_32)), hI1_4, rfl⟩ hP (hK.sub [] rfl) hD hS
              · have h_33 : w_9 = 12 := (hE.1.2 w_9 12 h_10 (by decide) (Option.some.inj c_31))
                refine lv_aload_n hx hb dX5_settleDownTo_41 rfl (lv_at hl 3 rfl) ?_
                refine va_gets (v := .ref (ad 12)) hx hb (hE.1.1 12 (by decide)).1 hS hown (hts _ (List.mem_of_getElem? (i := 4) rfl)) (fun _ h9 => h9) dX5_settleDownTo_42 ?_
                refine W.eq (g2 := F0 m 45 ls (va_rf (some (ad 12)) :: va_rf (some (ad w0)) :: [])) rfl ?_
                refine lv_acmp_eq (tgt := 49) hx hb dX5_settleDownTo_45 (by decide) (fun _ => ?_) (fun h9 => absurd (by rw [hwq]) h9)
                refine lv_aload_n hx hb dX5_settleDownTo_49 rfl (lv_at hl 2 rfl) ?_
                refine lv_dup hx hb dX5_settleDownTo_50 rfl ?_
                refine va_get (D := D) (ci := 5) (v := .int w1_1) (C := RX5) (T := TX5) (N := 10) hx hb hts hiX5 hown hK hP 0 rfl rfl 5 (by decide) (hts _ (List.mem_of_getElem? (i := 1) rfl)) (fun _ h9 => h9) rfl dX5_settleDownTo_51 ?_
                refine lv_iconst (v := 1) hx hb dX5_settleDownTo_54 (by decide) ?_
                refine lv_isub hx hb dX5_settleDownTo_55 ?_
                refine lv_topi (fun y_34 ey_34 => ?_)
                obtain rfl : y_7 = y_34 := ey_7.trans ey_34.symm
                refine va_put (D := D) (ci := 5) (v := .int y_7) (ty := tyX5 5) (C := RX5) (T := TX5) (N := 10) hx hb hts hiX5 tyX5 tyX5_ok nmX5 hown hK hP hD hS 0 rfl rfl 5 (by decide) (hts _ (List.mem_of_getElem? (i := 1) rfl)) (fun _ h9 => h9) rfl (tyX5_ok 5 (by decide)) rfl rfl (Nat.le_of_ble_eq_true rfl) dX5_settleDownTo_56 (fun H locs hP hD hS => ?_)
                have hP : va_P D vwCl [(se, .inr (5, [.ref sep, .ref seg, .ref sen, .ref ses, .ref sew, .int y_7, .int sei, .int seo, .int w1_2, .int sec])), (sep, .inl (sept, 40, .inr (.inr (.inr (.inr g1_5))))), (seg, .inl (segt, 40, .inl g1_3)), (sen, .inl (sent, 40, .inl g1_4)), (ses, .inl (sest, 40, .inl sesf)), (sew, .inl (sewt, 40, .inr (.inr (.inr (.inr sewf)))))] H := hP
                have hD : va_D A [(se, .inr (5, [.ref sep, .ref seg, .ref sen, .ref ses, .ref sew, .int y_7, .int sei, .int seo, .int w1_2, .int sec])), (sep, .inl (sept, 40, .inr (.inr (.inr (.inr g1_5))))), (seg, .inl (segt, 40, .inl g1_3)), (sen, .inl (sent, 40, .inl g1_4)), (ses, .inl (sest, 40, .inl sesf)), (sew, .inl (sewt, 40, .inr (.inr (.inr (.inr sewf)))))] := hD
                refine lv_aload_n hx hb dX5_settleDownTo_59 rfl (lv_at hl 2 rfl) ?_
                refine lv_aload_n hx hb dX5_settleDownTo_60 rfl (lv_at hl 0 rfl) ?_
                refine lv_iconst (v := 0) hx hb dX5_settleDownTo_61 (by decide) ?_
                refine lv_iconst (v := 0) hx hb dX5_settleDownTo_62 (by decide) ?_
                have hc9 := (w_Sentence_addStep l D ad se y_7 sei seo w1_2 sec sep sept g1_5 seg segt g1_3 sen sent g1_4 ses sest sesf sew sewt sewf w_9 0 0 (z_w (c := 0) (d := 40) h_8 rfl) hseo hw1_2 hsec hg1_5 hsewf h_10 hI1_0 (fun _ => (z_w (c := 0) (d := 5) (z_lit (x := 0) (a := 0) (b := 0) rfl) rfl)))
                refine z_calli (w0 := [(se, .inr (5, [.ref sep, .ref seg, .ref sen, .ref ses, .ref sew, .int y_7, .int sei, .int seo, .int w1_2, .int sec])), (sep, .inl (sept, 40, .inr (.inr (.inr (.inr g1_5))))), (seg, .inl (segt, 40, .inl g1_3)), (sen, .inl (sent, 40, .inl g1_4)), (ses, .inl (sest, 40, .inl sesf)), (sew, .inl (sewt, 40, .inr (.inr (.inr (.inr sewf)))))]) (wr := []) (va_runV (As := [.ref (ad w_9), .int 0, .int 0]) (rest := []) ⟨hx, hb, hml, hown, hts⟩ (hc9 _) (cwV 3 hts gX5_settleDownTo_X5_addStep rfl rfl rfl (by decide +kernel) ⟨Nat.le_of_ble_eq_true rfl, Nat.le_of_ble_eq_true rfl⟩) (z_preV hP hD hK hS hA hE hO [0, 1, 2, 3, 4, 5] [0, 1, 2, 3, 4] rfl (by decide +kernel) rfl 0 5 rfl rfl rfl) rfl rfl hl.1 rfl (lv_room (Nat.le_of_ble_eq_true rfl)) dX5_settleDownTo_63 ⟨Nat.le_of_ble_eq_true rfl, Nat.le_of_ble_eq_true rfl⟩) hP hD hK hS hA [0, 1, 2, 3, 4, 5] [] rfl rfl (by decide +kernel) (by decide +kernel) (fun y_35 u9 H locs hw hP hD hK hS => ?_)
                refine z_ex4 hw (fun x_36 f_38 f_40 f_41 hw => ?_)
                refine z_an9 hw (fun h_37 h_39 h_42 h_43 h_44 h_45 h_46 h_47 h_48 hw => ?_)
                subst hw
                have hP : va_P D vwCl [(se, .inr (5, [.ref sep, .ref seg, .ref sen, .ref ses, .ref sew, .int y_7, .int sei, .int seo, .int x_36, .int sec])), (sep, .inl (sept, 40, .inr (.inr (.inr (.inr f_38))))), (seg, .inl (segt, 40, .inl f_40)), (sen, .inl (sent, 40, .inl f_41)), (ses, .inl (sest, 40, .inl sesf)), (sew, .inl (sewt, 40, .inr (.inr (.inr (.inr sewf)))))] H := hP
                have hD : va_D A [(se, .inr (5, [.ref sep, .ref seg, .ref sen, .ref ses, .ref sew, .int y_7, .int sei, .int seo, .int x_36, .int sec])), (sep, .inl (sept, 40, .inr (.inr (.inr (.inr f_38))))), (seg, .inl (segt, 40, .inl f_40)), (sen, .inl (sent, 40, .inl f_41)), (ses, .inl (sest, 40, .inl sesf)), (sew, .inl (sewt, 40, .inr (.inr (.inr (.inr sewf)))))] := hD
                have hK : va_K D vwCl [(sept, .object "FuneralUmbrellas$Word"), (segt, .int), (sent, .int), (sest, .int), (sewt, .object "FuneralUmbrellas$Word")] s := hK
                refine W.cs (cells' := 0) (slots' := 0) rfl rfl ?_
                refine W.eq (g2 := F0 m 66 ls (.int y_35 :: [])) rfl ?_
                refine lv_pop hx hb dX5_settleDownTo_66 rfl ?_
                obtain ⟨y_49, ey_49⟩ : ∃ y : Int32, y = v1_2 + 1 := ⟨_, rfl⟩
                have h_50 : z_in 1 40 y_49 := by rw [ey_49]; exact z_add h_3 (z_lit (x := 1) (a := 1) (b := 1) rfl) rfl rfl
                have ty_49 : y_49.toInt = v1_2.toInt + 1 := by rw [ey_49]; exact z_addT h_3 (z_lit (x := 1) (a := 1) (b := 1) rfl) rfl
                refine lv_iinc (v := y_49) (lv' := [(2, .int y_49), (3, .ref (ad w_9)), (0, .ref se), (1, .ref (ad w0))]) hx hb dX5_settleDownTo_67 hl (k := 1) rfl (by rw [ey_49]; rfl) (by decide) rfl (fun ls hl => ?_)
                refine lv_goto (tgt := 2) hx hb dX5_settleDownTo_70 (by decide) ?_
                exact ih1 y_49 y_7 x_36 f_40 f_41 f_38 _ _ _ (z_w (c := 0) (d := 40) h_50 rfl) (z_w (c := 0) (d := 40) h_8 rfl) h_37 h_39 h_47 (z_wcJ hI1_1 ty_7 (Int.le_trans (by decide) h_8.1) (Or.inr (ew_9.trans (by rw [h_33])))) (show _ ≤ _ by have q1 := ty_7; have q2 := ty_49; have q3 : _ ≤ _ := hI1_2; omega) (z_djIO hE.1.2 hI1_3 ty_7 (Int.le_trans (by decide) h_8.1) (ew_9.trans (by rw [h_33]))) (show z_nl9 set sel y_7 x_36 from by unfold z_nl9; have a1 := h_37.1; have b1 := h_37.2; have l1 := h_48; unfold z_l1 at l1; have a2 := hw1_2.1; have b2 := hw1_2.2; have l0 := hI1_4; unfold z_nl9 at l0; have a3 := h_6.1; have b3 := h_6.2; have a4 := hsel.1; have b4 := hsel.2; have a5 := hset.1; have b5 := hset.2; have r6 := ty_7; have a6 := h_8.1; have b6 := h_8.2; omega) (by omega) hP hD hS (lv_sub hl [0, 2, 3] rfl)
  exact LP1 41 0 set sel segf senf sepf _ _ _ (z_w (c := 0) (d := 40) (z_lit (x := 0) (a := 0) (b := 0) rfl) rfl) hset hsel hsepf hwse hc0 (show _ ≤ _ by have q1 := hset.2; have q2 := (z_lit (x := 0) (a := 0) (b := 0) rfl).2; omega) z_djIr (show z_nl9 set sel set sel from by unfold z_nl9; have a1 := hsel.1; have b1 := hsel.2; have a2 := hset.1; have b2 := hset.2; omega) (by decide) hP hD hS (lv_sub hl [0, 1, 2] rfl)
