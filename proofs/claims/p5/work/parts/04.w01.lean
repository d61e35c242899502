theorem dX4_fate_0 : decode cX4_fate 0 = .ok (.aload_n 0, 1) := by decide +kernel
theorem dX4_fate_1 : decode cX4_fate 1 = .ok (.getfield 35, 3) := by decide +kernel
theorem dX4_fate_4 : decode cX4_fate 4 = .ok (.iload_n 1, 1) := by decide +kernel
theorem dX4_fate_5 : decode cX4_fate 5 = .ok (.ishr, 1) := by decide +kernel
theorem dX4_fate_6 : decode cX4_fate 6 = .ok (.iconst 1, 1) := by decide +kernel
theorem dX4_fate_7 : decode cX4_fate 7 = .ok (.iand, 1) := by decide +kernel
theorem dX4_fate_8 : decode cX4_fate 8 = .ok (.iconst 1, 1) := by decide +kernel
theorem dX4_fate_9 : decode cX4_fate 9 = .ok (.if_icmp .ne 5, 3) := by decide +kernel
theorem dX4_fate_12 : decode cX4_fate 12 = .ok (.iconst 1, 1) := by decide +kernel
theorem dX4_fate_13 : decode cX4_fate 13 = .ok (.ireturn, 1) := by decide +kernel
theorem dX4_fate_14 : decode cX4_fate 14 = .ok (.aload_n 0, 1) := by decide +kernel
theorem dX4_fate_15 : decode cX4_fate 15 = .ok (.getfield 24, 3) := by decide +kernel
theorem dX4_fate_18 : decode cX4_fate 18 = .ok (.getfield 67, 3) := by decide +kernel
theorem dX4_fate_21 : decode cX4_fate 21 = .ok (.iload_n 1, 1) := by decide +kernel
theorem dX4_fate_22 : decode cX4_fate 22 = .ok (.iaload, 1) := by decide +kernel
theorem dX4_fate_23 : decode cX4_fate 23 = .ok (.aload_n 0, 1) := by decide +kernel
theorem dX4_fate_24 : decode cX4_fate 24 = .ok (.getfield 28, 3) := by decide +kernel
theorem dX4_fate_27 : decode cX4_fate 27 = .ok (.if_icmp .le 7, 3) := by decide +kernel
theorem dX4_fate_30 : decode cX4_fate 30 = .ok (.iconst 0, 1) := by decide +kernel
theorem dX4_fate_31 : decode cX4_fate 31 = .ok (.goto 4, 3) := by decide +kernel
theorem dX4_fate_34 : decode cX4_fate 34 = .ok (.iconst 2, 1) := by decide +kernel
theorem dX4_fate_35 : decode cX4_fate 35 = .ok (.ireturn, 1) := by decide +kernel
theorem dX4_fated_0 : decode cX4_fated 0 = .ok (.iconst 0, 1) := by decide +kernel
theorem dX4_fated_1 : decode cX4_fated 1 = .ok (.istore_n 2, 1) := by decide +kernel
theorem dX4_fated_2 : decode cX4_fated 2 = .ok (.iconst 0, 1) := by decide +kernel
theorem dX4_fated_3 : decode cX4_fated 3 = .ok (.istore_n 3, 1) := by decide +kernel
theorem dX4_fated_4 : decode cX4_fated 4 = .ok (.iload_n 3, 1) := by decide +kernel
theorem dX4_fated_5 : decode cX4_fated 5 = .ok (.aload_n 0, 1) := by decide +kernel
theorem dX4_fated_6 : decode cX4_fated 6 = .ok (.getfield 24, 3) := by decide +kernel
theorem dX4_fated_9 : decode cX4_fated 9 = .ok (.getfield 70, 3) := by decide +kernel
theorem dX4_fated_12 : decode cX4_fated 12 = .ok (.if_icmp .ge 21, 3) := by decide +kernel
theorem dX4_fated_15 : decode cX4_fated 15 = .ok (.aload_n 0, 1) := by decide +kernel
theorem dX4_fated_16 : decode cX4_fated 16 = .ok (.iload_n 3, 1) := by decide +kernel
theorem dX4_fated_17 : decode cX4_fated 17 = .ok (.invokevirtual 73, 3) := by decide +kernel
theorem dX4_fated_20 : decode cX4_fated 20 = .ok (.iload_n 1, 1) := by decide +kernel
theorem dX4_fated_21 : decode cX4_fated 21 = .ok (.if_icmp .ne 6, 3) := by decide +kernel
theorem dX4_fated_24 : decode cX4_fated 24 = .ok (.iinc 2 1, 3) := by decide +kernel
theorem dX4_fated_27 : decode cX4_fated 27 = .ok (.iinc 3 1, 3) := by decide +kernel
theorem dX4_fated_30 : decode cX4_fated 30 = .ok (.goto (-26), 3) := by decide +kernel
theorem dX4_fated_33 : decode cX4_fated 33 = .ok (.iload_n 2, 1) := by decide +kernel
theorem dX4_fated_34 : decode cX4_fated 34 = .ok (.ireturn, 1) := by decide +kernel
theorem dX4_aheadOf_0 : decode cX4_aheadOf 0 = .ok (.iconst 0, 1) := by decide +kernel
theorem dX4_aheadOf_1 : decode cX4_aheadOf 1 = .ok (.istore_n 2, 1) := by decide +kernel
theorem dX4_aheadOf_2 : decode cX4_aheadOf 2 = .ok (.iconst 0, 1) := by decide +kernel
theorem dX4_aheadOf_3 : decode cX4_aheadOf 3 = .ok (.istore_n 3, 1) := by decide +kernel
theorem dX4_aheadOf_4 : decode cX4_aheadOf 4 = .ok (.iload_n 3, 1) := by decide +kernel
theorem dX4_aheadOf_5 : decode cX4_aheadOf 5 = .ok (.aload_n 0, 1) := by decide +kernel
theorem dX4_aheadOf_6 : decode cX4_aheadOf 6 = .ok (.getfield 24, 3) := by decide +kernel
theorem dX4_aheadOf_9 : decode cX4_aheadOf 9 = .ok (.getfield 70, 3) := by decide +kernel
theorem dX4_aheadOf_12 : decode cX4_aheadOf 12 = .ok (.if_icmp .ge 33, 3) := by decide +kernel
theorem dX4_aheadOf_15 : decode cX4_aheadOf 15 = .ok (.aload_n 0, 1) := by decide +kernel
theorem dX4_aheadOf_16 : decode cX4_aheadOf 16 = .ok (.getfield 24, 3) := by decide +kernel
theorem dX4_aheadOf_19 : decode cX4_aheadOf 19 = .ok (.getfield 77, 3) := by decide +kernel
theorem dX4_aheadOf_22 : decode cX4_aheadOf 22 = .ok (.iload_n 3, 1) := by decide +kernel
theorem dX4_aheadOf_23 : decode cX4_aheadOf 23 = .ok (.iaload, 1) := by decide +kernel
theorem dX4_aheadOf_24 : decode cX4_aheadOf 24 = .ok (.iload_n 1, 1) := by decide +kernel
theorem dX4_aheadOf_25 : decode cX4_aheadOf 25 = .ok (.if_icmp .ne 14, 3) := by decide +kernel
theorem dX4_aheadOf_28 : decode cX4_aheadOf 28 = .ok (.aload_n 0, 1) := by decide +kernel
theorem dX4_aheadOf_29 : decode cX4_aheadOf 29 = .ok (.iload_n 3, 1) := by decide +kernel
theorem dX4_aheadOf_30 : decode cX4_aheadOf 30 = .ok (.invokevirtual 73, 3) := by decide +kernel
theorem dX4_aheadOf_33 : decode cX4_aheadOf 33 = .ok (.ifCond .ne 6, 3) := by decide +kernel
theorem dX4_aheadOf_36 : decode cX4_aheadOf 36 = .ok (.iinc 2 1, 3) := by decide +kernel
theorem dX4_aheadOf_39 : decode cX4_aheadOf 39 = .ok (.iinc 3 1, 3) := by decide +kernel
theorem dX4_aheadOf_42 : decode cX4_aheadOf 42 = .ok (.goto (-38), 3) := by decide +kernel
theorem dX4_aheadOf_45 : decode cX4_aheadOf 45 = .ok (.iload_n 2, 1) := by decide +kernel
theorem dX4_aheadOf_46 : decode cX4_aheadOf 46 = .ok (.ireturn, 1) := by decide +kernel
theorem dX4_soonest_0 : decode cX4_soonest 0 = .ok (.sipush 1000, 3) := by decide +kernel
theorem dX4_soonest_3 : decode cX4_soonest 3 = .ok (.istore_n 2, 1) := by decide +kernel
theorem dX4_soonest_4 : decode cX4_soonest 4 = .ok (.iconst 0, 1) := by decide +kernel
theorem dX4_soonest_5 : decode cX4_soonest 5 = .ok (.istore_n 3, 1) := by decide +kernel
theorem dX4_soonest_6 : decode cX4_soonest 6 = .ok (.iload_n 3, 1) := by decide +kernel
theorem dX4_soonest_7 : decode cX4_soonest 7 = .ok (.aload_n 0, 1) := by decide +kernel
theorem dX4_soonest_8 : decode cX4_soonest 8 = .ok (.getfield 24, 3) := by decide +kernel
theorem dX4_soonest_11 : decode cX4_soonest 11 = .ok (.getfield 70, 3) := by decide +kernel
theorem dX4_soonest_14 : decode cX4_soonest 14 = .ok (.if_icmp .ge 49, 3) := by decide +kernel
theorem dX4_soonest_17 : decode cX4_soonest 17 = .ok (.aload_n 0, 1) := by decide +kernel
theorem dX4_soonest_18 : decode cX4_soonest 18 = .ok (.getfield 24, 3) := by decide +kernel
theorem dX4_soonest_21 : decode cX4_soonest 21 = .ok (.getfield 77, 3) := by decide +kernel
theorem dX4_soonest_24 : decode cX4_soonest 24 = .ok (.iload_n 3, 1) := by decide +kernel
theorem dX4_soonest_25 : decode cX4_soonest 25 = .ok (.iaload, 1) := by decide +kernel
theorem dX4_soonest_26 : decode cX4_soonest 26 = .ok (.iload_n 1, 1) := by decide +kernel
theorem dX4_soonest_27 : decode cX4_soonest 27 = .ok (.if_icmp .ne 30, 3) := by decide +kernel
theorem dX4_soonest_30 : decode cX4_soonest 30 = .ok (.aload_n 0, 1) := by decide +kernel
theorem dX4_soonest_31 : decode cX4_soonest 31 = .ok (.iload_n 3, 1) := by decide +kernel
theorem dX4_soonest_32 : decode cX4_soonest 32 = .ok (.invokevirtual 73, 3) := by decide +kernel
theorem dX4_soonest_35 : decode cX4_soonest 35 = .ok (.ifCond .ne 22, 3) := by decide +kernel
theorem dX4_soonest_38 : decode cX4_soonest 38 = .ok (.iload_n 2, 1) := by decide +kernel
theorem dX4_soonest_39 : decode cX4_soonest 39 = .ok (.aload_n 0, 1) := by decide +kernel
theorem dX4_soonest_40 : decode cX4_soonest 40 = .ok (.getfield 24, 3) := by decide +kernel
theorem dX4_soonest_43 : decode cX4_soonest 43 = .ok (.getfield 67, 3) := by decide +kernel
theorem dX4_soonest_46 : decode cX4_soonest 46 = .ok (.iload_n 3, 1) := by decide +kernel
theorem dX4_soonest_47 : decode cX4_soonest 47 = .ok (.iaload, 1) := by decide +kernel
theorem dX4_soonest_48 : decode cX4_soonest 48 = .ok (.aload_n 0, 1) := by decide +kernel
theorem dX4_soonest_49 : decode cX4_soonest 49 = .ok (.getfield 28, 3) := by decide +kernel
theorem dX4_soonest_52 : decode cX4_soonest 52 = .ok (.isub, 1) := by decide +kernel
theorem dX4_soonest_53 : decode cX4_soonest 53 = .ok (.invokestatic 80, 3) := by decide +kernel
theorem dX4_soonest_56 : decode cX4_soonest 56 = .ok (.istore_n 2, 1) := by decide +kernel
theorem dX4_soonest_57 : decode cX4_soonest 57 = .ok (.iinc 3 1, 3) := by decide +kernel
theorem dX4_soonest_60 : decode cX4_soonest 60 = .ok (.goto (-54), 3) := by decide +kernel
theorem dX4_soonest_63 : decode cX4_soonest 63 = .ok (.iload_n 2, 1) := by decide +kernel
theorem dX4_soonest_64 : decode cX4_soonest 64 = .ok (.ireturn, 1) := by decide +kernel
theorem dX4_weptBy_0 : decode cX4_weptBy 0 = .ok (.iconst 0, 1) := by decide +kernel
theorem dX4_weptBy_1 : decode cX4_weptBy 1 = .ok (.istore_n 2, 1) := by decide +kernel
theorem dX4_weptBy_2 : decode cX4_weptBy 2 = .ok (.iconst 0, 1) := by decide +kernel
theorem dX4_weptBy_3 : decode cX4_weptBy 3 = .ok (.istore_n 3, 1) := by decide +kernel
theorem dX4_weptBy_4 : decode cX4_weptBy 4 = .ok (.iload_n 3, 1) := by decide +kernel
theorem dX4_weptBy_5 : decode cX4_weptBy 5 = .ok (.aload_n 0, 1) := by decide +kernel
theorem dX4_weptBy_6 : decode cX4_weptBy 6 = .ok (.getfield 24, 3) := by decide +kernel
theorem dX4_weptBy_9 : decode cX4_weptBy 9 = .ok (.getfield 70, 3) := by decide +kernel
theorem dX4_weptBy_12 : decode cX4_weptBy 12 = .ok (.if_icmp .ge 43, 3) := by decide +kernel
theorem dX4_weptBy_15 : decode cX4_weptBy 15 = .ok (.aload_n 0, 1) := by decide +kernel
theorem dX4_weptBy_16 : decode cX4_weptBy 16 = .ok (.getfield 24, 3) := by decide +kernel
theorem dX4_weptBy_19 : decode cX4_weptBy 19 = .ok (.getfield 77, 3) := by decide +kernel
theorem dX4_weptBy_22 : decode cX4_weptBy 22 = .ok (.iload_n 3, 1) := by decide +kernel
theorem dX4_weptBy_23 : decode cX4_weptBy 23 = .ok (.iaload, 1) := by decide +kernel
theorem dX4_weptBy_24 : decode cX4_weptBy 24 = .ok (.iload_n 1, 1) := by decide +kernel
theorem dX4_weptBy_25 : decode cX4_weptBy 25 = .ok (.if_icmp .ne 24, 3) := by decide +kernel
theorem dX4_weptBy_28 : decode cX4_weptBy 28 = .ok (.aload_n 0, 1) := by decide +kernel
theorem dX4_weptBy_29 : decode cX4_weptBy 29 = .ok (.iload_n 3, 1) := by decide +kernel
theorem dX4_weptBy_30 : decode cX4_weptBy 30 = .ok (.invokevirtual 73, 3) := by decide +kernel
theorem dX4_weptBy_33 : decode cX4_weptBy 33 = .ok (.iconst 2, 1) := by decide +kernel
theorem dX4_weptBy_34 : decode cX4_weptBy 34 = .ok (.if_icmp .ne 15, 3) := by decide +kernel
theorem dX4_weptBy_37 : decode cX4_weptBy 37 = .ok (.iload_n 2, 1) := by decide +kernel
theorem dX4_weptBy_38 : decode cX4_weptBy 38 = .ok (.aload_n 0, 1) := by decide +kernel
theorem dX4_weptBy_39 : decode cX4_weptBy 39 = .ok (.getfield 24, 3) := by decide +kernel
theorem dX4_weptBy_42 : decode cX4_weptBy 42 = .ok (.getfield 86, 3) := by decide +kernel
theorem dX4_weptBy_45 : decode cX4_weptBy 45 = .ok (.iload_n 3, 1) := by decide +kernel
theorem dX4_weptBy_46 : decode cX4_weptBy 46 = .ok (.iaload, 1) := by decide +kernel
theorem dX4_weptBy_47 : decode cX4_weptBy 47 = .ok (.iadd, 1) := by decide +kernel
theorem dX4_weptBy_48 : decode cX4_weptBy 48 = .ok (.istore_n 2, 1) := by decide +kernel
theorem dX4_weptBy_49 : decode cX4_weptBy 49 = .ok (.iinc 3 1, 3) := by decide +kernel
theorem dX4_weptBy_52 : decode cX4_weptBy 52 = .ok (.goto (-48), 3) := by decide +kernel
theorem dX4_weptBy_55 : decode cX4_weptBy 55 = .ok (.iload_n 2, 1) := by decide +kernel
theorem dX4_weptBy_56 : decode cX4_weptBy 56 = .ok (.ireturn, 1) := by decide +kernel
theorem dX4_weptByAll_0 : decode cX4_weptByAll 0 = .ok (.aload_n 0, 1) := by decide +kernel
theorem dX4_weptByAll_1 : decode cX4_weptByAll 1 = .ok (.iconst 2, 1) := by decide +kernel
theorem dX4_weptByAll_2 : decode cX4_weptByAll 2 = .ok (.invokevirtual 89, 3) := by decide +kernel
theorem dX4_weptByAll_5 : decode cX4_weptByAll 5 = .ok (.ireturn, 1) := by decide +kernel
theorem dX4_sparedInAll_0 : decode cX4_sparedInAll 0 = .ok (.aload_n 0, 1) := by decide +kernel
theorem dX4_sparedInAll_1 : decode cX4_sparedInAll 1 = .ok (.iconst 1, 1) := by decide +kernel
theorem dX4_sparedInAll_2 : decode cX4_sparedInAll 2 = .ok (.invokevirtual 89, 3) := by decide +kernel
theorem dX4_sparedInAll_5 : decode cX4_sparedInAll 5 = .ok (.ireturn, 1) := by decide +kernel
theorem dX4_sumOf_0 : decode cX4_sumOf 0 = .ok (.iconst 0, 1) := by decide +kernel
theorem dX4_sumOf_1 : decode cX4_sumOf 1 = .ok (.istore_n 2, 1) := by decide +kernel
theorem dX4_sumOf_2 : decode cX4_sumOf 2 = .ok (.iconst 0, 1) := by decide +kernel
theorem dX4_sumOf_3 : decode cX4_sumOf 3 = .ok (.istore_n 3, 1) := by decide +kernel
theorem dX4_sumOf_4 : decode cX4_sumOf 4 = .ok (.iload_n 3, 1) := by decide +kernel
theorem dX4_sumOf_5 : decode cX4_sumOf 5 = .ok (.aload_n 0, 1) := by decide +kernel
theorem dX4_sumOf_6 : decode cX4_sumOf 6 = .ok (.getfield 24, 3) := by decide +kernel
theorem dX4_sumOf_9 : decode cX4_sumOf 9 = .ok (.getfield 70, 3) := by decide +kernel
theorem dX4_sumOf_12 : decode cX4_sumOf 12 = .ok (.if_icmp .ge 30, 3) := by decide +kernel
theorem dX4_sumOf_15 : decode cX4_sumOf 15 = .ok (.aload_n 0, 1) := by decide +kernel
theorem dX4_sumOf_16 : decode cX4_sumOf 16 = .ok (.iload_n 3, 1) := by decide +kernel
theorem dX4_sumOf_17 : decode cX4_sumOf 17 = .ok (.invokevirtual 73, 3) := by decide +kernel
theorem dX4_sumOf_20 : decode cX4_sumOf 20 = .ok (.iload_n 1, 1) := by decide +kernel
theorem dX4_sumOf_21 : decode cX4_sumOf 21 = .ok (.if_icmp .ne 15, 3) := by decide +kernel
theorem dX4_sumOf_24 : decode cX4_sumOf 24 = .ok (.iload_n 2, 1) := by decide +kernel
theorem dX4_sumOf_25 : decode cX4_sumOf 25 = .ok (.aload_n 0, 1) := by decide +kernel
theorem dX4_sumOf_26 : decode cX4_sumOf 26 = .ok (.getfield 24, 3) := by decide +kernel
theorem dX4_sumOf_29 : decode cX4_sumOf 29 = .ok (.getfield 86, 3) := by decide +kernel
theorem dX4_sumOf_32 : decode cX4_sumOf 32 = .ok (.iload_n 3, 1) := by decide +kernel
theorem dX4_sumOf_33 : decode cX4_sumOf 33 = .ok (.iaload, 1) := by decide +kernel
theorem dX4_sumOf_34 : decode cX4_sumOf 34 = .ok (.iadd, 1) := by decide +kernel
theorem dX4_sumOf_35 : decode cX4_sumOf 35 = .ok (.istore_n 2, 1) := by decide +kernel
theorem dX4_sumOf_36 : decode cX4_sumOf 36 = .ok (.iinc 3 1, 3) := by decide +kernel
theorem dX4_sumOf_39 : decode cX4_sumOf 39 = .ok (.goto (-35), 3) := by decide +kernel
theorem dX4_sumOf_42 : decode cX4_sumOf 42 = .ok (.iload_n 2, 1) := by decide +kernel
theorem dX4_sumOf_43 : decode cX4_sumOf 43 = .ok (.ireturn, 1) := by decide +kernel
theorem dX8_heeds_0 : decode cX8_heeds 0 = .ok (.aload_n 0, 1) := by decide +kernel
theorem dX8_heeds_1 : decode cX8_heeds 1 = .ok (.getfield 49, 3) := by decide +kernel
theorem dX8_heeds_4 : decode cX8_heeds 4 = .ok (.iload_n 1, 1) := by decide +kernel
theorem dX8_heeds_5 : decode cX8_heeds 5 = .ok (.ishr, 1) := by decide +kernel
theorem dX8_heeds_6 : decode cX8_heeds 6 = .ok (.iconst 1, 1) := by decide +kernel
theorem dX8_heeds_7 : decode cX8_heeds 7 = .ok (.iand, 1) := by decide +kernel
theorem dX8_heeds_8 : decode cX8_heeds 8 = .ok (.iconst 1, 1) := by decide +kernel
theorem dX8_heeds_9 : decode cX8_heeds 9 = .ok (.if_icmp .ne 7, 3) := by decide +kernel
theorem dX8_heeds_12 : decode cX8_heeds 12 = .ok (.iconst 1, 1) := by decide +kernel
theorem dX8_heeds_13 : decode cX8_heeds 13 = .ok (.goto 4, 3) := by decide +kernel
theorem dX8_heeds_16 : decode cX8_heeds 16 = .ok (.iconst 0, 1) := by decide +kernel
theorem dX8_heeds_17 : decode cX8_heeds 17 = .ok (.ireturn, 1) := by decide +kernel
set_option maxRecDepth 20000 in
theorem ggX4_fated_X4_fate : GoodIn wsX4_fated wsX4_fate := goodIn_r _ [7, 8, 1, 9, 10, 11, 12, 13, 14, 15, 16, 17, 18, 19, 20, 21, 22, 23, 24, 25, 26, 27, 28, 29, 30] rfl (by decide +kernel)
set_option maxRecDepth 20000 in
theorem gX4_fated_X4_fate : GoodIn wsX4_fated (wsV RX4 73 RX4 yX4_fate wsX4_fate) := goodIn_app (a := [.methodLink RX4 73 yX4_fate, .instanceMethod yX4_fate, .selects RX4 yX4_fate yX4_fate, .initialized RX4]) (g_c9 (List.mem_cons_of_mem _ (List.mem_append_left _ (List.mem_append_left _ (List.mem_of_getElem? (i := 2) rfl)))) rfl (g_c9 (List.mem_cons_of_mem _ (List.mem_append_left _ (List.mem_append_left _ (List.mem_of_getElem? (i := 3) rfl)))) rfl (g_c9 (List.mem_cons_of_mem _ (List.mem_append_left _ (List.mem_append_left _ (List.mem_of_getElem? (i := 4) rfl)))) rfl (g_c9 (List.mem_cons_of_mem _ (List.mem_append_left _ (List.mem_append_left _ (List.mem_of_getElem? (i := 5) rfl)))) rfl g_n9)))) ggX4_fated_X4_fate
set_option maxRecDepth 20000 in
theorem ggX4_aheadOf_X4_fate : GoodIn wsX4_aheadOf wsX4_fate := goodIn_r _ [8, 9, 1, 10, 11, 12, 13, 14, 15, 16, 17, 18, 19, 20, 21, 22, 23, 24, 25, 26, 27, 28, 29, 30, 31] rfl (by decide +kernel)
set_option maxRecDepth 20000 in
theorem gX4_aheadOf_X4_fate : GoodIn wsX4_aheadOf (wsV RX4 73 RX4 yX4_fate wsX4_fate) := goodIn_app (a := [.methodLink RX4 73 yX4_fate, .instanceMethod yX4_fate, .selects RX4 yX4_fate yX4_fate, .initialized RX4]) (g_c9 (List.mem_cons_of_mem _ (List.mem_append_left _ (List.mem_append_left _ (List.mem_of_getElem? (i := 3) rfl)))) rfl (g_c9 (List.mem_cons_of_mem _ (List.mem_append_left _ (List.mem_append_left _ (List.mem_of_getElem? (i := 4) rfl)))) rfl (g_c9 (List.mem_cons_of_mem _ (List.mem_append_left _ (List.mem_append_left _ (List.mem_of_getElem? (i := 5) rfl)))) rfl (g_c9 (List.mem_cons_of_mem _ (List.mem_append_left _ (List.mem_append_left _ (List.mem_of_getElem? (i := 6) rfl)))) rfl g_n9)))) ggX4_aheadOf_X4_fate
set_option maxRecDepth 20000 in
theorem ggX4_soonest_X4_fate : GoodIn wsX4_soonest wsX4_fate := goodIn_r _ [14, 15, 1, 4, 5, 16, 17, 18, 19, 20, 21, 22, 23, 24, 25, 26, 27, 28, 29, 30, 31, 32, 33, 34, 35] rfl (by decide +kernel)
set_option maxRecDepth 20000 in
theorem gX4_soonest_X4_fate : GoodIn wsX4_soonest (wsV RX4 73 RX4 yX4_fate wsX4_fate) := goodIn_app (a := [.methodLink RX4 73 yX4_fate, .instanceMethod yX4_fate, .selects RX4 yX4_fate yX4_fate, .initialized RX4]) (g_c9 (List.mem_cons_of_mem _ (List.mem_append_left _ (List.mem_append_left _ (List.mem_of_getElem? (i := 9) rfl)))) rfl (g_c9 (List.mem_cons_of_mem _ (List.mem_append_left _ (List.mem_append_left _ (List.mem_of_getElem? (i := 10) rfl)))) rfl (g_c9 (List.mem_cons_of_mem _ (List.mem_append_left _ (List.mem_append_left _ (List.mem_of_getElem? (i := 11) rfl)))) rfl (g_c9 (List.mem_cons_of_mem _ (List.mem_append_left _ (List.mem_append_left _ (List.mem_of_getElem? (i := 12) rfl)))) rfl g_n9)))) ggX4_soonest_X4_fate
set_option maxRecDepth 20000 in
theorem ggX4_weptBy_X4_fate : GoodIn wsX4_weptBy wsX4_fate := goodIn_r _ [9, 10, 1, 11, 12, 13, 14, 15, 16, 17, 18, 19, 20, 21, 22, 23, 24, 25, 26, 27, 28, 29, 30, 31, 32] rfl (by decide +kernel)
set_option maxRecDepth 20000 in
theorem gX4_weptBy_X4_fate : GoodIn wsX4_weptBy (wsV RX4 73 RX4 yX4_fate wsX4_fate) := goodIn_app (a := [.methodLink RX4 73 yX4_fate, .instanceMethod yX4_fate, .selects RX4 yX4_fate yX4_fate, .initialized RX4]) (g_c9 (List.mem_cons_of_mem _ (List.mem_append_left _ (List.mem_append_left _ (List.mem_of_getElem? (i := 4) rfl)))) rfl (g_c9 (List.mem_cons_of_mem _ (List.mem_append_left _ (List.mem_append_left _ (List.mem_of_getElem? (i := 5) rfl)))) rfl (g_c9 (List.mem_cons_of_mem _ (List.mem_append_left _ (List.mem_append_left _ (List.mem_of_getElem? (i := 6) rfl)))) rfl (g_c9 (List.mem_cons_of_mem _ (List.mem_append_left _ (List.mem_append_left _ (List.mem_of_getElem? (i := 7) rfl)))) rfl g_n9)))) ggX4_weptBy_X4_fate
set_option maxRecDepth 20000 in
theorem ggX4_weptByAll_X4_sumOf : GoodIn wsX4_weptByAll wsX4_sumOf := goodIn_r _ [5, 6, 7, 8, 9, 10, 11, 4, 12, 13, 14, 15, 16, 17, 18, 19, 20, 21, 22, 23, 24, 25, 26, 27, 28, 29, 30, 31, 32, 33, 34, 35] rfl (by decide +kernel)
set_option maxRecDepth 20000 in
theorem gX4_weptByAll_X4_sumOf : GoodIn wsX4_weptByAll (wsV RX4 89 RX4 yX4_sumOf wsX4_sumOf) := goodIn_app (a := [.methodLink RX4 89 yX4_sumOf, .instanceMethod yX4_sumOf, .selects RX4 yX4_sumOf yX4_sumOf, .initialized RX4]) (g_c9 (List.mem_cons_of_mem _ (List.mem_append_left _ (List.mem_append_left _ (List.mem_of_getElem? (i := 0) rfl)))) rfl (g_c9 (List.mem_cons_of_mem _ (List.mem_append_left _ (List.mem_append_left _ (List.mem_of_getElem? (i := 1) rfl)))) rfl (g_c9 (List.mem_cons_of_mem _ (List.mem_append_left _ (List.mem_append_left _ (List.mem_of_getElem? (i := 2) rfl)))) rfl (g_c9 (List.mem_cons_of_mem _ (List.mem_append_left _ (List.mem_append_left _ (List.mem_of_getElem? (i := 3) rfl)))) rfl g_n9)))) ggX4_weptByAll_X4_sumOf
set_option maxRecDepth 20000 in
theorem ggX4_sparedInAll_X4_sumOf : GoodIn wsX4_sparedInAll wsX4_sumOf := goodIn_r _ [5, 6, 7, 8, 9, 10, 11, 4, 12, 13, 14, 15, 16, 17, 18, 19, 20, 21, 22, 23, 24, 25, 26, 27, 28, 29, 30, 31, 32, 33, 34, 35] rfl (by decide +kernel)
set_option maxRecDepth 20000 in
theorem gX4_sparedInAll_X4_sumOf : GoodIn wsX4_sparedInAll (wsV RX4 89 RX4 yX4_sumOf wsX4_sumOf) := goodIn_app (a := [.methodLink RX4 89 yX4_sumOf, .instanceMethod yX4_sumOf, .selects RX4 yX4_sumOf yX4_sumOf, .initialized RX4]) (g_c9 (List.mem_cons_of_mem _ (List.mem_append_left _ (List.mem_append_left _ (List.mem_of_getElem? (i := 0) rfl)))) rfl (g_c9 (List.mem_cons_of_mem _ (List.mem_append_left _ (List.mem_append_left _ (List.mem_of_getElem? (i := 1) rfl)))) rfl (g_c9 (List.mem_cons_of_mem _ (List.mem_append_left _ (List.mem_append_left _ (List.mem_of_getElem? (i := 2) rfl)))) rfl (g_c9 (List.mem_cons_of_mem _ (List.mem_append_left _ (List.mem_append_left _ (List.mem_of_getElem? (i := 3) rfl)))) rfl g_n9)))) ggX4_sparedInAll_X4_sumOf
set_option maxRecDepth 20000 in
theorem ggX4_sumOf_X4_fate : GoodIn wsX4_sumOf wsX4_fate := goodIn_r _ [8, 9, 1, 10, 11, 12, 13, 14, 15, 16, 17, 18, 19, 20, 21, 22, 23, 24, 25, 26, 27, 28, 29, 30, 31] rfl (by decide +kernel)
set_option maxRecDepth 20000 in
theorem gX4_sumOf_X4_fate : GoodIn wsX4_sumOf (wsV RX4 73 RX4 yX4_fate wsX4_fate) := goodIn_app (a := [.methodLink RX4 73 yX4_fate, .instanceMethod yX4_fate, .selects RX4 yX4_fate yX4_fate, .initialized RX4]) (g_c9 (List.mem_cons_of_mem _ (List.mem_append_left _ (List.mem_append_left _ (List.mem_of_getElem? (i := 3) rfl)))) rfl (g_c9 (List.mem_cons_of_mem _ (List.mem_append_left _ (List.mem_append_left _ (List.mem_of_getElem? (i := 4) rfl)))) rfl (g_c9 (List.mem_cons_of_mem _ (List.mem_append_left _ (List.mem_append_left _ (List.mem_of_getElem? (i := 5) rfl)))) rfl (g_c9 (List.mem_cons_of_mem _ (List.mem_append_left _ (List.mem_append_left _ (List.mem_of_getElem? (i := 6) rfl)))) rfl g_n9)))) ggX4_sumOf_X4_fate
set_option maxHeartbeats 8000000 in
set_option maxRecDepth 100000 in
theorem w_Tape28_get (l : Launch) (D : va_G) (ad : Nat → Nat) (ta : Nat) (tan : Int32) (tab : Nat) (tabt : ClassId) (tabf : Nat → Int32) (i0 : Int32) (htan : z_in 0 28 tan) : z_Mi l yX6_get wsX6_get { frames := 0, cells := 0, slots := 0, locals := 0 } D ad [.ref ta, .int i0] [(ta, .inr (6, [.ref tab, .int tan])), (tab, .inl (tabt, 28, .inl tabf))] [(tabt, .byte)] 0 0 (fun r9 u9 => z_in (-1) 255 r9 ∧ (0 ≤ r9.toInt → z_in 1 28 tan) ∧ (0 ≤ r9.toInt → z_in 0 27 i0) ∧ u9 = ([(ta, .inr (6, [.ref tab, .int tan])), (tab, .inl (tabt, 28, .inl tabf))], [])) := by
  refine z_ofI (cc := cX6_get) (maxL := 2) (rt := .int) (by decide) rfl (Nat.le_of_ble_eq_true rfl) ?_
  intro p e s m below meth c Q A ls hx hb hml hown hts hin hK hP hD hA hE hO hS hl hret
  have hown : s.vm.findClass RX6 = some m.cls := hown
  have hiX6 : ∀ w ∈ wsX60, w ∈ wsX6_get := fun _ h9 => List.mem_cons_of_mem _ (List.mem_append_right _ h9)
  have hl : lv_has ls 2 [(0, .ref ta), (1, .int i0)] := hl
  refine lv_iload_n hx hb dX6_get_0 rfl (lv_at hl 1 rfl) ?_
  refine lv_if_lt (tgt := 21) hx hb dX6_get_1 (by decide) (fun c_1 => ?_) (fun c_1 => ?_)
  · skip
    have h_2 : z_in (-2147483648) (-1) i0 := z_ltL c_1 (z_any i0) (z_lit (x := 0) (a := 0) (b := 0) rfl) rfl
    refine lv_iconst (v := (-1)) hx hb dX6_get_21 (by decide) ?_
    refine lv_goto (tgt := 35) hx hb dX6_get_22 (by decide) ?_
    exact hret (-1) ([(ta, .inr (6, [.ref tab, .int tan])), (tab, .inl (tabt, 28, .inl tabf))], []) _ _ _ _ dX6_get_35 rfl ⟨(z_w (c := (-1)) (d := 255) (z_lit (x := (-1)) (a := (-1)) (b := (-1)) rfl) rfl), (fun h9 => absurd (Int.le_trans h9 (z_lit (x := (-1)) (a := (-1)) (b := (-1)) rfl).2) (by decide)), (fun h9 => absurd (Int.le_trans h9 (z_lit (x := (-1)) (a := (-1)) (b := (-1)) rfl).2) (by decide)), rfl⟩ hP (hK.sub [] rfl) hD hS
  · skip
    have h_3 : z_in 0 2147483647 i0 := z_leR (Int32.not_lt.mp c_1) (z_lit (x := 0) (a := 0) (b := 0) rfl) (z_any i0) rfl
    refine lv_iload_n hx hb dX6_get_4 rfl (lv_at hl 1 rfl) ?_
    refine lv_aload_n hx hb dX6_get_5 rfl (lv_at hl 0 rfl) ?_
    refine va_get (D := D) (ci := 6) (v := .int tan) (C := RX6) (T := TX6) (N := 2) hx hb hts hiX6 hown hK hP 0 rfl rfl 1 (by decide) (hts _ (List.mem_of_getElem? (i := 1) rfl)) (fun _ h9 => h9) rfl dX6_get_6 ?_
    refine lv_icmp_ge (tgt := 21) hx hb dX6_get_9 (by decide) (fun c_4 => ?_) (fun c_4 => ?_)
    · skip
      refine lv_iconst (v := (-1)) hx hb dX6_get_21 (by decide) ?_
      refine lv_goto (tgt := 35) hx hb dX6_get_22 (by decide) ?_
      exact hret (-1) ([(ta, .inr (6, [.ref tab, .int tan])), (tab, .inl (tabt, 28, .inl tabf))], []) _ _ _ _ dX6_get_35 rfl ⟨(z_w (c := (-1)) (d := 255) (z_lit (x := (-1)) (a := (-1)) (b := (-1)) rfl) rfl), (fun h9 => absurd (Int.le_trans h9 (z_lit (x := (-1)) (a := (-1)) (b := (-1)) rfl).2) (by decide)), (fun h9 => absurd (Int.le_trans h9 (z_lit (x := (-1)) (a := (-1)) (b := (-1)) rfl).2) (by decide)), rfl⟩ hP (hK.sub [] rfl) hD hS
    · skip
      have h_5 : z_in 0 27 i0 := z_ltL (Int32.not_le.mp c_4) h_3 htan rfl
      have h_6 : z_in 1 28 tan := z_ltR (Int32.not_le.mp c_4) h_3 htan rfl
      refine lv_iload_n hx hb dX6_get_12 rfl (lv_at hl 1 rfl) ?_
      refine lv_aload_n hx hb dX6_get_13 rfl (lv_at hl 0 rfl) ?_
      refine va_get (D := D) (ci := 6) (v := .ref tab) (C := RX6) (T := TX6) (N := 2) hx hb hts hiX6 hown hK hP 0 rfl rfl 0 (by decide) (hts _ (List.mem_of_getElem? (i := 2) rfl)) (fun _ h9 => h9) rfl dX6_get_14 ?_
      refine va_alen (v := 28) hx hb hK hP 1 0 rfl rfl rfl dX6_get_17 ?_
      refine lv_icmp_lt (tgt := 25) hx hb dX6_get_18 (by decide) (fun c_7 => ?_) (fun c_7 => ?_)
      · skip
        refine lv_aload_n hx hb dX6_get_25 rfl (lv_at hl 0 rfl) ?_
        refine va_get (D := D) (ci := 6) (v := .ref tab) (C := RX6) (T := TX6) (N := 2) hx hb hts hiX6 hown hK hP 0 rfl rfl 0 (by decide) (hts _ (List.mem_of_getElem? (i := 2) rfl)) (fun _ h9 => h9) rfl dX6_get_26 ?_
        refine lv_iload_n hx hb dX6_get_29 rfl (lv_at hl 1 rfl) ?_
        refine va_bald hx hb hK hP 1 0 rfl rfl (z_vp h_5 rfl) dX6_get_30 ?_
        refine lv_topi (fun y_8 ey_8 => ?_)
        refine lv_sipush (v := 255) hx hb dX6_get_31 (by decide) ?_
        refine lv_iand hx hb dX6_get_34 ?_
        refine lv_topi (fun y_9 ey_9 => ?_)
        have h_10 : z_in 0 255 y_9 := by rw [ey_9]; exact z_andR (z_lit (x := 255) (a := 255) (b := 255) rfl) rfl
        exact hret y_9 ([(ta, .inr (6, [.ref tab, .int tan])), (tab, .inl (tabt, 28, .inl tabf))], []) _ _ _ _ dX6_get_35 rfl ⟨(z_w (c := (-1)) (d := 255) h_10 rfl), (fun _ => h_6), (fun _ => h_5), rfl⟩ hP (hK.sub [] rfl) hD hS
      · skip
        exact (z_no (z_leL (e := 27) (Int32.not_lt.mp c_7) (z_lit (x := 28) (a := 28) (b := 28) rfl) h_5 rfl) rfl).elim

set_option maxHeartbeats 8000000 in
set_option maxRecDepth 100000 in
theorem w_Tape28_add (l : Launch) (D : va_G) (ad : Nat → Nat) (ta : Nat) (tan : Int32) (tab : Nat) (tabt : ClassId) (tabf : Nat → Int32) (i0 : Int32) (htan : z_in 0 28 tan) : z_Mv l yX6_add wsX6_add { frames := 0, cells := 0, slots := 0, locals := 0 } D ad [.ref ta, .int i0] [(ta, .inr (6, [.ref tab, .int tan])), (tab, .inl (tabt, 28, .inl tabf))] [(tabt, .byte)] 0 0 (fun u9 => ∃ (x0_1 : Int32) (x1_f : Nat → Int32), z_in 0 28 x0_1 ∧ u9 = ([(ta, .inr (6, [.ref tab, .int x0_1])), (tab, .inl (tabt, 28, .inl x1_f))], [])) := by
  refine z_ofV (cc := cX6_add) (maxL := 2) (by decide) rfl (Nat.le_of_ble_eq_true rfl) ?_
  intro p e s m below meth c Q A ls hx hb hml hown hts hin hK hP hD hA hE hO hS hl hret
  have hown : s.vm.findClass RX6 = some m.cls := hown
  have hiX6 : ∀ w ∈ wsX60, w ∈ wsX6_add := fun _ h9 => List.mem_cons_of_mem _ (List.mem_append_right _ h9)
  have hl : lv_has ls 2 [(0, .ref ta), (1, .int i0)] := hl
  refine lv_aload_n hx hb dX6_add_0 rfl (lv_at hl 0 rfl) ?_
  refine va_get (D := D) (ci := 6) (v := .int tan) (C := RX6) (T := TX6) (N := 2) hx hb hts hiX6 hown hK hP 0 rfl rfl 1 (by decide) (hts _ (List.mem_of_getElem? (i := 1) rfl)) (fun _ h9 => h9) rfl dX6_add_1 ?_
  refine lv_aload_n hx hb dX6_add_4 rfl (lv_at hl 0 rfl) ?_
  refine va_get (D := D) (ci := 6) (v := .ref tab) (C := RX6) (T := TX6) (N := 2) hx hb hts hiX6 hown hK hP 0 rfl rfl 0 (by decide) (hts _ (List.mem_of_getElem? (i := 2) rfl)) (fun _ h9 => h9) rfl dX6_add_5 ?_
  refine va_alen (v := 28) hx hb hK hP 1 0 rfl rfl rfl dX6_add_8 ?_
  refine lv_icmp_ge (tgt := 33) hx hb dX6_add_9 (by decide) (fun c_1 => ?_) (fun c_1 => ?_)
  · skip
    have h_2 : z_in 28 28 tan := z_leR c_1 (z_lit (x := 28) (a := 28) (b := 28) rfl) htan rfl
    exact hret ([(ta, .inr (6, [.ref tab, .int tan])), (tab, .inl (tabt, 28, .inl tabf))], []) _ _ _ _ dX6_add_33 ⟨tan, tabf, (z_w (c := 0) (d := 28) h_2 rfl), rfl⟩ hP (hK.sub [] rfl) hD hS
  · skip
    have h_3 : z_in 0 27 tan := z_ltL (Int32.not_le.mp c_1) htan (z_lit (x := 28) (a := 28) (b := 28) rfl) rfl
    refine lv_aload_n hx hb dX6_add_12 rfl (lv_at hl 0 rfl) ?_
    refine va_get (D := D) (ci := 6) (v := .ref tab) (C := RX6) (T := TX6) (N := 2) hx hb hts hiX6 hown hK hP 0 rfl rfl 0 (by decide) (hts _ (List.mem_of_getElem? (i := 2) rfl)) (fun _ h9 => h9) rfl dX6_add_13 ?_
    refine lv_aload_n hx hb dX6_add_16 rfl (lv_at hl 0 rfl) ?_
    refine va_get (D := D) (ci := 6) (v := .int tan) (C := RX6) (T := TX6) (N := 2) hx hb hts hiX6 hown hK hP 0 rfl rfl 1 (by decide) (hts _ (List.mem_of_getElem? (i := 1) rfl)) (fun _ h9 => h9) rfl dX6_add_17 ?_
    refine lv_iload_n hx hb dX6_add_20 rfl (lv_at hl 1 rfl) ?_
    refine lv_i2b hx hb dX6_add_21 rfl ?_
    refine lv_topi (fun y_4 ey_4 => ?_)
    refine va_bast hx hb hK hP hD hS 1 0 rfl rfl (z_vp h_3 rfl) dX6_add_22 (fun H locs hP hD hS => ?_)
    generalize ef_5 : (upd tabf (tan : Int32).toNatClampNeg (vp_nar .byte y_4)) = f_5 at hP hD
    have hP : va_P D vwCl [(ta, .inr (6, [.ref tab, .int tan])), (tab, .inl (tabt, 28, .inl f_5))] H := hP
    have hD : va_D A [(ta, .inr (6, [.ref tab, .int tan])), (tab, .inl (tabt, 28, .inl f_5))] := hD
    refine lv_aload_n hx hb dX6_add_23 rfl (lv_at hl 0 rfl) ?_
    refine lv_dup hx hb dX6_add_24 rfl ?_
    refine va_get (D := D) (ci := 6) (v := .int tan) (C := RX6) (T := TX6) (N := 2) hx hb hts hiX6 hown hK hP 0 rfl rfl 1 (by decide) (hts _ (List.mem_of_getElem? (i := 1) rfl)) (fun _ h9 => h9) rfl dX6_add_25 ?_
    refine lv_iconst (v := 1) hx hb dX6_add_28 (by decide) ?_
    refine lv_iadd hx hb dX6_add_29 ?_
    refine lv_topi (fun y_6 ey_6 => ?_)
    have h_7 : z_in 1 28 y_6 := by rw [ey_6]; exact z_add h_3 (z_lit (x := 1) (a := 1) (b := 1) rfl) rfl rfl
    have ty_6 : y_6.toInt = tan.toInt + 1 := by rw [ey_6]; exact (z_addT h_3 (z_lit (x := 1) (a := 1) (b := 1) rfl) rfl).trans rfl
    refine va_put (D := D) (ci := 6) (v := .int y_6) (ty := tyX6 1) (C := RX6) (T := TX6) (N := 2) hx hb hts hiX6 tyX6 tyX6_ok nmX6 hown hK hP hD hS 0 rfl rfl 1 (by decide) (hts _ (List.mem_of_getElem? (i := 1) rfl)) (fun _ h9 => h9) rfl (tyX6_ok 1 (by decide)) rfl rfl (Nat.le_of_ble_eq_true rfl) dX6_add_30 (fun H locs hP hD hS => ?_)
    have hP : va_P D vwCl [(ta, .inr (6, [.ref tab, .int y_6])), (tab, .inl (tabt, 28, .inl f_5))] H := hP
    have hD : va_D A [(ta, .inr (6, [.ref tab, .int y_6])), (tab, .inl (tabt, 28, .inl f_5))] := hD
    exact hret ([(ta, .inr (6, [.ref tab, .int y_6])), (tab, .inl (tabt, 28, .inl f_5))], []) _ _ _ _ dX6_add_33 ⟨y_6, f_5, (z_w (c := 0) (d := 28) h_7 rfl), rfl⟩ hP (hK.sub [] rfl) hD hS

set_option maxHeartbeats 8000000 in
set_option maxRecDepth 100000 in
theorem w_Tape28_addNumber (l : Launch) (D : va_G) (ad : Nat → Nat) (ta : Nat) (tan : Int32) (tab : Nat) (tabt : ClassId) (tabf : Nat → Int32) (i0 : Int32) (htan : z_in 0 28 tan) : z_Mv l yX6_addNumber wsX6_addNumber { frames := 1, cells := 0, slots := 0, locals := 21 } D ad [.ref ta, .int i0] [(ta, .inr (6, [.ref tab, .int tan])), (tab, .inl (tabt, 28, .inl tabf))] [(tabt, .byte)] 0 0 (fun u9 => ∃ (x0_1 : Int32) (x1_f : Nat → Int32), z_in 0 28 x0_1 ∧ u9 = ([(ta, .inr (6, [.ref tab, .int x0_1])), (tab, .inl (tabt, 28, .inl x1_f))], [])) := by
  refine z_ofV (cc := cX6_addNumber) (maxL := 2) (by decide) rfl (Nat.le_of_ble_eq_true rfl) ?_
  intro p e s m below meth c Q A ls hx hb hml hown hts hin hK hP hD hA hE hO hS hl hret
  have hown : s.vm.findClass RX6 = some m.cls := hown
  have hiX6 : ∀ w ∈ wsX60, w ∈ wsX6_addNumber := fun _ h9 => List.mem_cons_of_mem _ (List.mem_append_right _ h9)
  have hl : lv_has ls 2 [(0, .ref ta), (1, .int i0)] := hl
  refine lv_aload_n hx hb dX6_addNumber_0 rfl (lv_at hl 0 rfl) ?_
  refine lv_iload_n hx hb dX6_addNumber_1 rfl (lv_at hl 1 rfl) ?_
  refine lv_bipush (v := 24) hx hb dX6_addNumber_2 (by decide) ?_
  refine lv_iushr hx hb dX6_addNumber_4 rfl ?_
  refine lv_topi (fun y_1 ey_1 => ?_)
  have h_2 : z_in 0 255 y_1 := by rw [ey_1]; exact z_ushr (k := 24) _ _ rfl rfl
  have hc9 := (w_Tape28_add l D ad ta tan tab tabt tabf y_1 htan)
  refine z_callv (w0 := [(ta, .inr (6, [.ref tab, .int tan])), (tab, .inl (tabt, 28, .inl tabf))]) (wr := []) (va_runV (As := [.int y_1]) (rest := []) ⟨hx, hb, hml, hown, hts⟩ (hc9 _) (cwV 1 hts gX6_addNumber_X6_add rfl rfl rfl (by decide +kernel) ⟨Nat.le_of_ble_eq_true rfl, Nat.le_of_ble_eq_true rfl⟩) (z_preV hP hD hK hS hA hE hO [0, 1] [0] rfl (by decide +kernel) rfl 0 6 rfl rfl rfl) rfl rfl hl.1 rfl (lv_room (Nat.le_of_ble_eq_true rfl)) dX6_addNumber_5 ⟨Nat.le_of_ble_eq_true rfl, Nat.le_of_ble_eq_true rfl⟩) hP hD hK hS hA [0, 1] [] rfl rfl (by decide +kernel) (by decide +kernel) (fun u9 H locs hw hP hD hK hS => ?_)
  obtain ⟨x_3, f_5, h_4, rfl⟩ := hw
  have hP : va_P D vwCl [(ta, .inr (6, [.ref tab, .int x_3])), (tab, .inl (tabt, 28, .inl f_5))] H := hP
  have hD : va_D A [(ta, .inr (6, [.ref tab, .int x_3])), (tab, .inl (tabt, 28, .inl f_5))] := hD
  have hK : va_K D vwCl [(tabt, .byte)] s := hK
  refine W.cs (cells' := 0) (slots' := 0) rfl rfl ?_
  refine lv_aload_n hx hb dX6_addNumber_8 rfl (lv_at hl 0 rfl) ?_
  refine lv_iload_n hx hb dX6_addNumber_9 rfl (lv_at hl 1 rfl) ?_
  refine lv_bipush (v := 16) hx hb dX6_addNumber_10 (by decide) ?_
  refine lv_iushr hx hb dX6_addNumber_12 rfl ?_
  refine lv_topi (fun y_6 ey_6 => ?_)
  have h_7 : z_in 0 65535 y_6 := by rw [ey_6]; exact z_ushr (k := 16) _ _ rfl rfl
  have hc9 := (w_Tape28_add l D ad ta x_3 tab tabt f_5 y_6 h_4)
  refine z_callv (w0 := [(ta, .inr (6, [.ref tab, .int x_3])), (tab, .inl (tabt, 28, .inl f_5))]) (wr := []) (va_runV (As := [.int y_6]) (rest := []) ⟨hx, hb, hml, hown, hts⟩ (hc9 _) (cwV 1 hts gX6_addNumber_X6_add rfl rfl rfl (by decide +kernel) ⟨Nat.le_of_ble_eq_true rfl, Nat.le_of_ble_eq_true rfl⟩) (z_preV hP hD hK hS hA hE hO [0, 1] [0] rfl (by decide +kernel) rfl 0 6 rfl rfl rfl) rfl rfl hl.1 rfl (lv_room (Nat.le_of_ble_eq_true rfl)) dX6_addNumber_13 ⟨Nat.le_of_ble_eq_true rfl, Nat.le_of_ble_eq_true rfl⟩) hP hD hK hS hA [0, 1] [] rfl rfl (by decide +kernel) (by decide +kernel) (fun u9 H locs hw hP hD hK hS => ?_)
  obtain ⟨x_8, f_10, h_9, rfl⟩ := hw
  have hP : va_P D vwCl [(ta, .inr (6, [.ref tab, .int x_8])), (tab, .inl (tabt, 28, .inl f_10))] H := hP
  have hD : va_D A [(ta, .inr (6, [.ref tab, .int x_8])), (tab, .inl (tabt, 28, .inl f_10))] := hD
  have hK : va_K D vwCl [(tabt, .byte)] s := hK
  refine W.cs (cells' := 0) (slots' := 0) rfl rfl ?_
  refine lv_aload_n hx hb dX6_addNumber_16 rfl (lv_at hl 0 rfl) ?_
  refine lv_iload_n hx hb dX6_addNumber_17 rfl (lv_at hl 1 rfl) ?_
  refine lv_bipush (v := 8) hx hb dX6_addNumber_18 (by decide) ?_
  refine lv_iushr hx hb dX6_addNumber_20 rfl ?_
  refine lv_topi (fun y_11 ey_11 => ?_)
  have h_12 : z_in 0 16777215 y_11 := by rw [ey_11]; exact z_ushr (k := 8) _ _ rfl rfl
  have hc9 := (w_Tape28_add l D ad ta x_8 tab tabt f_10 y_11 h_9)
  refine z_callv (w0 := [(ta, .inr (6, [.ref tab, .int x_8])), (tab, .inl (tabt, 28, .inl f_10))]) (wr := []) (va_runV (As := [.int y_11]) (rest := []) ⟨hx, hb, hml, hown, hts⟩ (hc9 _) (cwV 1 hts gX6_addNumber_X6_add rfl rfl rfl (by decide +kernel) ⟨Nat.le_of_ble_eq_true rfl, Nat.le_of_ble_eq_true rfl⟩) (z_preV hP hD hK hS hA hE hO [0, 1] [0] rfl (by decide +kernel) rfl 0 6 rfl rfl rfl) rfl rfl hl.1 rfl (lv_room (Nat.le_of_ble_eq_true rfl)) dX6_addNumber_21 ⟨Nat.le_of_ble_eq_true rfl, Nat.le_of_ble_eq_true rfl⟩) hP hD hK hS hA [0, 1] [] rfl rfl (by decide +kernel) (by decide +kernel) (fun u9 H locs hw hP hD hK hS => ?_)
  obtain ⟨x_13, f_15, h_14, rfl⟩ := hw
  have hP : va_P D vwCl [(ta, .inr (6, [.ref tab, .int x_13])), (tab, .inl (tabt, 28, .inl f_15))] H := hP
  have hD : va_D A [(ta, .inr (6, [.ref tab, .int x_13])), (tab, .inl (tabt, 28, .inl f_15))] := hD
  have hK : va_K D vwCl [(tabt, .byte)] s := hK
  refine W.cs (cells' := 0) (slots' := 0) rfl rfl ?_
  refine lv_aload_n hx hb dX6_addNumber_24 rfl (lv_at hl 0 rfl) ?_
  refine lv_iload_n hx hb dX6_addNumber_25 rfl (lv_at hl 1 rfl) ?_
  have hc9 := (w_Tape28_add l D ad ta x_13 tab tabt f_15 i0 h_14)
  refine z_callv (w0 := [(ta, .inr (6, [.ref tab, .int x_13])), (tab, .inl (tabt, 28, .inl f_15))]) (wr := []) (va_runV (As := [.int i0]) (rest := []) ⟨hx, hb, hml, hown, hts⟩ (hc9 _) (cwV 1 hts gX6_addNumber_X6_add rfl rfl rfl (by decide +kernel) ⟨Nat.le_of_ble_eq_true rfl, Nat.le_of_ble_eq_true rfl⟩) (z_preV hP hD hK hS hA hE hO [0, 1] [0] rfl (by decide +kernel) rfl 0 6 rfl rfl rfl) rfl rfl hl.1 rfl (lv_room (Nat.le_of_ble_eq_true rfl)) dX6_addNumber_26 ⟨Nat.le_of_ble_eq_true rfl, Nat.le_of_ble_eq_true rfl⟩) hP hD hK hS hA [0, 1] [] rfl rfl (by decide +kernel) (by decide +kernel) (fun u9 H locs hw hP hD hK hS => ?_)
  obtain ⟨x_16, f_18, h_17, rfl⟩ := hw
  have hP : va_P D vwCl [(ta, .inr (6, [.ref tab, .int x_16])), (tab, .inl (tabt, 28, .inl f_18))] H := hP
  have hD : va_D A [(ta, .inr (6, [.ref tab, .int x_16])), (tab, .inl (tabt, 28, .inl f_18))] := hD
  have hK : va_K D vwCl [(tabt, .byte)] s := hK
  refine W.cs (cells' := 0) (slots' := 0) rfl rfl ?_
  exact hret ([(ta, .inr (6, [.ref tab, .int x_16])), (tab, .inl (tabt, 28, .inl f_18))], []) _ _ _ _ dX6_addNumber_29 ⟨x_16, f_18, h_17, rfl⟩ hP (hK.sub [] rfl) hD hS

set_option maxHeartbeats 8000000 in
set_option maxRecDepth 100000 in
theorem w_Town_heeds (l : Launch) (D : va_G) (ad : Nat → Nat) (tw : Nat) (twe : Int32) (twm : Int32) (twr : Int32) (twl : Nat) (twln : Int32) (twlc : Nat) (twlct : ClassId) (twlcf : Nat → Int64) (twp : Nat) (twpn : Int32) (twpc : Nat) (twpct : ClassId) (twpcf : Nat → Int64) (twu : Nat) (twun : Int32) (twuc : Nat) (twuct : ClassId) (twucf : Nat → Int64) (twh : Nat) (twht : ClassId) (twhf : Nat → Int32) (tws : Nat) (twst : ClassId) (twsf : Nat → Int32) (twg : Nat) (twgt : ClassId) (twgf : Nat → Int32) (two : Nat) (twot : ClassId) (twof : Nat → Int32) (twd : Nat) (twdt : ClassId) (twdf : Nat → Int32) (twq : Nat) (twqt : ClassId) (twqf : Nat → Int32) (i0 : Int32) (htwm : z_in 0 14 twm) (htwr : z_in 0 5 twr) (htwln : z_in 0 5 twln) (htwpn : z_in 0 7 twpn) (htwun : z_in 0 6 twun) (htwhf : z_al 0 4 twhf) (htwsf : z_al 0 4 twsf) (htwgf : z_al 0 12 twgf) (htwof : z_al 0 6 twof) (htwdf : z_al 0 199 twdf) (htwqf : z_al 0 20 twqf) : z_Mi l yX8_heeds wsX8_heeds { frames := 0, cells := 0, slots := 0, locals := 0 } D ad [.ref tw, .int i0] [(tw, .inr (8, [.ref twl, .ref twp, .ref twu, .int twe, .ref twh, .ref tws, .ref twg, .int twm, .ref two, .ref twd, .ref twq, .int twr])), (twl, .inr (2, [.ref twlc, .int twln])), (twlc, .inl (twlct, 5, .inr (.inl twlcf))), (twp, .inr (2, [.ref twpc, .int twpn])), (twpc, .inl (twpct, 7, .inr (.inl twpcf))), (twu, .inr (2, [.ref twuc, .int twun])), (twuc, .inl (twuct, 6, .inr (.inl twucf))), (twh, .inl (twht, 7, .inl twhf)), (tws, .inl (twst, 6, .inl twsf)), (twg, .inl (twgt, 6, .inl twgf)), (two, .inl (twot, 14, .inl twof)), (twd, .inl (twdt, 14, .inl twdf)), (twq, .inl (twqt, 14, .inl twqf))] [(twlct, .long), (twpct, .long), (twuct, .long), (twht, .int), (twst, .int), (twgt, .int), (twot, .int), (twdt, .int), (twqt, .int)] 0 0 (fun r9 u9 => z_in 0 1 r9 ∧ u9 = ([(tw, .inr (8, [.ref twl, .ref twp, .ref twu, .int twe, .ref twh, .ref tws, .ref twg, .int twm, .ref two, .ref twd, .ref twq, .int twr])), (twl, .inr (2, [.ref twlc, .int twln])), (twlc, .inl (twlct, 5, .inr (.inl twlcf))), (twp, .inr (2, [.ref twpc, .int twpn])), (twpc, .inl (twpct, 7, .inr (.inl twpcf))), (twu, .inr (2, [.ref twuc, .int twun])), (twuc, .inl (twuct, 6, .inr (.inl twucf))), (twh, .inl (twht, 7, .inl twhf)), (tws, .inl (twst, 6, .inl twsf)), (twg, .inl (twgt, 6, .inl twgf)), (two, .inl (twot, 14, .inl twof)), (twd, .inl (twdt, 14, .inl twdf)), (twq, .inl (twqt, 14, .inl twqf))], [])) := by
  refine z_ofI (cc := cX8_heeds) (maxL := 2) (rt := .boolean) (by decide) rfl (Nat.le_of_ble_eq_true rfl) ?_
  intro p e s m below meth c Q A ls hx hb hml hown hts hin hK hP hD hA hE hO hS hl hret
  have hown : s.vm.findClass RX8 = some m.cls := hown
  have hiX8 : ∀ w ∈ wsX80, w ∈ wsX8_heeds := fun _ h9 => List.mem_cons_of_mem _ (List.mem_append_right _ h9)
  have hl : lv_has ls 2 [(0, .ref tw), (1, .int i0)] := hl
  refine lv_aload_n hx hb dX8_heeds_0 rfl (lv_at hl 0 rfl) ?_
  refine va_get (D := D) (ci := 8) (v := .int twe) (C := RX8) (T := TX8) (N := 12) hx hb hts hiX8 hown hK hP 0 rfl rfl 3 (by decide) (hts _ (List.mem_of_getElem? (i := 1) rfl)) (fun _ h9 => h9) rfl dX8_heeds_1 ?_
  refine lv_iload_n hx hb dX8_heeds_4 rfl (lv_at hl 1 rfl) ?_
  refine lv_ishr hx hb dX8_heeds_5 ?_
  refine lv_topi (fun y_1 ey_1 => ?_)
  refine lv_iconst (v := 1) hx hb dX8_heeds_6 (by decide) ?_
  refine lv_iand hx hb dX8_heeds_7 ?_
  refine lv_topi (fun y_2 ey_2 => ?_)
  have h_3 : z_in 0 1 y_2 := by rw [ey_2]; exact z_andR (z_lit (x := 1) (a := 1) (b := 1) rfl) rfl
  refine lv_iconst (v := 1) hx hb dX8_heeds_8 (by decide) ?_
  refine lv_icmp_ne (tgt := 16) hx hb dX8_heeds_9 (by decide) (fun c_4 => ?_) (fun c_4 => ?_)
  · skip
    have h_5 : z_in 0 0 y_2 := z_neHi c_4 h_3 (z_lit (x := 1) (a := 1) (b := 1) rfl) rfl
    refine lv_iconst (v := 0) hx hb dX8_heeds_16 (by decide) ?_
    exact hret 0 ([(tw, .inr (8, [.ref twl, .ref twp, .ref twu, .int twe, .ref twh, .ref tws, .ref twg, .int twm, .ref two, .ref twd, .ref twq, .int twr])), (twl, .inr (2, [.ref twlc, .int twln])), (twlc, .inl (twlct, 5, .inr (.inl twlcf))), (twp, .inr (2, [.ref twpc, .int twpn])), (twpc, .inl (twpct, 7, .inr (.inl twpcf))), (twu, .inr (2, [.ref twuc, .int twun])), (twuc, .inl (twuct, 6, .inr (.inl twucf))), (twh, .inl (twht, 7, .inl twhf)), (tws, .inl (twst, 6, .inl twsf)), (twg, .inl (twgt, 6, .inl twgf)), (two, .inl (twot, 14, .inl twof)), (twd, .inl (twdt, 14, .inl twdf)), (twq, .inl (twqt, 14, .inl twqf))], []) _ _ _ _ dX8_heeds_17 (by decide) ⟨(z_w (c := 0) (d := 1) (z_lit (x := 0) (a := 0) (b := 0) rfl) rfl), rfl⟩ hP (hK.sub [] rfl) hD hS
  · skip
    have h_6 : z_in 1 1 y_2 := z_leR (Int32.le_of_eq (Eq.symm c_4)) (z_lit (x := 1) (a := 1) (b := 1) rfl) h_3 rfl
    refine lv_iconst (v := 1) hx hb dX8_heeds_12 (by decide) ?_
    refine lv_goto (tgt := 17) hx hb dX8_heeds_13 (by decide) ?_
    exact hret 1 ([(tw, .inr (8, [.ref twl, .ref twp, .ref twu, .int twe, .ref twh, .ref tws, .ref twg, .int twm, .ref two, .ref twd, .ref twq, .int twr])), (twl, .inr (2, [.ref twlc, .int twln])), (twlc, .inl (twlct, 5, .inr (.inl twlcf))), (twp, .inr (2, [.ref twpc, .int twpn])), (twpc, .inl (twpct, 7, .inr (.inl twpcf))), (twu, .inr (2, [.ref twuc, .int twun])), (twuc, .inl (twuct, 6, .inr (.inl twucf))), (twh, .inl (twht, 7, .inl twhf)), (tws, .inl (twst, 6, .inl twsf)), (twg, .inl (twgt, 6, .inl twgf)), (two, .inl (twot, 14, .inl twof)), (twd, .inl (twdt, 14, .inl twdf)), (twq, .inl (twqt, 14, .inl twqf))], []) _ _ _ _ dX8_heeds_17 (by decide) ⟨(z_w (c := 0) (d := 1) (z_lit (x := 1) (a := 1) (b := 1) rfl) rfl), rfl⟩ hP (hK.sub [] rfl) hD hS

set_option maxHeartbeats 8000000 in
set_option maxRecDepth 100000 in
theorem w_Scene_fate (l : Launch) (D : va_G) (ad : Nat → Nat) (sc : Nat) (scd : Int32) (sch : Int32) (scs : Int32) (scp : Nat) (scpt : ClassId) (scpf : Nat → Int32) (scw : Nat) (scwt : ClassId) (scwf : Nat → Int32) (scc : Nat) (scct : ClassId) (sccf : Nat → Int32) (scf : Nat) (scft : ClassId) (scff : Nat → Int32) (tw : Nat) (twe : Int32) (twm : Int32) (twr : Int32) (twl : Nat) (twln : Int32) (twlc : Nat) (twlct : ClassId) (twlcf : Nat → Int64) (twp : Nat) (twpn : Int32) (twpc : Nat) (twpct : ClassId) (twpcf : Nat → Int64) (twu : Nat) (twun : Int32) (twuc : Nat) (twuct : ClassId) (twucf : Nat → Int64) (twh : Nat) (twht : ClassId) (twhf : Nat → Int32) (tws : Nat) (twst : ClassId) (twsf : Nat → Int32) (twg : Nat) (twgt : ClassId) (twgf : Nat → Int32) (two : Nat) (twot : ClassId) (twof : Nat → Int32) (twd : Nat) (twdt : ClassId) (twdf : Nat → Int32) (twq : Nat) (twqt : ClassId) (twqf : Nat → Int32) (i0 : Int32) (hscpf : z_al 0 4 scpf) (hscwf : z_al 0 4 scwf) (hsccf : z_al (-1) 6 sccf) (hscff : z_al 0 12 scff) (htwm : z_in 0 14 twm) (htwr : z_in 0 5 twr) (htwln : z_in 0 5 twln) (htwpn : z_in 0 7 twpn) (htwun : z_in 0 6 twun) (htwhf : z_al 0 4 twhf) (htwsf : z_al 0 4 twsf) (htwgf : z_al 0 12 twgf) (htwof : z_al 0 6 twof) (htwdf : z_al 0 199 twdf) (htwqf : z_al 0 20 twqf) (hi0 : z_in 0 13 i0) : z_Mi l yX4_fate wsX4_fate { frames := 0, cells := 0, slots := 0, locals := 0 } D ad [.ref sc, .int i0] [(sc, .inr (4, [.ref tw, .int scd, .int sch, .int scs, .ref scp, .ref scw, .ref scc, .ref scf])), (scp, .inl (scpt, 7, .inl scpf)), (scw, .inl (scwt, 6, .inl scwf)), (scc, .inl (scct, 6, .inl sccf)), (scf, .inl (scft, 6, .inl scff)), (tw, .inr (8, [.ref twl, .ref twp, .ref twu, .int twe, .ref twh, .ref tws, .ref twg, .int twm, .ref two, .ref twd, .ref twq, .int twr])), (twl, .inr (2, [.ref twlc, .int twln])), (twlc, .inl (twlct, 5, .inr (.inl twlcf))), (twp, .inr (2, [.ref twpc, .int twpn])), (twpc, .inl (twpct, 7, .inr (.inl twpcf))), (twu, .inr (2, [.ref twuc, .int twun])), (twuc, .inl (twuct, 6, .inr (.inl twucf))), (twh, .inl (twht, 7, .inl twhf)), (tws, .inl (twst, 6, .inl twsf)), (twg, .inl (twgt, 6, .inl twgf)), (two, .inl (twot, 14, .inl twof)), (twd, .inl (twdt, 14, .inl twdf)), (twq, .inl (twqt, 14, .inl twqf))] [(scpt, .int), (scwt, .int), (scct, .int), (scft, .int), (twlct, .long), (twpct, .long), (twuct, .long), (twht, .int), (twst, .int), (twgt, .int), (twot, .int), (twdt, .int), (twqt, .int)] 0 0 (fun r9 u9 => z_in 0 2 r9 ∧ (r9 = 0 → z_in (-2147483648) 198 scd) ∧ (r9 = 2 → z_in 0 2147483647 scd) ∧ u9 = ([(sc, .inr (4, [.ref tw, .int scd, .int sch, .int scs, .ref scp, .ref scw, .ref scc, .ref scf])), (scp, .inl (scpt, 7, .inl scpf)), (scw, .inl (scwt, 6, .inl scwf)), (scc, .inl (scct, 6, .inl sccf)), (scf, .inl (scft, 6, .inl scff)), (tw, .inr (8, [.ref twl, .ref twp, .ref twu, .int twe, .ref twh, .ref tws, .ref twg, .int twm, .ref two, .ref twd, .ref twq, .int twr])), (twl, .inr (2, [.ref twlc, .int twln])), (twlc, .inl (twlct, 5, .inr (.inl twlcf))), (twp, .inr (2, [.ref twpc, .int twpn])), (twpc, .inl (twpct, 7, .inr (.inl twpcf))), (twu, .inr (2, [.ref twuc, .int twun])), (twuc, .inl (twuct, 6, .inr (.inl twucf))), (twh, .inl (twht, 7, .inl twhf)), (tws, .inl (twst, 6, .inl twsf)), (twg, .inl (twgt, 6, .inl twgf)), (two, .inl (twot, 14, .inl twof)), (twd, .inl (twdt, 14, .inl twdf)), (twq, .inl (twqt, 14, .inl twqf))], [])) := by
  refine z_ofI (cc := cX4_fate) (maxL := 2) (rt := .int) (by decide) rfl (Nat.le_of_ble_eq_true rfl) ?_
  intro p e s m below meth c Q A ls hx hb hml hown hts hin hK hP hD hA hE hO hS hl hret
  have hown : s.vm.findClass RX4 = some m.cls := hown
  have hiX4 : ∀ w ∈ wsX40, w ∈ wsX4_fate := fun _ h9 => List.mem_cons_of_mem _ (List.mem_append_left _ (List.mem_append_right _ h9))
  have hiX8 : ∀ w ∈ wsX80, w ∈ wsX4_fate := fun _ h9 => List.mem_cons_of_mem _ (List.mem_append_right _ h9)
  have hl : lv_has ls 2 [(0, .ref sc), (1, .int i0)] := hl
  refine lv_aload_n hx hb dX4_fate_0 rfl (lv_at hl 0 rfl) ?_
  refine va_get (D := D) (ci := 4) (v := .int scs) (C := RX4) (T := TX4) (N := 8) hx hb hts hiX4 hown hK hP 0 rfl rfl 3 (by decide) (hts _ (List.mem_of_getElem? (i := 1) rfl)) (fun _ h9 => h9) rfl dX4_fate_1 ?_
  refine lv_iload_n hx hb dX4_fate_4 rfl (lv_at hl 1 rfl) ?_
  refine lv_ishr hx hb dX4_fate_5 ?_
  refine lv_topi (fun y_1 ey_1 => ?_)
  refine lv_iconst (v := 1) hx hb dX4_fate_6 (by decide) ?_
  refine lv_iand hx hb dX4_fate_7 ?_
  refine lv_topi (fun y_2 ey_2 => ?_)
  have h_3 : z_in 0 1 y_2 := by rw [ey_2]; exact z_andR (z_lit (x := 1) (a := 1) (b := 1) rfl) rfl
  refine lv_iconst (v := 1) hx hb dX4_fate_8 (by decide) ?_
  refine lv_icmp_ne (tgt := 14) hx hb dX4_fate_9 (by decide) (fun c_4 => ?_) (fun c_4 => ?_)
  · skip
    have h_5 : z_in 0 0 y_2 := z_neHi c_4 h_3 (z_lit (x := 1) (a := 1) (b := 1) rfl) rfl
    refine lv_aload_n hx hb dX4_fate_14 rfl (lv_at hl 0 rfl) ?_
    refine va_get (D := D) (ci := 4) (v := .ref tw) (C := RX4) (T := TX4) (N := 8) hx hb hts hiX4 hown hK hP 0 rfl rfl 0 (by decide) (hts _ (List.mem_of_getElem? (i := 2) rfl)) (fun _ h9 => h9) rfl dX4_fate_15 ?_
    refine va_get (D := D) (ci := 8) (v := .ref twd) (C := RX8) (T := TX8) (N := 12) hx hb hts hiX8 hown hK hP 5 rfl rfl 9 (by decide) (hts _ (List.mem_of_getElem? (i := 3) rfl)) (fun _ h9 => h9) rfl dX4_fate_18 ?_
    refine lv_iload_n hx hb dX4_fate_21 rfl (lv_at hl 1 rfl) ?_
    refine va_iald hx hb hK hP 16 11 rfl rfl (z_vp hi0 rfl) dX4_fate_22 ?_
    refine lv_topi (fun y_6 ey_6 => ?_)
    have h_7 : z_in 0 199 y_6 := by rw [ey_6]; exact htwdf _
    refine lv_aload_n hx hb dX4_fate_23 rfl (lv_at hl 0 rfl) ?_
    refine va_get (D := D) (ci := 4) (v := .int scd) (C := RX4) (T := TX4) (N := 8) hx hb hts hiX4 hown hK hP 0 rfl rfl 1 (by decide) (hts _ (List.mem_of_getElem? (i := 4) rfl)) (fun _ h9 => h9) rfl dX4_fate_24 ?_
    refine lv_icmp_le (tgt := 34) hx hb dX4_fate_27 (by decide) (fun c_8 => ?_) (fun c_8 => ?_)
    · skip
      have h_9 : z_in 0 2147483647 scd := z_leR c_8 h_7 (z_any scd) rfl
      refine lv_iconst (v := 2) hx hb dX4_fate_34 (by decide) ?_
      exact hret 2 ([(sc, .inr (4, [.ref tw, .int scd, .int sch, .int scs, .ref scp, .ref scw, .ref scc, .ref scf])), (scp, .inl (scpt, 7, .inl scpf)), (scw, .inl (scwt, 6, .inl scwf)), (scc, .inl (scct, 6, .inl sccf)), (scf, .inl (scft, 6, .inl scff)), (tw, .inr (8, [.ref twl, .ref twp, .ref twu, .int twe, .ref twh, .ref tws, .ref twg, .int twm, .ref two, .ref twd, .ref twq, .int twr])), (twl, .inr (2, [.ref twlc, .int twln])), (twlc, .inl (twlct, 5, .inr (.inl twlcf))), (twp, .inr (2, [.ref twpc, .int twpn])), (twpc, .inl (twpct, 7, .inr (.inl twpcf))), (twu, .inr (2, [.ref twuc, .int twun])), (twuc, .inl (twuct, 6, .inr (.inl twucf))), (twh, .inl (twht, 7, .inl twhf)), (tws, .inl (twst, 6, .inl twsf)), (twg, .inl (twgt, 6, .inl twgf)), (two, .inl (twot, 14, .inl twof)), (twd, .inl (twdt, 14, .inl twdf)), (twq, .inl (twqt, 14, .inl twqf))], []) _ _ _ _ dX4_fate_35 rfl ⟨(z_w (c := 0) (d := 2) (z_lit (x := 2) (a := 2) (b := 2) rfl) rfl), (fun h9 => absurd h9 (by decide)), (fun _ => h_9), rfl⟩ hP (hK.sub [] rfl) hD hS
    · skip
      have h_10 : z_in (-2147483648) 198 scd := z_ltL (Int32.not_le.mp c_8) (z_any scd) h_7 rfl
      refine lv_iconst (v := 0) hx hb dX4_fate_30 (by decide) ?_
      refine lv_goto (tgt := 35) hx hb dX4_fate_31 (by decide) ?_
      exact hret 0 ([(sc, .inr (4, [.ref tw, .int scd, .int sch, .int scs, .ref scp, .ref scw, .ref scc, .ref scf])), (scp, .inl (scpt, 7, .inl scpf)), (scw, .inl (scwt, 6, .inl scwf)), (scc, .inl (scct, 6, .inl sccf)), (scf, .inl (scft, 6, .inl scff)), (tw, .inr (8, [.ref twl, .ref twp, .ref twu, .int twe, .ref twh, .ref tws, .ref twg, .int twm, .ref two, .ref twd, .ref twq, .int twr])), (twl, .inr (2, [.ref twlc, .int twln])), (twlc, .inl (twlct, 5, .inr (.inl twlcf))), (twp, .inr (2, [.ref twpc, .int twpn])), (twpc, .inl (twpct, 7, .inr (.inl twpcf))), (twu, .inr (2, [.ref twuc, .int twun])), (twuc, .inl (twuct, 6, .inr (.inl twucf))), (twh, .inl (twht, 7, .inl twhf)), (tws, .inl (twst, 6, .inl twsf)), (twg, .inl (twgt, 6, .inl twgf)), (two, .inl (twot, 14, .inl twof)), (twd, .inl (twdt, 14, .inl twdf)), (twq, .inl (twqt, 14, .inl twqf))], []) _ _ _ _ dX4_fate_35 rfl ⟨(z_w (c := 0) (d := 2) (z_lit (x := 0) (a := 0) (b := 0) rfl) rfl), (fun _ => h_10), (fun h9 => absurd h9 (by decide)), rfl⟩ hP (hK.sub [] rfl) hD hS
  · skip
    have h_11 : z_in 1 1 y_2 := z_leR (Int32.le_of_eq (Eq.symm c_4)) (z_lit (x := 1) (a := 1) (b := 1) rfl) h_3 rfl
    refine lv_iconst (v := 1) hx hb dX4_fate_12 (by decide) ?_
    exact hret 1 ([(sc, .inr (4, [.ref tw, .int scd, .int sch, .int scs, .ref scp, .ref scw, .ref scc, .ref scf])), (scp, .inl (scpt, 7, .inl scpf)), (scw, .inl (scwt, 6, .inl scwf)), (scc, .inl (scct, 6, .inl sccf)), (scf, .inl (scft, 6, .inl scff)), (tw, .inr (8, [.ref twl, .ref twp, .ref twu, .int twe, .ref twh, .ref tws, .ref twg, .int twm, .ref two, .ref twd, .ref twq, .int twr])), (twl, .inr (2, [.ref twlc, .int twln])), (twlc, .inl (twlct, 5, .inr (.inl twlcf))), (twp, .inr (2, [.ref twpc, .int twpn])), (twpc, .inl (twpct, 7, .inr (.inl twpcf))), (twu, .inr (2, [.ref twuc, .int twun])), (twuc, .inl (twuct, 6, .inr (.inl twucf))), (twh, .inl (twht, 7, .inl twhf)), (tws, .inl (twst, 6, .inl twsf)), (twg, .inl (twgt, 6, .inl twgf)), (two, .inl (twot, 14, .inl twof)), (twd, .inl (twdt, 14, .inl twdf)), (twq, .inl (twqt, 14, .inl twqf))], []) _ _ _ _ dX4_fate_13 rfl ⟨(z_w (c := 0) (d := 2) (z_lit (x := 1) (a := 1) (b := 1) rfl) rfl), (fun h9 => absurd h9 (by decide)), (fun h9 => absurd h9 (by decide)), rfl⟩ hP (hK.sub [] rfl) hD hS

set_option maxHeartbeats 8000000 in
set_option maxRecDepth 100000 in
theorem w_Scene_fated (l : Launch) (D : va_G) (ad : Nat → Nat) (sc : Nat) (scd : Int32) (sch : Int32) (scs : Int32) (scp : Nat) (scpt : ClassId) (scpf : Nat → Int32) (scw : Nat) (scwt : ClassId) (scwf : Nat → Int32) (scc : Nat) (scct : ClassId) (sccf : Nat → Int32) (scf : Nat) (scft : ClassId) (scff : Nat → Int32) (tw : Nat) (twe : Int32) (twm : Int32) (twr : Int32) (twl : Nat) (twln : Int32) (twlc : Nat) (twlct : ClassId) (twlcf : Nat → Int64) (twp : Nat) (twpn : Int32) (twpc : Nat) (twpct : ClassId) (twpcf : Nat → Int64) (twu : Nat) (twun : Int32) (twuc : Nat) (twuct : ClassId) (twucf : Nat → Int64) (twh : Nat) (twht : ClassId) (twhf : Nat → Int32) (tws : Nat) (twst : ClassId) (twsf : Nat → Int32) (twg : Nat) (twgt : ClassId) (twgf : Nat → Int32) (two : Nat) (twot : ClassId) (twof : Nat → Int32) (twd : Nat) (twdt : ClassId) (twdf : Nat → Int32) (twq : Nat) (twqt : ClassId) (twqf : Nat → Int32) (i0 : Int32) (hscpf : z_al 0 4 scpf) (hscwf : z_al 0 4 scwf) (hsccf : z_al (-1) 6 sccf) (hscff : z_al 0 12 scff) (htwm : z_in 0 14 twm) (htwr : z_in 0 5 twr) (htwln : z_in 0 5 twln) (htwpn : z_in 0 7 twpn) (htwun : z_in 0 6 twun) (htwhf : z_al 0 4 twhf) (htwsf : z_al 0 4 twsf) (htwgf : z_al 0 12 twgf) (htwof : z_al 0 6 twof) (htwdf : z_al 0 199 twdf) (htwqf : z_al 0 20 twqf) : z_Mi l yX4_fated wsX4_fated { frames := 1, cells := 0, slots := 0, locals := 21 } D ad [.ref sc, .int i0] [(sc, .inr (4, [.ref tw, .int scd, .int sch, .int scs, .ref scp, .ref scw, .ref scc, .ref scf])), (scp, .inl (scpt, 7, .inl scpf)), (scw, .inl (scwt, 6, .inl scwf)), (scc, .inl (scct, 6, .inl sccf)), (scf, .inl (scft, 6, .inl scff)), (tw, .inr (8, [.ref twl, .ref twp, .ref twu, .int twe, .ref twh, .ref tws, .ref twg, .int twm, .ref two, .ref twd, .ref twq, .int twr])), (twl, .inr (2, [.ref twlc, .int twln])), (twlc, .inl (twlct, 5, .inr (.inl twlcf))), (twp, .inr (2, [.ref twpc, .int twpn])), (twpc, .inl (twpct, 7, .inr (.inl twpcf))), (twu, .inr (2, [.ref twuc, .int twun])), (twuc, .inl (twuct, 6, .inr (.inl twucf))), (twh, .inl (twht, 7, .inl twhf)), (tws, .inl (twst, 6, .inl twsf)), (twg, .inl (twgt, 6, .inl twgf)), (two, .inl (twot, 14, .inl twof)), (twd, .inl (twdt, 14, .inl twdf)), (twq, .inl (twqt, 14, .inl twqf))] [(scpt, .int), (scwt, .int), (scct, .int), (scft, .int), (twlct, .long), (twpct, .long), (twuct, .long), (twht, .int), (twst, .int), (twgt, .int), (twot, .int), (twdt, .int), (twqt, .int)] 0 0 (fun r9 u9 => u9 = ([(sc, .inr (4, [.ref tw, .int scd, .int sch, .int scs, .ref scp, .ref scw, .ref scc, .ref scf])), (scp, .inl (scpt, 7, .inl scpf)), (scw, .inl (scwt, 6, .inl scwf)), (scc, .inl (scct, 6, .inl sccf)), (scf, .inl (scft, 6, .inl scff)), (tw, .inr (8, [.ref twl, .ref twp, .ref twu, .int twe, .ref twh, .ref tws, .ref twg, .int twm, .ref two, .ref twd, .ref twq, .int twr])), (twl, .inr (2, [.ref twlc, .int twln])), (twlc, .inl (twlct, 5, .inr (.inl twlcf))), (twp, .inr (2, [.ref twpc, .int twpn])), (twpc, .inl (twpct, 7, .inr (.inl twpcf))), (twu, .inr (2, [.ref twuc, .int twun])), (twuc, .inl (twuct, 6, .inr (.inl twucf))), (twh, .inl (twht, 7, .inl twhf)), (tws, .inl (twst, 6, .inl twsf)), (twg, .inl (twgt, 6, .inl twgf)), (two, .inl (twot, 14, .inl twof)), (twd, .inl (twdt, 14, .inl twdf)), (twq, .inl (twqt, 14, .inl twqf))], [])) := by
  refine z_ofI (cc := cX4_fated) (maxL := 4) (rt := .int) (by decide) rfl (Nat.le_of_ble_eq_true rfl) ?_
  intro p e s m below meth c Q A ls hx hb hml hown hts hin hK hP hD hA hE hO hS hl hret
  have hown : s.vm.findClass RX4 = some m.cls := hown
  have hiX4 : ∀ w ∈ wsX40, w ∈ wsX4_fated := fun _ h9 => List.mem_cons_of_mem _ (List.mem_append_left _ (List.mem_append_right _ h9))
  have hiX8 : ∀ w ∈ wsX80, w ∈ wsX4_fated := fun _ h9 => List.mem_cons_of_mem _ (List.mem_append_right _ h9)
  have hl : lv_has ls 4 [(0, .ref sc), (1, .int i0)] := hl
  refine lv_iconst (v := 0) hx hb dX4_fated_0 (by decide) ?_
  refine lv_istore_n (lv' := [(2, .int 0), (0, .ref sc), (1, .int i0)]) hx hb dX4_fated_1 rfl hl (by decide) rfl (fun ls hl => ?_)
  refine lv_iconst (v := 0) hx hb dX4_fated_2 (by decide) ?_
  refine lv_istore_n (lv' := [(3, .int 0), (2, .int 0), (0, .ref sc), (1, .int i0)]) hx hb dX4_fated_3 rfl hl (by decide) rfl (fun ls hl => ?_)
  have LP1 : ∀ (n : Nat) (v1_2 : Int32) (v1_3 : Int32) (H : Heap) (locs : List Loc) (ls : Array Slot), z_in 0 14 v1_3 → 15 - v1_3.toInt ≤ (n : Int) → va_P D vwCl [(sc, .inr (4, [.ref tw, .int scd, .int sch, .int scs, .ref scp, .ref scw, .ref scc, .ref scf])), (scp, .inl (scpt, 7, .inl scpf)), (scw, .inl (scwt, 6, .inl scwf)), (scc, .inl (scct, 6, .inl sccf)), (scf, .inl (scft, 6, .inl scff)), (tw, .inr (8, [.ref twl, .ref twp, .ref twu, .int twe, .ref twh, .ref tws, .ref twg, .int twm, .ref two, .ref twd, .ref twq, .int twr])), (twl, .inr (2, [.ref twlc, .int twln])), (twlc, .inl (twlct, 5, .inr (.inl twlcf))), (twp, .inr (2, [.ref twpc, .int twpn])), (twpc, .inl (twpct, 7, .inr (.inl twpcf))), (twu, .inr (2, [.ref twuc, .int twun])), (twuc, .inl (twuct, 6, .inr (.inl twucf))), (twh, .inl (twht, 7, .inl twhf)), (tws, .inl (twst, 6, .inl twsf)), (twg, .inl (twgt, 6, .inl twgf)), (two, .inl (twot, 14, .inl twof)), (twd, .inl (twdt, 14, .inl twdf)), (twq, .inl (twqt, 14, .inl twqf))] H → va_D A [(sc, .inr (4, [.ref tw, .int scd, .int sch, .int scs, .ref scp, .ref scw, .ref scc, .ref scf])), (scp, .inl (scpt, 7, .inl scpf)), (scw, .inl (scwt, 6, .inl scwf)), (scc, .inl (scct, 6, .inl sccf)), (scf, .inl (scft, 6, .inl scff)), (tw, .inr (8, [.ref twl, .ref twp, .ref twu, .int twe, .ref twh, .ref tws, .ref twg, .int twm, .ref two, .ref twd, .ref twq, .int twr])), (twl, .inr (2, [.ref twlc, .int twln])), (twlc, .inl (twlct, 5, .inr (.inl twlcf))), (twp, .inr (2, [.ref twpc, .int twpn])), (twpc, .inl (twpct, 7, .inr (.inl twpcf))), (twu, .inr (2, [.ref twuc, .int twun])), (twuc, .inl (twuct, 6, .inr (.inl twucf))), (twh, .inl (twht, 7, .inl twhf)), (tws, .inl (twst, 6, .inl twsf)), (twg, .inl (twgt, 6, .inl twgf)), (two, .inl (twot, 14, .inl twof)), (twd, .inl (twdt, 14, .inl twdf)), (twq, .inl (twqt, 14, .inl twqf))] → va_S A s.heap H locs → lv_has ls 4 [(3, .int v1_3), (2, .int v1_2), (0, .ref sc), (1, .int i0)] → W p l e ({ frames := 1, cells := 0, slots := 0, locals := 21 }) s m ([.ref sc, .int i0] : List Value).toArray below meth c H locs 0 0 Q (F0 m 4 ls []) := by
    intro n
    induction n with
    | zero => intro v1_2 v1_3 H locs ls hv1_3 hn1; exact absurd hn1 (by have q1 := hv1_3.1; have q2 := hv1_3.2; omega)
    | succ n ih1 =>
      intro v1_2 v1_3 H locs ls hv1_3 hn1 hP hD hS hl
      have q1 := hv1_3.1
      have q1' := hv1_3.2
      refine lv_iload_n hx hb dX4_fated_4 rfl (lv_at hl 0 rfl) ?_
      refine lv_aload_n hx hb dX4_fated_5 rfl (lv_at hl 2 rfl) ?_
      refine va_get (D := D) (ci := 4) (v := .ref tw) (C := RX4) (T := TX4) (N := 8) hx hb hts hiX4 hown hK hP 0 rfl rfl 0 (by decide) (hts _ (List.mem_of_getElem? (i := 1) rfl)) (fun _ h9 => h9) rfl dX4_fated_6 ?_
      refine va_get (D := D) (ci := 8) (v := .int twm) (C := RX8) (T := TX8) (N := 12) hx hb hts hiX8 hown hK hP 5 rfl rfl 7 (by decide) (hts _ (List.mem_of_getElem? (i := 2) rfl)) (fun _ h9 => h9) rfl dX4_fated_9 ?_
      refine lv_icmp_ge (tgt := 33) hx hb dX4_fated_12 (by decide) (fun c_1 => ?_) (fun c_1 => ?_)
      · skip
        refine lv_iload_n hx hb dX4_fated_33 rfl (lv_at hl 1 rfl) ?_
        exact hret v1_2 ([(sc, .inr (4, [.ref tw, .int scd, .int sch, .int scs, .ref scp, .ref scw, .ref scc, .ref scf])), (scp, .inl (scpt, 7, .inl scpf)), (scw, .inl (scwt, 6, .inl scwf)), (scc, .inl (scct, 6, .inl sccf)), (scf, .inl (scft, 6, .inl scff)), (tw, .inr (8, [.ref twl, .ref twp, .ref twu, .int twe, .ref twh, .ref tws, .ref twg, .int twm, .ref two, .ref twd, .ref twq, .int twr])), (twl, .inr (2, [.ref twlc, .int twln])), (twlc, .inl (twlct, 5, .inr (.inl twlcf))), (twp, .inr (2, [.ref twpc, .int twpn])), (twpc, .inl (twpct, 7, .inr (.inl twpcf))), (twu, .inr (2, [.ref twuc, .int twun])), (twuc, .inl (twuct, 6, .inr (.inl twucf))), (twh, .inl (twht, 7, .inl twhf)), (tws, .inl (twst, 6, .inl twsf)), (twg, .inl (twgt, 6, .inl twgf)), (two, .inl (twot, 14, .inl twof)), (twd, .inl (twdt, 14, .inl twdf)), (twq, .inl (twqt, 14, .inl twqf))], []) _ _ _ _ dX4_fated_34 rfl rfl hP (hK.sub [] rfl) hD hS
      · skip
        have h_2 : z_in 0 13 v1_3 := z_ltL (Int32.not_le.mp c_1) hv1_3 htwm rfl
        have h_3 : z_in 1 14 twm := z_ltR (Int32.not_le.mp c_1) hv1_3 htwm rfl
        refine lv_aload_n hx hb dX4_fated_15 rfl (lv_at hl 2 rfl) ?_
        refine lv_iload_n hx hb dX4_fated_16 rfl (lv_at hl 0 rfl) ?_
        have hc9 := (w_Scene_fate l D ad sc scd sch scs scp scpt scpf scw scwt scwf scc scct sccf scf scft scff tw twe twm twr twl twln twlc twlct twlcf twp twpn twpc twpct twpcf twu twun twuc twuct twucf twh twht twhf tws twst twsf twg twgt twgf two twot twof twd twdt twdf twq twqt twqf v1_3 hscpf hscwf hsccf hscff (z_w (c := 0) (d := 14) h_3 rfl) htwr htwln htwpn htwun htwhf htwsf htwgf htwof htwdf htwqf h_2)
        refine z_calli (w0 := [(sc, .inr (4, [.ref tw, .int scd, .int sch, .int scs, .ref scp, .ref scw, .ref scc, .ref scf])), (scp, .inl (scpt, 7, .inl scpf)), (scw, .inl (scwt, 6, .inl scwf)), (scc, .inl (scct, 6, .inl sccf)), (scf, .inl (scft, 6, .inl scff)), (tw, .inr (8, [.ref twl, .ref twp, .ref twu, .int twe, .ref twh, .ref tws, .ref twg, .int twm, .ref two, .ref twd, .ref twq, .int twr])), (twl, .inr (2, [.ref twlc, .int twln])), (twlc, .inl (twlct, 5, .inr (.inl twlcf))), (twp, .inr (2, [.ref twpc, .int twpn])), (twpc, .inl (twpct, 7, .inr (.inl twpcf))), (twu, .inr (2, [.ref twuc, .int twun])), (twuc, .inl (twuct, 6, .inr (.inl twucf))), (twh, .inl (twht, 7, .inl twhf)), (tws, .inl (twst, 6, .inl twsf)), (twg, .inl (twgt, 6, .inl twgf)), (two, .inl (twot, 14, .inl twof)), (twd, .inl (twdt, 14, .inl twdf)), (twq, .inl (twqt, 14, .inl twqf))]) (wr := []) (va_runV (As := [.int v1_3]) (rest := []) ⟨hx, hb, hml, hown, hts⟩ (hc9 _) (cwV 1 hts gX4_fated_X4_fate rfl rfl rfl (by decide +kernel) ⟨Nat.le_of_ble_eq_true rfl, Nat.le_of_ble_eq_true rfl⟩) (z_preV hP hD hK hS hA hE hO [0, 1, 2, 3, 4, 5, 6, 7, 8, 9, 10, 11, 12, 13, 14, 15, 16, 17] [0, 1, 2, 3, 4, 5, 6, 7, 8, 9, 10, 11, 12] rfl (by decide +kernel) rfl 0 4 rfl rfl rfl) rfl rfl hl.1 rfl (lv_room (Nat.le_of_ble_eq_true rfl)) dX4_fated_17 ⟨Nat.le_of_ble_eq_true rfl, Nat.le_of_ble_eq_true rfl⟩) hP hD hK hS hA [0, 1, 2, 3, 4, 5, 6, 7, 8, 9, 10, 11, 12, 13, 14, 15, 16, 17] [] rfl rfl (by decide +kernel) (by decide +kernel) (fun y_4 u9 H locs hw hP hD hK hS => ?_)
        obtain ⟨h_5, h_6, h_7, rfl⟩ := hw
        have hP : va_P D vwCl [(sc, .inr (4, [.ref tw, .int scd, .int sch, .int scs, .ref scp, .ref scw, .ref scc, .ref scf])), (scp, .inl (scpt, 7, .inl scpf)), (scw, .inl (scwt, 6, .inl scwf)), (scc, .inl (scct, 6, .inl sccf)), (scf, .inl (scft, 6, .inl scff)), (tw, .inr (8, [.ref twl, .ref twp, .ref twu, .int twe, .ref twh, .ref tws, .ref twg, .int twm, .ref two, .ref twd, .ref twq, .int twr])), (twl, .inr (2, [.ref twlc, .int twln])), (twlc, .inl (twlct, 5, .inr (.inl twlcf))), (twp, .inr (2, [.ref twpc, .int twpn])), (twpc, .inl (twpct, 7, .inr (.inl twpcf))), (twu, .inr (2, [.ref twuc, .int twun])), (twuc, .inl (twuct, 6, .inr (.inl twucf))), (twh, .inl (twht, 7, .inl twhf)), (tws, .inl (twst, 6, .inl twsf)), (twg, .inl (twgt, 6, .inl twgf)), (two, .inl (twot, 14, .inl twof)), (twd, .inl (twdt, 14, .inl twdf)), (twq, .inl (twqt, 14, .inl twqf))] H := hP
        have hD : va_D A [(sc, .inr (4, [.ref tw, .int scd, .int sch, .int scs, .ref scp, .ref scw, .ref scc, .ref scf])), (scp, .inl (scpt, 7, .inl scpf)), (scw, .inl (scwt, 6, .inl scwf)), (scc, .inl (scct, 6, .inl sccf)), (scf, .inl (scft, 6, .inl scff)), (tw, .inr (8, [.ref twl, .ref twp, .ref twu, .int twe, .ref twh, .ref tws, .ref twg, .int twm, .ref two, .ref twd, .ref twq, .int twr])), (twl, .inr (2, [.ref twlc, .int twln])), (twlc, .inl (twlct, 5, .inr (.inl twlcf))), (twp, .inr (2, [.ref twpc, .int twpn])), (twpc, .inl (twpct, 7, .inr (.inl twpcf))), (twu, .inr (2, [.ref twuc, .int twun])), (twuc, .inl (twuct, 6, .inr (.inl twucf))), (twh, .inl (twht, 7, .inl twhf)), (tws, .inl (twst, 6, .inl twsf)), (twg, .inl (twgt, 6, .inl twgf)), (two, .inl (twot, 14, .inl twof)), (twd, .inl (twdt, 14, .inl twdf)), (twq, .inl (twqt, 14, .inl twqf))] := hD
        have hK : va_K D vwCl [(scpt, .int), (scwt, .int), (scct, .int), (scft, .int), (twlct, .long), (twpct, .long), (twuct, .long), (twht, .int), (twst, .int), (twgt, .int), (twot, .int), (twdt, .int), (twqt, .int)] s := hK
        refine W.cs (cells' := 0) (slots' := 0) rfl rfl ?_
        refine W.eq (g2 := F0 m 20 ls (.int y_4 :: [])) rfl ?_
        refine lv_iload_n hx hb dX4_fated_20 rfl (lv_at hl 3 rfl) ?_
        refine lv_icmp_ne (tgt := 27) hx hb dX4_fated_21 (by decide) (fun c_8 => ?_) (fun c_8 => ?_)
        · skip
          obtain ⟨y_9, ey_9⟩ : ∃ y : Int32, y = v1_3 + 1 := ⟨_, rfl⟩
          have h_10 : z_in 1 14 y_9 := by rw [ey_9]; exact z_add h_2 (z_lit (x := 1) (a := 1) (b := 1) rfl) rfl rfl
          have ty_9 : y_9.toInt = v1_3.toInt + 1 := by rw [ey_9]; exact z_addT h_2 (z_lit (x := 1) (a := 1) (b := 1) rfl) rfl
          refine lv_iinc (v := y_9) (lv' := [(3, .int y_9), (2, .int v1_2), (0, .ref sc), (1, .int i0)]) hx hb dX4_fated_27 hl (k := 0) rfl (by rw [ey_9]; rfl) (by decide) rfl (fun ls hl => ?_)
          refine lv_goto (tgt := 4) hx hb dX4_fated_30 (by decide) ?_
          exact ih1 v1_2 y_9 _ _ _ (z_w (c := 0) (d := 14) h_10 rfl) (by omega) hP hD hS (lv_sub hl [0, 1, 2, 3] rfl)
        · skip
          have h_11 : z_in 0 2147483647 i0 := z_leR (Int32.le_of_eq c_8) h_5 (z_any i0) rfl
          have h_12 : z_in 0 2 i0 := z_leL (Int32.le_of_eq (Eq.symm c_8)) h_11 h_5 rfl
          obtain ⟨y_13, ey_13⟩ : ∃ y : Int32, y = v1_2 + 1 := ⟨_, rfl⟩
          refine lv_iinc (v := y_13) (lv' := [(2, .int y_13), (3, .int v1_3), (0, .ref sc), (1, .int i0)]) hx hb dX4_fated_24 hl (k := 1) rfl (by rw [ey_13]; rfl) (by decide) rfl (fun ls hl => ?_)
          obtain ⟨y_14, ey_14⟩ : ∃ y : Int32, y = v1_3 + 1 := ⟨_, rfl⟩
          have h_15 : z_in 1 14 y_14 := by rw [ey_14]; exact z_add h_2 (z_lit (x := 1) (a := 1) (b := 1) rfl) rfl rfl
          have ty_14 : y_14.toInt = v1_3.toInt + 1 := by rw [ey_14]; exact z_addT h_2 (z_lit (x := 1) (a := 1) (b := 1) rfl) rfl
          refine lv_iinc (v := y_14) (lv' := [(3, .int y_14), (2, .int y_13), (0, .ref sc), (1, .int i0)]) hx hb dX4_fated_27 hl (k := 1) rfl (by rw [ey_14]; rfl) (by decide) rfl (fun ls hl => ?_)
          refine lv_goto (tgt := 4) hx hb dX4_fated_30 (by decide) ?_
          exact ih1 y_13 y_14 _ _ _ (z_w (c := 0) (d := 14) h_15 rfl) (by omega) hP hD hS (lv_sub hl [0, 1, 2, 3] rfl)
  exact LP1 15 0 0 _ _ _ (z_w (c := 0) (d := 14) (z_lit (x := 0) (a := 0) (b := 0) rfl) rfl) (by decide) hP hD hS (lv_sub hl [0, 1, 2, 3] rfl)

set_option maxHeartbeats 8000000 in
set_option maxRecDepth 100000 in
theorem w_Scene_aheadOf (l : Launch) (D : va_G) (ad : Nat → Nat) (sc : Nat) (scd : Int32) (sch : Int32) (scs : Int32) (scp : Nat) (scpt : ClassId) (scpf : Nat → Int32) (scw : Nat) (scwt : ClassId) (scwf : Nat → Int32) (scc : Nat) (scct : ClassId) (sccf : Nat → Int32) (scf : Nat) (scft : ClassId) (scff : Nat → Int32) (tw : Nat) (twe : Int32) (twm : Int32) (twr : Int32) (twl : Nat) (twln : Int32) (twlc : Nat) (twlct : ClassId) (twlcf : Nat → Int64) (twp : Nat) (twpn : Int32) (twpc : Nat) (twpct : ClassId) (twpcf : Nat → Int64) (twu : Nat) (twun : Int32) (twuc : Nat) (twuct : ClassId) (twucf : Nat → Int64) (twh : Nat) (twht : ClassId) (twhf : Nat → Int32) (tws : Nat) (twst : ClassId) (twsf : Nat → Int32) (twg : Nat) (twgt : ClassId) (twgf : Nat → Int32) (two : Nat) (twot : ClassId) (twof : Nat → Int32) (twd : Nat) (twdt : ClassId) (twdf : Nat → Int32) (twq : Nat) (twqt : ClassId) (twqf : Nat → Int32) (i0 : Int32) (hscpf : z_al 0 4 scpf) (hscwf : z_al 0 4 scwf) (hsccf : z_al (-1) 6 sccf) (hscff : z_al 0 12 scff) (htwm : z_in 0 14 twm) (htwr : z_in 0 5 twr) (htwln : z_in 0 5 twln) (htwpn : z_in 0 7 twpn) (htwun : z_in 0 6 twun) (htwhf : z_al 0 4 twhf) (htwsf : z_al 0 4 twsf) (htwgf : z_al 0 12 twgf) (htwof : z_al 0 6 twof) (htwdf : z_al 0 199 twdf) (htwqf : z_al 0 20 twqf) : z_Mi l yX4_aheadOf wsX4_aheadOf { frames := 1, cells := 0, slots := 0, locals := 21 } D ad [.ref sc, .int i0] [(sc, .inr (4, [.ref tw, .int scd, .int sch, .int scs, .ref scp, .ref scw, .ref scc, .ref scf])), (scp, .inl (scpt, 7, .inl scpf)), (scw, .inl (scwt, 6, .inl scwf)), (scc, .inl (scct, 6, .inl sccf)), (scf, .inl (scft, 6, .inl scff)), (tw, .inr (8, [.ref twl, .ref twp, .ref twu, .int twe, .ref twh, .ref tws, .ref twg, .int twm, .ref two, .ref twd, .ref twq, .int twr])), (twl, .inr (2, [.ref twlc, .int twln])), (twlc, .inl (twlct, 5, .inr (.inl twlcf))), (twp, .inr (2, [.ref twpc, .int twpn])), (twpc, .inl (twpct, 7, .inr (.inl twpcf))), (twu, .inr (2, [.ref twuc, .int twun])), (twuc, .inl (twuct, 6, .inr (.inl twucf))), (twh, .inl (twht, 7, .inl twhf)), (tws, .inl (twst, 6, .inl twsf)), (twg, .inl (twgt, 6, .inl twgf)), (two, .inl (twot, 14, .inl twof)), (twd, .inl (twdt, 14, .inl twdf)), (twq, .inl (twqt, 14, .inl twqf))] [(scpt, .int), (scwt, .int), (scct, .int), (scft, .int), (twlct, .long), (twpct, .long), (twuct, .long), (twht, .int), (twst, .int), (twgt, .int), (twot, .int), (twdt, .int), (twqt, .int)] 0 0 (fun r9 u9 => u9 = ([(sc, .inr (4, [.ref tw, .int scd, .int sch, .int scs, .ref scp, .ref scw, .ref scc, .ref scf])), (scp, .inl (scpt, 7, .inl scpf)), (scw, .inl (scwt, 6, .inl scwf)), (scc, .inl (scct, 6, .inl sccf)), (scf, .inl (scft, 6, .inl scff)), (tw, .inr (8, [.ref twl, .ref twp, .ref twu, .int twe, .ref twh, .ref tws, .ref twg, .int twm, .ref two, .ref twd, .ref twq, .int twr])), (twl, .inr (2, [.ref twlc, .int twln])), (twlc, .inl (twlct, 5, .inr (.inl twlcf))), (twp, .inr (2, [.ref twpc, .int twpn])), (twpc, .inl (twpct, 7, .inr (.inl twpcf))), (twu, .inr (2, [.ref twuc, .int twun])), (twuc, .inl (twuct, 6, .inr (.inl twucf))), (twh, .inl (twht, 7, .inl twhf)), (tws, .inl (twst, 6, .inl twsf)), (twg, .inl (twgt, 6, .inl twgf)), (two, .inl (twot, 14, .inl twof)), (twd, .inl (twdt, 14, .inl twdf)), (twq, .inl (twqt, 14, .inl twqf))], [])) := by
  refine z_ofI (cc := cX4_aheadOf) (maxL := 4) (rt := .int) (by decide) rfl (Nat.le_of_ble_eq_true rfl) ?_
  intro p e s m below meth c Q A ls hx hb hml hown hts hin hK hP hD hA hE hO hS hl hret
  have hown : s.vm.findClass RX4 = some m.cls := hown
  have hiX4 : ∀ w ∈ wsX40, w ∈ wsX4_aheadOf := fun _ h9 => List.mem_cons_of_mem _ (List.mem_append_left _ (List.mem_append_right _ h9))
  have hiX8 : ∀ w ∈ wsX80, w ∈ wsX4_aheadOf := fun _ h9 => List.mem_cons_of_mem _ (List.mem_append_right _ h9)
  have hl : lv_has ls 4 [(0, .ref sc), (1, .int i0)] := hl
  refine lv_iconst (v := 0) hx hb dX4_aheadOf_0 (by decide) ?_
  refine lv_istore_n (lv' := [(2, .int 0), (0, .ref sc), (1, .int i0)]) hx hb dX4_aheadOf_1 rfl hl (by decide) rfl (fun ls hl => ?_)
  refine lv_iconst (v := 0) hx hb dX4_aheadOf_2 (by decide) ?_
  refine lv_istore_n (lv' := [(3, .int 0), (2, .int 0), (0, .ref sc), (1, .int i0)]) hx hb dX4_aheadOf_3 rfl hl (by decide) rfl (fun ls hl => ?_)
  have LP1 : ∀ (n : Nat) (v1_2 : Int32) (v1_3 : Int32) (H : Heap) (locs : List Loc) (ls : Array Slot), z_in 0 14 v1_3 → 15 - v1_3.toInt ≤ (n : Int) → va_P D vwCl [(sc, .inr (4, [.ref tw, .int scd, .int sch, .int scs, .ref scp, .ref scw, .ref scc, .ref scf])), (scp, .inl (scpt, 7, .inl scpf)), (scw, .inl (scwt, 6, .inl scwf)), (scc, .inl (scct, 6, .inl sccf)), (scf, .inl (scft, 6, .inl scff)), (tw, .inr (8, [.ref twl, .ref twp, .ref twu, .int twe, .ref twh, .ref tws, .ref twg, .int twm, .ref two, .ref twd, .ref twq, .int twr])), (twl, .inr (2, [.ref twlc, .int twln])), (twlc, .inl (twlct, 5, .inr (.inl twlcf))), (twp, .inr (2, [.ref twpc, .int twpn])), (twpc, .inl (twpct, 7, .inr (.inl twpcf))), (twu, .inr (2, [.ref twuc, .int twun])), (twuc, .inl (twuct, 6, .inr (.inl twucf))), (twh, .inl (twht, 7, .inl twhf)), (tws, .inl (twst, 6, .inl twsf)), (twg, .inl (twgt, 6, .inl twgf)), (two, .inl (twot, 14, .inl twof)), (twd, .inl (twdt, 14, .inl twdf)), (twq, .inl (twqt, 14, .inl twqf))] H → va_D A [(sc, .inr (4, [.ref tw, .int scd, .int sch, .int scs, .ref scp, .ref scw, .ref scc, .ref scf])), (scp, .inl (scpt, 7, .inl scpf)), (scw, .inl (scwt, 6, .inl scwf)), (scc, .inl (scct, 6, .inl sccf)), (scf, .inl (scft, 6, .inl scff)), (tw, .inr (8, [.ref twl, .ref twp, .ref twu, .int twe, .ref twh, .ref tws, .ref twg, .int twm, .ref two, .ref twd, .ref twq, .int twr])), (twl, .inr (2, [.ref twlc, .int twln])), (twlc, .inl (twlct, 5, .inr (.inl twlcf))), (twp, .inr (2, [.ref twpc, .int twpn])), (twpc, .inl (twpct, 7, .inr (.inl twpcf))), (twu, .inr (2, [.ref twuc, .int twun])), (twuc, .inl (twuct, 6, .inr (.inl twucf))), (twh, .inl (twht, 7, .inl twhf)), (tws, .inl (twst, 6, .inl twsf)), (twg, .inl (twgt, 6, .inl twgf)), (two, .inl (twot, 14, .inl twof)), (twd, .inl (twdt, 14, .inl twdf)), (twq, .inl (twqt, 14, .inl twqf))] → va_S A s.heap H locs → lv_has ls 4 [(3, .int v1_3), (2, .int v1_2), (0, .ref sc), (1, .int i0)] → W p l e ({ frames := 1, cells := 0, slots := 0, locals := 21 }) s m ([.ref sc, .int i0] : List Value).toArray below meth c H locs 0 0 Q (F0 m 4 ls []) := by
    intro n
    induction n with
    | zero => intro v1_2 v1_3 H locs ls hv1_3 hn1; exact absurd hn1 (by have q1 := hv1_3.1; have q2 := hv1_3.2; omega)
    | succ n ih1 =>
      intro v1_2 v1_3 H locs ls hv1_3 hn1 hP hD hS hl
      have q1 := hv1_3.1
      have q1' := hv1_3.2
      refine lv_iload_n hx hb dX4_aheadOf_4 rfl (lv_at hl 0 rfl) ?_
      refine lv_aload_n hx hb dX4_aheadOf_5 rfl (lv_at hl 2 rfl) ?_
      refine va_get (D := D) (ci := 4) (v := .ref tw) (C := RX4) (T := TX4) (N := 8) hx hb hts hiX4 hown hK hP 0 rfl rfl 0 (by decide) (hts _ (List.mem_of_getElem? (i := 1) rfl)) (fun _ h9 => h9) rfl dX4_aheadOf_6 ?_
      refine va_get (D := D) (ci := 8) (v := .int twm) (C := RX8) (T := TX8) (N := 12) hx hb hts hiX8 hown hK hP 5 rfl rfl 7 (by decide) (hts _ (List.mem_of_getElem? (i := 2) rfl)) (fun _ h9 => h9) rfl dX4_aheadOf_9 ?_
      refine lv_icmp_ge (tgt := 45) hx hb dX4_aheadOf_12 (by decide) (fun c_1 => ?_) (fun c_1 => ?_)
      · skip
        refine lv_iload_n hx hb dX4_aheadOf_45 rfl (lv_at hl 1 rfl) ?_
        exact hret v1_2 ([(sc, .inr (4, [.ref tw, .int scd, .int sch, .int scs, .ref scp, .ref scw, .ref scc, .ref scf])), (scp, .inl (scpt, 7, .inl scpf)), (scw, .inl (scwt, 6, .inl scwf)), (scc, .inl (scct, 6, .inl sccf)), (scf, .inl (scft, 6, .inl scff)), (tw, .inr (8, [.ref twl, .ref twp, .ref twu, .int twe, .ref twh, .ref tws, .ref twg, .int twm, .ref two, .ref twd, .ref twq, .int twr])), (twl, .inr (2, [.ref twlc, .int twln])), (twlc, .inl (twlct, 5, .inr (.inl twlcf))), (twp, .inr (2, [.ref twpc, .int twpn])), (twpc, .inl (twpct, 7, .inr (.inl twpcf))), (twu, .inr (2, [.ref twuc, .int twun])), (twuc, .inl (twuct, 6, .inr (.inl twucf))), (twh, .inl (twht, 7, .inl twhf)), (tws, .inl (twst, 6, .inl twsf)), (twg, .inl (twgt, 6, .inl twgf)), (two, .inl (twot, 14, .inl twof)), (twd, .inl (twdt, 14, .inl twdf)), (twq, .inl (twqt, 14, .inl twqf))], []) _ _ _ _ dX4_aheadOf_46 rfl rfl hP (hK.sub [] rfl) hD hS
      · skip
        have h_2 : z_in 0 13 v1_3 := z_ltL (Int32.not_le.mp c_1) hv1_3 htwm rfl
        have h_3 : z_in 1 14 twm := z_ltR (Int32.not_le.mp c_1) hv1_3 htwm rfl
        refine lv_aload_n hx hb dX4_aheadOf_15 rfl (lv_at hl 2 rfl) ?_
        refine va_get (D := D) (ci := 4) (v := .ref tw) (C := RX4) (T := TX4) (N := 8) hx hb hts hiX4 hown hK hP 0 rfl rfl 0 (by decide) (hts _ (List.mem_of_getElem? (i := 1) rfl)) (fun _ h9 => h9) rfl dX4_aheadOf_16 ?_
        refine va_get (D := D) (ci := 8) (v := .ref two) (C := RX8) (T := TX8) (N := 12) hx hb hts hiX8 hown hK hP 5 rfl rfl 8 (by decide) (hts _ (List.mem_of_getElem? (i := 3) rfl)) (fun _ h9 => h9) rfl dX4_aheadOf_19 ?_
        refine lv_iload_n hx hb dX4_aheadOf_22 rfl (lv_at hl 0 rfl) ?_
        refine va_iald hx hb hK hP 15 10 rfl rfl (z_vp h_2 rfl) dX4_aheadOf_23 ?_
        refine lv_topi (fun y_4 ey_4 => ?_)
        have h_5 : z_in 0 6 y_4 := by rw [ey_4]; exact htwof _
        refine lv_iload_n hx hb dX4_aheadOf_24 rfl (lv_at hl 3 rfl) ?_
        refine lv_icmp_ne (tgt := 39) hx hb dX4_aheadOf_25 (by decide) (fun c_6 => ?_) (fun c_6 => ?_)
        · skip
          obtain ⟨y_7, ey_7⟩ : ∃ y : Int32, y = v1_3 + 1 := ⟨_, rfl⟩
          have h_8 : z_in 1 14 y_7 := by rw [ey_7]; exact z_add h_2 (z_lit (x := 1) (a := 1) (b := 1) rfl) rfl rfl
          have ty_7 : y_7.toInt = v1_3.toInt + 1 := by rw [ey_7]; exact z_addT h_2 (z_lit (x := 1) (a := 1) (b := 1) rfl) rfl
          refine lv_iinc (v := y_7) (lv' := [(3, .int y_7), (2, .int v1_2), (0, .ref sc), (1, .int i0)]) hx hb dX4_aheadOf_39 hl (k := 0) rfl (by rw [ey_7]; rfl) (by decide) rfl (fun ls hl => ?_)
          refine lv_goto (tgt := 4) hx hb dX4_aheadOf_42 (by decide) ?_
          exact ih1 v1_2 y_7 _ _ _ (z_w (c := 0) (d := 14) h_8 rfl) (by omega) hP hD hS (lv_sub hl [0, 1, 2, 3] rfl)
        · skip
          have h_9 : z_in 0 2147483647 i0 := z_leR (Int32.le_of_eq c_6) h_5 (z_any i0) rfl
          have h_10 : z_in 0 6 i0 := z_leL (Int32.le_of_eq (Eq.symm c_6)) h_9 h_5 rfl
          refine lv_aload_n hx hb dX4_aheadOf_28 rfl (lv_at hl 2 rfl) ?_
          refine lv_iload_n hx hb dX4_aheadOf_29 rfl (lv_at hl 0 rfl) ?_
          have hc9 := (w_Scene_fate l D ad sc scd sch scs scp scpt scpf scw scwt scwf scc scct sccf scf scft scff tw twe twm twr twl twln twlc twlct twlcf twp twpn twpc twpct twpcf twu twun twuc twuct twucf twh twht twhf tws twst twsf twg twgt twgf two twot twof twd twdt twdf twq twqt twqf v1_3 hscpf hscwf hsccf hscff (z_w (c := 0) (d := 14) h_3 rfl) htwr htwln htwpn htwun htwhf htwsf htwgf htwof htwdf htwqf h_2)
          refine z_calli (w0 := [(sc, .inr (4, [.ref tw, .int scd, .int sch, .int scs, .ref scp, .ref scw, .ref scc, .ref scf])), (scp, .inl (scpt, 7, .inl scpf)), (scw, .inl (scwt, 6, .inl scwf)), (scc, .inl (scct, 6, .inl sccf)), (scf, .inl (scft, 6, .inl scff)), (tw, .inr (8, [.ref twl, .ref twp, .ref twu, .int twe, .ref twh, .ref tws, .ref twg, .int twm, .ref two, .ref twd, .ref twq, .int twr])), (twl, .inr (2, [.ref twlc, .int twln])), (twlc, .inl (twlct, 5, .inr (.inl twlcf))), (twp, .inr (2, [.ref twpc, .int twpn])), (twpc, .inl (twpct, 7, .inr (.inl twpcf))), (twu, .inr (2, [.ref twuc, .int twun])), (twuc, .inl (twuct, 6, .inr (.inl twucf))), (twh, .inl (twht, 7, .inl twhf)), (tws, .inl (twst, 6, .inl twsf)), (twg, .inl (twgt, 6, .inl twgf)), (two, .inl (twot, 14, .inl twof)), (twd, .inl (twdt, 14, .inl twdf)), (twq, .inl (twqt, 14, .inl twqf))]) (wr := []) (va_runV (As := [.int v1_3]) (rest := []) ⟨hx, hb, hml, hown, hts⟩ (hc9 _) (cwV 1 hts gX4_aheadOf_X4_fate rfl rfl rfl (by decide +kernel) ⟨Nat.le_of_ble_eq_true rfl, Nat.le_of_ble_eq_true rfl⟩) (z_preV hP hD hK hS hA hE hO [0, 1, 2, 3, 4, 5, 6, 7, 8, 9, 10, 11, 12, 13, 14, 15, 16, 17] [0, 1, 2, 3, 4, 5, 6, 7, 8, 9, 10, 11, 12] rfl (by decide +kernel) rfl 0 4 rfl rfl rfl) rfl rfl hl.1 rfl (lv_room (Nat.le_of_ble_eq_true rfl)) dX4_aheadOf_30 ⟨Nat.le_of_ble_eq_true rfl, Nat.le_of_ble_eq_true rfl⟩) hP hD hK hS hA [0, 1, 2, 3, 4, 5, 6, 7, 8, 9, 10, 11, 12, 13, 14, 15, 16, 17] [] rfl rfl (by decide +kernel) (by decide +kernel) (fun y_11 u9 H locs hw hP hD hK hS => ?_)
          obtain ⟨h_12, h_13, h_14, rfl⟩ := hw
          have hP : va_P D vwCl [(sc, .inr (4, [.ref tw, .int scd, .int sch, .int scs, .ref scp, .ref scw, .ref scc, .ref scf])), (scp, .inl (scpt, 7, .inl scpf)), (scw, .inl (scwt, 6, .inl scwf)), (scc, .inl (scct, 6, .inl sccf)), (scf, .inl (scft, 6, .inl scff)), (tw, .inr (8, [.ref twl, .ref twp, .ref twu, .int twe, .ref twh, .ref tws, .ref twg, .int twm, .ref two, .ref twd, .ref twq, .int twr])), (twl, .inr (2, [.ref twlc, .int twln])), (twlc, .inl (twlct, 5, .inr (.inl twlcf))), (twp, .inr (2, [.ref twpc, .int twpn])), (twpc, .inl (twpct, 7, .inr (.inl twpcf))), (twu, .inr (2, [.ref twuc, .int twun])), (twuc, .inl (twuct, 6, .inr (.inl twucf))), (twh, .inl (twht, 7, .inl twhf)), (tws, .inl (twst, 6, .inl twsf)), (twg, .inl (twgt, 6, .inl twgf)), (two, .inl (twot, 14, .inl twof)), (twd, .inl (twdt, 14, .inl twdf)), (twq, .inl (twqt, 14, .inl twqf))] H := hP
          have hD : va_D A [(sc, .inr (4, [.ref tw, .int scd, .int sch, .int scs, .ref scp, .ref scw, .ref scc, .ref scf])), (scp, .inl (scpt, 7, .inl scpf)), (scw, .inl (scwt, 6, .inl scwf)), (scc, .inl (scct, 6, .inl sccf)), (scf, .inl (scft, 6, .inl scff)), (tw, .inr (8, [.ref twl, .ref twp, .ref twu, .int twe, .ref twh, .ref tws, .ref twg, .int twm, .ref two, .ref twd, .ref twq, .int twr])), (twl, .inr (2, [.ref twlc, .int twln])), (twlc, .inl (twlct, 5, .inr (.inl twlcf))), (twp, .inr (2, [.ref twpc, .int twpn])), (twpc, .inl (twpct, 7, .inr (.inl twpcf))), (twu, .inr (2, [.ref twuc, .int twun])), (twuc, .inl (twuct, 6, .inr (.inl twucf))), (twh, .inl (twht, 7, .inl twhf)), (tws, .inl (twst, 6, .inl twsf)), (twg, .inl (twgt, 6, .inl twgf)), (two, .inl (twot, 14, .inl twof)), (twd, .inl (twdt, 14, .inl twdf)), (twq, .inl (twqt, 14, .inl twqf))] := hD
          have hK : va_K D vwCl [(scpt, .int), (scwt, .int), (scct, .int), (scft, .int), (twlct, .long), (twpct, .long), (twuct, .long), (twht, .int), (twst, .int), (twgt, .int), (twot, .int), (twdt, .int), (twqt, .int)] s := hK
          refine W.cs (cells' := 0) (slots' := 0) rfl rfl ?_
          refine W.eq (g2 := F0 m 33 ls (.int y_11 :: [])) rfl ?_
          refine lv_if_ne (tgt := 39) hx hb dX4_aheadOf_33 (by decide) (fun c_15 => ?_) (fun c_15 => ?_)
          · skip
            have h_16 : z_in 1 2 y_11 := z_neLo c_15 h_12 (z_lit (x := 0) (a := 0) (b := 0) rfl) rfl
            obtain ⟨y_17, ey_17⟩ : ∃ y : Int32, y = v1_3 + 1 := ⟨_, rfl⟩
            have h_18 : z_in 1 14 y_17 := by rw [ey_17]; exact z_add h_2 (z_lit (x := 1) (a := 1) (b := 1) rfl) rfl rfl
            have ty_17 : y_17.toInt = v1_3.toInt + 1 := by rw [ey_17]; exact z_addT h_2 (z_lit (x := 1) (a := 1) (b := 1) rfl) rfl
            refine lv_iinc (v := y_17) (lv' := [(3, .int y_17), (2, .int v1_2), (0, .ref sc), (1, .int i0)]) hx hb dX4_aheadOf_39 hl (k := 0) rfl (by rw [ey_17]; rfl) (by decide) rfl (fun ls hl => ?_)
            refine lv_goto (tgt := 4) hx hb dX4_aheadOf_42 (by decide) ?_
            exact ih1 v1_2 y_17 _ _ _ (z_w (c := 0) (d := 14) h_18 rfl) (by omega) hP hD hS (lv_sub hl [0, 1, 2, 3] rfl)
          · skip
            have h_19 : z_in 0 0 y_11 := z_leL (Int32.le_of_eq c_15) h_12 (z_lit (x := 0) (a := 0) (b := 0) rfl) rfl
            have h_20 : z_in (-2147483648) 198 scd := z_both (z_any scd) (h_13 (z_eqk h_19 rfl)) rfl
            obtain ⟨y_21, ey_21⟩ : ∃ y : Int32, y = v1_2 + 1 := ⟨_, rfl⟩
            refine lv_iinc (v := y_21) (lv' := [(2, .int y_21), (3, .int v1_3), (0, .ref sc), (1, .int i0)]) hx hb dX4_aheadOf_36 hl (k := 1) rfl (by rw [ey_21]; rfl) (by decide) rfl (fun ls hl => ?_)
            obtain ⟨y_22, ey_22⟩ : ∃ y : Int32, y = v1_3 + 1 := ⟨_, rfl⟩
            have h_23 : z_in 1 14 y_22 := by rw [ey_22]; exact z_add h_2 (z_lit (x := 1) (a := 1) (b := 1) rfl) rfl rfl
            have ty_22 : y_22.toInt = v1_3.toInt + 1 := by rw [ey_22]; exact z_addT h_2 (z_lit (x := 1) (a := 1) (b := 1) rfl) rfl
            refine lv_iinc (v := y_22) (lv' := [(3, .int y_22), (2, .int y_21), (0, .ref sc), (1, .int i0)]) hx hb dX4_aheadOf_39 hl (k := 1) rfl (by rw [ey_22]; rfl) (by decide) rfl (fun ls hl => ?_)
            refine lv_goto (tgt := 4) hx hb dX4_aheadOf_42 (by decide) ?_
            exact ih1 y_21 y_22 _ _ _ (z_w (c := 0) (d := 14) h_23 rfl) (by omega) hP hD hS (lv_sub hl [0, 1, 2, 3] rfl)
  exact LP1 15 0 0 _ _ _ (z_w (c := 0) (d := 14) (z_lit (x := 0) (a := 0) (b := 0) rfl) rfl) (by decide) hP hD hS (lv_sub hl [0, 1, 2, 3] rfl)

set_option maxHeartbeats 8000000 in
set_option maxRecDepth 100000 in
theorem w_Scene_soonest (l : Launch) (D : va_G) (ad : Nat → Nat) (sc : Nat) (scd : Int32) (sch : Int32) (scs : Int32) (scp : Nat) (scpt : ClassId) (scpf : Nat → Int32) (scw : Nat) (scwt : ClassId) (scwf : Nat → Int32) (scc : Nat) (scct : ClassId) (sccf : Nat → Int32) (scf : Nat) (scft : ClassId) (scff : Nat → Int32) (tw : Nat) (twe : Int32) (twm : Int32) (twr : Int32) (twl : Nat) (twln : Int32) (twlc : Nat) (twlct : ClassId) (twlcf : Nat → Int64) (twp : Nat) (twpn : Int32) (twpc : Nat) (twpct : ClassId) (twpcf : Nat → Int64) (twu : Nat) (twun : Int32) (twuc : Nat) (twuct : ClassId) (twucf : Nat → Int64) (twh : Nat) (twht : ClassId) (twhf : Nat → Int32) (tws : Nat) (twst : ClassId) (twsf : Nat → Int32) (twg : Nat) (twgt : ClassId) (twgf : Nat → Int32) (two : Nat) (twot : ClassId) (twof : Nat → Int32) (twd : Nat) (twdt : ClassId) (twdf : Nat → Int32) (twq : Nat) (twqt : ClassId) (twqf : Nat → Int32) (i0 : Int32) (hscpf : z_al 0 4 scpf) (hscwf : z_al 0 4 scwf) (hsccf : z_al (-1) 6 sccf) (hscff : z_al 0 12 scff) (htwm : z_in 0 14 twm) (htwr : z_in 0 5 twr) (htwln : z_in 0 5 twln) (htwpn : z_in 0 7 twpn) (htwun : z_in 0 6 twun) (htwhf : z_al 0 4 twhf) (htwsf : z_al 0 4 twsf) (htwgf : z_al 0 12 twgf) (htwof : z_al 0 6 twof) (htwdf : z_al 0 199 twdf) (htwqf : z_al 0 20 twqf) : z_Mi l yX4_soonest wsX4_soonest { frames := 1, cells := 0, slots := 0, locals := 21 } D ad [.ref sc, .int i0] [(sc, .inr (4, [.ref tw, .int scd, .int sch, .int scs, .ref scp, .ref scw, .ref scc, .ref scf])), (scp, .inl (scpt, 7, .inl scpf)), (scw, .inl (scwt, 6, .inl scwf)), (scc, .inl (scct, 6, .inl sccf)), (scf, .inl (scft, 6, .inl scff)), (tw, .inr (8, [.ref twl, .ref twp, .ref twu, .int twe, .ref twh, .ref tws, .ref twg, .int twm, .ref two, .ref twd, .ref twq, .int twr])), (twl, .inr (2, [.ref twlc, .int twln])), (twlc, .inl (twlct, 5, .inr (.inl twlcf))), (twp, .inr (2, [.ref twpc, .int twpn])), (twpc, .inl (twpct, 7, .inr (.inl twpcf))), (twu, .inr (2, [.ref twuc, .int twun])), (twuc, .inl (twuct, 6, .inr (.inl twucf))), (twh, .inl (twht, 7, .inl twhf)), (tws, .inl (twst, 6, .inl twsf)), (twg, .inl (twgt, 6, .inl twgf)), (two, .inl (twot, 14, .inl twof)), (twd, .inl (twdt, 14, .inl twdf)), (twq, .inl (twqt, 14, .inl twqf))] [(scpt, .int), (scwt, .int), (scct, .int), (scft, .int), (twlct, .long), (twpct, .long), (twuct, .long), (twht, .int), (twst, .int), (twgt, .int), (twot, .int), (twdt, .int), (twqt, .int)] 0 0 (fun r9 u9 => z_in (-2147483648) 1000 r9 ∧ u9 = ([(sc, .inr (4, [.ref tw, .int scd, .int sch, .int scs, .ref scp, .ref scw, .ref scc, .ref scf])), (scp, .inl (scpt, 7, .inl scpf)), (scw, .inl (scwt, 6, .inl scwf)), (scc, .inl (scct, 6, .inl sccf)), (scf, .inl (scft, 6, .inl scff)), (tw, .inr (8, [.ref twl, .ref twp, .ref twu, .int twe, .ref twh, .ref tws, .ref twg, .int twm, .ref two, .ref twd, .ref twq, .int twr])), (twl, .inr (2, [.ref twlc, .int twln])), (twlc, .inl (twlct, 5, .inr (.inl twlcf))), (twp, .inr (2, [.ref twpc, .int twpn])), (twpc, .inl (twpct, 7, .inr (.inl twpcf))), (twu, .inr (2, [.ref twuc, .int twun])), (twuc, .inl (twuct, 6, .inr (.inl twucf))), (twh, .inl (twht, 7, .inl twhf)), (tws, .inl (twst, 6, .inl twsf)), (twg, .inl (twgt, 6, .inl twgf)), (two, .inl (twot, 14, .inl twof)), (twd, .inl (twdt, 14, .inl twdf)), (twq, .inl (twqt, 14, .inl twqf))], [])) := by
  refine z_ofI (cc := cX4_soonest) (maxL := 4) (rt := .int) (by decide) rfl (Nat.le_of_ble_eq_true rfl) ?_
  intro p e s m below meth c Q A ls hx hb hml hown hts hin hK hP hD hA hE hO hS hl hret
  have hown : s.vm.findClass RX4 = some m.cls := hown
  have hiX4 : ∀ w ∈ wsX40, w ∈ wsX4_soonest := fun _ h9 => List.mem_cons_of_mem _ (List.mem_append_left _ (List.mem_append_right _ h9))
  have hiX8 : ∀ w ∈ wsX80, w ∈ wsX4_soonest := fun _ h9 => List.mem_cons_of_mem _ (List.mem_append_right _ h9)
  have hl : lv_has ls 4 [(0, .ref sc), (1, .int i0)] := hl
  refine lv_sipush (v := 1000) hx hb dX4_soonest_0 (by decide) ?_
  refine lv_istore_n (lv' := [(2, .int 1000), (0, .ref sc), (1, .int i0)]) hx hb dX4_soonest_3 rfl hl (by decide) rfl (fun ls hl => ?_)
  refine lv_iconst (v := 0) hx hb dX4_soonest_4 (by decide) ?_
  refine lv_istore_n (lv' := [(3, .int 0), (2, .int 1000), (0, .ref sc), (1, .int i0)]) hx hb dX4_soonest_5 rfl hl (by decide) rfl (fun ls hl => ?_)
  have LP1 : ∀ (n : Nat) (v1_2 : Int32) (v1_3 : Int32) (H : Heap) (locs : List Loc) (ls : Array Slot), z_in (-2147483648) 1000 v1_2 → z_in 0 14 v1_3 → 15 - v1_3.toInt ≤ (n : Int) → va_P D vwCl [(sc, .inr (4, [.ref tw, .int scd, .int sch, .int scs, .ref scp, .ref scw, .ref scc, .ref scf])), (scp, .inl (scpt, 7, .inl scpf)), (scw, .inl (scwt, 6, .inl scwf)), (scc, .inl (scct, 6, .inl sccf)), (scf, .inl (scft, 6, .inl scff)), (tw, .inr (8, [.ref twl, .ref twp, .ref twu, .int twe, .ref twh, .ref tws, .ref twg, .int twm, .ref two, .ref twd, .ref twq, .int twr])), (twl, .inr (2, [.ref twlc, .int twln])), (twlc, .inl (twlct, 5, .inr (.inl twlcf))), (twp, .inr (2, [.ref twpc, .int twpn])), (twpc, .inl (twpct, 7, .inr (.inl twpcf))), (twu, .inr (2, [.ref twuc, .int twun])), (twuc, .inl (twuct, 6, .inr (.inl twucf))), (twh, .inl (twht, 7, .inl twhf)), (tws, .inl (twst, 6, .inl twsf)), (twg, .inl (twgt, 6, .inl twgf)), (two, .inl (twot, 14, .inl twof)), (twd, .inl (twdt, 14, .inl twdf)), (twq, .inl (twqt, 14, .inl twqf))] H → va_D A [(sc, .inr (4, [.ref tw, .int scd, .int sch, .int scs, .ref scp, .ref scw, .ref scc, .ref scf])), (scp, .inl (scpt, 7, .inl scpf)), (scw, .inl (scwt, 6, .inl scwf)), (scc, .inl (scct, 6, .inl sccf)), (scf, .inl (scft, 6, .inl scff)), (tw, .inr (8, [.ref twl, .ref twp, .ref twu, .int twe, .ref twh, .ref tws, .ref twg, .int twm, .ref two, .ref twd, .ref twq, .int twr])), (twl, .inr (2, [.ref twlc, .int twln])), (twlc, .inl (twlct, 5, .inr (.inl twlcf))), (twp, .inr (2, [.ref twpc, .int twpn])), (twpc, .inl (twpct, 7, .inr (.inl twpcf))), (twu, .inr (2, [.ref twuc, .int twun])), (twuc, .inl (twuct, 6, .inr (.inl twucf))), (twh, .inl (twht, 7, .inl twhf)), (tws, .inl (twst, 6, .inl twsf)), (twg, .inl (twgt, 6, .inl twgf)), (two, .inl (twot, 14, .inl twof)), (twd, .inl (twdt, 14, .inl twdf)), (twq, .inl (twqt, 14, .inl twqf))] → va_S A s.heap H locs → lv_has ls 4 [(3, .int v1_3), (2, .int v1_2), (0, .ref sc), (1, .int i0)] → W p l e ({ frames := 1, cells := 0, slots := 0, locals := 21 }) s m ([.ref sc, .int i0] : List Value).toArray below meth c H locs 0 0 Q (F0 m 6 ls []) := by
    intro n
    induction n with
    | zero => intro v1_2 v1_3 H locs ls hv1_2 hv1_3 hn1; exact absurd hn1 (by have q1 := hv1_3.1; have q2 := hv1_3.2; omega)
    | succ n ih1 =>
      intro v1_2 v1_3 H locs ls hv1_2 hv1_3 hn1 hP hD hS hl
      have q1 := hv1_3.1
      have q1' := hv1_3.2
      refine lv_iload_n hx hb dX4_soonest_6 rfl (lv_at hl 0 rfl) ?_
      refine lv_aload_n hx hb dX4_soonest_7 rfl (lv_at hl 2 rfl) ?_
      refine va_get (D := D) (ci := 4) (v := .ref tw) (C := RX4) (T := TX4) (N := 8) hx hb hts hiX4 hown hK hP 0 rfl rfl 0 (by decide) (hts _ (List.mem_of_getElem? (i := 1) rfl)) (fun _ h9 => h9) rfl dX4_soonest_8 ?_
      refine va_get (D := D) (ci := 8) (v := .int twm) (C := RX8) (T := TX8) (N := 12) hx hb hts hiX8 hown hK hP 5 rfl rfl 7 (by decide) (hts _ (List.mem_of_getElem? (i := 2) rfl)) (fun _ h9 => h9) rfl dX4_soonest_11 ?_
      refine lv_icmp_ge (tgt := 63) hx hb dX4_soonest_14 (by decide) (fun c_1 => ?_) (fun c_1 => ?_)
      · skip
        refine lv_iload_n hx hb dX4_soonest_63 rfl (lv_at hl 1 rfl) ?_
        exact hret v1_2 ([(sc, .inr (4, [.ref tw, .int scd, .int sch, .int scs, .ref scp, .ref scw, .ref scc, .ref scf])), (scp, .inl (scpt, 7, .inl scpf)), (scw, .inl (scwt, 6, .inl scwf)), (scc, .inl (scct, 6, .inl sccf)), (scf, .inl (scft, 6, .inl scff)), (tw, .inr (8, [.ref twl, .ref twp, .ref twu, .int twe, .ref twh, .ref tws, .ref twg, .int twm, .ref two, .ref twd, .ref twq, .int twr])), (twl, .inr (2, [.ref twlc, .int twln])), (twlc, .inl (twlct, 5, .inr (.inl twlcf))), (twp, .inr (2, [.ref twpc, .int twpn])), (twpc, .inl (twpct, 7, .inr (.inl twpcf))), (twu, .inr (2, [.ref twuc, .int twun])), (twuc, .inl (twuct, 6, .inr (.inl twucf))), (twh, .inl (twht, 7, .inl twhf)), (tws, .inl (twst, 6, .inl twsf)), (twg, .inl (twgt, 6, .inl twgf)), (two, .inl (twot, 14, .inl twof)), (twd, .inl (twdt, 14, .inl twdf)), (twq, .inl (twqt, 14, .inl twqf))], []) _ _ _ _ dX4_soonest_64 rfl ⟨hv1_2, rfl⟩ hP (hK.sub [] rfl) hD hS
      · skip
        have h_2 : z_in 0 13 v1_3 := z_ltL (Int32.not_le.mp c_1) hv1_3 htwm rfl
        have h_3 : z_in 1 14 twm := z_ltR (Int32.not_le.mp c_1) hv1_3 htwm rfl
        refine lv_aload_n hx hb dX4_soonest_17 rfl (lv_at hl 2 rfl) ?_
        refine va_get (D := D) (ci := 4) (v := .ref tw) (C := RX4) (T := TX4) (N := 8) hx hb hts hiX4 hown hK hP 0 rfl rfl 0 (by decide) (hts _ (List.mem_of_getElem? (i := 1) rfl)) (fun _ h9 => h9) rfl dX4_soonest_18 ?_
        refine va_get (D := D) (ci := 8) (v := .ref two) (C := RX8) (T := TX8) (N := 12) hx hb hts hiX8 hown hK hP 5 rfl rfl 8 (by decide) (hts _ (List.mem_of_getElem? (i := 3) rfl)) (fun _ h9 => h9) rfl dX4_soonest_21 ?_
        refine lv_iload_n hx hb dX4_soonest_24 rfl (lv_at hl 0 rfl) ?_
        refine va_iald hx hb hK hP 15 10 rfl rfl (z_vp h_2 rfl) dX4_soonest_25 ?_
        refine lv_topi (fun y_4 ey_4 => ?_)
        have h_5 : z_in 0 6 y_4 := by rw [ey_4]; exact htwof _
        refine lv_iload_n hx hb dX4_soonest_26 rfl (lv_at hl 3 rfl) ?_
        refine lv_icmp_ne (tgt := 57) hx hb dX4_soonest_27 (by decide) (fun c_6 => ?_) (fun c_6 => ?_)
        · skip
          obtain ⟨y_7, ey_7⟩ : ∃ y : Int32, y = v1_3 + 1 := ⟨_, rfl⟩
          have h_8 : z_in 1 14 y_7 := by rw [ey_7]; exact z_add h_2 (z_lit (x := 1) (a := 1) (b := 1) rfl) rfl rfl
          have ty_7 : y_7.toInt = v1_3.toInt + 1 := by rw [ey_7]; exact z_addT h_2 (z_lit (x := 1) (a := 1) (b := 1) rfl) rfl
          refine lv_iinc (v := y_7) (lv' := [(3, .int y_7), (2, .int v1_2), (0, .ref sc), (1, .int i0)]) hx hb dX4_soonest_57 hl (k := 0) rfl (by rw [ey_7]; rfl) (by decide) rfl (fun ls hl => ?_)
          refine lv_goto (tgt := 6) hx hb dX4_soonest_60 (by decide) ?_
          exact ih1 v1_2 y_7 _ _ _ hv1_2 (z_w (c := 0) (d := 14) h_8 rfl) (by omega) hP hD hS (lv_sub hl [0, 1, 2, 3] rfl)
        · skip
          have h_9 : z_in 0 2147483647 i0 := z_leR (Int32.le_of_eq c_6) h_5 (z_any i0) rfl
          have h_10 : z_in 0 6 i0 := z_leL (Int32.le_of_eq (Eq.symm c_6)) h_9 h_5 rfl
          refine lv_aload_n hx hb dX4_soonest_30 rfl (lv_at hl 2 rfl) ?_
          refine lv_iload_n hx hb dX4_soonest_31 rfl (lv_at hl 0 rfl) ?_
          have hc9 := (w_Scene_fate l D ad sc scd sch scs scp scpt scpf scw scwt scwf scc scct sccf scf scft scff tw twe twm twr twl twln twlc twlct twlcf twp twpn twpc twpct twpcf twu twun twuc twuct twucf twh twht twhf tws twst twsf twg twgt twgf two twot twof twd twdt twdf twq twqt twqf v1_3 hscpf hscwf hsccf hscff (z_w (c := 0) (d := 14) h_3 rfl) htwr htwln htwpn htwun htwhf htwsf htwgf htwof htwdf htwqf h_2)
          refine z_calli (w0 := [(sc, .inr (4, [.ref tw, .int scd, .int sch, .int scs, .ref scp, .ref scw, .ref scc, .ref scf])), (scp, .inl (scpt, 7, .inl scpf)), (scw, .inl (scwt, 6, .inl scwf)), (scc, .inl (scct, 6, .inl sccf)), (scf, .inl (scft, 6, .inl scff)), (tw, .inr (8, [.ref twl, .ref twp, .ref twu, .int twe, .ref twh, .ref tws, .ref twg, .int twm, .ref two, .ref twd, .ref twq, .int twr])), (twl, .inr (2, [.ref twlc, .int twln])), (twlc, .inl (twlct, 5, .inr (.inl twlcf))), (twp, .inr (2, [.ref twpc, .int twpn])), (twpc, .inl (twpct, 7, .inr (.inl twpcf))), (twu, .inr (2, [.ref twuc, .int twun])), (twuc, .inl (twuct, 6, .inr (.inl twucf))), (twh, .inl (twht, 7, .inl twhf)), (tws, .inl (twst, 6, .inl twsf)), (twg, .inl (twgt, 6, .inl twgf)), (two, .inl (twot, 14, .inl twof)), (twd, .inl (twdt, 14, .inl twdf)), (twq, .inl (twqt, 14, .inl twqf))]) (wr := []) (va_runV (As := [.int v1_3]) (rest := []) ⟨hx, hb, hml, hown, hts⟩ (hc9 _) (cwV 1 hts gX4_soonest_X4_fate rfl rfl rfl (by decide +kernel) ⟨Nat.le_of_ble_eq_true rfl, Nat.le_of_ble_eq_true rfl⟩) (z_preV hP hD hK hS hA hE hO [0, 1, 2, 3, 4, 5, 6, 7, 8, 9, 10, 11, 12, 13, 14, 15, 16, 17] [0, 1, 2, 3, 4, 5, 6, 7, 8, 9, 10, 11, 12] rfl (by decide +kernel) rfl 0 4 rfl rfl rfl) rfl rfl hl.1 rfl (lv_room (Nat.le_of_ble_eq_true rfl)) dX4_soonest_32 ⟨Nat.le_of_ble_eq_true rfl, Nat.le_of_ble_eq_true rfl⟩) hP hD hK hS hA [0, 1, 2, 3, 4, 5, 6, 7, 8, 9, 10, 11, 12, 13, 14, 15, 16, 17] [] rfl rfl (by decide +kernel) (by decide +kernel) (fun y_11 u9 H locs hw hP hD hK hS => ?_)
          obtain ⟨h_12, h_13, h_14, rfl⟩ := hw
          have hP : va_P D vwCl [(sc, .inr (4, [.ref tw, .int scd, .int sch, .int scs, .ref scp, .ref scw, .ref scc, .ref scf])), (scp, .inl (scpt, 7, .inl scpf)), (scw, .inl (scwt, 6, .inl scwf)), (scc, .inl (scct, 6, .inl sccf)), (scf, .inl (scft, 6, .inl scff)), (tw, .inr (8, [.ref twl, .ref twp, .ref twu, .int twe, .ref twh, .ref tws, .ref twg, .int twm, .ref two, .ref twd, .ref twq, .int twr])), (twl, .inr (2, [.ref twlc, .int twln])), (twlc, .inl (twlct, 5, .inr (.inl twlcf))), (twp, .inr (2, [.ref twpc, .int twpn])), (twpc, .inl (twpct, 7, .inr (.inl twpcf))), (twu, .inr (2, [.ref twuc, .int twun])), (twuc, .inl (twuct, 6, .inr (.inl twucf))), (twh, .inl (twht, 7, .inl twhf)), (tws, .inl (twst, 6, .inl twsf)), (twg, .inl (twgt, 6, .inl twgf)), (two, .inl (twot, 14, .inl twof)), (twd, .inl (twdt, 14, .inl twdf)), (twq, .inl (twqt, 14, .inl twqf))] H := hP
          have hD : va_D A [(sc, .inr (4, [.ref tw, .int scd, .int sch, .int scs, .ref scp, .ref scw, .ref scc, .ref scf])), (scp, .inl (scpt, 7, .inl scpf)), (scw, .inl (scwt, 6, .inl scwf)), (scc, .inl (scct, 6, .inl sccf)), (scf, .inl (scft, 6, .inl scff)), (tw, .inr (8, [.ref twl, .ref twp, .ref twu, .int twe, .ref twh, .ref tws, .ref twg, .int twm, .ref two, .ref twd, .ref twq, .int twr])), (twl, .inr (2, [.ref twlc, .int twln])), (twlc, .inl (twlct, 5, .inr (.inl twlcf))), (twp, .inr (2, [.ref twpc, .int twpn])), (twpc, .inl (twpct, 7, .inr (.inl twpcf))), (twu, .inr (2, [.ref twuc, .int twun])), (twuc, .inl (twuct, 6, .inr (.inl twucf))), (twh, .inl (twht, 7, .inl twhf)), (tws, .inl (twst, 6, .inl twsf)), (twg, .inl (twgt, 6, .inl twgf)), (two, .inl (twot, 14, .inl twof)), (twd, .inl (twdt, 14, .inl twdf)), (twq, .inl (twqt, 14, .inl twqf))] := hD
          have hK : va_K D vwCl [(scpt, .int), (scwt, .int), (scct, .int), (scft, .int), (twlct, .long), (twpct, .long), (twuct, .long), (twht, .int), (twst, .int), (twgt, .int), (twot, .int), (twdt, .int), (twqt, .int)] s := hK
          refine W.cs (cells' := 0) (slots' := 0) rfl rfl ?_
          refine W.eq (g2 := F0 m 35 ls (.int y_11 :: [])) rfl ?_
          refine lv_if_ne (tgt := 57) hx hb dX4_soonest_35 (by decide) (fun c_15 => ?_) (fun c_15 => ?_)
          · skip
            have h_16 : z_in 1 2 y_11 := z_neLo c_15 h_12 (z_lit (x := 0) (a := 0) (b := 0) rfl) rfl
            obtain ⟨y_17, ey_17⟩ : ∃ y : Int32, y = v1_3 + 1 := ⟨_, rfl⟩
            have h_18 : z_in 1 14 y_17 := by rw [ey_17]; exact z_add h_2 (z_lit (x := 1) (a := 1) (b := 1) rfl) rfl rfl
            have ty_17 : y_17.toInt = v1_3.toInt + 1 := by rw [ey_17]; exact z_addT h_2 (z_lit (x := 1) (a := 1) (b := 1) rfl) rfl
            refine lv_iinc (v := y_17) (lv' := [(3, .int y_17), (2, .int v1_2), (0, .ref sc), (1, .int i0)]) hx hb dX4_soonest_57 hl (k := 0) rfl (by rw [ey_17]; rfl) (by decide) rfl (fun ls hl => ?_)
            refine lv_goto (tgt := 6) hx hb dX4_soonest_60 (by decide) ?_
            exact ih1 v1_2 y_17 _ _ _ hv1_2 (z_w (c := 0) (d := 14) h_18 rfl) (by omega) hP hD hS (lv_sub hl [0, 1, 2, 3] rfl)
          · skip
            have h_19 : z_in 0 0 y_11 := z_leL (Int32.le_of_eq c_15) h_12 (z_lit (x := 0) (a := 0) (b := 0) rfl) rfl
            have h_20 : z_in (-2147483648) 198 scd := z_both (z_any scd) (h_13 (z_eqk h_19 rfl)) rfl
            refine lv_iload_n hx hb dX4_soonest_38 rfl (lv_at hl 1 rfl) ?_
            refine lv_aload_n hx hb dX4_soonest_39 rfl (lv_at hl 2 rfl) ?_
            refine va_get (D := D) (ci := 4) (v := .ref tw) (C := RX4) (T := TX4) (N := 8) hx hb hts hiX4 hown hK hP 0 rfl rfl 0 (by decide) (hts _ (List.mem_of_getElem? (i := 1) rfl)) (fun _ h9 => h9) rfl dX4_soonest_40 ?_
            refine va_get (D := D) (ci := 8) (v := .ref twd) (C := RX8) (T := TX8) (N := 12) hx hb hts hiX8 hown hK hP 5 rfl rfl 9 (by decide) (hts _ (List.mem_of_getElem? (i := 4) rfl)) (fun _ h9 => h9) rfl dX4_soonest_43 ?_
            refine lv_iload_n hx hb dX4_soonest_46 rfl (lv_at hl 0 rfl) ?_
            refine va_iald hx hb hK hP 16 11 rfl rfl (z_vp h_2 rfl) dX4_soonest_47 ?_
            refine lv_topi (fun y_21 ey_21 => ?_)
            have h_22 : z_in 0 199 y_21 := by rw [ey_21]; exact htwdf _
            refine lv_aload_n hx hb dX4_soonest_48 rfl (lv_at hl 2 rfl) ?_
            refine va_get (D := D) (ci := 4) (v := .int scd) (C := RX4) (T := TX4) (N := 8) hx hb hts hiX4 hown hK hP 0 rfl rfl 1 (by decide) (hts _ (List.mem_of_getElem? (i := 5) rfl)) (fun _ h9 => h9) rfl dX4_soonest_49 ?_
            refine lv_isub hx hb dX4_soonest_52 ?_
            refine lv_topi (fun y_23 ey_23 => ?_)
            refine va_mmin hx hb (by rw [hml]; exact hl.1.symm) hown (hts _ (List.mem_of_getElem? (i := 6) rfl)) (hts _ (List.mem_of_getElem? (i := 7) rfl)) (hts _ (List.mem_of_getElem? (i := 8) rfl)) (hts _ (List.mem_of_getElem? (i := 9) rfl)) (Nat.le_of_ble_eq_true rfl) (Nat.le_of_ble_eq_true rfl) (Nat.le_of_ble_eq_true rfl) (Nat.le_of_ble_eq_true rfl) dX4_soonest_53 ?_
            refine lv_topi (fun y_24 ey_24 => ?_)
            have h_25 : z_in (-2147483648) 1000 y_24 := by rw [ey_24]; exact z_min hv1_2 (z_any y_23) rfl
            refine lv_istore_n (lv' := [(2, .int y_24), (3, .int v1_3), (0, .ref sc), (1, .int i0)]) hx hb dX4_soonest_56 rfl hl (by decide) rfl (fun ls hl => ?_)
            obtain ⟨y_26, ey_26⟩ : ∃ y : Int32, y = v1_3 + 1 := ⟨_, rfl⟩
            have h_27 : z_in 1 14 y_26 := by rw [ey_26]; exact z_add h_2 (z_lit (x := 1) (a := 1) (b := 1) rfl) rfl rfl
            have ty_26 : y_26.toInt = v1_3.toInt + 1 := by rw [ey_26]; exact z_addT h_2 (z_lit (x := 1) (a := 1) (b := 1) rfl) rfl
            refine lv_iinc (v := y_26) (lv' := [(3, .int y_26), (2, .int y_24), (0, .ref sc), (1, .int i0)]) hx hb dX4_soonest_57 hl (k := 1) rfl (by rw [ey_26]; rfl) (by decide) rfl (fun ls hl => ?_)
            refine lv_goto (tgt := 6) hx hb dX4_soonest_60 (by decide) ?_
            exact ih1 y_24 y_26 _ _ _ h_25 (z_w (c := 0) (d := 14) h_27 rfl) (by omega) hP hD hS (lv_sub hl [0, 1, 2, 3] rfl)
  exact LP1 15 1000 0 _ _ _ (z_w (c := (-2147483648)) (d := 1000) (z_lit (x := 1000) (a := 1000) (b := 1000) rfl) rfl) (z_w (c := 0) (d := 14) (z_lit (x := 0) (a := 0) (b := 0) rfl) rfl) (by decide) hP hD hS (lv_sub hl [0, 1, 2, 3] rfl)

set_option maxHeartbeats 8000000 in
set_option maxRecDepth 100000 in
theorem w_Scene_weptBy (l : Launch) (D : va_G) (ad : Nat → Nat) (sc : Nat) (scd : Int32) (sch : Int32) (scs : Int32) (scp : Nat) (scpt : ClassId) (scpf : Nat → Int32) (scw : Nat) (scwt : ClassId) (scwf : Nat → Int32) (scc : Nat) (scct : ClassId) (sccf : Nat → Int32) (scf : Nat) (scft : ClassId) (scff : Nat → Int32) (tw : Nat) (twe : Int32) (twm : Int32) (twr : Int32) (twl : Nat) (twln : Int32) (twlc : Nat) (twlct : ClassId) (twlcf : Nat → Int64) (twp : Nat) (twpn : Int32) (twpc : Nat) (twpct : ClassId) (twpcf : Nat → Int64) (twu : Nat) (twun : Int32) (twuc : Nat) (twuct : ClassId) (twucf : Nat → Int64) (twh : Nat) (twht : ClassId) (twhf : Nat → Int32) (tws : Nat) (twst : ClassId) (twsf : Nat → Int32) (twg : Nat) (twgt : ClassId) (twgf : Nat → Int32) (two : Nat) (twot : ClassId) (twof : Nat → Int32) (twd : Nat) (twdt : ClassId) (twdf : Nat → Int32) (twq : Nat) (twqt : ClassId) (twqf : Nat → Int32) (i0 : Int32) (hscpf : z_al 0 4 scpf) (hscwf : z_al 0 4 scwf) (hsccf : z_al (-1) 6 sccf) (hscff : z_al 0 12 scff) (htwm : z_in 0 14 twm) (htwr : z_in 0 5 twr) (htwln : z_in 0 5 twln) (htwpn : z_in 0 7 twpn) (htwun : z_in 0 6 twun) (htwhf : z_al 0 4 twhf) (htwsf : z_al 0 4 twsf) (htwgf : z_al 0 12 twgf) (htwof : z_al 0 6 twof) (htwdf : z_al 0 199 twdf) (htwqf : z_al 0 20 twqf) : z_Mi l yX4_weptBy wsX4_weptBy { frames := 1, cells := 0, slots := 0, locals := 21 } D ad [.ref sc, .int i0] [(sc, .inr (4, [.ref tw, .int scd, .int sch, .int scs, .ref scp, .ref scw, .ref scc, .ref scf])), (scp, .inl (scpt, 7, .inl scpf)), (scw, .inl (scwt, 6, .inl scwf)), (scc, .inl (scct, 6, .inl sccf)), (scf, .inl (scft, 6, .inl scff)), (tw, .inr (8, [.ref twl, .ref twp, .ref twu, .int twe, .ref twh, .ref tws, .ref twg, .int twm, .ref two, .ref twd, .ref twq, .int twr])), (twl, .inr (2, [.ref twlc, .int twln])), (twlc, .inl (twlct, 5, .inr (.inl twlcf))), (twp, .inr (2, [.ref twpc, .int twpn])), (twpc, .inl (twpct, 7, .inr (.inl twpcf))), (twu, .inr (2, [.ref twuc, .int twun])), (twuc, .inl (twuct, 6, .inr (.inl twucf))), (twh, .inl (twht, 7, .inl twhf)), (tws, .inl (twst, 6, .inl twsf)), (twg, .inl (twgt, 6, .inl twgf)), (two, .inl (twot, 14, .inl twof)), (twd, .inl (twdt, 14, .inl twdf)), (twq, .inl (twqt, 14, .inl twqf))] [(scpt, .int), (scwt, .int), (scct, .int), (scft, .int), (twlct, .long), (twpct, .long), (twuct, .long), (twht, .int), (twst, .int), (twgt, .int), (twot, .int), (twdt, .int), (twqt, .int)] 0 0 (fun r9 u9 => u9 = ([(sc, .inr (4, [.ref tw, .int scd, .int sch, .int scs, .ref scp, .ref scw, .ref scc, .ref scf])), (scp, .inl (scpt, 7, .inl scpf)), (scw, .inl (scwt, 6, .inl scwf)), (scc, .inl (scct, 6, .inl sccf)), (scf, .inl (scft, 6, .inl scff)), (tw, .inr (8, [.ref twl, .ref twp, .ref twu, .int twe, .ref twh, .ref tws, .ref twg, .int twm, .ref two, .ref twd, .ref twq, .int twr])), (twl, .inr (2, [.ref twlc, .int twln])), (twlc, .inl (twlct, 5, .inr (.inl twlcf))), (twp, .inr (2, [.ref twpc, .int twpn])), (twpc, .inl (twpct, 7, .inr (.inl twpcf))), (twu, .inr (2, [.ref twuc, .int twun])), (twuc, .inl (twuct, 6, .inr (.inl twucf))), (twh, .inl (twht, 7, .inl twhf)), (tws, .inl (twst, 6, .inl twsf)), (twg, .inl (twgt, 6, .inl twgf)), (two, .inl (twot, 14, .inl twof)), (twd, .inl (twdt, 14, .inl twdf)), (twq, .inl (twqt, 14, .inl twqf))], [])) := by
  refine z_ofI (cc := cX4_weptBy) (maxL := 4) (rt := .int) (by decide) rfl (Nat.le_of_ble_eq_true rfl) ?_
  intro p e s m below meth c Q A ls hx hb hml hown hts hin hK hP hD hA hE hO hS hl hret
  have hown : s.vm.findClass RX4 = some m.cls := hown
  have hiX4 : ∀ w ∈ wsX40, w ∈ wsX4_weptBy := fun _ h9 => List.mem_cons_of_mem _ (List.mem_append_left _ (List.mem_append_right _ h9))
  have hiX8 : ∀ w ∈ wsX80, w ∈ wsX4_weptBy := fun _ h9 => List.mem_cons_of_mem _ (List.mem_append_right _ h9)
  have hl : lv_has ls 4 [(0, .ref sc), (1, .int i0)] := hl
  refine lv_iconst (v := 0) hx hb dX4_weptBy_0 (by decide) ?_
  refine lv_istore_n (lv' := [(2, .int 0), (0, .ref sc), (1, .int i0)]) hx hb dX4_weptBy_1 rfl hl (by decide) rfl (fun ls hl => ?_)
  refine lv_iconst (v := 0) hx hb dX4_weptBy_2 (by decide) ?_
  refine lv_istore_n (lv' := [(3, .int 0), (2, .int 0), (0, .ref sc), (1, .int i0)]) hx hb dX4_weptBy_3 rfl hl (by decide) rfl (fun ls hl => ?_)
  have LP1 : ∀ (n : Nat) (v1_2 : Int32) (v1_3 : Int32) (H : Heap) (locs : List Loc) (ls : Array Slot), z_in 0 14 v1_3 → 15 - v1_3.toInt ≤ (n : Int) → va_P D vwCl [(sc, .inr (4, [.ref tw, .int scd, .int sch, .int scs, .ref scp, .ref scw, .ref scc, .ref scf])), (scp, .inl (scpt, 7, .inl scpf)), (scw, .inl (scwt, 6, .inl scwf)), (scc, .inl (scct, 6, .inl sccf)), (scf, .inl (scft, 6, .inl scff)), (tw, .inr (8, [.ref twl, .ref twp, .ref twu, .int twe, .ref twh, .ref tws, .ref twg, .int twm, .ref two, .ref twd, .ref twq, .int twr])), (twl, .inr (2, [.ref twlc, .int twln])), (twlc, .inl (twlct, 5, .inr (.inl twlcf))), (twp, .inr (2, [.ref twpc, .int twpn])), (twpc, .inl (twpct, 7, .inr (.inl twpcf))), (twu, .inr (2, [.ref twuc, .int twun])), (twuc, .inl (twuct, 6, .inr (.inl twucf))), (twh, .inl (twht, 7, .inl twhf)), (tws, .inl (twst, 6, .inl twsf)), (twg, .inl (twgt, 6, .inl twgf)), (two, .inl (twot, 14, .inl twof)), (twd, .inl (twdt, 14, .inl twdf)), (twq, .inl (twqt, 14, .inl twqf))] H → va_D A [(sc, .inr (4, [.ref tw, .int scd, .int sch, .int scs, .ref scp, .ref scw, .ref scc, .ref scf])), (scp, .inl (scpt, 7, .inl scpf)), (scw, .inl (scwt, 6, .inl scwf)), (scc, .inl (scct, 6, .inl sccf)), (scf, .inl (scft, 6, .inl scff)), (tw, .inr (8, [.ref twl, .ref twp, .ref twu, .int twe, .ref twh, .ref tws, .ref twg, .int twm, .ref two, .ref twd, .ref twq, .int twr])), (twl, .inr (2, [.ref twlc, .int twln])), (twlc, .inl (twlct, 5, .inr (.inl twlcf))), (twp, .inr (2, [.ref twpc, .int twpn])), (twpc, .inl (twpct, 7, .inr (.inl twpcf))), (twu, .inr (2, [.ref twuc, .int twun])), (twuc, .inl (twuct, 6, .inr (.inl twucf))), (twh, .inl (twht, 7, .inl twhf)), (tws, .inl (twst, 6, .inl twsf)), (twg, .inl (twgt, 6, .inl twgf)), (two, .inl (twot, 14, .inl twof)), (twd, .inl (twdt, 14, .inl twdf)), (twq, .inl (twqt, 14, .inl twqf))] → va_S A s.heap H locs → lv_has ls 4 [(3, .int v1_3), (2, .int v1_2), (0, .ref sc), (1, .int i0)] → W p l e ({ frames := 1, cells := 0, slots := 0, locals := 21 }) s m ([.ref sc, .int i0] : List Value).toArray below meth c H locs 0 0 Q (F0 m 4 ls []) := by
    intro n
    induction n with
    | zero => intro v1_2 v1_3 H locs ls hv1_3 hn1; exact absurd hn1 (by have q1 := hv1_3.1; have q2 := hv1_3.2; omega)
    | succ n ih1 =>
      intro v1_2 v1_3 H locs ls hv1_3 hn1 hP hD hS hl
      have q1 := hv1_3.1
      have q1' := hv1_3.2
      refine lv_iload_n hx hb dX4_weptBy_4 rfl (lv_at hl 0 rfl) ?_
      refine lv_aload_n hx hb dX4_weptBy_5 rfl (lv_at hl 2 rfl) ?_
      refine va_get (D := D) (ci := 4) (v := .ref tw) (C := RX4) (T := TX4) (N := 8) hx hb hts hiX4 hown hK hP 0 rfl rfl 0 (by decide) (hts _ (List.mem_of_getElem? (i := 1) rfl)) (fun _ h9 => h9) rfl dX4_weptBy_6 ?_
      refine va_get (D := D) (ci := 8) (v := .int twm) (C := RX8) (T := TX8) (N := 12) hx hb hts hiX8 hown hK hP 5 rfl rfl 7 (by decide) (hts _ (List.mem_of_getElem? (i := 2) rfl)) (fun _ h9 => h9) rfl dX4_weptBy_9 ?_
      refine lv_icmp_ge (tgt := 55) hx hb dX4_weptBy_12 (by decide) (fun c_1 => ?_) (fun c_1 => ?_)
      · skip
        refine lv_iload_n hx hb dX4_weptBy_55 rfl (lv_at hl 1 rfl) ?_
        exact hret v1_2 ([(sc, .inr (4, [.ref tw, .int scd, .int sch, .int scs, .ref scp, .ref scw, .ref scc, .ref scf])), (scp, .inl (scpt, 7, .inl scpf)), (scw, .inl (scwt, 6, .inl scwf)), (scc, .inl (scct, 6, .inl sccf)), (scf, .inl (scft, 6, .inl scff)), (tw, .inr (8, [.ref twl, .ref twp, .ref twu, .int twe, .ref twh, .ref tws, .ref twg, .int twm, .ref two, .ref twd, .ref twq, .int twr])), (twl, .inr (2, [.ref twlc, .int twln])), (twlc, .inl (twlct, 5, .inr (.inl twlcf))), (twp, .inr (2, [.ref twpc, .int twpn])), (twpc, .inl (twpct, 7, .inr (.inl twpcf))), (twu, .inr (2, [.ref twuc, .int twun])), (twuc, .inl (twuct, 6, .inr (.inl twucf))), (twh, .inl (twht, 7, .inl twhf)), (tws, .inl (twst, 6, .inl twsf)), (twg, .inl (twgt, 6, .inl twgf)), (two, .inl (twot, 14, .inl twof)), (twd, .inl (twdt, 14, .inl twdf)), (twq, .inl (twqt, 14, .inl twqf))], []) _ _ _ _ dX4_weptBy_56 rfl rfl hP (hK.sub [] rfl) hD hS
      · skip
        have h_2 : z_in 0 13 v1_3 := z_ltL (Int32.not_le.mp c_1) hv1_3 htwm rfl
        have h_3 : z_in 1 14 twm := z_ltR (Int32.not_le.mp c_1) hv1_3 htwm rfl
        refine lv_aload_n hx hb dX4_weptBy_15 rfl (lv_at hl 2 rfl) ?_
        refine va_get (D := D) (ci := 4) (v := .ref tw) (C := RX4) (T := TX4) (N := 8) hx hb hts hiX4 hown hK hP 0 rfl rfl 0 (by decide) (hts _ (List.mem_of_getElem? (i := 1) rfl)) (fun _ h9 => h9) rfl dX4_weptBy_16 ?_
        refine va_get (D := D) (ci := 8) (v := .ref two) (C := RX8) (T := TX8) (N := 12) hx hb hts hiX8 hown hK hP 5 rfl rfl 8 (by decide) (hts _ (List.mem_of_getElem? (i := 3) rfl)) (fun _ h9 => h9) rfl dX4_weptBy_19 ?_
        refine lv_iload_n hx hb dX4_weptBy_22 rfl (lv_at hl 0 rfl) ?_
        refine va_iald hx hb hK hP 15 10 rfl rfl (z_vp h_2 rfl) dX4_weptBy_23 ?_
        refine lv_topi (fun y_4 ey_4 => ?_)
        have h_5 : z_in 0 6 y_4 := by rw [ey_4]; exact htwof _
        refine lv_iload_n hx hb dX4_weptBy_24 rfl (lv_at hl 3 rfl) ?_
        refine lv_icmp_ne (tgt := 49) hx hb dX4_weptBy_25 (by decide) (fun c_6 => ?_) (fun c_6 => ?_)
        · skip
          obtain ⟨y_7, ey_7⟩ : ∃ y : Int32, y = v1_3 + 1 := ⟨_, rfl⟩
          have h_8 : z_in 1 14 y_7 := by rw [ey_7]; exact z_add h_2 (z_lit (x := 1) (a := 1) (b := 1) rfl) rfl rfl
          have ty_7 : y_7.toInt = v1_3.toInt + 1 := by rw [ey_7]; exact z_addT h_2 (z_lit (x := 1) (a := 1) (b := 1) rfl) rfl
          refine lv_iinc (v := y_7) (lv' := [(3, .int y_7), (2, .int v1_2), (0, .ref sc), (1, .int i0)]) hx hb dX4_weptBy_49 hl (k := 0) rfl (by rw [ey_7]; rfl) (by decide) rfl (fun ls hl => ?_)
          refine lv_goto (tgt := 4) hx hb dX4_weptBy_52 (by decide) ?_
          exact ih1 v1_2 y_7 _ _ _ (z_w (c := 0) (d := 14) h_8 rfl) (by omega) hP hD hS (lv_sub hl [0, 1, 2, 3] rfl)
        · skip
          have h_9 : z_in 0 2147483647 i0 := z_leR (Int32.le_of_eq c_6) h_5 (z_any i0) rfl
          have h_10 : z_in 0 6 i0 := z_leL (Int32.le_of_eq (Eq.symm c_6)) h_9 h_5 rfl
          refine lv_aload_n hx hb dX4_weptBy_28 rfl (lv_at hl 2 rfl) ?_
          refine lv_iload_n hx hb dX4_weptBy_29 rfl (lv_at hl 0 rfl) ?_
          have hc9 := (w_Scene_fate l D ad sc scd sch scs scp scpt scpf scw scwt scwf scc scct sccf scf scft scff tw twe twm twr twl twln twlc twlct twlcf twp twpn twpc twpct twpcf twu twun twuc twuct twucf twh twht twhf tws twst twsf twg twgt twgf two twot twof twd twdt twdf twq twqt twqf v1_3 hscpf hscwf hsccf hscff (z_w (c := 0) (d := 14) h_3 rfl) htwr htwln htwpn htwun htwhf htwsf htwgf htwof htwdf htwqf h_2)
          refine z_calli (w0 := [(sc, .inr (4, [.ref tw, .int scd, .int sch, .int scs, .ref scp, .ref scw, .ref scc, .ref scf])), (scp, .inl (scpt, 7, .inl scpf)), (scw, .inl (scwt, 6, .inl scwf)), (scc, .inl (scct, 6, .inl sccf)), (scf, .inl (scft, 6, .inl scff)), (tw, .inr (8, [.ref twl, .ref twp, .ref twu, .int twe, .ref twh, .ref tws, .ref twg, .int twm, .ref two, .ref twd, .ref twq, .int twr])), (twl, .inr (2, [.ref twlc, .int twln])), (twlc, .inl (twlct, 5, .inr (.inl twlcf))), (twp, .inr (2, [.ref twpc, .int twpn])), (twpc, .inl (twpct, 7, .inr (.inl twpcf))), (twu, .inr (2, [.ref twuc, .int twun])), (twuc, .inl (twuct, 6, .inr (.inl twucf))), (twh, .inl (twht, 7, .inl twhf)), (tws, .inl (twst, 6, .inl twsf)), (twg, .inl (twgt, 6, .inl twgf)), (two, .inl (twot, 14, .inl twof)), (twd, .inl (twdt, 14, .inl twdf)), (twq, .inl (twqt, 14, .inl twqf))]) (wr := []) (va_runV (As := [.int v1_3]) (rest := []) ⟨hx, hb, hml, hown, hts⟩ (hc9 _) (cwV 1 hts gX4_weptBy_X4_fate rfl rfl rfl (by decide +kernel) ⟨Nat.le_of_ble_eq_true rfl, Nat.le_of_ble_eq_true rfl⟩) (z_preV hP hD hK hS hA hE hO [0, 1, 2, 3, 4, 5, 6, 7, 8, 9, 10, 11, 12, 13, 14, 15, 16, 17] [0, 1, 2, 3, 4, 5, 6, 7, 8, 9, 10, 11, 12] rfl (by decide +kernel) rfl 0 4 rfl rfl rfl) rfl rfl hl.1 rfl (lv_room (Nat.le_of_ble_eq_true rfl)) dX4_weptBy_30 ⟨Nat.le_of_ble_eq_true rfl, Nat.le_of_ble_eq_true rfl⟩) hP hD hK hS hA [0, 1, 2, 3, 4, 5, 6, 7, 8, 9, 10, 11, 12, 13, 14, 15, 16, 17] [] rfl rfl (by decide +kernel) (by decide +kernel) (fun y_11 u9 H locs hw hP hD hK hS => ?_)
          obtain ⟨h_12, h_13, h_14, rfl⟩ := hw
          have hP : va_P D vwCl [(sc, .inr (4, [.ref tw, .int scd, .int sch, .int scs, .ref scp, .ref scw, .ref scc, .ref scf])), (scp, .inl (scpt, 7, .inl scpf)), (scw, .inl (scwt, 6, .inl scwf)), (scc, .inl (scct, 6, .inl sccf)), (scf, .inl (scft, 6, .inl scff)), (tw, .inr (8, [.ref twl, .ref twp, .ref twu, .int twe, .ref twh, .ref tws, .ref twg, .int twm, .ref two, .ref twd, .ref twq, .int twr])), (twl, .inr (2, [.ref twlc, .int twln])), (twlc, .inl (twlct, 5, .inr (.inl twlcf))), (twp, .inr (2, [.ref twpc, .int twpn])), (twpc, .inl (twpct, 7, .inr (.inl twpcf))), (twu, .inr (2, [.ref twuc, .int twun])), (twuc, .inl (twuct, 6, .inr (.inl twucf))), (twh, .inl (twht, 7, .inl twhf)), (tws, .inl (twst, 6, .inl twsf)), (twg, .inl (twgt, 6, .inl twgf)), (two, .inl (twot, 14, .inl twof)), (twd, .inl (twdt, 14, .inl twdf)), (twq, .inl (twqt, 14, .inl twqf))] H := hP
          have hD : va_D A [(sc, .inr (4, [.ref tw, .int scd, .int sch, .int scs, .ref scp, .ref scw, .ref scc, .ref scf])), (scp, .inl (scpt, 7, .inl scpf)), (scw, .inl (scwt, 6, .inl scwf)), (scc, .inl (scct, 6, .inl sccf)), (scf, .inl (scft, 6, .inl scff)), (tw, .inr (8, [.ref twl, .ref twp, .ref twu, .int twe, .ref twh, .ref tws, .ref twg, .int twm, .ref two, .ref twd, .ref twq, .int twr])), (twl, .inr (2, [.ref twlc, .int twln])), (twlc, .inl (twlct, 5, .inr (.inl twlcf))), (twp, .inr (2, [.ref twpc, .int twpn])), (twpc, .inl (twpct, 7, .inr (.inl twpcf))), (twu, .inr (2, [.ref twuc, .int twun])), (twuc, .inl (twuct, 6, .inr (.inl twucf))), (twh, .inl (twht, 7, .inl twhf)), (tws, .inl (twst, 6, .inl twsf)), (twg, .inl (twgt, 6, .inl twgf)), (two, .inl (twot, 14, .inl twof)), (twd, .inl (twdt, 14, .inl twdf)), (twq, .inl (twqt, 14, .inl twqf))] := hD
          have hK : va_K D vwCl [(scpt, .int), (scwt, .int), (scct, .int), (scft, .int), (twlct, .long), (twpct, .long), (twuct, .long), (twht, .int), (twst, .int), (twgt, .int), (twot, .int), (twdt, .int), (twqt, .int)] s := hK
          refine W.cs (cells' := 0) (slots' := 0) rfl rfl ?_
          refine W.eq (g2 := F0 m 33 ls (.int y_11 :: [])) rfl ?_
          refine lv_iconst (v := 2) hx hb dX4_weptBy_33 (by decide) ?_
          refine lv_icmp_ne (tgt := 49) hx hb dX4_weptBy_34 (by decide) (fun c_15 => ?_) (fun c_15 => ?_)
          · skip
            have h_16 : z_in 0 1 y_11 := z_neHi c_15 h_12 (z_lit (x := 2) (a := 2) (b := 2) rfl) rfl
            obtain ⟨y_17, ey_17⟩ : ∃ y : Int32, y = v1_3 + 1 := ⟨_, rfl⟩
            have h_18 : z_in 1 14 y_17 := by rw [ey_17]; exact z_add h_2 (z_lit (x := 1) (a := 1) (b := 1) rfl) rfl rfl
            have ty_17 : y_17.toInt = v1_3.toInt + 1 := by rw [ey_17]; exact z_addT h_2 (z_lit (x := 1) (a := 1) (b := 1) rfl) rfl
            refine lv_iinc (v := y_17) (lv' := [(3, .int y_17), (2, .int v1_2), (0, .ref sc), (1, .int i0)]) hx hb dX4_weptBy_49 hl (k := 0) rfl (by rw [ey_17]; rfl) (by decide) rfl (fun ls hl => ?_)
            refine lv_goto (tgt := 4) hx hb dX4_weptBy_52 (by decide) ?_
            exact ih1 v1_2 y_17 _ _ _ (z_w (c := 0) (d := 14) h_18 rfl) (by omega) hP hD hS (lv_sub hl [0, 1, 2, 3] rfl)
          · skip
            have h_19 : z_in 2 2 y_11 := z_leR (Int32.le_of_eq (Eq.symm c_15)) (z_lit (x := 2) (a := 2) (b := 2) rfl) h_12 rfl
            have h_20 : z_in 0 2147483647 scd := z_both (z_any scd) (h_14 (z_eqk h_19 rfl)) rfl
            refine lv_iload_n hx hb dX4_weptBy_37 rfl (lv_at hl 1 rfl) ?_
            refine lv_aload_n hx hb dX4_weptBy_38 rfl (lv_at hl 2 rfl) ?_
            refine va_get (D := D) (ci := 4) (v := .ref tw) (C := RX4) (T := TX4) (N := 8) hx hb hts hiX4 hown hK hP 0 rfl rfl 0 (by decide) (hts _ (List.mem_of_getElem? (i := 1) rfl)) (fun _ h9 => h9) rfl dX4_weptBy_39 ?_
            refine va_get (D := D) (ci := 8) (v := .ref twq) (C := RX8) (T := TX8) (N := 12) hx hb hts hiX8 hown hK hP 5 rfl rfl 10 (by decide) (hts _ (List.mem_of_getElem? (i := 4) rfl)) (fun _ h9 => h9) rfl dX4_weptBy_42 ?_
            refine lv_iload_n hx hb dX4_weptBy_45 rfl (lv_at hl 0 rfl) ?_
            refine va_iald hx hb hK hP 17 12 rfl rfl (z_vp h_2 rfl) dX4_weptBy_46 ?_
            refine lv_topi (fun y_21 ey_21 => ?_)
            have h_22 : z_in 0 20 y_21 := by rw [ey_21]; exact htwqf _
            refine lv_iadd hx hb dX4_weptBy_47 ?_
            refine lv_topi (fun y_23 ey_23 => ?_)
            refine lv_istore_n (lv' := [(2, .int y_23), (3, .int v1_3), (0, .ref sc), (1, .int i0)]) hx hb dX4_weptBy_48 rfl hl (by decide) rfl (fun ls hl => ?_)
            obtain ⟨y_24, ey_24⟩ : ∃ y : Int32, y = v1_3 + 1 := ⟨_, rfl⟩
            have h_25 : z_in 1 14 y_24 := by rw [ey_24]; exact z_add h_2 (z_lit (x := 1) (a := 1) (b := 1) rfl) rfl rfl
            have ty_24 : y_24.toInt = v1_3.toInt + 1 := by rw [ey_24]; exact z_addT h_2 (z_lit (x := 1) (a := 1) (b := 1) rfl) rfl
            refine lv_iinc (v := y_24) (lv' := [(3, .int y_24), (2, .int y_23), (0, .ref sc), (1, .int i0)]) hx hb dX4_weptBy_49 hl (k := 1) rfl (by rw [ey_24]; rfl) (by decide) rfl (fun ls hl => ?_)
            refine lv_goto (tgt := 4) hx hb dX4_weptBy_52 (by decide) ?_
            exact ih1 y_23 y_24 _ _ _ (z_w (c := 0) (d := 14) h_25 rfl) (by omega) hP hD hS (lv_sub hl [0, 1, 2, 3] rfl)
  exact LP1 15 0 0 _ _ _ (z_w (c := 0) (d := 14) (z_lit (x := 0) (a := 0) (b := 0) rfl) rfl) (by decide) hP hD hS (lv_sub hl [0, 1, 2, 3] rfl)

set_option maxHeartbeats 8000000 in
set_option maxRecDepth 100000 in
theorem w_Scene_sumOf (l : Launch) (D : va_G) (ad : Nat → Nat) (sc : Nat) (scd : Int32) (sch : Int32) (scs : Int32) (scp : Nat) (scpt : ClassId) (scpf : Nat → Int32) (scw : Nat) (scwt : ClassId) (scwf : Nat → Int32) (scc : Nat) (scct : ClassId) (sccf : Nat → Int32) (scf : Nat) (scft : ClassId) (scff : Nat → Int32) (tw : Nat) (twe : Int32) (twm : Int32) (twr : Int32) (twl : Nat) (twln : Int32) (twlc : Nat) (twlct : ClassId) (twlcf : Nat → Int64) (twp : Nat) (twpn : Int32) (twpc : Nat) (twpct : ClassId) (twpcf : Nat → Int64) (twu : Nat) (twun : Int32) (twuc : Nat) (twuct : ClassId) (twucf : Nat → Int64) (twh : Nat) (twht : ClassId) (twhf : Nat → Int32) (tws : Nat) (twst : ClassId) (twsf : Nat → Int32) (twg : Nat) (twgt : ClassId) (twgf : Nat → Int32) (two : Nat) (twot : ClassId) (twof : Nat → Int32) (twd : Nat) (twdt : ClassId) (twdf : Nat → Int32) (twq : Nat) (twqt : ClassId) (twqf : Nat → Int32) (i0 : Int32) (hscpf : z_al 0 4 scpf) (hscwf : z_al 0 4 scwf) (hsccf : z_al (-1) 6 sccf) (hscff : z_al 0 12 scff) (htwm : z_in 0 14 twm) (htwr : z_in 0 5 twr) (htwln : z_in 0 5 twln) (htwpn : z_in 0 7 twpn) (htwun : z_in 0 6 twun) (htwhf : z_al 0 4 twhf) (htwsf : z_al 0 4 twsf) (htwgf : z_al 0 12 twgf) (htwof : z_al 0 6 twof) (htwdf : z_al 0 199 twdf) (htwqf : z_al 0 20 twqf) : z_Mi l yX4_sumOf wsX4_sumOf { frames := 1, cells := 0, slots := 0, locals := 21 } D ad [.ref sc, .int i0] [(sc, .inr (4, [.ref tw, .int scd, .int sch, .int scs, .ref scp, .ref scw, .ref scc, .ref scf])), (scp, .inl (scpt, 7, .inl scpf)), (scw, .inl (scwt, 6, .inl scwf)), (scc, .inl (scct, 6, .inl sccf)), (scf, .inl (scft, 6, .inl scff)), (tw, .inr (8, [.ref twl, .ref twp, .ref twu, .int twe, .ref twh, .ref tws, .ref twg, .int twm, .ref two, .ref twd, .ref twq, .int twr])), (twl, .inr (2, [.ref twlc, .int twln])), (twlc, .inl (twlct, 5, .inr (.inl twlcf))), (twp, .inr (2, [.ref twpc, .int twpn])), (twpc, .inl (twpct, 7, .inr (.inl twpcf))), (twu, .inr (2, [.ref twuc, .int twun])), (twuc, .inl (twuct, 6, .inr (.inl twucf))), (twh, .inl (twht, 7, .inl twhf)), (tws, .inl (twst, 6, .inl twsf)), (twg, .inl (twgt, 6, .inl twgf)), (two, .inl (twot, 14, .inl twof)), (twd, .inl (twdt, 14, .inl twdf)), (twq, .inl (twqt, 14, .inl twqf))] [(scpt, .int), (scwt, .int), (scct, .int), (scft, .int), (twlct, .long), (twpct, .long), (twuct, .long), (twht, .int), (twst, .int), (twgt, .int), (twot, .int), (twdt, .int), (twqt, .int)] 0 0 (fun r9 u9 => u9 = ([(sc, .inr (4, [.ref tw, .int scd, .int sch, .int scs, .ref scp, .ref scw, .ref scc, .ref scf])), (scp, .inl (scpt, 7, .inl scpf)), (scw, .inl (scwt, 6, .inl scwf)), (scc, .inl (scct, 6, .inl sccf)), (scf, .inl (scft, 6, .inl scff)), (tw, .inr (8, [.ref twl, .ref twp, .ref twu, .int twe, .ref twh, .ref tws, .ref twg, .int twm, .ref two, .ref twd, .ref twq, .int twr])), (twl, .inr (2, [.ref twlc, .int twln])), (twlc, .inl (twlct, 5, .inr (.inl twlcf))), (twp, .inr (2, [.ref twpc, .int twpn])), (twpc, .inl (twpct, 7, .inr (.inl twpcf))), (twu, .inr (2, [.ref twuc, .int twun])), (twuc, .inl (twuct, 6, .inr (.inl twucf))), (twh, .inl (twht, 7, .inl twhf)), (tws, .inl (twst, 6, .inl twsf)), (twg, .inl (twgt, 6, .inl twgf)), (two, .inl (twot, 14, .inl twof)), (twd, .inl (twdt, 14, .inl twdf)), (twq, .inl (twqt, 14, .inl twqf))], [])) := by
  refine z_ofI (cc := cX4_sumOf) (maxL := 4) (rt := .int) (by decide) rfl (Nat.le_of_ble_eq_true rfl) ?_
  intro p e s m below meth c Q A ls hx hb hml hown hts hin hK hP hD hA hE hO hS hl hret
  have hown : s.vm.findClass RX4 = some m.cls := hown
  have hiX4 : ∀ w ∈ wsX40, w ∈ wsX4_sumOf := fun _ h9 => List.mem_cons_of_mem _ (List.mem_append_left _ (List.mem_append_right _ h9))
  have hiX8 : ∀ w ∈ wsX80, w ∈ wsX4_sumOf := fun _ h9 => List.mem_cons_of_mem _ (List.mem_append_right _ h9)
  have hl : lv_has ls 4 [(0, .ref sc), (1, .int i0)] := hl
  refine lv_iconst (v := 0) hx hb dX4_sumOf_0 (by decide) ?_
  refine lv_istore_n (lv' := [(2, .int 0), (0, .ref sc), (1, .int i0)]) hx hb dX4_sumOf_1 rfl hl (by decide) rfl (fun ls hl => ?_)
  refine lv_iconst (v := 0) hx hb dX4_sumOf_2 (by decide) ?_
  refine lv_istore_n (lv' := [(3, .int 0), (2, .int 0), (0, .ref sc), (1, .int i0)]) hx hb dX4_sumOf_3 rfl hl (by decide) rfl (fun ls hl => ?_)
  have LP1 : ∀ (n : Nat) (v1_2 : Int32) (v1_3 : Int32) (H : Heap) (locs : List Loc) (ls : Array Slot), z_in 0 14 v1_3 → 15 - v1_3.toInt ≤ (n : Int) → va_P D vwCl [(sc, .inr (4, [.ref tw, .int scd, .int sch, .int scs, .ref scp, .ref scw, .ref scc, .ref scf])), (scp, .inl (scpt, 7, .inl scpf)), (scw, .inl (scwt, 6, .inl scwf)), (scc, .inl (scct, 6, .inl sccf)), (scf, .inl (scft, 6, .inl scff)), (tw, .inr (8, [.ref twl, .ref twp, .ref twu, .int twe, .ref twh, .ref tws, .ref twg, .int twm, .ref two, .ref twd, .ref twq, .int twr])), (twl, .inr (2, [.ref twlc, .int twln])), (twlc, .inl (twlct, 5, .inr (.inl twlcf))), (twp, .inr (2, [.ref twpc, .int twpn])), (twpc, .inl (twpct, 7, .inr (.inl twpcf))), (twu, .inr (2, [.ref twuc, .int twun])), (twuc, .inl (twuct, 6, .inr (.inl twucf))), (twh, .inl (twht, 7, .inl twhf)), (tws, .inl (twst, 6, .inl twsf)), (twg, .inl (twgt, 6, .inl twgf)), (two, .inl (twot, 14, .inl twof)), (twd, .inl (twdt, 14, .inl twdf)), (twq, .inl (twqt, 14, .inl twqf))] H → va_D A [(sc, .inr (4, [.ref tw, .int scd, .int sch, .int scs, .ref scp, .ref scw, .ref scc, .ref scf])), (scp, .inl (scpt, 7, .inl scpf)), (scw, .inl (scwt, 6, .inl scwf)), (scc, .inl (scct, 6, .inl sccf)), (scf, .inl (scft, 6, .inl scff)), (tw, .inr (8, [.ref twl, .ref twp, .ref twu, .int twe, .ref twh, .ref tws, .ref twg, .int twm, .ref two, .ref twd, .ref twq, .int twr])), (twl, .inr (2, [.ref twlc, .int twln])), (twlc, .inl (twlct, 5, .inr (.inl twlcf))), (twp, .inr (2, [.ref twpc, .int twpn])), (twpc, .inl (twpct, 7, .inr (.inl twpcf))), (twu, .inr (2, [.ref twuc, .int twun])), (twuc, .inl (twuct, 6, .inr (.inl twucf))), (twh, .inl (twht, 7, .inl twhf)), (tws, .inl (twst, 6, .inl twsf)), (twg, .inl (twgt, 6, .inl twgf)), (two, .inl (twot, 14, .inl twof)), (twd, .inl (twdt, 14, .inl twdf)), (twq, .inl (twqt, 14, .inl twqf))] → va_S A s.heap H locs → lv_has ls 4 [(3, .int v1_3), (2, .int v1_2), (0, .ref sc), (1, .int i0)] → W p l e ({ frames := 1, cells := 0, slots := 0, locals := 21 }) s m ([.ref sc, .int i0] : List Value).toArray below meth c H locs 0 0 Q (F0 m 4 ls []) := by
    intro n
    induction n with
    | zero => intro v1_2 v1_3 H locs ls hv1_3 hn1; exact absurd hn1 (by have q1 := hv1_3.1; have q2 := hv1_3.2; omega)
    | succ n ih1 =>
      intro v1_2 v1_3 H locs ls hv1_3 hn1 hP hD hS hl
      have q1 := hv1_3.1
      have q1' := hv1_3.2
      refine lv_iload_n hx hb dX4_sumOf_4 rfl (lv_at hl 0 rfl) ?_
      refine lv_aload_n hx hb dX4_sumOf_5 rfl (lv_at hl 2 rfl) ?_
      refine va_get (D := D) (ci := 4) (v := .ref tw) (C := RX4) (T := TX4) (N := 8) hx hb hts hiX4 hown hK hP 0 rfl rfl 0 (by decide) (hts _ (List.mem_of_getElem? (i := 1) rfl)) (fun _ h9 => h9) rfl dX4_sumOf_6 ?_
      refine va_get (D := D) (ci := 8) (v := .int twm) (C := RX8) (T := TX8) (N := 12) hx hb hts hiX8 hown hK hP 5 rfl rfl 7 (by decide) (hts _ (List.mem_of_getElem? (i := 2) rfl)) (fun _ h9 => h9) rfl dX4_sumOf_9 ?_
      refine lv_icmp_ge (tgt := 42) hx hb dX4_sumOf_12 (by decide) (fun c_1 => ?_) (fun c_1 => ?_)
      · skip
        refine lv_iload_n hx hb dX4_sumOf_42 rfl (lv_at hl 1 rfl) ?_
        exact hret v1_2 ([(sc, .inr (4, [.ref tw, .int scd, .int sch, .int scs, .ref scp, .ref scw, .ref scc, .ref scf])), (scp, .inl (scpt, 7, .inl scpf)), (scw, .inl (scwt, 6, .inl scwf)), (scc, .inl (scct, 6, .inl sccf)), (scf, .inl (scft, 6, .inl scff)), (tw, .inr (8, [.ref twl, .ref twp, .ref twu, .int twe, .ref twh, .ref tws, .ref twg, .int twm, .ref two, .ref twd, .ref twq, .int twr])), (twl, .inr (2, [.ref twlc, .int twln])), (twlc, .inl (twlct, 5, .inr (.inl twlcf))), (twp, .inr (2, [.ref twpc, .int twpn])), (twpc, .inl (twpct, 7, .inr (.inl twpcf))), (twu, .inr (2, [.ref twuc, .int twun])), (twuc, .inl (twuct, 6, .inr (.inl twucf))), (twh, .inl (twht, 7, .inl twhf)), (tws, .inl (twst, 6, .inl twsf)), (twg, .inl (twgt, 6, .inl twgf)), (two, .inl (twot, 14, .inl twof)), (twd, .inl (twdt, 14, .inl twdf)), (twq, .inl (twqt, 14, .inl twqf))], []) _ _ _ _ dX4_sumOf_43 rfl rfl hP (hK.sub [] rfl) hD hS
      · skip
        have h_2 : z_in 0 13 v1_3 := z_ltL (Int32.not_le.mp c_1) hv1_3 htwm rfl
        have h_3 : z_in 1 14 twm := z_ltR (Int32.not_le.mp c_1) hv1_3 htwm rfl
        refine lv_aload_n hx hb dX4_sumOf_15 rfl (lv_at hl 2 rfl) ?_
        refine lv_iload_n hx hb dX4_sumOf_16 rfl (lv_at hl 0 rfl) ?_
        have hc9 := (w_Scene_fate l D ad sc scd sch scs scp scpt scpf scw scwt scwf scc scct sccf scf scft scff tw twe twm twr twl twln twlc twlct twlcf twp twpn twpc twpct twpcf twu twun twuc twuct twucf twh twht twhf tws twst twsf twg twgt twgf two twot twof twd twdt twdf twq twqt twqf v1_3 hscpf hscwf hsccf hscff (z_w (c := 0) (d := 14) h_3 rfl) htwr htwln htwpn htwun htwhf htwsf htwgf htwof htwdf htwqf h_2)
        refine z_calli (w0 := [(sc, .inr (4, [.ref tw, .int scd, .int sch, .int scs, .ref scp, .ref scw, .ref scc, .ref scf])), (scp, .inl (scpt, 7, .inl scpf)), (scw, .inl (scwt, 6, .inl scwf)), (scc, .inl (scct, 6, .inl sccf)), (scf, .inl (scft, 6, .inl scff)), (tw, .inr (8, [.ref twl, .ref twp, .ref twu, .int twe, .ref twh, .ref tws, .ref twg, .int twm, .ref two, .ref twd, .ref twq, .int twr])), (twl, .inr (2, [.ref twlc, .int twln])), (twlc, .inl (twlct, 5, .inr (.inl twlcf))), (twp, .inr (2, [.ref twpc, .int twpn])), (twpc, .inl (twpct, 7, .inr (.inl twpcf))), (twu, .inr (2, [.ref twuc, .int twun])), (twuc, .inl (twuct, 6, .inr (.inl twucf))), (twh, .inl (twht, 7, .inl twhf)), (tws, .inl (twst, 6, .inl twsf)), (twg, .inl (twgt, 6, .inl twgf)), (two, .inl (twot, 14, .inl twof)), (twd, .inl (twdt, 14, .inl twdf)), (twq, .inl (twqt, 14, .inl twqf))]) (wr := []) (va_runV (As := [.int v1_3]) (rest := []) ⟨hx, hb, hml, hown, hts⟩ (hc9 _) (cwV 1 hts gX4_sumOf_X4_fate rfl rfl rfl (by decide +kernel) ⟨Nat.le_of_ble_eq_true rfl, Nat.le_of_ble_eq_true rfl⟩) (z_preV hP hD hK hS hA hE hO [0, 1, 2, 3, 4, 5, 6, 7, 8, 9, 10, 11, 12, 13, 14, 15, 16, 17] [0, 1, 2, 3, 4, 5, 6, 7, 8, 9, 10, 11, 12] rfl (by decide +kernel) rfl 0 4 rfl rfl rfl) rfl rfl hl.1 rfl (lv_room (Nat.le_of_ble_eq_true rfl)) dX4_sumOf_17 ⟨Nat.le_of_ble_eq_true rfl, Nat.le_of_ble_eq_true rfl⟩) hP hD hK hS hA [0, 1, 2, 3, 4, 5, 6, 7, 8, 9, 10, 11, 12, 13, 14, 15, 16, 17] [] rfl rfl (by decide +kernel) (by decide +kernel) (fun y_4 u9 H locs hw hP hD hK hS => ?_)
        obtain ⟨h_5, h_6, h_7, rfl⟩ := hw
        have hP : va_P D vwCl [(sc, .inr (4, [.ref tw, .int scd, .int sch, .int scs, .ref scp, .ref scw, .ref scc, .ref scf])), (scp, .inl (scpt, 7, .inl scpf)), (scw, .inl (scwt, 6, .inl scwf)), (scc, .inl (scct, 6, .inl sccf)), (scf, .inl (scft, 6, .inl scff)), (tw, .inr (8, [.ref twl, .ref twp, .ref twu, .int twe, .ref twh, .ref tws, .ref twg, .int twm, .ref two, .ref twd, .ref twq, .int twr])), (twl, .inr (2, [.ref twlc, .int twln])), (twlc, .inl (twlct, 5, .inr (.inl twlcf))), (twp, .inr (2, [.ref twpc, .int twpn])), (twpc, .inl (twpct, 7, .inr (.inl twpcf))), (twu, .inr (2, [.ref twuc, .int twun])), (twuc, .inl (twuct, 6, .inr (.inl twucf))), (twh, .inl (twht, 7, .inl twhf)), (tws, .inl (twst, 6, .inl twsf)), (twg, .inl (twgt, 6, .inl twgf)), (two, .inl (twot, 14, .inl twof)), (twd, .inl (twdt, 14, .inl twdf)), (twq, .inl (twqt, 14, .inl twqf))] H := hP
        have hD : va_D A [(sc, .inr (4, [.ref tw, .int scd, .int sch, .int scs, .ref scp, .ref scw, .ref scc, .ref scf])), (scp, .inl (scpt, 7, .inl scpf)), (scw, .inl (scwt, 6, .inl scwf)), (scc, .inl (scct, 6, .inl sccf)), (scf, .inl (scft, 6, .inl scff)), (tw, .inr (8, [.ref twl, .ref twp, .ref twu, .int twe, .ref twh, .ref tws, .ref twg, .int twm, .ref two, .ref twd, .ref twq, .int twr])), (twl, .inr (2, [.ref twlc, .int twln])), (twlc, .inl (twlct, 5, .inr (.inl twlcf))), (twp, .inr (2, [.ref twpc, .int twpn])), (twpc, .inl (twpct, 7, .inr (.inl twpcf))), (twu, .inr (2, [.ref twuc, .int twun])), (twuc, .inl (twuct, 6, .inr (.inl twucf))), (twh, .inl (twht, 7, .inl twhf)), (tws, .inl (twst, 6, .inl twsf)), (twg, .inl (twgt, 6, .inl twgf)), (two, .inl (twot, 14, .inl twof)), (twd, .inl (twdt, 14, .inl twdf)), (twq, .inl (twqt, 14, .inl twqf))] := hD
        have hK : va_K D vwCl [(scpt, .int), (scwt, .int), (scct, .int), (scft, .int), (twlct, .long), (twpct, .long), (twuct, .long), (twht, .int), (twst, .int), (twgt, .int), (twot, .int), (twdt, .int), (twqt, .int)] s := hK
        refine W.cs (cells' := 0) (slots' := 0) rfl rfl ?_
        refine W.eq (g2 := F0 m 20 ls (.int y_4 :: [])) rfl ?_
        refine lv_iload_n hx hb dX4_sumOf_20 rfl (lv_at hl 3 rfl) ?_
        refine lv_icmp_ne (tgt := 36) hx hb dX4_sumOf_21 (by decide) (fun c_8 => ?_) (fun c_8 => ?_)
        · skip
          obtain ⟨y_9, ey_9⟩ : ∃ y : Int32, y = v1_3 + 1 := ⟨_, rfl⟩
          have h_10 : z_in 1 14 y_9 := by rw [ey_9]; exact z_add h_2 (z_lit (x := 1) (a := 1) (b := 1) rfl) rfl rfl
          have ty_9 : y_9.toInt = v1_3.toInt + 1 := by rw [ey_9]; exact z_addT h_2 (z_lit (x := 1) (a := 1) (b := 1) rfl) rfl
          refine lv_iinc (v := y_9) (lv' := [(3, .int y_9), (2, .int v1_2), (0, .ref sc), (1, .int i0)]) hx hb dX4_sumOf_36 hl (k := 0) rfl (by rw [ey_9]; rfl) (by decide) rfl (fun ls hl => ?_)
          refine lv_goto (tgt := 4) hx hb dX4_sumOf_39 (by decide) ?_
          exact ih1 v1_2 y_9 _ _ _ (z_w (c := 0) (d := 14) h_10 rfl) (by omega) hP hD hS (lv_sub hl [0, 1, 2, 3] rfl)
        · skip
          have h_11 : z_in 0 2147483647 i0 := z_leR (Int32.le_of_eq c_8) h_5 (z_any i0) rfl
          have h_12 : z_in 0 2 i0 := z_leL (Int32.le_of_eq (Eq.symm c_8)) h_11 h_5 rfl
          refine lv_iload_n hx hb dX4_sumOf_24 rfl (lv_at hl 1 rfl) ?_
          refine lv_aload_n hx hb dX4_sumOf_25 rfl (lv_at hl 2 rfl) ?_
          refine va_get (D := D) (ci := 4) (v := .ref tw) (C := RX4) (T := TX4) (N := 8) hx hb hts hiX4 hown hK hP 0 rfl rfl 0 (by decide) (hts _ (List.mem_of_getElem? (i := 1) rfl)) (fun _ h9 => h9) rfl dX4_sumOf_26 ?_
          refine va_get (D := D) (ci := 8) (v := .ref twq) (C := RX8) (T := TX8) (N := 12) hx hb hts hiX8 hown hK hP 5 rfl rfl 10 (by decide) (hts _ (List.mem_of_getElem? (i := 3) rfl)) (fun _ h9 => h9) rfl dX4_sumOf_29 ?_
          refine lv_iload_n hx hb dX4_sumOf_32 rfl (lv_at hl 0 rfl) ?_
          refine va_iald hx hb hK hP 17 12 rfl rfl (z_vp h_2 rfl) dX4_sumOf_33 ?_
          refine lv_topi (fun y_13 ey_13 => ?_)
          have h_14 : z_in 0 20 y_13 := by rw [ey_13]; exact htwqf _
          refine lv_iadd hx hb dX4_sumOf_34 ?_
          refine lv_topi (fun y_15 ey_15 => ?_)
          refine lv_istore_n (lv' := [(2, .int y_15), (3, .int v1_3), (0, .ref sc), (1, .int i0)]) hx hb dX4_sumOf_35 rfl hl (by decide) rfl (fun ls hl => ?_)
          obtain ⟨y_16, ey_16⟩ : ∃ y : Int32, y = v1_3 + 1 := ⟨_, rfl⟩
          have h_17 : z_in 1 14 y_16 := by rw [ey_16]; exact z_add h_2 (z_lit (x := 1) (a := 1) (b := 1) rfl) rfl rfl
          have ty_16 : y_16.toInt = v1_3.toInt + 1 := by rw [ey_16]; exact z_addT h_2 (z_lit (x := 1) (a := 1) (b := 1) rfl) rfl
          refine lv_iinc (v := y_16) (lv' := [(3, .int y_16), (2, .int y_15), (0, .ref sc), (1, .int i0)]) hx hb dX4_sumOf_36 hl (k := 1) rfl (by rw [ey_16]; rfl) (by decide) rfl (fun ls hl => ?_)
          refine lv_goto (tgt := 4) hx hb dX4_sumOf_39 (by decide) ?_
          exact ih1 y_15 y_16 _ _ _ (z_w (c := 0) (d := 14) h_17 rfl) (by omega) hP hD hS (lv_sub hl [0, 1, 2, 3] rfl)
  exact LP1 15 0 0 _ _ _ (z_w (c := 0) (d := 14) (z_lit (x := 0) (a := 0) (b := 0) rfl) rfl) (by decide) hP hD hS (lv_sub hl [0, 1, 2, 3] rfl)

set_option maxHeartbeats 8000000 in
set_option maxRecDepth 100000 in
theorem w_Scene_weptByAll (l : Launch) (D : va_G) (ad : Nat → Nat) (sc : Nat) (scd : Int32) (sch : Int32) (scs : Int32) (scp : Nat) (scpt : ClassId) (scpf : Nat → Int32) (scw : Nat) (scwt : ClassId) (scwf : Nat → Int32) (scc : Nat) (scct : ClassId) (sccf : Nat → Int32) (scf : Nat) (scft : ClassId) (scff : Nat → Int32) (tw : Nat) (twe : Int32) (twm : Int32) (twr : Int32) (twl : Nat) (twln : Int32) (twlc : Nat) (twlct : ClassId) (twlcf : Nat → Int64) (twp : Nat) (twpn : Int32) (twpc : Nat) (twpct : ClassId) (twpcf : Nat → Int64) (twu : Nat) (twun : Int32) (twuc : Nat) (twuct : ClassId) (twucf : Nat → Int64) (twh : Nat) (twht : ClassId) (twhf : Nat → Int32) (tws : Nat) (twst : ClassId) (twsf : Nat → Int32) (twg : Nat) (twgt : ClassId) (twgf : Nat → Int32) (two : Nat) (twot : ClassId) (twof : Nat → Int32) (twd : Nat) (twdt : ClassId) (twdf : Nat → Int32) (twq : Nat) (twqt : ClassId) (twqf : Nat → Int32) (hscpf : z_al 0 4 scpf) (hscwf : z_al 0 4 scwf) (hsccf : z_al (-1) 6 sccf) (hscff : z_al 0 12 scff) (htwm : z_in 0 14 twm) (htwr : z_in 0 5 twr) (htwln : z_in 0 5 twln) (htwpn : z_in 0 7 twpn) (htwun : z_in 0 6 twun) (htwhf : z_al 0 4 twhf) (htwsf : z_al 0 4 twsf) (htwgf : z_al 0 12 twgf) (htwof : z_al 0 6 twof) (htwdf : z_al 0 199 twdf) (htwqf : z_al 0 20 twqf) : z_Mi l yX4_weptByAll wsX4_weptByAll { frames := 2, cells := 0, slots := 0, locals := 44 } D ad [.ref sc] [(sc, .inr (4, [.ref tw, .int scd, .int sch, .int scs, .ref scp, .ref scw, .ref scc, .ref scf])), (scp, .inl (scpt, 7, .inl scpf)), (scw, .inl (scwt, 6, .inl scwf)), (scc, .inl (scct, 6, .inl sccf)), (scf, .inl (scft, 6, .inl scff)), (tw, .inr (8, [.ref twl, .ref twp, .ref twu, .int twe, .ref twh, .ref tws, .ref twg, .int twm, .ref two, .ref twd, .ref twq, .int twr])), (twl, .inr (2, [.ref twlc, .int twln])), (twlc, .inl (twlct, 5, .inr (.inl twlcf))), (twp, .inr (2, [.ref twpc, .int twpn])), (twpc, .inl (twpct, 7, .inr (.inl twpcf))), (twu, .inr (2, [.ref twuc, .int twun])), (twuc, .inl (twuct, 6, .inr (.inl twucf))), (twh, .inl (twht, 7, .inl twhf)), (tws, .inl (twst, 6, .inl twsf)), (twg, .inl (twgt, 6, .inl twgf)), (two, .inl (twot, 14, .inl twof)), (twd, .inl (twdt, 14, .inl twdf)), (twq, .inl (twqt, 14, .inl twqf))] [(scpt, .int), (scwt, .int), (scct, .int), (scft, .int), (twlct, .long), (twpct, .long), (twuct, .long), (twht, .int), (twst, .int), (twgt, .int), (twot, .int), (twdt, .int), (twqt, .int)] 0 0 (fun r9 u9 => u9 = ([(sc, .inr (4, [.ref tw, .int scd, .int sch, .int scs, .ref scp, .ref scw, .ref scc, .ref scf])), (scp, .inl (scpt, 7, .inl scpf)), (scw, .inl (scwt, 6, .inl scwf)), (scc, .inl (scct, 6, .inl sccf)), (scf, .inl (scft, 6, .inl scff)), (tw, .inr (8, [.ref twl, .ref twp, .ref twu, .int twe, .ref twh, .ref tws, .ref twg, .int twm, .ref two, .ref twd, .ref twq, .int twr])), (twl, .inr (2, [.ref twlc, .int twln])), (twlc, .inl (twlct, 5, .inr (.inl twlcf))), (twp, .inr (2, [.ref twpc, .int twpn])), (twpc, .inl (twpct, 7, .inr (.inl twpcf))), (twu, .inr (2, [.ref twuc, .int twun])), (twuc, .inl (twuct, 6, .inr (.inl twucf))), (twh, .inl (twht, 7, .inl twhf)), (tws, .inl (twst, 6, .inl twsf)), (twg, .inl (twgt, 6, .inl twgf)), (two, .inl (twot, 14, .inl twof)), (twd, .inl (twdt, 14, .inl twdf)), (twq, .inl (twqt, 14, .inl twqf))], [])) := by
  refine z_ofI (cc := cX4_weptByAll) (maxL := 1) (rt := .int) (by decide) rfl (Nat.le_of_ble_eq_true rfl) ?_
  intro p e s m below meth c Q A ls hx hb hml hown hts hin hK hP hD hA hE hO hS hl hret
  have hown : s.vm.findClass RX4 = some m.cls := hown
  have hiX4 : ∀ w ∈ wsX40, w ∈ wsX4_weptByAll := fun _ h9 => List.mem_cons_of_mem _ (List.mem_append_left _ (List.mem_append_right _ h9))
  have hiX8 : ∀ w ∈ wsX80, w ∈ wsX4_weptByAll := fun _ h9 => List.mem_cons_of_mem _ (List.mem_append_right _ h9)
  have hl : lv_has ls 1 [(0, .ref sc)] := hl
  refine lv_aload_n hx hb dX4_weptByAll_0 rfl (lv_at hl 0 rfl) ?_
  refine lv_iconst (v := 2) hx hb dX4_weptByAll_1 (by decide) ?_
  have hc9 := (w_Scene_sumOf l D ad sc scd sch scs scp scpt scpf scw scwt scwf scc scct sccf scf scft scff tw twe twm twr twl twln twlc twlct twlcf twp twpn twpc twpct twpcf twu twun twuc twuct twucf twh twht twhf tws twst twsf twg twgt twgf two twot twof twd twdt twdf twq twqt twqf 2 hscpf hscwf hsccf hscff htwm htwr htwln htwpn htwun htwhf htwsf htwgf htwof htwdf htwqf)
  refine z_calli (w0 := [(sc, .inr (4, [.ref tw, .int scd, .int sch, .int scs, .ref scp, .ref scw, .ref scc, .ref scf])), (scp, .inl (scpt, 7, .inl scpf)), (scw, .inl (scwt, 6, .inl scwf)), (scc, .inl (scct, 6, .inl sccf)), (scf, .inl (scft, 6, .inl scff)), (tw, .inr (8, [.ref twl, .ref twp, .ref twu, .int twe, .ref twh, .ref tws, .ref twg, .int twm, .ref two, .ref twd, .ref twq, .int twr])), (twl, .inr (2, [.ref twlc, .int twln])), (twlc, .inl (twlct, 5, .inr (.inl twlcf))), (twp, .inr (2, [.ref twpc, .int twpn])), (twpc, .inl (twpct, 7, .inr (.inl twpcf))), (twu, .inr (2, [.ref twuc, .int twun])), (twuc, .inl (twuct, 6, .inr (.inl twucf))), (twh, .inl (twht, 7, .inl twhf)), (tws, .inl (twst, 6, .inl twsf)), (twg, .inl (twgt, 6, .inl twgf)), (two, .inl (twot, 14, .inl twof)), (twd, .inl (twdt, 14, .inl twdf)), (twq, .inl (twqt, 14, .inl twqf))]) (wr := []) (va_runV (As := [.int 2]) (rest := []) ⟨hx, hb, hml, hown, hts⟩ (hc9 _) (cwV 1 hts gX4_weptByAll_X4_sumOf rfl rfl rfl (by decide +kernel) ⟨Nat.le_of_ble_eq_true rfl, Nat.le_of_ble_eq_true rfl⟩) (z_preV hP hD hK hS hA hE hO [0, 1, 2, 3, 4, 5, 6, 7, 8, 9, 10, 11, 12, 13, 14, 15, 16, 17] [0, 1, 2, 3, 4, 5, 6, 7, 8, 9, 10, 11, 12] rfl (by decide +kernel) rfl 0 4 rfl rfl rfl) rfl rfl hl.1 rfl (lv_room (Nat.le_of_ble_eq_true rfl)) dX4_weptByAll_2 ⟨Nat.le_of_ble_eq_true rfl, Nat.le_of_ble_eq_true rfl⟩) hP hD hK hS hA [0, 1, 2, 3, 4, 5, 6, 7, 8, 9, 10, 11, 12, 13, 14, 15, 16, 17] [] rfl rfl (by decide +kernel) (by decide +kernel) (fun y_1 u9 H locs hw hP hD hK hS => ?_)
  obtain rfl := hw
  have hP : va_P D vwCl [(sc, .inr (4, [.ref tw, .int scd, .int sch, .int scs, .ref scp, .ref scw, .ref scc, .ref scf])), (scp, .inl (scpt, 7, .inl scpf)), (scw, .inl (scwt, 6, .inl scwf)), (scc, .inl (scct, 6, .inl sccf)), (scf, .inl (scft, 6, .inl scff)), (tw, .inr (8, [.ref twl, .ref twp, .ref twu, .int twe, .ref twh, .ref tws, .ref twg, .int twm, .ref two, .ref twd, .ref twq, .int twr])), (twl, .inr (2, [.ref twlc, .int twln])), (twlc, .inl (twlct, 5, .inr (.inl twlcf))), (twp, .inr (2, [.ref twpc, .int twpn])), (twpc, .inl (twpct, 7, .inr (.inl twpcf))), (twu, .inr (2, [.ref twuc, .int twun])), (twuc, .inl (twuct, 6, .inr (.inl twucf))), (twh, .inl (twht, 7, .inl twhf)), (tws, .inl (twst, 6, .inl twsf)), (twg, .inl (twgt, 6, .inl twgf)), (two, .inl (twot, 14, .inl twof)), (twd, .inl (twdt, 14, .inl twdf)), (twq, .inl (twqt, 14, .inl twqf))] H := hP
  have hD : va_D A [(sc, .inr (4, [.ref tw, .int scd, .int sch, .int scs, .ref scp, .ref scw, .ref scc, .ref scf])), (scp, .inl (scpt, 7, .inl scpf)), (scw, .inl (scwt, 6, .inl scwf)), (scc, .inl (scct, 6, .inl sccf)), (scf, .inl (scft, 6, .inl scff)), (tw, .inr (8, [.ref twl, .ref twp, .ref twu, .int twe, .ref twh, .ref tws, .ref twg, .int twm, .ref two, .ref twd, .ref twq, .int twr])), (twl, .inr (2, [.ref twlc, .int twln])), (twlc, .inl (twlct, 5, .inr (.inl twlcf))), (twp, .inr (2, [.ref twpc, .int twpn])), (twpc, .inl (twpct, 7, .inr (.inl twpcf))), (twu, .inr (2, [.ref twuc, .int twun])), (twuc, .inl (twuct, 6, .inr (.inl twucf))), (twh, .inl (twht, 7, .inl twhf)), (tws, .inl (twst, 6, .inl twsf)), (twg, .inl (twgt, 6, .inl twgf)), (two, .inl (twot, 14, .inl twof)), (twd, .inl (twdt, 14, .inl twdf)), (twq, .inl (twqt, 14, .inl twqf))] := hD
  have hK : va_K D vwCl [(scpt, .int), (scwt, .int), (scct, .int), (scft, .int), (twlct, .long), (twpct, .long), (twuct, .long), (twht, .int), (twst, .int), (twgt, .int), (twot, .int), (twdt, .int), (twqt, .int)] s := hK
  refine W.cs (cells' := 0) (slots' := 0) rfl rfl ?_
  refine W.eq (g2 := F0 m 5 ls (.int y_1 :: [])) rfl ?_
  exact hret y_1 ([(sc, .inr (4, [.ref tw, .int scd, .int sch, .int scs, .ref scp, .ref scw, .ref scc, .ref scf])), (scp, .inl (scpt, 7, .inl scpf)), (scw, .inl (scwt, 6, .inl scwf)), (scc, .inl (scct, 6, .inl sccf)), (scf, .inl (scft, 6, .inl scff)), (tw, .inr (8, [.ref twl, .ref twp, .ref twu, .int twe, .ref twh, .ref tws, .ref twg, .int twm, .ref two, .ref twd, .ref twq, .int twr])), (twl, .inr (2, [.ref twlc, .int twln])), (twlc, .inl (twlct, 5, .inr (.inl twlcf))), (twp, .inr (2, [.ref twpc, .int twpn])), (twpc, .inl (twpct, 7, .inr (.inl twpcf))), (twu, .inr (2, [.ref twuc, .int twun])), (twuc, .inl (twuct, 6, .inr (.inl twucf))), (twh, .inl (twht, 7, .inl twhf)), (tws, .inl (twst, 6, .inl twsf)), (twg, .inl (twgt, 6, .inl twgf)), (two, .inl (twot, 14, .inl twof)), (twd, .inl (twdt, 14, .inl twdf)), (twq, .inl (twqt, 14, .inl twqf))], []) _ _ _ _ dX4_weptByAll_5 rfl rfl hP (hK.sub [] rfl) hD hS

set_option maxHeartbeats 8000000 in
set_option maxRecDepth 100000 in
theorem w_Scene_sparedInAll (l : Launch) (D : va_G) (ad : Nat → Nat) (sc : Nat) (scd : Int32) (sch : Int32) (scs : Int32) (scp : Nat) (scpt : ClassId) (scpf : Nat → Int32) (scw : Nat) (scwt : ClassId) (scwf : Nat → Int32) (scc : Nat) (scct : ClassId) (sccf : Nat → Int32) (scf : Nat) (scft : ClassId) (scff : Nat → Int32) (tw : Nat) (twe : Int32) (twm : Int32) (twr : Int32) (twl : Nat) (twln : Int32) (twlc : Nat) (twlct : ClassId) (twlcf : Nat → Int64) (twp : Nat) (twpn : Int32) (twpc : Nat) (twpct : ClassId) (twpcf : Nat → Int64) (twu : Nat) (twun : Int32) (twuc : Nat) (twuct : ClassId) (twucf : Nat → Int64) (twh : Nat) (twht : ClassId) (twhf : Nat → Int32) (tws : Nat) (twst : ClassId) (twsf : Nat → Int32) (twg : Nat) (twgt : ClassId) (twgf : Nat → Int32) (two : Nat) (twot : ClassId) (twof : Nat → Int32) (twd : Nat) (twdt : ClassId) (twdf : Nat → Int32) (twq : Nat) (twqt : ClassId) (twqf : Nat → Int32) (hscpf : z_al 0 4 scpf) (hscwf : z_al 0 4 scwf) (hsccf : z_al (-1) 6 sccf) (hscff : z_al 0 12 scff) (htwm : z_in 0 14 twm) (htwr : z_in 0 5 twr) (htwln : z_in 0 5 twln) (htwpn : z_in 0 7 twpn) (htwun : z_in 0 6 twun) (htwhf : z_al 0 4 twhf) (htwsf : z_al 0 4 twsf) (htwgf : z_al 0 12 twgf) (htwof : z_al 0 6 twof) (htwdf : z_al 0 199 twdf) (htwqf : z_al 0 20 twqf) : z_Mi l yX4_sparedInAll wsX4_sparedInAll { frames := 2, cells := 0, slots := 0, locals := 44 } D ad [.ref sc] [(sc, .inr (4, [.ref tw, .int scd, .int sch, .int scs, .ref scp, .ref scw, .ref scc, .ref scf])), (scp, .inl (scpt, 7, .inl scpf)), (scw, .inl (scwt, 6, .inl scwf)), (scc, .inl (scct, 6, .inl sccf)), (scf, .inl (scft, 6, .inl scff)), (tw, .inr (8, [.ref twl, .ref twp, .ref twu, .int twe, .ref twh, .ref tws, .ref twg, .int twm, .ref two, .ref twd, .ref twq, .int twr])), (twl, .inr (2, [.ref twlc, .int twln])), (twlc, .inl (twlct, 5, .inr (.inl twlcf))), (twp, .inr (2, [.ref twpc, .int twpn])), (twpc, .inl (twpct, 7, .inr (.inl twpcf))), (twu, .inr (2, [.ref twuc, .int twun])), (twuc, .inl (twuct, 6, .inr (.inl twucf))), (twh, .inl (twht, 7, .inl twhf)), (tws, .inl (twst, 6, .inl twsf)), (twg, .inl (twgt, 6, .inl twgf)), (two, .inl (twot, 14, .inl twof)), (twd, .inl (twdt, 14, .inl twdf)), (twq, .inl (twqt, 14, .inl twqf))] [(scpt, .int), (scwt, .int), (scct, .int), (scft, .int), (twlct, .long), (twpct, .long), (twuct, .long), (twht, .int), (twst, .int), (twgt, .int), (twot, .int), (twdt, .int), (twqt, .int)] 0 0 (fun r9 u9 => u9 = ([(sc, .inr (4, [.ref tw, .int scd, .int sch, .int scs, .ref scp, .ref scw, .ref scc, .ref scf])), (scp, .inl (scpt, 7, .inl scpf)), (scw, .inl (scwt, 6, .inl scwf)), (scc, .inl (scct, 6, .inl sccf)), (scf, .inl (scft, 6, .inl scff)), (tw, .inr (8, [.ref twl, .ref twp, .ref twu, .int twe, .ref twh, .ref tws, .ref twg, .int twm, .ref two, .ref twd, .ref twq, .int twr])), (twl, .inr (2, [.ref twlc, .int twln])), (twlc, .inl (twlct, 5, .inr (.inl twlcf))), (twp, .inr (2, [.ref twpc, .int twpn])), (twpc, .inl (twpct, 7, .inr (.inl twpcf))), (twu, .inr (2, [.ref twuc, .int twun])), (twuc, .inl (twuct, 6, .inr (.inl twucf))), (twh, .inl (twht, 7, .inl twhf)), (tws, .inl (twst, 6, .inl twsf)), (twg, .inl (twgt, 6, .inl twgf)), (two, .inl (twot, 14, .inl twof)), (twd, .inl (twdt, 14, .inl twdf)), (twq, .inl (twqt, 14, .inl twqf))], [])) := by
  refine z_ofI (cc := cX4_sparedInAll) (maxL := 1) (rt := .int) (by decide) rfl (Nat.le_of_ble_eq_true rfl) ?_
  intro p e s m below meth c Q A ls hx hb hml hown hts hin hK hP hD hA hE hO hS hl hret
  have hown : s.vm.findClass RX4 = some m.cls := hown
  have hiX4 : ∀ w ∈ wsX40, w ∈ wsX4_sparedInAll := fun _ h9 => List.mem_cons_of_mem _ (List.mem_append_left _ (List.mem_append_right _ h9))
  have hiX8 : ∀ w ∈ wsX80, w ∈ wsX4_sparedInAll := fun _ h9 => List.mem_cons_of_mem _ (List.mem_append_right _ h9)
  have hl : lv_has ls 1 [(0, .ref sc)] := hl
  refine lv_aload_n hx hb dX4_sparedInAll_0 rfl (lv_at hl 0 rfl) ?_
  refine lv_iconst (v := 1) hx hb dX4_sparedInAll_1 (by decide) ?_
  have hc9 := (w_Scene_sumOf l D ad sc scd sch scs scp scpt scpf scw scwt scwf scc scct sccf scf scft scff tw twe twm twr twl twln twlc twlct twlcf twp twpn twpc twpct twpcf twu twun twuc twuct twucf twh twht twhf tws twst twsf twg twgt twgf two twot twof twd twdt twdf twq twqt twqf 1 hscpf hscwf hsccf hscff htwm htwr htwln htwpn htwun htwhf htwsf htwgf htwof htwdf htwqf)
  refine z_calli (w0 := [(sc, .inr (4, [.ref tw, .int scd, .int sch, .int scs, .ref scp, .ref scw, .ref scc, .ref scf])), (scp, .inl (scpt, 7, .inl scpf)), (scw, .inl (scwt, 6, .inl scwf)), (scc, .inl (scct, 6, .inl sccf)), (scf, .inl (scft, 6, .inl scff)), (tw, .inr (8, [.ref twl, .ref twp, .ref twu, .int twe, .ref twh, .ref tws, .ref twg, .int twm, .ref two, .ref twd, .ref twq, .int twr])), (twl, .inr (2, [.ref twlc, .int twln])), (twlc, .inl (twlct, 5, .inr (.inl twlcf))), (twp, .inr (2, [.ref twpc, .int twpn])), (twpc, .inl (twpct, 7, .inr (.inl twpcf))), (twu, .inr (2, [.ref twuc, .int twun])), (twuc, .inl (twuct, 6, .inr (.inl twucf))), (twh, .inl (twht, 7, .inl twhf)), (tws, .inl (twst, 6, .inl twsf)), (twg, .inl (twgt, 6, .inl twgf)), (two, .inl (twot, 14, .inl twof)), (twd, .inl (twdt, 14, .inl twdf)), (twq, .inl (twqt, 14, .inl twqf))]) (wr := []) (va_runV (As := [.int 1]) (rest := []) ⟨hx, hb, hml, hown, hts⟩ (hc9 _) (cwV 1 hts gX4_sparedInAll_X4_sumOf rfl rfl rfl (by decide +kernel) ⟨Nat.le_of_ble_eq_true rfl, Nat.le_of_ble_eq_true rfl⟩) (z_preV hP hD hK hS hA hE hO [0, 1, 2, 3, 4, 5, 6, 7, 8, 9, 10, 11, 12, 13, 14, 15, 16, 17] [0, 1, 2, 3, 4, 5, 6, 7, 8, 9, 10, 11, 12] rfl (by decide +kernel) rfl 0 4 rfl rfl rfl) rfl rfl hl.1 rfl (lv_room (Nat.le_of_ble_eq_true rfl)) dX4_sparedInAll_2 ⟨Nat.le_of_ble_eq_true rfl, Nat.le_of_ble_eq_true rfl⟩) hP hD hK hS hA [0, 1, 2, 3, 4, 5, 6, 7, 8, 9, 10, 11, 12, 13, 14, 15, 16, 17] [] rfl rfl (by decide +kernel) (by decide +kernel) (fun y_1 u9 H locs hw hP hD hK hS => ?_)
  obtain rfl := hw
  have hP : va_P D vwCl [(sc, .inr (4, [.ref tw, .int scd, .int sch, .int scs, .ref scp, .ref scw, .ref scc, .ref scf])), (scp, .inl (scpt, 7, .inl scpf)), (scw, .inl (scwt, 6, .inl scwf)), (scc, .inl (scct, 6, .inl sccf)), (scf, .inl (scft, 6, .inl scff)), (tw, .inr (8, [.ref twl, .ref twp, .ref twu, .int twe, .ref twh, .ref tws, .ref twg, .int twm, .ref two, .ref twd, .ref twq, .int twr])), (twl, .inr (2, [.ref twlc, .int twln])), (twlc, .inl (twlct, 5, .inr (.inl twlcf))), (twp, .inr (2, [.ref twpc, .int twpn])), (twpc, .inl (twpct, 7, .inr (.inl twpcf))), (twu, .inr (2, [.ref twuc, .int twun])), (twuc, .inl (twuct, 6, .inr (.inl twucf))), (twh, .inl (twht, 7, .inl twhf)), (tws, .inl (twst, 6, .inl twsf)), (twg, .inl (twgt, 6, .inl twgf)), (two, .inl (twot, 14, .inl twof)), (twd, .inl (twdt, 14, .inl twdf)), (twq, .inl (twqt, 14, .inl twqf))] H := hP
  have hD : va_D A [(sc, .inr (4, [.ref tw, .int scd, .int sch, .int scs, .ref scp, .ref scw, .ref scc, .ref scf])), (scp, .inl (scpt, 7, .inl scpf)), (scw, .inl (scwt, 6, .inl scwf)), (scc, .inl (scct, 6, .inl sccf)), (scf, .inl (scft, 6, .inl scff)), (tw, .inr (8, [.ref twl, .ref twp, .ref twu, .int twe, .ref twh, .ref tws, .ref twg, .int twm, .ref two, .ref twd, .ref twq, .int twr])), (twl, .inr (2, [.ref twlc, .int twln])), (twlc, .inl (twlct, 5, .inr (.inl twlcf))), (twp, .inr (2, [.ref twpc, .int twpn])), (twpc, .inl (twpct, 7, .inr (.inl twpcf))), (twu, .inr (2, [.ref twuc, .int twun])), (twuc, .inl (twuct, 6, .inr (.inl twucf))), (twh, .inl (twht, 7, .inl twhf)), (tws, .inl (twst, 6, .inl twsf)), (twg, .inl (twgt, 6, .inl twgf)), (two, .inl (twot, 14, .inl twof)), (twd, .inl (twdt, 14, .inl twdf)), (twq, .inl (twqt, 14, .inl twqf))] := hD
  have hK : va_K D vwCl [(scpt, .int), (scwt, .int), (scct, .int), (scft, .int), (twlct, .long), (twpct, .long), (twuct, .long), (twht, .int), (twst, .int), (twgt, .int), (twot, .int), (twdt, .int), (twqt, .int)] s := hK
  refine W.cs (cells' := 0) (slots' := 0) rfl rfl ?_
  refine W.eq (g2 := F0 m 5 ls (.int y_1 :: [])) rfl ?_
  exact hret y_1 ([(sc, .inr (4, [.ref tw, .int scd, .int sch, .int scs, .ref scp, .ref scw, .ref scc, .ref scf])), (scp, .inl (scpt, 7, .inl scpf)), (scw, .inl (scwt, 6, .inl scwf)), (scc, .inl (scct, 6, .inl sccf)), (scf, .inl (scft, 6, .inl scff)), (tw, .inr (8, [.ref twl, .ref twp, .ref twu, .int twe, .ref twh, .ref tws, .ref twg, .int twm, .ref two, .ref twd, .ref twq, .int twr])), (twl, .inr (2, [.ref twlc, .int twln])), (twlc, .inl (twlct, 5, .inr (.inl twlcf))), (twp, .inr (2, [.ref twpc, .int twpn])), (twpc, .inl (twpct, 7, .inr (.inl twpcf))), (twu, .inr (2, [.ref twuc, .int twun])), (twuc, .inl (twuct, 6, .inr (.inl twucf))), (twh, .inl (twht, 7, .inl twhf)), (tws, .inl (twst, 6, .inl twsf)), (twg, .inl (twgt, 6, .inl twgf)), (two, .inl (twot, 14, .inl twof)), (twd, .inl (twdt, 14, .inl twdf)), (twq, .inl (twqt, 14, .inl twqf))], []) _ _ _ _ dX4_sparedInAll_5 rfl rfl hP (hK.sub [] rfl) hD hS
