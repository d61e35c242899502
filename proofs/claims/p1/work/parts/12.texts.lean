theorem dX0_read_0 : decode cX0_read 0 = .ok (.aload_n 0, 1) := by decide +kernel
theorem dX0_read_1 : decode cX0_read 1 = .ok (.iconst 0, 1) := by decide +kernel
theorem dX0_read_2 : decode cX0_read 2 = .ok (.putfield 37, 3) := by decide +kernel
theorem dX0_read_5 : decode cX0_read 5 = .ok (.aload_n 1, 1) := by decide +kernel
theorem dX0_read_6 : decode cX0_read 6 = .ok (.sipush 400, 3) := by decide +kernel
theorem dX0_read_9 : decode cX0_read 9 = .ok (.invokevirtual 40, 3) := by decide +kernel
theorem dX0_read_12 : decode cX0_read 12 = .ok (.iconst 0, 1) := by decide +kernel
theorem dX0_read_13 : decode cX0_read 13 = .ok (.istore_n 3, 1) := by decide +kernel
theorem dX0_read_14 : decode cX0_read 14 = .ok (.iload_n 3, 1) := by decide +kernel
theorem dX0_read_15 : decode cX0_read 15 = .ok (.bipush 40, 2) := by decide +kernel
theorem dX0_read_17 : decode cX0_read 17 = .ok (.if_icmp .gt 38, 3) := by decide +kernel
theorem dX0_read_20 : decode cX0_read 20 = .ok (.aload_n 1, 1) := by decide +kernel
theorem dX0_read_21 : decode cX0_read 21 = .ok (.invokevirtual 46, 3) := by decide +kernel
theorem dX0_read_24 : decode cX0_read 24 = .ok (.ifCond .eq 5, 3) := by decide +kernel
theorem dX0_read_27 : decode cX0_read 27 = .ok (.iconst 1, 1) := by decide +kernel
theorem dX0_read_28 : decode cX0_read 28 = .ok (.ireturn, 1) := by decide +kernel
theorem dX0_live_0 : decode cX0_live 0 = .ok (.aload_n 0, 1) := by decide +kernel
theorem dX0_live_1 : decode cX0_live 1 = .ok (.iconst 0, 1) := by decide +kernel
theorem dX0_live_2 : decode cX0_live 2 = .ok (.putfield 24, 3) := by decide +kernel
theorem dX0_live_5 : decode cX0_live 5 = .ok (.aload_n 0, 1) := by decide +kernel
theorem dX0_live_6 : decode cX0_live 6 = .ok (.iconst 0, 1) := by decide +kernel
theorem dX0_live_7 : decode cX0_live 7 = .ok (.putfield 28, 3) := by decide +kernel
theorem dX0_live_10 : decode cX0_live 10 = .ok (.iconst 0, 1) := by decide +kernel
theorem dX0_live_11 : decode cX0_live 11 = .ok (.istore_n 2, 1) := by decide +kernel
theorem dX0_live_12 : decode cX0_live 12 = .ok (.iload_n 2, 1) := by decide +kernel
theorem dX0_live_13 : decode cX0_live 13 = .ok (.aload_n 0, 1) := by decide +kernel
theorem dX0_live_14 : decode cX0_live 14 = .ok (.getfield 37, 3) := by decide +kernel
theorem dX0_live_17 : decode cX0_live 17 = .ok (.if_icmp .ge 47, 3) := by decide +kernel
theorem dX0_live_64 : decode cX0_live 64 = .ok (.aload_n 0, 1) := by decide +kernel
theorem dX0_live_65 : decode cX0_live 65 = .ok (.aload_n 1, 1) := by decide +kernel
theorem dX0_live_66 : decode cX0_live 66 = .ok (.getfield 116, 3) := by decide +kernel
theorem dX0_live_69 : decode cX0_live 69 = .ok (.putfield 31, 3) := by decide +kernel
theorem dX0_live_72 : decode cX0_live 72 = .ok (.aload_n 0, 1) := by decide +kernel
theorem dX0_live_73 : decode cX0_live 73 = .ok (.aload_n 1, 1) := by decide +kernel
theorem dX0_live_74 : decode cX0_live 74 = .ok (.invokevirtual 119, 3) := by decide +kernel
theorem dX0_live_77 : decode cX0_live 77 = .ok (.putfield 34, 3) := by decide +kernel
theorem dX0_live_80 : decode cX0_live 80 = .ok (.aload_n 0, 1) := by decide +kernel
theorem dX0_live_81 : decode cX0_live 81 = .ok (.getfield 24, 3) := by decide +kernel
theorem dX0_live_84 : decode cX0_live 84 = .ok (.ifCond .ne 7, 3) := by decide +kernel
theorem dX0_live_87 : decode cX0_live 87 = .ok (.iconst (-1), 1) := by decide +kernel
theorem dX0_live_88 : decode cX0_live 88 = .ok (.goto 7, 3) := by decide +kernel
theorem dX0_live_95 : decode cX0_live 95 = .ok (.ireturn, 1) := by decide +kernel
theorem dX4_begin_0 : decode cX4_begin 0 = .ok (.aload_n 0, 1) := by decide +kernel
theorem dX4_begin_1 : decode cX4_begin 1 = .ok (.iconst 0, 1) := by decide +kernel
theorem dX4_begin_2 : decode cX4_begin 2 = .ok (.putfield 28, 3) := by decide +kernel
theorem dX4_begin_5 : decode cX4_begin 5 = .ok (.aload_n 0, 1) := by decide +kernel
theorem dX4_begin_6 : decode cX4_begin 6 = .ok (.iconst 0, 1) := by decide +kernel
theorem dX4_begin_7 : decode cX4_begin 7 = .ok (.putfield 32, 3) := by decide +kernel
theorem dX4_begin_10 : decode cX4_begin 10 = .ok (.aload_n 0, 1) := by decide +kernel
theorem dX4_begin_11 : decode cX4_begin 11 = .ok (.iconst 0, 1) := by decide +kernel
theorem dX4_begin_12 : decode cX4_begin 12 = .ok (.putfield 35, 3) := by decide +kernel
theorem dX4_begin_15 : decode cX4_begin 15 = .ok (.iconst 0, 1) := by decide +kernel
theorem dX4_begin_16 : decode cX4_begin 16 = .ok (.istore_n 1, 1) := by decide +kernel
theorem dX4_begin_17 : decode cX4_begin 17 = .ok (.iload_n 1, 1) := by decide +kernel
theorem dX4_begin_18 : decode cX4_begin 18 = .ok (.aload_n 0, 1) := by decide +kernel
theorem dX4_begin_19 : decode cX4_begin 19 = .ok (.getfield 24, 3) := by decide +kernel
theorem dX4_begin_22 : decode cX4_begin 22 = .ok (.getfield 38, 3) := by decide +kernel
theorem dX4_begin_25 : decode cX4_begin 25 = .ok (.getfield 44, 3) := by decide +kernel
theorem dX4_begin_28 : decode cX4_begin 28 = .ok (.if_icmp .ge 24, 3) := by decide +kernel
theorem dX4_begin_52 : decode cX4_begin 52 = .ok (.iconst 0, 1) := by decide +kernel
theorem dX4_begin_53 : decode cX4_begin 53 = .ok (.istore_n 1, 1) := by decide +kernel
theorem dX4_begin_54 : decode cX4_begin 54 = .ok (.iload_n 1, 1) := by decide +kernel
theorem dX4_begin_55 : decode cX4_begin 55 = .ok (.aload_n 0, 1) := by decide +kernel
theorem dX4_begin_56 : decode cX4_begin 56 = .ok (.getfield 24, 3) := by decide +kernel
theorem dX4_begin_59 : decode cX4_begin 59 = .ok (.getfield 52, 3) := by decide +kernel
theorem dX4_begin_62 : decode cX4_begin 62 = .ok (.getfield 44, 3) := by decide +kernel
theorem dX4_begin_65 : decode cX4_begin 65 = .ok (.if_icmp .ge 46, 3) := by decide +kernel
theorem dX4_begin_111 : decode cX4_begin 111 = .ok (.return_, 1) := by decide +kernel
theorem dX4_openOnes_0 : decode cX4_openOnes 0 = .ok (.iconst 0, 1) := by decide +kernel
theorem dX4_openOnes_1 : decode cX4_openOnes 1 = .ok (.istore_n 1, 1) := by decide +kernel
theorem dX4_openOnes_2 : decode cX4_openOnes 2 = .ok (.iconst 0, 1) := by decide +kernel
theorem dX4_openOnes_3 : decode cX4_openOnes 3 = .ok (.istore_n 2, 1) := by decide +kernel
theorem dX4_openOnes_4 : decode cX4_openOnes 4 = .ok (.iload_n 2, 1) := by decide +kernel
theorem dX4_openOnes_5 : decode cX4_openOnes 5 = .ok (.aload_n 0, 1) := by decide +kernel
theorem dX4_openOnes_6 : decode cX4_openOnes 6 = .ok (.getfield 24, 3) := by decide +kernel
theorem dX4_openOnes_9 : decode cX4_openOnes 9 = .ok (.getfield 52, 3) := by decide +kernel
theorem dX4_openOnes_12 : decode cX4_openOnes 12 = .ok (.getfield 44, 3) := by decide +kernel
theorem dX4_openOnes_15 : decode cX4_openOnes 15 = .ok (.if_icmp .ge 23, 3) := by decide +kernel
theorem dX4_openOnes_38 : decode cX4_openOnes 38 = .ok (.iload_n 1, 1) := by decide +kernel
theorem dX4_openOnes_39 : decode cX4_openOnes 39 = .ok (.ireturn, 1) := by decide +kernel
theorem dX5_clear_0 : decode cX5_clear 0 = .ok (.aload_n 0, 1) := by decide +kernel
theorem dX5_clear_1 : decode cX5_clear 1 = .ok (.iconst 0, 1) := by decide +kernel
theorem dX5_clear_2 : decode cX5_clear 2 = .ok (.putfield 30, 3) := by decide +kernel
theorem dX5_clear_5 : decode cX5_clear 5 = .ok (.aload_n 0, 1) := by decide +kernel
theorem dX5_clear_6 : decode cX5_clear 6 = .ok (.iconst 0, 1) := by decide +kernel
theorem dX5_clear_7 : decode cX5_clear 7 = .ok (.putfield 34, 3) := by decide +kernel
theorem dX5_clear_10 : decode cX5_clear 10 = .ok (.return_, 1) := by decide +kernel
theorem dX5_read_0 : decode cX5_read 0 = .ok (.aload_n 0, 1) := by decide +kernel
theorem dX5_read_1 : decode cX5_read 1 = .ok (.invokevirtual 37, 3) := by decide +kernel
theorem dX5_read_4 : decode cX5_read 4 = .ok (.aload_n 0, 1) := by decide +kernel
theorem dX5_read_5 : decode cX5_read 5 = .ok (.iconst 0, 1) := by decide +kernel
theorem dX5_read_6 : decode cX5_read 6 = .ok (.putfield 40, 3) := by decide +kernel
theorem dX5_read_9 : decode cX5_read 9 = .ok (.aload_n 0, 1) := by decide +kernel
theorem dX5_read_10 : decode cX5_read 10 = .ok (.iconst 0, 1) := by decide +kernel
theorem dX5_read_11 : decode cX5_read 11 = .ok (.putfield 43, 3) := by decide +kernel
theorem dX5_read_14 : decode cX5_read 14 = .ok (.aload_n 0, 1) := by decide +kernel
theorem dX5_read_15 : decode cX5_read 15 = .ok (.iconst 1, 1) := by decide +kernel
theorem dX5_read_16 : decode cX5_read 16 = .ok (.putfield 46, 3) := by decide +kernel
theorem dX5_read_19 : decode cX5_read 19 = .ok (.aload_n 1, 1) := by decide +kernel
theorem dX5_read_20 : decode cX5_read 20 = .ok (.sipush 200, 3) := by decide +kernel
theorem dX5_read_23 : decode cX5_read 23 = .ok (.invokevirtual 50, 3) := by decide +kernel
theorem dX5_read_26 : decode cX5_read 26 = .ok (.iconst 0, 1) := by decide +kernel
theorem dX5_read_27 : decode cX5_read 27 = .ok (.istore_n 3, 1) := by decide +kernel
theorem dX5_read_28 : decode cX5_read 28 = .ok (.iload_n 3, 1) := by decide +kernel
theorem dX5_read_29 : decode cX5_read 29 = .ok (.sipush 200, 3) := by decide +kernel
theorem dX5_read_32 : decode cX5_read 32 = .ok (.if_icmp .gt 62, 3) := by decide +kernel
theorem dX5_read_35 : decode cX5_read 35 = .ok (.aload_n 0, 1) := by decide +kernel
theorem dX5_read_36 : decode cX5_read 36 = .ok (.invokevirtual 56, 3) := by decide +kernel
theorem dX5_read_39 : decode cX5_read 39 = .ok (.ifCond .eq 19, 3) := by decide +kernel
theorem dX5_read_58 : decode cX5_read 58 = .ok (.aload_n 0, 1) := by decide +kernel
theorem dX5_read_59 : decode cX5_read 59 = .ok (.getfield 46, 3) := by decide +kernel
theorem dX5_read_62 : decode cX5_read 62 = .ok (.ifCond .eq 12, 3) := by decide +kernel
theorem dX5_read_65 : decode cX5_read 65 = .ok (.aload_n 0, 1) := by decide +kernel
theorem dX5_read_66 : decode cX5_read 66 = .ok (.aload_n 1, 1) := by decide +kernel
theorem dX5_read_67 : decode cX5_read 67 = .ok (.aload_n 2, 1) := by decide +kernel
theorem dX5_read_68 : decode cX5_read 68 = .ok (.invokevirtual 71, 3) := by decide +kernel
theorem dX5_read_71 : decode cX5_read 71 = .ok (.goto 8, 3) := by decide +kernel
theorem dX5_read_79 : decode cX5_read 79 = .ok (.istore 4, 2) := by decide +kernel
theorem dX5_read_81 : decode cX5_read 81 = .ok (.iload 4, 2) := by decide +kernel
theorem dX5_read_83 : decode cX5_read 83 = .ok (.ifCond .ne 5, 3) := by decide +kernel
theorem dX5_read_86 : decode cX5_read 86 = .ok (.iconst 0, 1) := by decide +kernel
theorem dX5_read_87 : decode cX5_read 87 = .ok (.ireturn, 1) := by decide +kernel
theorem dX5_isWhole_0 : decode cX5_isWhole 0 = .ok (.aload_n 0, 1) := by decide +kernel
theorem dX5_isWhole_1 : decode cX5_isWhole 1 = .ok (.getfield 46, 3) := by decide +kernel
theorem dX5_isWhole_4 : decode cX5_isWhole 4 = .ok (.ifCond .ne 14, 3) := by decide +kernel
theorem dX5_isWhole_18 : decode cX5_isWhole 18 = .ok (.iconst 0, 1) := by decide +kernel
theorem dX5_isWhole_19 : decode cX5_isWhole 19 = .ok (.ireturn, 1) := by decide +kernel
theorem dX5_readOne_0 : decode cX5_readOne 0 = .ok (.aload_n 1, 1) := by decide +kernel
theorem dX5_readOne_1 : decode cX5_readOne 1 = .ok (.bipush 40, 2) := by decide +kernel
theorem dX5_readOne_3 : decode cX5_readOne 3 = .ok (.invokevirtual 79, 3) := by decide +kernel
theorem dX5_readOne_6 : decode cX5_readOne 6 = .ok (.istore_n 3, 1) := by decide +kernel
theorem dX5_readOne_7 : decode cX5_readOne 7 = .ok (.aload_n 1, 1) := by decide +kernel
theorem dX5_readOne_8 : decode cX5_readOne 8 = .ok (.invokevirtual 83, 3) := by decide +kernel
theorem dX5_readOne_11 : decode cX5_readOne 11 = .ok (.astore 4, 2) := by decide +kernel
theorem dX5_readOne_13 : decode cX5_readOne 13 = .ok (.iload_n 3, 1) := by decide +kernel
theorem dX5_readOne_14 : decode cX5_readOne 14 = .ok (.ifCond .ne 17, 3) := by decide +kernel
theorem dX5_readOne_17 : decode cX5_readOne 17 = .ok (.aload 4, 2) := by decide +kernel
theorem dX5_readOne_19 : decode cX5_readOne 19 = .ok (.invokevirtual 87, 3) := by decide +kernel
theorem dX5_readOne_22 : decode cX5_readOne 22 = .ok (.ifCond .ne 9, 3) := by decide +kernel
theorem dX5_readOne_25 : decode cX5_readOne 25 = .ok (.aload_n 1, 1) := by decide +kernel
theorem dX5_readOne_26 : decode cX5_readOne 26 = .ok (.iconst 1, 1) := by decide +kernel
theorem dX5_readOne_27 : decode cX5_readOne 27 = .ok (.invokevirtual 90, 3) := by decide +kernel
theorem dX5_readOne_30 : decode cX5_readOne 30 = .ok (.ireturn, 1) := by decide +kernel
theorem dX8_read_0 : decode cX8_read 0 = .ok (.aload_n 0, 1) := by decide +kernel
theorem dX8_read_1 : decode cX8_read 1 = .ok (.invokevirtual 69, 3) := by decide +kernel
theorem dX8_read_4 : decode cX8_read 4 = .ok (.aload_n 1, 1) := by decide +kernel
theorem dX8_read_5 : decode cX8_read 5 = .ok (.sipush 900, 3) := by decide +kernel
theorem dX8_read_8 : decode cX8_read 8 = .ok (.invokevirtual 72, 3) := by decide +kernel
theorem dX8_read_11 : decode cX8_read 11 = .ok (.iconst 0, 1) := by decide +kernel
theorem dX8_read_12 : decode cX8_read 12 = .ok (.istore_n 2, 1) := by decide +kernel
theorem dX8_read_13 : decode cX8_read 13 = .ok (.iload_n 2, 1) := by decide +kernel
theorem dX8_read_14 : decode cX8_read 14 = .ok (.sipush 900, 3) := by decide +kernel
theorem dX8_read_17 : decode cX8_read 17 = .ok (.if_icmp .gt 56, 3) := by decide +kernel
theorem dX8_read_20 : decode cX8_read 20 = .ok (.aload_n 1, 1) := by decide +kernel
theorem dX8_read_21 : decode cX8_read 21 = .ok (.invokevirtual 77, 3) := by decide +kernel
theorem dX8_read_24 : decode cX8_read 24 = .ok (.ifCond .eq 24, 3) := by decide +kernel
theorem dX8_read_27 : decode cX8_read 27 = .ok (.aload_n 0, 1) := by decide +kernel
theorem dX8_read_28 : decode cX8_read 28 = .ok (.aload_n 0, 1) := by decide +kernel
theorem dX8_read_29 : decode cX8_read 29 = .ok (.getfield 45, 3) := by decide +kernel
theorem dX8_read_32 : decode cX8_read 32 = .ok (.ifCond .ne 7, 3) := by decide +kernel
theorem dX8_read_35 : decode cX8_read 35 = .ok (.iconst 2, 1) := by decide +kernel
theorem dX8_read_36 : decode cX8_read 36 = .ok (.goto 7, 3) := by decide +kernel
theorem dX8_read_43 : decode cX8_read 43 = .ok (.putfield 45, 3) := by decide +kernel
theorem dX8_read_46 : decode cX8_read 46 = .ok (.iload_n 2, 1) := by decide +kernel
theorem dX8_read_47 : decode cX8_read 47 = .ok (.ireturn, 1) := by decide +kernel
theorem dX8_clear_0 : decode cX8_clear 0 = .ok (.aload_n 0, 1) := by decide +kernel
theorem dX8_clear_1 : decode cX8_clear 1 = .ok (.getfield 14, 3) := by decide +kernel
theorem dX8_clear_4 : decode cX8_clear 4 = .ok (.iconst 0, 1) := by decide +kernel
theorem dX8_clear_5 : decode cX8_clear 5 = .ok (.putfield 89, 3) := by decide +kernel
theorem dX8_clear_8 : decode cX8_clear 8 = .ok (.aload_n 0, 1) := by decide +kernel
theorem dX8_clear_9 : decode cX8_clear 9 = .ok (.getfield 20, 3) := by decide +kernel
theorem dX8_clear_12 : decode cX8_clear 12 = .ok (.iconst 0, 1) := by decide +kernel
theorem dX8_clear_13 : decode cX8_clear 13 = .ok (.putfield 89, 3) := by decide +kernel
theorem dX8_clear_16 : decode cX8_clear 16 = .ok (.aload_n 0, 1) := by decide +kernel
theorem dX8_clear_17 : decode cX8_clear 17 = .ok (.getfield 23, 3) := by decide +kernel
theorem dX8_clear_20 : decode cX8_clear 20 = .ok (.iconst 0, 1) := by decide +kernel
theorem dX8_clear_21 : decode cX8_clear 21 = .ok (.putfield 89, 3) := by decide +kernel
theorem dX8_clear_24 : decode cX8_clear 24 = .ok (.aload_n 0, 1) := by decide +kernel
theorem dX8_clear_25 : decode cX8_clear 25 = .ok (.iconst 0, 1) := by decide +kernel
theorem dX8_clear_26 : decode cX8_clear 26 = .ok (.putfield 49, 3) := by decide +kernel
theorem dX8_clear_29 : decode cX8_clear 29 = .ok (.aload_n 0, 1) := by decide +kernel
theorem dX8_clear_30 : decode cX8_clear 30 = .ok (.iconst 0, 1) := by decide +kernel
theorem dX8_clear_31 : decode cX8_clear 31 = .ok (.putfield 66, 3) := by decide +kernel
theorem dX8_clear_34 : decode cX8_clear 34 = .ok (.aload_n 0, 1) := by decide +kernel
theorem dX8_clear_35 : decode cX8_clear 35 = .ok (.iconst 0, 1) := by decide +kernel
theorem dX8_clear_36 : decode cX8_clear 36 = .ok (.putfield 45, 3) := by decide +kernel
theorem dX8_clear_39 : decode cX8_clear 39 = .ok (.return_, 1) := by decide +kernel
set_option maxRecDepth 20000 in
theorem ggX0_read_X7_start : GoodIn wsX0_read wsX7_start := goodIn_r _ [6, 7, 8, 9, 10, 11, 12, 13, 5, 14, 15, 16, 17, 18, 19, 20, 21, 22, 23, 24, 25, 26, 27, 28, 29, 30, 31, 32, 33, 34, 35, 36, 37, 38, 39, 40, 41, 42, 43, 44, 45, 46, 47, 48, 49, 50, 51, 52, 53, 54, 55, 56, 57, 58, 59, 60, 61, 62, 63, 64, 65, 66, 67, 141, 142, 143, 144, 145, 146, 147, 148, 149, 150, 151, 152] (by decide +kernel) (by decide +kernel)
set_option maxRecDepth 20000 in
theorem gX0_read_X7_start : GoodIn wsX0_read (wsV RX0 40 RX7 yX7_start wsX7_start) := goodIn_app (goodIn_of _ (by decide +kernel)) ggX0_read_X7_start
set_option maxRecDepth 20000 in
theorem ggX0_read_X7_isEnd : GoodIn wsX0_read wsX7_isEnd := goodIn_r _ [71, 35, 141, 142, 143, 144, 145, 146, 147, 148, 149, 150] (by decide +kernel) (by decide +kernel)
set_option maxRecDepth 20000 in
theorem gX0_read_X7_isEnd : GoodIn wsX0_read (wsV RX0 46 RX7 yX7_isEnd wsX7_isEnd) := goodIn_app (goodIn_of _ (by decide +kernel)) ggX0_read_X7_isEnd
set_option maxRecDepth 20000 in
theorem ggX0_live_X4_openOnes : GoodIn wsX0_live wsX4_openOnes := goodIn_r _ [114, 50, 51, 52, 115, 116, 117, 22, 118, 119, 120, 121, 122, 53, 123, 124, 125, 126, 33, 34, 35, 36, 32, 37, 24, 94, 95, 96, 97, 98, 127, 128, 129, 130, 72, 131, 132, 133, 134, 103, 104, 105, 67, 54, 55, 56, 57, 107, 108, 109, 110, 106, 143, 144, 145, 146, 147, 148, 149, 150, 151, 152, 153, 154, 155, 156, 157, 158, 159, 160, 161, 162, 163, 164] (by decide +kernel) (by decide +kernel)
set_option maxRecDepth 20000 in
theorem gX0_live_X4_openOnes : GoodIn wsX0_live (wsV RX0 119 RX4 yX4_openOnes wsX4_openOnes) := goodIn_app (goodIn_of _ (by decide +kernel)) ggX0_live_X4_openOnes
set_option maxRecDepth 20000 in
theorem ggX5_read_X5_clear : GoodIn wsX5_read wsX5_clear := goodIn_r _ [9, 10, 11, 196, 197, 198, 199, 200, 201, 202, 203, 204, 205] (by decide +kernel) (by decide +kernel)
set_option maxRecDepth 20000 in
theorem gX5_read_X5_clear : GoodIn wsX5_read (wsV RX5 37 RX5 yX5_clear wsX5_clear) := goodIn_app (goodIn_of _ (by decide +kernel)) ggX5_read_X5_clear
set_option maxRecDepth 20000 in
theorem ggX5_read_X7_start : GoodIn wsX5_read wsX7_start := goodIn_r _ [16, 17, 18, 19, 20, 21, 22, 23, 15, 24, 25, 26, 27, 28, 29, 30, 31, 32, 33, 34, 35, 36, 37, 38, 39, 40, 41, 42, 43, 44, 45, 46, 47, 48, 49, 50, 51, 52, 53, 54, 55, 56, 57, 58, 59, 60, 61, 62, 63, 64, 65, 66, 67, 68, 69, 70, 71, 72, 73, 74, 75, 76, 77, 206, 207, 208, 209, 210, 211, 212, 213, 214, 215, 216, 217] (by decide +kernel) (by decide +kernel)
set_option maxRecDepth 20000 in
theorem gX5_read_X7_start : GoodIn wsX5_read (wsV RX5 50 RX7 yX7_start wsX7_start) := goodIn_app (goodIn_of _ (by decide +kernel)) ggX5_read_X7_start
set_option maxRecDepth 20000 in
theorem ggX5_read_X5_isWhole : GoodIn wsX5_read wsX5_isWhole := goodIn_r _ [81, 3, 2, 196, 197, 198, 199, 200, 201, 202, 203, 204, 205] (by decide +kernel) (by decide +kernel)
set_option maxRecDepth 20000 in
theorem gX5_read_X5_isWhole : GoodIn wsX5_read (wsV RX5 56 RX5 yX5_isWhole wsX5_isWhole) := goodIn_app (goodIn_of _ (by decide +kernel)) ggX5_read_X5_isWhole
set_option maxRecDepth 20000 in
theorem ggX5_read_X5_readOne : GoodIn wsX5_read wsX5_readOne := goodIn_r _ [102, 11, 2, 103, 3, 104, 105, 106, 15, 107, 45, 29, 108, 109, 110, 111, 28, 112, 113, 114, 63, 115, 116, 117, 118, 119, 120, 121, 122, 123, 124, 125, 126, 127, 128, 129, 130, 131, 132, 19, 50, 20, 133, 22, 23, 24, 18, 25, 26, 27, 30, 17, 31, 32, 33, 34, 35, 36, 37, 38, 39, 40, 41, 42, 43, 44, 46, 47, 48, 49, 51, 52, 53, 54, 55, 56, 57, 58, 59, 60, 61, 62, 64, 65, 66, 67, 68, 69, 70, 71, 72, 73, 74, 75, 76, 77, 134, 135, 136, 8, 137, 1, 90, 138, 139, 140, 141, 142, 143, 144, 145, 146, 147, 148, 149, 150, 151, 152, 153, 154, 155, 156, 21, 92, 93, 94, 95, 10, 96, 97, 98, 157, 158, 159, 160, 161, 162, 163, 164, 165, 166, 167, 168, 169, 170, 171, 172, 173, 174, 175, 176, 177, 178, 179, 180, 181, 182, 183, 184, 185, 186, 187, 196, 197, 198, 199, 200, 201, 202, 203, 204, 205, 206, 207, 208, 209, 210, 211, 212, 213, 214, 215, 216, 217, 218, 219, 220, 221, 222, 223, 224, 225, 226, 227, 228, 229, 230, 231] (by decide +kernel) (by decide +kernel)
set_option maxRecDepth 20000 in
theorem gX5_read_X5_readOne : GoodIn wsX5_read (wsV RX5 71 RX5 yX5_readOne wsX5_readOne) := goodIn_app (goodIn_of _ (by decide +kernel)) ggX5_read_X5_readOne
set_option maxRecDepth 20000 in
theorem ggX5_readOne_X7_isSign : GoodIn wsX5_readOne wsX7_isSign := goodIn_r _ [9, 10, 11, 172, 173, 174, 175, 176, 177, 178, 179, 180, 181] (by decide +kernel) (by decide +kernel)
set_option maxRecDepth 20000 in
theorem gX5_readOne_X7_isSign : GoodIn wsX5_readOne (wsV RX5 79 RX7 yX7_isSign wsX7_isSign) := goodIn_app (goodIn_of _ (by decide +kernel)) ggX5_readOne_X7_isSign
set_option maxRecDepth 20000 in
theorem ggX5_readOne_X7_wordHere : GoodIn wsX5_readOne wsX7_wordHere := goodIn_r _ [15, 16, 172, 173, 174, 175, 176, 177, 178, 179, 180, 181] (by decide +kernel) (by decide +kernel)
set_option maxRecDepth 20000 in
theorem gX5_readOne_X7_wordHere : GoodIn wsX5_readOne (wsV RX5 83 RX7 yX7_wordHere wsX7_wordHere) := goodIn_app (goodIn_of _ (by decide +kernel)) ggX5_readOne_X7_wordHere
set_option maxRecDepth 20000 in
theorem ggX5_readOne_X9_beginsOne : GoodIn wsX5_readOne wsX9_beginsOne := goodIn_r _ [21, 22, 23, 24, 25, 26, 27, 28, 29, 30, 20, 31, 32, 33, 34] (by decide +kernel) (by decide +kernel)
set_option maxRecDepth 20000 in
theorem gX5_readOne_X9_beginsOne : GoodIn wsX5_readOne (wsV RX5 87 RX9 yX9_beginsOne wsX9_beginsOne) := goodIn_app (goodIn_of _ (by decide +kernel)) ggX5_readOne_X9_beginsOne
set_option maxRecDepth 20000 in
theorem ggX5_readOne_X7_fails : GoodIn wsX5_readOne wsX7_fails := goodIn_r _ [38, 39, 40, 41, 172, 173, 174, 175, 176, 177, 178, 179, 180, 181] (by decide +kernel) (by decide +kernel)
set_option maxRecDepth 20000 in
theorem gX5_readOne_X7_fails : GoodIn wsX5_readOne (wsV RX5 90 RX7 yX7_fails wsX7_fails) := goodIn_app (goodIn_of _ (by decide +kernel)) ggX5_readOne_X7_fails
set_option maxRecDepth 20000 in
theorem ggX8_read_X8_clear : GoodIn wsX8_read wsX8_clear := goodIn_r _ [6, 7, 8, 9, 10, 11, 12, 1, 178, 179, 180, 181, 182, 183, 184, 185, 186, 187, 188, 189, 190, 191] (by decide +kernel) (by decide +kernel)
set_option maxRecDepth 20000 in
theorem gX8_read_X8_clear : GoodIn wsX8_read (wsV RX8 69 RX8 yX8_clear wsX8_clear) := goodIn_app (goodIn_of _ (by decide +kernel)) ggX8_read_X8_clear
set_option maxRecDepth 20000 in
theorem ggX8_read_X7_start : GoodIn wsX8_read wsX7_start := goodIn_r _ [17, 18, 19, 20, 21, 22, 23, 24, 16, 25, 26, 27, 28, 29, 30, 31, 32, 33, 34, 35, 36, 37, 38, 39, 40, 41, 42, 43, 44, 45, 46, 47, 48, 49, 50, 51, 52, 53, 54, 55, 56, 57, 58, 59, 60, 61, 62, 63, 64, 65, 66, 67, 68, 69, 70, 71, 72, 73, 74, 75, 76, 77, 78, 192, 193, 194, 195, 196, 197, 198, 199, 200, 201, 202, 203] (by decide +kernel) (by decide +kernel)
set_option maxRecDepth 20000 in
theorem gX8_read_X7_start : GoodIn wsX8_read (wsV RX8 72 RX7 yX7_start wsX7_start) := goodIn_app (goodIn_of _ (by decide +kernel)) ggX8_read_X7_start
set_option maxRecDepth 20000 in
theorem ggX8_read_X7_isEnd : GoodIn wsX8_read wsX7_isEnd := goodIn_r _ [82, 46, 192, 193, 194, 195, 196, 197, 198, 199, 200, 201] (by decide +kernel) (by decide +kernel)
set_option maxRecDepth 20000 in
theorem gX8_read_X7_isEnd : GoodIn wsX8_read (wsV RX8 77 RX7 yX7_isEnd wsX7_isEnd) := goodIn_app (goodIn_of _ (by decide +kernel)) ggX8_read_X7_isEnd
set_option maxHeartbeats 8000000 in
set_option maxRecDepth 100000 in
theorem k_X8_clear (l : Launch) (D : va_G) (ad : Nat → Nat) (a : Nat → Nat)  : z_Mv l yX8_clear wsX8_clear { frames := 0, cells := 0, slots := 0, locals := 0 } D ad [.ref (a 41)] [(a 41, .inr (8, [.ref (a 80), .ref (a 81), .ref (a 82), .int 0, .ref (a 83), .ref (a 84), .ref (a 85), .int 0, .ref (a 86), .ref (a 87), .ref (a 88), .int 2])), (a 80, .inr (2, [.ref (a 99), .int 0])), (a 81, .inr (2, [.ref (a 100), .int 0])), (a 82, .inr (2, [.ref (a 101), .int 0]))] [] 0 0 (fun u9 => u9 = ([(a 41, .inr (8, [.ref (a 80), .ref (a 81), .ref (a 82), .int 0, .ref (a 83), .ref (a 84), .ref (a 85), .int 0, .ref (a 86), .ref (a 87), .ref (a 88), .int 0])), (a 80, .inr (2, [.ref (a 99), .int 0])), (a 81, .inr (2, [.ref (a 100), .int 0])), (a 82, .inr (2, [.ref (a 101), .int 0]))], [])) := by
  refine z_ofV (cc := cX8_clear) (maxL := 1) (by decide) rfl (Nat.le_of_ble_eq_true rfl) ?_
  intro p e s m below meth c Q A ls hx hb hml hown hts hin hK hP hD hA hE hO hS hl hret
  have hown : s.vm.findClass RX8 = some m.cls := hown
  have hiX8 : ∀ w ∈ wsX80, w ∈ wsX8_clear := fun _ h9 => List.mem_cons_of_mem _ (List.mem_append_left _ (List.mem_append_right _ h9))
  have hiX2 : ∀ w ∈ wsX20, w ∈ wsX8_clear := fun _ h9 => List.mem_cons_of_mem _ (List.mem_append_right _ h9)
  have hl : lv_has ls 1 [(0, .ref (a 41))] := hl
  refine lv_aload_n hx hb dX8_clear_0 rfl (lv_at hl 0 rfl) ?_
  refine va_get (D := D) (ci := 8) (v := .ref (a 80)) (C := RX8) (T := TX8) (N := 12) hx hb hts hiX8 hown hK hP 0 rfl rfl 0 (by decide) (hts _ (List.mem_of_getElem? (i := 1) rfl)) (fun _ h9 => h9) rfl dX8_clear_1 ?_
  refine lv_iconst (v := 0) hx hb dX8_clear_4 (by decide) ?_
  refine va_put (D := D) (ci := 2) (v := .int 0) (ty := tyX2 1) (C := RX2) (T := TX2) (N := 2) hx hb hts hiX2 tyX2 tyX2_ok nmX2 hown hK hP hD hS 1 rfl rfl 1 (by decide) (hts _ (List.mem_of_getElem? (i := 2) rfl)) (fun _ h9 => h9) rfl (tyX2_ok 1 (by decide)) rfl rfl (Nat.le_of_ble_eq_true rfl) dX8_clear_5 (fun H locs hP hD hS => ?_)
  have hP : va_P D vwCl [(a 41, .inr (8, [.ref (a 80), .ref (a 81), .ref (a 82), .int 0, .ref (a 83), .ref (a 84), .ref (a 85), .int 0, .ref (a 86), .ref (a 87), .ref (a 88), .int 2])), (a 80, .inr (2, [.ref (a 99), .int 0])), (a 81, .inr (2, [.ref (a 100), .int 0])), (a 82, .inr (2, [.ref (a 101), .int 0]))] H := hP
  have hD : va_D A [(a 41, .inr (8, [.ref (a 80), .ref (a 81), .ref (a 82), .int 0, .ref (a 83), .ref (a 84), .ref (a 85), .int 0, .ref (a 86), .ref (a 87), .ref (a 88), .int 2])), (a 80, .inr (2, [.ref (a 99), .int 0])), (a 81, .inr (2, [.ref (a 100), .int 0])), (a 82, .inr (2, [.ref (a 101), .int 0]))] := hD
  refine lv_aload_n hx hb dX8_clear_8 rfl (lv_at hl 0 rfl) ?_
  refine va_get (D := D) (ci := 8) (v := .ref (a 81)) (C := RX8) (T := TX8) (N := 12) hx hb hts hiX8 hown hK hP 0 rfl rfl 1 (by decide) (hts _ (List.mem_of_getElem? (i := 3) rfl)) (fun _ h9 => h9) rfl dX8_clear_9 ?_
  refine lv_iconst (v := 0) hx hb dX8_clear_12 (by decide) ?_
  refine va_put (D := D) (ci := 2) (v := .int 0) (ty := tyX2 1) (C := RX2) (T := TX2) (N := 2) hx hb hts hiX2 tyX2 tyX2_ok nmX2 hown hK hP hD hS 2 rfl rfl 1 (by decide) (hts _ (List.mem_of_getElem? (i := 2) rfl)) (fun _ h9 => h9) rfl (tyX2_ok 1 (by decide)) rfl rfl (Nat.le_of_ble_eq_true rfl) dX8_clear_13 (fun H locs hP hD hS => ?_)
  have hP : va_P D vwCl [(a 41, .inr (8, [.ref (a 80), .ref (a 81), .ref (a 82), .int 0, .ref (a 83), .ref (a 84), .ref (a 85), .int 0, .ref (a 86), .ref (a 87), .ref (a 88), .int 2])), (a 80, .inr (2, [.ref (a 99), .int 0])), (a 81, .inr (2, [.ref (a 100), .int 0])), (a 82, .inr (2, [.ref (a 101), .int 0]))] H := hP
  have hD : va_D A [(a 41, .inr (8, [.ref (a 80), .ref (a 81), .ref (a 82), .int 0, .ref (a 83), .ref (a 84), .ref (a 85), .int 0, .ref (a 86), .ref (a 87), .ref (a 88), .int 2])), (a 80, .inr (2, [.ref (a 99), .int 0])), (a 81, .inr (2, [.ref (a 100), .int 0])), (a 82, .inr (2, [.ref (a 101), .int 0]))] := hD
  refine lv_aload_n hx hb dX8_clear_16 rfl (lv_at hl 0 rfl) ?_
  refine va_get (D := D) (ci := 8) (v := .ref (a 82)) (C := RX8) (T := TX8) (N := 12) hx hb hts hiX8 hown hK hP 0 rfl rfl 2 (by decide) (hts _ (List.mem_of_getElem? (i := 4) rfl)) (fun _ h9 => h9) rfl dX8_clear_17 ?_
  refine lv_iconst (v := 0) hx hb dX8_clear_20 (by decide) ?_
  refine va_put (D := D) (ci := 2) (v := .int 0) (ty := tyX2 1) (C := RX2) (T := TX2) (N := 2) hx hb hts hiX2 tyX2 tyX2_ok nmX2 hown hK hP hD hS 3 rfl rfl 1 (by decide) (hts _ (List.mem_of_getElem? (i := 2) rfl)) (fun _ h9 => h9) rfl (tyX2_ok 1 (by decide)) rfl rfl (Nat.le_of_ble_eq_true rfl) dX8_clear_21 (fun H locs hP hD hS => ?_)
  have hP : va_P D vwCl [(a 41, .inr (8, [.ref (a 80), .ref (a 81), .ref (a 82), .int 0, .ref (a 83), .ref (a 84), .ref (a 85), .int 0, .ref (a 86), .ref (a 87), .ref (a 88), .int 2])), (a 80, .inr (2, [.ref (a 99), .int 0])), (a 81, .inr (2, [.ref (a 100), .int 0])), (a 82, .inr (2, [.ref (a 101), .int 0]))] H := hP
  have hD : va_D A [(a 41, .inr (8, [.ref (a 80), .ref (a 81), .ref (a 82), .int 0, .ref (a 83), .ref (a 84), .ref (a 85), .int 0, .ref (a 86), .ref (a 87), .ref (a 88), .int 2])), (a 80, .inr (2, [.ref (a 99), .int 0])), (a 81, .inr (2, [.ref (a 100), .int 0])), (a 82, .inr (2, [.ref (a 101), .int 0]))] := hD
  refine lv_aload_n hx hb dX8_clear_24 rfl (lv_at hl 0 rfl) ?_
  refine lv_iconst (v := 0) hx hb dX8_clear_25 (by decide) ?_
  refine va_put (D := D) (ci := 8) (v := .int 0) (ty := tyX8 3) (C := RX8) (T := TX8) (N := 12) hx hb hts hiX8 tyX8 tyX8_ok nmX8 hown hK hP hD hS 0 rfl rfl 3 (by decide) (hts _ (List.mem_of_getElem? (i := 5) rfl)) (fun _ h9 => h9) rfl (tyX8_ok 3 (by decide)) rfl rfl (Nat.le_of_ble_eq_true rfl) dX8_clear_26 (fun H locs hP hD hS => ?_)
  have hP : va_P D vwCl [(a 41, .inr (8, [.ref (a 80), .ref (a 81), .ref (a 82), .int 0, .ref (a 83), .ref (a 84), .ref (a 85), .int 0, .ref (a 86), .ref (a 87), .ref (a 88), .int 2])), (a 80, .inr (2, [.ref (a 99), .int 0])), (a 81, .inr (2, [.ref (a 100), .int 0])), (a 82, .inr (2, [.ref (a 101), .int 0]))] H := hP
  have hD : va_D A [(a 41, .inr (8, [.ref (a 80), .ref (a 81), .ref (a 82), .int 0, .ref (a 83), .ref (a 84), .ref (a 85), .int 0, .ref (a 86), .ref (a 87), .ref (a 88), .int 2])), (a 80, .inr (2, [.ref (a 99), .int 0])), (a 81, .inr (2, [.ref (a 100), .int 0])), (a 82, .inr (2, [.ref (a 101), .int 0]))] := hD
  refine lv_aload_n hx hb dX8_clear_29 rfl (lv_at hl 0 rfl) ?_
  refine lv_iconst (v := 0) hx hb dX8_clear_30 (by decide) ?_
  refine va_put (D := D) (ci := 8) (v := .int 0) (ty := tyX8 7) (C := RX8) (T := TX8) (N := 12) hx hb hts hiX8 tyX8 tyX8_ok nmX8 hown hK hP hD hS 0 rfl rfl 7 (by decide) (hts _ (List.mem_of_getElem? (i := 6) rfl)) (fun _ h9 => h9) rfl (tyX8_ok 7 (by decide)) rfl rfl (Nat.le_of_ble_eq_true rfl) dX8_clear_31 (fun H locs hP hD hS => ?_)
  have hP : va_P D vwCl [(a 41, .inr (8, [.ref (a 80), .ref (a 81), .ref (a 82), .int 0, .ref (a 83), .ref (a 84), .ref (a 85), .int 0, .ref (a 86), .ref (a 87), .ref (a 88), .int 2])), (a 80, .inr (2, [.ref (a 99), .int 0])), (a 81, .inr (2, [.ref (a 100), .int 0])), (a 82, .inr (2, [.ref (a 101), .int 0]))] H := hP
  have hD : va_D A [(a 41, .inr (8, [.ref (a 80), .ref (a 81), .ref (a 82), .int 0, .ref (a 83), .ref (a 84), .ref (a 85), .int 0, .ref (a 86), .ref (a 87), .ref (a 88), .int 2])), (a 80, .inr (2, [.ref (a 99), .int 0])), (a 81, .inr (2, [.ref (a 100), .int 0])), (a 82, .inr (2, [.ref (a 101), .int 0]))] := hD
  refine lv_aload_n hx hb dX8_clear_34 rfl (lv_at hl 0 rfl) ?_
  refine lv_iconst (v := 0) hx hb dX8_clear_35 (by decide) ?_
  refine va_put (D := D) (ci := 8) (v := .int 0) (ty := tyX8 11) (C := RX8) (T := TX8) (N := 12) hx hb hts hiX8 tyX8 tyX8_ok nmX8 hown hK hP hD hS 0 rfl rfl 11 (by decide) (hts _ (List.mem_of_getElem? (i := 7) rfl)) (fun _ h9 => h9) rfl (tyX8_ok 11 (by decide)) rfl rfl (Nat.le_of_ble_eq_true rfl) dX8_clear_36 (fun H locs hP hD hS => ?_)
  have hP : va_P D vwCl [(a 41, .inr (8, [.ref (a 80), .ref (a 81), .ref (a 82), .int 0, .ref (a 83), .ref (a 84), .ref (a 85), .int 0, .ref (a 86), .ref (a 87), .ref (a 88), .int 0])), (a 80, .inr (2, [.ref (a 99), .int 0])), (a 81, .inr (2, [.ref (a 100), .int 0])), (a 82, .inr (2, [.ref (a 101), .int 0]))] H := hP
  have hD : va_D A [(a 41, .inr (8, [.ref (a 80), .ref (a 81), .ref (a 82), .int 0, .ref (a 83), .ref (a 84), .ref (a 85), .int 0, .ref (a 86), .ref (a 87), .ref (a 88), .int 0])), (a 80, .inr (2, [.ref (a 99), .int 0])), (a 81, .inr (2, [.ref (a 100), .int 0])), (a 82, .inr (2, [.ref (a 101), .int 0]))] := hD
  refine W.widen (k := 0) (n := 0) (by decide) (by decide) ?_
  exact hret ([(a 41, .inr (8, [.ref (a 80), .ref (a 81), .ref (a 82), .int 0, .ref (a 83), .ref (a 84), .ref (a 85), .int 0, .ref (a 86), .ref (a 87), .ref (a 88), .int 0])), (a 80, .inr (2, [.ref (a 99), .int 0])), (a 81, .inr (2, [.ref (a 100), .int 0])), (a 82, .inr (2, [.ref (a 101), .int 0]))], []) _ _ _ _ dX8_clear_39 rfl (hP.sub [0, 1, 2, 3] rfl) (hK.sub [] rfl) (hD.sub [0, 1, 2, 3] (by decide +kernel) rfl) hS

set_option maxHeartbeats 8000000 in
set_option maxRecDepth 100000 in
theorem k_X8_read (l : Launch) (D : va_G) (ad : Nat → Nat) (a : Nat → Nat)  : z_Mi l yX8_read wsX8_read { frames := 4, cells := 0, slots := 0, locals := 83 } D ad [.ref (a 41), .ref (a 5)] [(a 4, .inr (6, [.ref (a 26), .int 0])), (a 5, .inr (7, [.ref (a 4), .int 0, .int 0, .int 0, .int 0, .int 0, .long 0, .ref (ad 0), .int 0, .int 0])), (a 41, .inr (8, [.ref (a 80), .ref (a 81), .ref (a 82), .int 0, .ref (a 83), .ref (a 84), .ref (a 85), .int 0, .ref (a 86), .ref (a 87), .ref (a 88), .int 2])), (a 80, .inr (2, [.ref (a 99), .int 0])), (a 81, .inr (2, [.ref (a 100), .int 0])), (a 82, .inr (2, [.ref (a 101), .int 0]))] [] 0 0 (fun r9 u9 => r9 = 0 ∧ u9 = ([(a 41, .inr (8, [.ref (a 80), .ref (a 81), .ref (a 82), .int 0, .ref (a 83), .ref (a 84), .ref (a 85), .int 0, .ref (a 86), .ref (a 87), .ref (a 88), .int 2])), (a 80, .inr (2, [.ref (a 99), .int 0])), (a 81, .inr (2, [.ref (a 100), .int 0])), (a 82, .inr (2, [.ref (a 101), .int 0])), (a 4, .inr (6, [.ref (a 26), .int 0])), (a 5, .inr (7, [.ref (a 4), .int 900, .int 0, .int 0, .int 0, .int 0, .long 0, .ref (ad 0), .int 0, .int 0]))], [])) := by
  refine z_ofI (cc := cX8_read) (maxL := 3) (rt := .int) (by decide) rfl (Nat.le_of_ble_eq_true rfl) ?_
  intro p e s m below meth c Q A ls hx hb hml hown hts hin hK hP hD hA hE hO hS hl hret
  have hown : s.vm.findClass RX8 = some m.cls := hown
  have hiX8 : ∀ w ∈ wsX80, w ∈ wsX8_read := fun _ h9 => List.mem_cons_of_mem _ (List.mem_append_left _ (List.mem_append_left _ (List.mem_append_left _ (List.mem_append_right _ h9))))
  have hiX2 : ∀ w ∈ wsX20, w ∈ wsX8_read := fun _ h9 => List.mem_cons_of_mem _ (List.mem_append_left _ (List.mem_append_left _ (List.mem_append_right _ h9)))
  have hiX7 : ∀ w ∈ wsX70, w ∈ wsX8_read := fun _ h9 => List.mem_cons_of_mem _ (List.mem_append_left _ (List.mem_append_right _ h9))
  have hiX6 : ∀ w ∈ wsX60, w ∈ wsX8_read := fun _ h9 => List.mem_cons_of_mem _ (List.mem_append_right _ h9)
  have hl : lv_has ls 3 [(0, .ref (a 41)), (1, .ref (a 5))] := hl
  refine lv_aload_n hx hb dX8_read_0 rfl (lv_at hl 0 rfl) ?_
  have hc9 := (k_X8_clear l D ad a )
  refine z_callv (w0 := [(a 41, .inr (8, [.ref (a 80), .ref (a 81), .ref (a 82), .int 0, .ref (a 83), .ref (a 84), .ref (a 85), .int 0, .ref (a 86), .ref (a 87), .ref (a 88), .int 2])), (a 80, .inr (2, [.ref (a 99), .int 0])), (a 81, .inr (2, [.ref (a 100), .int 0])), (a 82, .inr (2, [.ref (a 101), .int 0]))]) (wr := [(a 4, .inr (6, [.ref (a 26), .int 0])), (a 5, .inr (7, [.ref (a 4), .int 0, .int 0, .int 0, .int 0, .int 0, .long 0, .ref (ad 0), .int 0, .int 0]))]) (va_runV (As := []) (rest := []) ⟨hx, hb, hml, hown, hts⟩ (hc9 _) (cwV 0 hts gX8_read_X8_clear rfl rfl rfl (by decide +kernel) ⟨Nat.le_of_ble_eq_true rfl, Nat.le_of_ble_eq_true rfl⟩) (z_preV hP hD hK hS hA hE hO [2, 3, 4, 5] [] rfl (by decide +kernel) rfl 2 8 rfl rfl rfl) rfl rfl hl.1 rfl (lv_room (Nat.le_of_ble_eq_true rfl)) dX8_read_1 ⟨Nat.le_of_ble_eq_true rfl, Nat.le_of_ble_eq_true rfl⟩) hP hD hK hS hA [2, 3, 4, 5] [0, 1] rfl rfl (by decide +kernel) (by decide +kernel) (fun u9 H locs hw hP hD hK hS => ?_)
  obtain ⟨rfl⟩ := hw
  have hP : va_P D vwCl [(a 4, .inr (6, [.ref (a 26), .int 0])), (a 5, .inr (7, [.ref (a 4), .int 0, .int 0, .int 0, .int 0, .int 0, .long 0, .ref (ad 0), .int 0, .int 0])), (a 41, .inr (8, [.ref (a 80), .ref (a 81), .ref (a 82), .int 0, .ref (a 83), .ref (a 84), .ref (a 85), .int 0, .ref (a 86), .ref (a 87), .ref (a 88), .int 0])), (a 80, .inr (2, [.ref (a 99), .int 0])), (a 81, .inr (2, [.ref (a 100), .int 0])), (a 82, .inr (2, [.ref (a 101), .int 0]))] H := hP
  have hD : va_D A [(a 4, .inr (6, [.ref (a 26), .int 0])), (a 5, .inr (7, [.ref (a 4), .int 0, .int 0, .int 0, .int 0, .int 0, .long 0, .ref (ad 0), .int 0, .int 0])), (a 41, .inr (8, [.ref (a 80), .ref (a 81), .ref (a 82), .int 0, .ref (a 83), .ref (a 84), .ref (a 85), .int 0, .ref (a 86), .ref (a 87), .ref (a 88), .int 0])), (a 80, .inr (2, [.ref (a 99), .int 0])), (a 81, .inr (2, [.ref (a 100), .int 0])), (a 82, .inr (2, [.ref (a 101), .int 0]))] := hD
  have hK : va_K D vwCl [] s := hK
  refine W.cs (cells' := 0) (slots' := 0) rfl rfl ?_
  refine lv_aload_n hx hb dX8_read_4 rfl (lv_at hl 1 rfl) ?_
  refine lv_sipush (v := 900) hx hb dX8_read_5 (by decide) ?_
  have hc9 := (k_X7_start900 l D ad a )
  refine z_callv (w0 := [(a 4, .inr (6, [.ref (a 26), .int 0])), (a 5, .inr (7, [.ref (a 4), .int 0, .int 0, .int 0, .int 0, .int 0, .long 0, .ref (ad 0), .int 0, .int 0]))]) (wr := [(a 41, .inr (8, [.ref (a 80), .ref (a 81), .ref (a 82), .int 0, .ref (a 83), .ref (a 84), .ref (a 85), .int 0, .ref (a 86), .ref (a 87), .ref (a 88), .int 0])), (a 80, .inr (2, [.ref (a 99), .int 0])), (a 81, .inr (2, [.ref (a 100), .int 0])), (a 82, .inr (2, [.ref (a 101), .int 0]))]) (va_runV (As := [.int 900]) (rest := []) ⟨hx, hb, hml, hown, hts⟩ (hc9 _) (cwV 1 hts gX8_read_X7_start rfl rfl rfl (by decide +kernel) ⟨Nat.le_of_ble_eq_true rfl, Nat.le_of_ble_eq_true rfl⟩) (z_preV hP hD hK hS hA hE hO [0, 1] [] rfl (by decide +kernel) rfl 1 7 rfl rfl rfl) rfl rfl hl.1 rfl (lv_room (Nat.le_of_ble_eq_true rfl)) dX8_read_8 ⟨Nat.le_of_ble_eq_true rfl, Nat.le_of_ble_eq_true rfl⟩) hP hD hK hS hA [0, 1] [2, 3, 4, 5] rfl rfl (by decide +kernel) (by decide +kernel) (fun u9 H locs hw hP hD hK hS => ?_)
  obtain ⟨rfl⟩ := hw
  have hP : va_P D vwCl [(a 41, .inr (8, [.ref (a 80), .ref (a 81), .ref (a 82), .int 0, .ref (a 83), .ref (a 84), .ref (a 85), .int 0, .ref (a 86), .ref (a 87), .ref (a 88), .int 0])), (a 80, .inr (2, [.ref (a 99), .int 0])), (a 81, .inr (2, [.ref (a 100), .int 0])), (a 82, .inr (2, [.ref (a 101), .int 0])), (a 4, .inr (6, [.ref (a 26), .int 0])), (a 5, .inr (7, [.ref (a 4), .int 900, .int 0, .int 0, .int 0, .int 0, .long 0, .ref (ad 0), .int 0, .int 0]))] H := hP
  have hD : va_D A [(a 41, .inr (8, [.ref (a 80), .ref (a 81), .ref (a 82), .int 0, .ref (a 83), .ref (a 84), .ref (a 85), .int 0, .ref (a 86), .ref (a 87), .ref (a 88), .int 0])), (a 80, .inr (2, [.ref (a 99), .int 0])), (a 81, .inr (2, [.ref (a 100), .int 0])), (a 82, .inr (2, [.ref (a 101), .int 0])), (a 4, .inr (6, [.ref (a 26), .int 0])), (a 5, .inr (7, [.ref (a 4), .int 900, .int 0, .int 0, .int 0, .int 0, .long 0, .ref (ad 0), .int 0, .int 0]))] := hD
  have hK : va_K D vwCl [] s := hK
  refine W.cs (cells' := 0) (slots' := 0) rfl rfl ?_
  refine lv_iconst (v := 0) hx hb dX8_read_11 (by decide) ?_
  refine lv_istore_n (lv' := [(2, .int 0), (0, .ref (a 41)), (1, .ref (a 5))]) hx hb dX8_read_12 rfl hl (by decide) rfl (fun ls hl => ?_)
  refine lv_iload_n hx hb dX8_read_13 rfl (lv_at hl 0 rfl) ?_
  refine lv_sipush (v := 900) hx hb dX8_read_14 (by decide) ?_
  refine lv_icmp_gt (tgt := 73) hx hb dX8_read_17 (by decide) (fun h9 => absurd h9 (by decide)) (fun _ => ?_)
  refine lv_aload_n hx hb dX8_read_20 rfl (lv_at hl 2 rfl) ?_
  have hc9 := (k_X7_isEnd l D ad a 900 )
  refine z_calli (w0 := [(a 5, .inr (7, [.ref (a 4), .int 900, .int 0, .int 0, .int 0, .int 0, .long 0, .ref (ad 0), .int 0, .int 0]))]) (wr := [(a 41, .inr (8, [.ref (a 80), .ref (a 81), .ref (a 82), .int 0, .ref (a 83), .ref (a 84), .ref (a 85), .int 0, .ref (a 86), .ref (a 87), .ref (a 88), .int 0])), (a 80, .inr (2, [.ref (a 99), .int 0])), (a 81, .inr (2, [.ref (a 100), .int 0])), (a 82, .inr (2, [.ref (a 101), .int 0])), (a 4, .inr (6, [.ref (a 26), .int 0]))]) (va_runV (As := []) (rest := []) ⟨hx, hb, hml, hown, hts⟩ (hc9 _) (cwV 0 hts gX8_read_X7_isEnd rfl rfl rfl (by decide +kernel) ⟨Nat.le_of_ble_eq_true rfl, Nat.le_of_ble_eq_true rfl⟩) (z_preV hP hD hK hS hA hE hO [5] [] rfl (by decide +kernel) rfl 5 7 rfl rfl rfl) rfl rfl hl.1 rfl (lv_room (Nat.le_of_ble_eq_true rfl)) dX8_read_21 ⟨Nat.le_of_ble_eq_true rfl, Nat.le_of_ble_eq_true rfl⟩) hP hD hK hS hA [5] [0, 1, 2, 3, 4] rfl rfl (by decide +kernel) (by decide +kernel) (fun r9 u9 H locs hw hP hD hK hS => ?_)
  obtain ⟨er9, rfl⟩ := hw
  have hP : va_P D vwCl [(a 41, .inr (8, [.ref (a 80), .ref (a 81), .ref (a 82), .int 0, .ref (a 83), .ref (a 84), .ref (a 85), .int 0, .ref (a 86), .ref (a 87), .ref (a 88), .int 0])), (a 80, .inr (2, [.ref (a 99), .int 0])), (a 81, .inr (2, [.ref (a 100), .int 0])), (a 82, .inr (2, [.ref (a 101), .int 0])), (a 4, .inr (6, [.ref (a 26), .int 0])), (a 5, .inr (7, [.ref (a 4), .int 900, .int 0, .int 0, .int 0, .int 0, .long 0, .ref (ad 0), .int 0, .int 0]))] H := hP
  have hD : va_D A [(a 41, .inr (8, [.ref (a 80), .ref (a 81), .ref (a 82), .int 0, .ref (a 83), .ref (a 84), .ref (a 85), .int 0, .ref (a 86), .ref (a 87), .ref (a 88), .int 0])), (a 80, .inr (2, [.ref (a 99), .int 0])), (a 81, .inr (2, [.ref (a 100), .int 0])), (a 82, .inr (2, [.ref (a 101), .int 0])), (a 4, .inr (6, [.ref (a 26), .int 0])), (a 5, .inr (7, [.ref (a 4), .int 900, .int 0, .int 0, .int 0, .int 0, .long 0, .ref (ad 0), .int 0, .int 0]))] := hD
  have hK : va_K D vwCl [] s := hK
  refine W.cs (cells' := 0) (slots' := 0) rfl rfl ?_
  obtain rfl := er9
  refine W.eq (g2 := F0 m 24 ls (.int 1 :: [])) rfl ?_
  refine lv_if_eq (tgt := 48) hx hb dX8_read_24 (by decide) (fun h9 => absurd h9 (by decide)) (fun _ => ?_)
  refine lv_aload_n hx hb dX8_read_27 rfl (lv_at hl 1 rfl) ?_
  refine lv_aload_n hx hb dX8_read_28 rfl (lv_at hl 1 rfl) ?_
  refine va_get (D := D) (ci := 8) (v := .int 0) (C := RX8) (T := TX8) (N := 12) hx hb hts hiX8 hown hK hP 0 rfl rfl 11 (by decide) (hts _ (List.mem_of_getElem? (i := 1) rfl)) (fun _ h9 => h9) rfl dX8_read_29 ?_
  refine lv_if_ne (tgt := 39) hx hb dX8_read_32 (by decide) (fun h9 => absurd (by decide) h9) (fun _ => ?_)
  refine lv_iconst (v := 2) hx hb dX8_read_35 (by decide) ?_
  refine lv_goto (tgt := 43) hx hb dX8_read_36 (by decide) ?_
  refine va_put (D := D) (ci := 8) (v := .int 2) (ty := tyX8 11) (C := RX8) (T := TX8) (N := 12) hx hb hts hiX8 tyX8 tyX8_ok nmX8 hown hK hP hD hS 0 rfl rfl 11 (by decide) (hts _ (List.mem_of_getElem? (i := 1) rfl)) (fun _ h9 => h9) rfl (tyX8_ok 11 (by decide)) rfl rfl (Nat.le_of_ble_eq_true rfl) dX8_read_43 (fun H locs hP hD hS => ?_)
  have hP : va_P D vwCl [(a 41, .inr (8, [.ref (a 80), .ref (a 81), .ref (a 82), .int 0, .ref (a 83), .ref (a 84), .ref (a 85), .int 0, .ref (a 86), .ref (a 87), .ref (a 88), .int 2])), (a 80, .inr (2, [.ref (a 99), .int 0])), (a 81, .inr (2, [.ref (a 100), .int 0])), (a 82, .inr (2, [.ref (a 101), .int 0])), (a 4, .inr (6, [.ref (a 26), .int 0])), (a 5, .inr (7, [.ref (a 4), .int 900, .int 0, .int 0, .int 0, .int 0, .long 0, .ref (ad 0), .int 0, .int 0]))] H := hP
  have hD : va_D A [(a 41, .inr (8, [.ref (a 80), .ref (a 81), .ref (a 82), .int 0, .ref (a 83), .ref (a 84), .ref (a 85), .int 0, .ref (a 86), .ref (a 87), .ref (a 88), .int 2])), (a 80, .inr (2, [.ref (a 99), .int 0])), (a 81, .inr (2, [.ref (a 100), .int 0])), (a 82, .inr (2, [.ref (a 101), .int 0])), (a 4, .inr (6, [.ref (a 26), .int 0])), (a 5, .inr (7, [.ref (a 4), .int 900, .int 0, .int 0, .int 0, .int 0, .long 0, .ref (ad 0), .int 0, .int 0]))] := hD
  refine lv_iload_n hx hb dX8_read_46 rfl (lv_at hl 0 rfl) ?_
  refine W.widen (k := 0) (n := 0) (by decide) (by decide) ?_
  exact hret 0 ([(a 41, .inr (8, [.ref (a 80), .ref (a 81), .ref (a 82), .int 0, .ref (a 83), .ref (a 84), .ref (a 85), .int 0, .ref (a 86), .ref (a 87), .ref (a 88), .int 2])), (a 80, .inr (2, [.ref (a 99), .int 0])), (a 81, .inr (2, [.ref (a 100), .int 0])), (a 82, .inr (2, [.ref (a 101), .int 0])), (a 4, .inr (6, [.ref (a 26), .int 0])), (a 5, .inr (7, [.ref (a 4), .int 900, .int 0, .int 0, .int 0, .int 0, .long 0, .ref (ad 0), .int 0, .int 0]))], []) _ _ _ _ dX8_read_47 rfl ⟨rfl, rfl⟩ (hP.sub [0, 1, 2, 3, 4, 5] rfl) (hK.sub [] rfl) (hD.sub [0, 1, 2, 3, 4, 5] (by decide +kernel) rfl) hS

set_option maxHeartbeats 8000000 in
set_option maxRecDepth 100000 in
theorem k_X4_begin (l : Launch) (D : va_G) (ad : Nat → Nat) (a : Nat → Nat)  : z_Mv l yX4_begin wsX4_begin { frames := 0, cells := 0, slots := 0, locals := 0 } D ad [.ref (a 42)] [(a 41, .inr (8, [.ref (a 80), .ref (a 81), .ref (a 82), .int 0, .ref (a 83), .ref (a 84), .ref (a 85), .int 0, .ref (a 86), .ref (a 87), .ref (a 88), .int 2])), (a 42, .inr (4, [.ref (a 41), .int 0, .int 0, .int 0, .ref (a 89), .ref (a 90), .ref (a 91), .ref (a 92)])), (a 81, .inr (2, [.ref (a 100), .int 0])), (a 82, .inr (2, [.ref (a 101), .int 0]))] [] 0 0 (fun u9 => u9 = ([(a 41, .inr (8, [.ref (a 80), .ref (a 81), .ref (a 82), .int 0, .ref (a 83), .ref (a 84), .ref (a 85), .int 0, .ref (a 86), .ref (a 87), .ref (a 88), .int 2])), (a 42, .inr (4, [.ref (a 41), .int 0, .int 0, .int 0, .ref (a 89), .ref (a 90), .ref (a 91), .ref (a 92)])), (a 81, .inr (2, [.ref (a 100), .int 0])), (a 82, .inr (2, [.ref (a 101), .int 0]))], [])) := by
  refine z_ofV (cc := cX4_begin) (maxL := 2) (by decide) rfl (Nat.le_of_ble_eq_true rfl) ?_
  intro p e s m below meth c Q A ls hx hb hml hown hts hin hK hP hD hA hE hO hS hl hret
  have hown : s.vm.findClass RX4 = some m.cls := hown
  have hiX4 : ∀ w ∈ wsX40, w ∈ wsX4_begin := fun _ h9 => List.mem_cons_of_mem _ (List.mem_append_left _ (List.mem_append_left _ (List.mem_append_right _ h9)))
  have hiX8 : ∀ w ∈ wsX80, w ∈ wsX4_begin := fun _ h9 => List.mem_cons_of_mem _ (List.mem_append_left _ (List.mem_append_right _ h9))
  have hiX2 : ∀ w ∈ wsX20, w ∈ wsX4_begin := fun _ h9 => List.mem_cons_of_mem _ (List.mem_append_right _ h9)
  have hl : lv_has ls 2 [(0, .ref (a 42))] := hl
  refine lv_aload_n hx hb dX4_begin_0 rfl (lv_at hl 0 rfl) ?_
  refine lv_iconst (v := 0) hx hb dX4_begin_1 (by decide) ?_
  refine va_put (D := D) (ci := 4) (v := .int 0) (ty := tyX4 1) (C := RX4) (T := TX4) (N := 8) hx hb hts hiX4 tyX4 tyX4_ok nmX4 hown hK hP hD hS 1 rfl rfl 1 (by decide) (hts _ (List.mem_of_getElem? (i := 1) rfl)) (fun _ h9 => h9) rfl (tyX4_ok 1 (by decide)) rfl rfl (Nat.le_of_ble_eq_true rfl) dX4_begin_2 (fun H locs hP hD hS => ?_)
  have hP : va_P D vwCl [(a 41, .inr (8, [.ref (a 80), .ref (a 81), .ref (a 82), .int 0, .ref (a 83), .ref (a 84), .ref (a 85), .int 0, .ref (a 86), .ref (a 87), .ref (a 88), .int 2])), (a 42, .inr (4, [.ref (a 41), .int 0, .int 0, .int 0, .ref (a 89), .ref (a 90), .ref (a 91), .ref (a 92)])), (a 81, .inr (2, [.ref (a 100), .int 0])), (a 82, .inr (2, [.ref (a 101), .int 0]))] H := hP
  have hD : va_D A [(a 41, .inr (8, [.ref (a 80), .ref (a 81), .ref (a 82), .int 0, .ref (a 83), .ref (a 84), .ref (a 85), .int 0, .ref (a 86), .ref (a 87), .ref (a 88), .int 2])), (a 42, .inr (4, [.ref (a 41), .int 0, .int 0, .int 0, .ref (a 89), .ref (a 90), .ref (a 91), .ref (a 92)])), (a 81, .inr (2, [.ref (a 100), .int 0])), (a 82, .inr (2, [.ref (a 101), .int 0]))] := hD
  refine lv_aload_n hx hb dX4_begin_5 rfl (lv_at hl 0 rfl) ?_
  refine lv_iconst (v := 0) hx hb dX4_begin_6 (by decide) ?_
  refine va_put (D := D) (ci := 4) (v := .int 0) (ty := tyX4 2) (C := RX4) (T := TX4) (N := 8) hx hb hts hiX4 tyX4 tyX4_ok nmX4 hown hK hP hD hS 1 rfl rfl 2 (by decide) (hts _ (List.mem_of_getElem? (i := 2) rfl)) (fun _ h9 => h9) rfl (tyX4_ok 2 (by decide)) rfl rfl (Nat.le_of_ble_eq_true rfl) dX4_begin_7 (fun H locs hP hD hS => ?_)
  have hP : va_P D vwCl [(a 41, .inr (8, [.ref (a 80), .ref (a 81), .ref (a 82), .int 0, .ref (a 83), .ref (a 84), .ref (a 85), .int 0, .ref (a 86), .ref (a 87), .ref (a 88), .int 2])), (a 42, .inr (4, [.ref (a 41), .int 0, .int 0, .int 0, .ref (a 89), .ref (a 90), .ref (a 91), .ref (a 92)])), (a 81, .inr (2, [.ref (a 100), .int 0])), (a 82, .inr (2, [.ref (a 101), .int 0]))] H := hP
  have hD : va_D A [(a 41, .inr (8, [.ref (a 80), .ref (a 81), .ref (a 82), .int 0, .ref (a 83), .ref (a 84), .ref (a 85), .int 0, .ref (a 86), .ref (a 87), .ref (a 88), .int 2])), (a 42, .inr (4, [.ref (a 41), .int 0, .int 0, .int 0, .ref (a 89), .ref (a 90), .ref (a 91), .ref (a 92)])), (a 81, .inr (2, [.ref (a 100), .int 0])), (a 82, .inr (2, [.ref (a 101), .int 0]))] := hD
  refine lv_aload_n hx hb dX4_begin_10 rfl (lv_at hl 0 rfl) ?_
  refine lv_iconst (v := 0) hx hb dX4_begin_11 (by decide) ?_
  refine va_put (D := D) (ci := 4) (v := .int 0) (ty := tyX4 3) (C := RX4) (T := TX4) (N := 8) hx hb hts hiX4 tyX4 tyX4_ok nmX4 hown hK hP hD hS 1 rfl rfl 3 (by decide) (hts _ (List.mem_of_getElem? (i := 3) rfl)) (fun _ h9 => h9) rfl (tyX4_ok 3 (by decide)) rfl rfl (Nat.le_of_ble_eq_true rfl) dX4_begin_12 (fun H locs hP hD hS => ?_)
  have hP : va_P D vwCl [(a 41, .inr (8, [.ref (a 80), .ref (a 81), .ref (a 82), .int 0, .ref (a 83), .ref (a 84), .ref (a 85), .int 0, .ref (a 86), .ref (a 87), .ref (a 88), .int 2])), (a 42, .inr (4, [.ref (a 41), .int 0, .int 0, .int 0, .ref (a 89), .ref (a 90), .ref (a 91), .ref (a 92)])), (a 81, .inr (2, [.ref (a 100), .int 0])), (a 82, .inr (2, [.ref (a 101), .int 0]))] H := hP
  have hD : va_D A [(a 41, .inr (8, [.ref (a 80), .ref (a 81), .ref (a 82), .int 0, .ref (a 83), .ref (a 84), .ref (a 85), .int 0, .ref (a 86), .ref (a 87), .ref (a 88), .int 2])), (a 42, .inr (4, [.ref (a 41), .int 0, .int 0, .int 0, .ref (a 89), .ref (a 90), .ref (a 91), .ref (a 92)])), (a 81, .inr (2, [.ref (a 100), .int 0])), (a 82, .inr (2, [.ref (a 101), .int 0]))] := hD
  refine lv_iconst (v := 0) hx hb dX4_begin_15 (by decide) ?_
  refine lv_istore_n (lv' := [(1, .int 0), (0, .ref (a 42))]) hx hb dX4_begin_16 rfl hl (by decide) rfl (fun ls hl => ?_)
  refine lv_iload_n hx hb dX4_begin_17 rfl (lv_at hl 0 rfl) ?_
  refine lv_aload_n hx hb dX4_begin_18 rfl (lv_at hl 1 rfl) ?_
  refine va_get (D := D) (ci := 4) (v := .ref (a 41)) (C := RX4) (T := TX4) (N := 8) hx hb hts hiX4 hown hK hP 1 rfl rfl 0 (by decide) (hts _ (List.mem_of_getElem? (i := 4) rfl)) (fun _ h9 => h9) rfl dX4_begin_19 ?_
  refine va_get (D := D) (ci := 8) (v := .ref (a 81)) (C := RX8) (T := TX8) (N := 12) hx hb hts hiX8 hown hK hP 0 rfl rfl 1 (by decide) (hts _ (List.mem_of_getElem? (i := 5) rfl)) (fun _ h9 => h9) rfl dX4_begin_22 ?_
  refine va_get (D := D) (ci := 2) (v := .int 0) (C := RX2) (T := TX2) (N := 2) hx hb hts hiX2 hown hK hP 2 rfl rfl 1 (by decide) (hts _ (List.mem_of_getElem? (i := 6) rfl)) (fun _ h9 => h9) rfl dX4_begin_25 ?_
  refine lv_icmp_ge (tgt := 52) hx hb dX4_begin_28 (by decide) (fun _ => ?_) (fun h9 => absurd (by decide) h9)
  refine lv_iconst (v := 0) hx hb dX4_begin_52 (by decide) ?_
  refine lv_istore_n (lv' := [(1, .int 0), (0, .ref (a 42))]) hx hb dX4_begin_53 rfl hl (by decide) rfl (fun ls hl => ?_)
  refine lv_iload_n hx hb dX4_begin_54 rfl (lv_at hl 0 rfl) ?_
  refine lv_aload_n hx hb dX4_begin_55 rfl (lv_at hl 1 rfl) ?_
  refine va_get (D := D) (ci := 4) (v := .ref (a 41)) (C := RX4) (T := TX4) (N := 8) hx hb hts hiX4 hown hK hP 1 rfl rfl 0 (by decide) (hts _ (List.mem_of_getElem? (i := 4) rfl)) (fun _ h9 => h9) rfl dX4_begin_56 ?_
  refine va_get (D := D) (ci := 8) (v := .ref (a 82)) (C := RX8) (T := TX8) (N := 12) hx hb hts hiX8 hown hK hP 0 rfl rfl 2 (by decide) (hts _ (List.mem_of_getElem? (i := 9) rfl)) (fun _ h9 => h9) rfl dX4_begin_59 ?_
  refine va_get (D := D) (ci := 2) (v := .int 0) (C := RX2) (T := TX2) (N := 2) hx hb hts hiX2 hown hK hP 3 rfl rfl 1 (by decide) (hts _ (List.mem_of_getElem? (i := 6) rfl)) (fun _ h9 => h9) rfl dX4_begin_62 ?_
  refine lv_icmp_ge (tgt := 111) hx hb dX4_begin_65 (by decide) (fun _ => ?_) (fun h9 => absurd (by decide) h9)
  refine W.widen (k := 0) (n := 0) (by decide) (by decide) ?_
  exact hret ([(a 41, .inr (8, [.ref (a 80), .ref (a 81), .ref (a 82), .int 0, .ref (a 83), .ref (a 84), .ref (a 85), .int 0, .ref (a 86), .ref (a 87), .ref (a 88), .int 2])), (a 42, .inr (4, [.ref (a 41), .int 0, .int 0, .int 0, .ref (a 89), .ref (a 90), .ref (a 91), .ref (a 92)])), (a 81, .inr (2, [.ref (a 100), .int 0])), (a 82, .inr (2, [.ref (a 101), .int 0]))], []) _ _ _ _ dX4_begin_111 rfl (hP.sub [0, 1, 2, 3] rfl) (hK.sub [] rfl) (hD.sub [0, 1, 2, 3] (by decide +kernel) rfl) hS

set_option maxHeartbeats 8000000 in
set_option maxRecDepth 100000 in
theorem k_X5_clear (l : Launch) (D : va_G) (ad : Nat → Nat) (a : Nat → Nat)  : z_Mv l yX5_clear wsX5_clear { frames := 0, cells := 0, slots := 0, locals := 0 } D ad [.ref (a 43)] [(a 43, .inr (5, [.ref (a 132), .ref (a 133), .ref (a 134), .ref (a 135), .ref (a 136), .int 0, .int 0, .int 0, .int 0, .int 0]))] [] 0 0 (fun u9 => u9 = ([(a 43, .inr (5, [.ref (a 132), .ref (a 133), .ref (a 134), .ref (a 135), .ref (a 136), .int 0, .int 0, .int 0, .int 0, .int 0]))], [])) := by
  refine z_ofV (cc := cX5_clear) (maxL := 1) (by decide) rfl (Nat.le_of_ble_eq_true rfl) ?_
  intro p e s m below meth c Q A ls hx hb hml hown hts hin hK hP hD hA hE hO hS hl hret
  have hown : s.vm.findClass RX5 = some m.cls := hown
  have hiX5 : ∀ w ∈ wsX50, w ∈ wsX5_clear := fun _ h9 => List.mem_cons_of_mem _ (List.mem_append_right _ h9)
  have hl : lv_has ls 1 [(0, .ref (a 43))] := hl
  refine lv_aload_n hx hb dX5_clear_0 rfl (lv_at hl 0 rfl) ?_
  refine lv_iconst (v := 0) hx hb dX5_clear_1 (by decide) ?_
  refine va_put (D := D) (ci := 5) (v := .int 0) (ty := tyX5 8) (C := RX5) (T := TX5) (N := 10) hx hb hts hiX5 tyX5 tyX5_ok nmX5 hown hK hP hD hS 0 rfl rfl 8 (by decide) (hts _ (List.mem_of_getElem? (i := 1) rfl)) (fun _ h9 => h9) rfl (tyX5_ok 8 (by decide)) rfl rfl (Nat.le_of_ble_eq_true rfl) dX5_clear_2 (fun H locs hP hD hS => ?_)
  have hP : va_P D vwCl [(a 43, .inr (5, [.ref (a 132), .ref (a 133), .ref (a 134), .ref (a 135), .ref (a 136), .int 0, .int 0, .int 0, .int 0, .int 0]))] H := hP
  have hD : va_D A [(a 43, .inr (5, [.ref (a 132), .ref (a 133), .ref (a 134), .ref (a 135), .ref (a 136), .int 0, .int 0, .int 0, .int 0, .int 0]))] := hD
  refine lv_aload_n hx hb dX5_clear_5 rfl (lv_at hl 0 rfl) ?_
  refine lv_iconst (v := 0) hx hb dX5_clear_6 (by decide) ?_
  refine va_put (D := D) (ci := 5) (v := .int 0) (ty := tyX5 9) (C := RX5) (T := TX5) (N := 10) hx hb hts hiX5 tyX5 tyX5_ok nmX5 hown hK hP hD hS 0 rfl rfl 9 (by decide) (hts _ (List.mem_of_getElem? (i := 2) rfl)) (fun _ h9 => h9) rfl (tyX5_ok 9 (by decide)) rfl rfl (Nat.le_of_ble_eq_true rfl) dX5_clear_7 (fun H locs hP hD hS => ?_)
  have hP : va_P D vwCl [(a 43, .inr (5, [.ref (a 132), .ref (a 133), .ref (a 134), .ref (a 135), .ref (a 136), .int 0, .int 0, .int 0, .int 0, .int 0]))] H := hP
  have hD : va_D A [(a 43, .inr (5, [.ref (a 132), .ref (a 133), .ref (a 134), .ref (a 135), .ref (a 136), .int 0, .int 0, .int 0, .int 0, .int 0]))] := hD
  refine W.widen (k := 0) (n := 0) (by decide) (by decide) ?_
  exact hret ([(a 43, .inr (5, [.ref (a 132), .ref (a 133), .ref (a 134), .ref (a 135), .ref (a 136), .int 0, .int 0, .int 0, .int 0, .int 0]))], []) _ _ _ _ dX5_clear_10 rfl (hP.sub [0] rfl) (hK.sub [] rfl) (hD.sub [0] (by decide +kernel) rfl) hS

set_option maxHeartbeats 8000000 in
set_option maxRecDepth 100000 in
theorem k_X4_openOnes (l : Launch) (D : va_G) (ad : Nat → Nat) (a : Nat → Nat)  : z_Mi l yX4_openOnes wsX4_openOnes { frames := 0, cells := 0, slots := 0, locals := 0 } D ad [.ref (a 8)] [(a 7, .inr (8, [.ref (a 28), .ref (a 29), .ref (a 30), .int 0, .ref (a 31), .ref (a 32), .ref (a 33), .int 0, .ref (a 34), .ref (a 35), .ref (a 36), .int 2])), (a 8, .inr (4, [.ref (a 7), .int 0, .int 0, .int 0, .ref (a 37), .ref (a 38), .ref (a 39), .ref (a 40)])), (a 30, .inr (2, [.ref (a 79), .int 0]))] [] 0 0 (fun r9 u9 => r9 = 0 ∧ u9 = ([(a 7, .inr (8, [.ref (a 28), .ref (a 29), .ref (a 30), .int 0, .ref (a 31), .ref (a 32), .ref (a 33), .int 0, .ref (a 34), .ref (a 35), .ref (a 36), .int 2])), (a 8, .inr (4, [.ref (a 7), .int 0, .int 0, .int 0, .ref (a 37), .ref (a 38), .ref (a 39), .ref (a 40)])), (a 30, .inr (2, [.ref (a 79), .int 0]))], [])) := by
  refine z_ofI (cc := cX4_openOnes) (maxL := 3) (rt := .int) (by decide) rfl (Nat.le_of_ble_eq_true rfl) ?_
  intro p e s m below meth c Q A ls hx hb hml hown hts hin hK hP hD hA hE hO hS hl hret
  have hown : s.vm.findClass RX4 = some m.cls := hown
  have hiX4 : ∀ w ∈ wsX40, w ∈ wsX4_openOnes := fun _ h9 => List.mem_cons_of_mem _ (List.mem_append_left _ (List.mem_append_left _ (List.mem_append_right _ h9)))
  have hiX8 : ∀ w ∈ wsX80, w ∈ wsX4_openOnes := fun _ h9 => List.mem_cons_of_mem _ (List.mem_append_left _ (List.mem_append_right _ h9))
  have hiX2 : ∀ w ∈ wsX20, w ∈ wsX4_openOnes := fun _ h9 => List.mem_cons_of_mem _ (List.mem_append_right _ h9)
  have hl : lv_has ls 3 [(0, .ref (a 8))] := hl
  refine lv_iconst (v := 0) hx hb dX4_openOnes_0 (by decide) ?_
  refine lv_istore_n (lv' := [(1, .int 0), (0, .ref (a 8))]) hx hb dX4_openOnes_1 rfl hl (by decide) rfl (fun ls hl => ?_)
  refine lv_iconst (v := 0) hx hb dX4_openOnes_2 (by decide) ?_
  refine lv_istore_n (lv' := [(2, .int 0), (1, .int 0), (0, .ref (a 8))]) hx hb dX4_openOnes_3 rfl hl (by decide) rfl (fun ls hl => ?_)
  refine lv_iload_n hx hb dX4_openOnes_4 rfl (lv_at hl 0 rfl) ?_
  refine lv_aload_n hx hb dX4_openOnes_5 rfl (lv_at hl 2 rfl) ?_
  refine va_get (D := D) (ci := 4) (v := .ref (a 7)) (C := RX4) (T := TX4) (N := 8) hx hb hts hiX4 hown hK hP 1 rfl rfl 0 (by decide) (hts _ (List.mem_of_getElem? (i := 1) rfl)) (fun _ h9 => h9) rfl dX4_openOnes_6 ?_
  refine va_get (D := D) (ci := 8) (v := .ref (a 30)) (C := RX8) (T := TX8) (N := 12) hx hb hts hiX8 hown hK hP 0 rfl rfl 2 (by decide) (hts _ (List.mem_of_getElem? (i := 2) rfl)) (fun _ h9 => h9) rfl dX4_openOnes_9 ?_
  refine va_get (D := D) (ci := 2) (v := .int 0) (C := RX2) (T := TX2) (N := 2) hx hb hts hiX2 hown hK hP 2 rfl rfl 1 (by decide) (hts _ (List.mem_of_getElem? (i := 3) rfl)) (fun _ h9 => h9) rfl dX4_openOnes_12 ?_
  refine lv_icmp_ge (tgt := 38) hx hb dX4_openOnes_15 (by decide) (fun _ => ?_) (fun h9 => absurd (by decide) h9)
  refine lv_iload_n hx hb dX4_openOnes_38 rfl (lv_at hl 1 rfl) ?_
  refine W.widen (k := 0) (n := 0) (by decide) (by decide) ?_
  exact hret 0 ([(a 7, .inr (8, [.ref (a 28), .ref (a 29), .ref (a 30), .int 0, .ref (a 31), .ref (a 32), .ref (a 33), .int 0, .ref (a 34), .ref (a 35), .ref (a 36), .int 2])), (a 8, .inr (4, [.ref (a 7), .int 0, .int 0, .int 0, .ref (a 37), .ref (a 38), .ref (a 39), .ref (a 40)])), (a 30, .inr (2, [.ref (a 79), .int 0]))], []) _ _ _ _ dX4_openOnes_39 rfl ⟨rfl, rfl⟩ (hP.sub [0, 1, 2] rfl) (hK.sub [] rfl) (hD.sub [0, 1, 2] (by decide +kernel) rfl) hS

set_option maxHeartbeats 8000000 in
set_option maxRecDepth 100000 in
theorem k_X4_openOnesT (l : Launch) (D : va_G) (ad : Nat → Nat) (a : Nat → Nat)  : z_Mi l yX4_openOnes wsX4_openOnes { frames := 0, cells := 0, slots := 0, locals := 0 } D ad [.ref (a 11)] [(a 7, .inr (8, [.ref (a 28), .ref (a 29), .ref (a 30), .int 0, .ref (a 31), .ref (a 32), .ref (a 33), .int 0, .ref (a 34), .ref (a 35), .ref (a 36), .int 2])), (a 11, .inr (4, [.ref (a 7), .int 0, .int 0, .int 0, .ref (a 44), .ref (a 45), .ref (a 46), .ref (a 47)])), (a 30, .inr (2, [.ref (a 79), .int 0]))] [] 0 0 (fun r9 u9 => r9 = 0 ∧ u9 = ([(a 7, .inr (8, [.ref (a 28), .ref (a 29), .ref (a 30), .int 0, .ref (a 31), .ref (a 32), .ref (a 33), .int 0, .ref (a 34), .ref (a 35), .ref (a 36), .int 2])), (a 11, .inr (4, [.ref (a 7), .int 0, .int 0, .int 0, .ref (a 44), .ref (a 45), .ref (a 46), .ref (a 47)])), (a 30, .inr (2, [.ref (a 79), .int 0]))], [])) := by
  refine z_ofI (cc := cX4_openOnes) (maxL := 3) (rt := .int) (by decide) rfl (Nat.le_of_ble_eq_true rfl) ?_
  intro p e s m below meth c Q A ls hx hb hml hown hts hin hK hP hD hA hE hO hS hl hret
  have hown : s.vm.findClass RX4 = some m.cls := hown
  have hiX4 : ∀ w ∈ wsX40, w ∈ wsX4_openOnes := fun _ h9 => List.mem_cons_of_mem _ (List.mem_append_left _ (List.mem_append_left _ (List.mem_append_right _ h9)))
  have hiX8 : ∀ w ∈ wsX80, w ∈ wsX4_openOnes := fun _ h9 => List.mem_cons_of_mem _ (List.mem_append_left _ (List.mem_append_right _ h9))
  have hiX2 : ∀ w ∈ wsX20, w ∈ wsX4_openOnes := fun _ h9 => List.mem_cons_of_mem _ (List.mem_append_right _ h9)
  have hl : lv_has ls 3 [(0, .ref (a 11))] := hl
  refine lv_iconst (v := 0) hx hb dX4_openOnes_0 (by decide) ?_
  refine lv_istore_n (lv' := [(1, .int 0), (0, .ref (a 11))]) hx hb dX4_openOnes_1 rfl hl (by decide) rfl (fun ls hl => ?_)
  refine lv_iconst (v := 0) hx hb dX4_openOnes_2 (by decide) ?_
  refine lv_istore_n (lv' := [(2, .int 0), (1, .int 0), (0, .ref (a 11))]) hx hb dX4_openOnes_3 rfl hl (by decide) rfl (fun ls hl => ?_)
  refine lv_iload_n hx hb dX4_openOnes_4 rfl (lv_at hl 0 rfl) ?_
  refine lv_aload_n hx hb dX4_openOnes_5 rfl (lv_at hl 2 rfl) ?_
  refine va_get (D := D) (ci := 4) (v := .ref (a 7)) (C := RX4) (T := TX4) (N := 8) hx hb hts hiX4 hown hK hP 1 rfl rfl 0 (by decide) (hts _ (List.mem_of_getElem? (i := 1) rfl)) (fun _ h9 => h9) rfl dX4_openOnes_6 ?_
  refine va_get (D := D) (ci := 8) (v := .ref (a 30)) (C := RX8) (T := TX8) (N := 12) hx hb hts hiX8 hown hK hP 0 rfl rfl 2 (by decide) (hts _ (List.mem_of_getElem? (i := 2) rfl)) (fun _ h9 => h9) rfl dX4_openOnes_9 ?_
  refine va_get (D := D) (ci := 2) (v := .int 0) (C := RX2) (T := TX2) (N := 2) hx hb hts hiX2 hown hK hP 2 rfl rfl 1 (by decide) (hts _ (List.mem_of_getElem? (i := 3) rfl)) (fun _ h9 => h9) rfl dX4_openOnes_12 ?_
  refine lv_icmp_ge (tgt := 38) hx hb dX4_openOnes_15 (by decide) (fun _ => ?_) (fun h9 => absurd (by decide) h9)
  refine lv_iload_n hx hb dX4_openOnes_38 rfl (lv_at hl 1 rfl) ?_
  refine W.widen (k := 0) (n := 0) (by decide) (by decide) ?_
  exact hret 0 ([(a 7, .inr (8, [.ref (a 28), .ref (a 29), .ref (a 30), .int 0, .ref (a 31), .ref (a 32), .ref (a 33), .int 0, .ref (a 34), .ref (a 35), .ref (a 36), .int 2])), (a 11, .inr (4, [.ref (a 7), .int 0, .int 0, .int 0, .ref (a 44), .ref (a 45), .ref (a 46), .ref (a 47)])), (a 30, .inr (2, [.ref (a 79), .int 0]))], []) _ _ _ _ dX4_openOnes_39 rfl ⟨rfl, rfl⟩ (hP.sub [0, 1, 2] rfl) (hK.sub [] rfl) (hD.sub [0, 1, 2] (by decide +kernel) rfl) hS

set_option maxHeartbeats 8000000 in
set_option maxRecDepth 100000 in
theorem k_X0_read (l : Launch) (D : va_G) (ad : Nat → Nat) (a : Nat → Nat)  : z_Mi l yX0_read wsX0_read { frames := 4, cells := 0, slots := 0, locals := 83 } D ad [.ref (a 14), .ref (a 5), .ref (a 7)] [(a 4, .inr (6, [.ref (a 26), .int 0])), (a 5, .inr (7, [.ref (a 4), .int 0, .int 0, .int 0, .int 0, .int 0, .long 0, .ref (ad 0), .int 0, .int 0])), (a 14, .inr (0, [.ref (a 114), .ref (a 115), .ref (a 116), .int 0, .int (-1), .int (-1), .int (-1), .int (-1)]))] [] 0 0 (fun r9 u9 => r9 = 1 ∧ u9 = ([(a 14, .inr (0, [.ref (a 114), .ref (a 115), .ref (a 116), .int 0, .int (-1), .int (-1), .int (-1), .int (-1)])), (a 4, .inr (6, [.ref (a 26), .int 0])), (a 5, .inr (7, [.ref (a 4), .int 400, .int 0, .int 0, .int 0, .int 0, .long 0, .ref (ad 0), .int 0, .int 0]))], [])) := by
  refine z_ofI (cc := cX0_read) (maxL := 4) (rt := .boolean) (by decide) rfl (Nat.le_of_ble_eq_true rfl) ?_
  intro p e s m below meth c Q A ls hx hb hml hown hts hin hK hP hD hA hE hO hS hl hret
  have hown : s.vm.findClass RX0 = some m.cls := hown
  have hiX0 : ∀ w ∈ wsX00, w ∈ wsX0_read := fun _ h9 => List.mem_cons_of_mem _ (List.mem_append_left _ (List.mem_append_left _ (List.mem_append_left _ (List.mem_append_left _ (List.mem_append_right _ h9)))))
  have hiX7 : ∀ w ∈ wsX70, w ∈ wsX0_read := fun _ h9 => List.mem_cons_of_mem _ (List.mem_append_left _ (List.mem_append_left _ (List.mem_append_left _ (List.mem_append_right _ h9))))
  have hiX6 : ∀ w ∈ wsX60, w ∈ wsX0_read := fun _ h9 => List.mem_cons_of_mem _ (List.mem_append_left _ (List.mem_append_left _ (List.mem_append_right _ h9)))
  have hiX8 : ∀ w ∈ wsX80, w ∈ wsX0_read := fun _ h9 => List.mem_cons_of_mem _ (List.mem_append_left _ (List.mem_append_right _ h9))
  have hiX2 : ∀ w ∈ wsX20, w ∈ wsX0_read := fun _ h9 => List.mem_cons_of_mem _ (List.mem_append_right _ h9)
  have hl : lv_has ls 4 [(0, .ref (a 14)), (1, .ref (a 5)), (2, .ref (a 7))] := hl
  refine lv_aload_n hx hb dX0_read_0 rfl (lv_at hl 0 rfl) ?_
  refine lv_iconst (v := 0) hx hb dX0_read_1 (by decide) ?_
  refine va_put (D := D) (ci := 0) (v := .int 0) (ty := tyX0 3) (C := RX0) (T := TX0) (N := 8) hx hb hts hiX0 tyX0 tyX0_ok nmX0 hown hK hP hD hS 2 rfl rfl 3 (by decide) (hts _ (List.mem_of_getElem? (i := 1) rfl)) (fun _ h9 => h9) rfl (tyX0_ok 3 (by decide)) rfl rfl (Nat.le_of_ble_eq_true rfl) dX0_read_2 (fun H locs hP hD hS => ?_)
  have hP : va_P D vwCl [(a 4, .inr (6, [.ref (a 26), .int 0])), (a 5, .inr (7, [.ref (a 4), .int 0, .int 0, .int 0, .int 0, .int 0, .long 0, .ref (ad 0), .int 0, .int 0])), (a 14, .inr (0, [.ref (a 114), .ref (a 115), .ref (a 116), .int 0, .int (-1), .int (-1), .int (-1), .int (-1)]))] H := hP
  have hD : va_D A [(a 4, .inr (6, [.ref (a 26), .int 0])), (a 5, .inr (7, [.ref (a 4), .int 0, .int 0, .int 0, .int 0, .int 0, .long 0, .ref (ad 0), .int 0, .int 0])), (a 14, .inr (0, [.ref (a 114), .ref (a 115), .ref (a 116), .int 0, .int (-1), .int (-1), .int (-1), .int (-1)]))] := hD
  refine lv_aload_n hx hb dX0_read_5 rfl (lv_at hl 1 rfl) ?_
  refine lv_sipush (v := 400) hx hb dX0_read_6 (by decide) ?_
  have hc9 := (k_X7_start400 l D ad a )
  refine z_callv (w0 := [(a 4, .inr (6, [.ref (a 26), .int 0])), (a 5, .inr (7, [.ref (a 4), .int 0, .int 0, .int 0, .int 0, .int 0, .long 0, .ref (ad 0), .int 0, .int 0]))]) (wr := [(a 14, .inr (0, [.ref (a 114), .ref (a 115), .ref (a 116), .int 0, .int (-1), .int (-1), .int (-1), .int (-1)]))]) (va_runV (As := [.int 400]) (rest := []) ⟨hx, hb, hml, hown, hts⟩ (hc9 _) (cwV 1 hts gX0_read_X7_start rfl rfl rfl (by decide +kernel) ⟨Nat.le_of_ble_eq_true rfl, Nat.le_of_ble_eq_true rfl⟩) (z_preV hP hD hK hS hA hE hO [0, 1] [] rfl (by decide +kernel) rfl 1 7 rfl rfl rfl) rfl rfl hl.1 rfl (lv_room (Nat.le_of_ble_eq_true rfl)) dX0_read_9 ⟨Nat.le_of_ble_eq_true rfl, Nat.le_of_ble_eq_true rfl⟩) hP hD hK hS hA [0, 1] [2] rfl rfl (by decide +kernel) (by decide +kernel) (fun u9 H locs hw hP hD hK hS => ?_)
  obtain ⟨rfl⟩ := hw
  have hP : va_P D vwCl [(a 14, .inr (0, [.ref (a 114), .ref (a 115), .ref (a 116), .int 0, .int (-1), .int (-1), .int (-1), .int (-1)])), (a 4, .inr (6, [.ref (a 26), .int 0])), (a 5, .inr (7, [.ref (a 4), .int 400, .int 0, .int 0, .int 0, .int 0, .long 0, .ref (ad 0), .int 0, .int 0]))] H := hP
  have hD : va_D A [(a 14, .inr (0, [.ref (a 114), .ref (a 115), .ref (a 116), .int 0, .int (-1), .int (-1), .int (-1), .int (-1)])), (a 4, .inr (6, [.ref (a 26), .int 0])), (a 5, .inr (7, [.ref (a 4), .int 400, .int 0, .int 0, .int 0, .int 0, .long 0, .ref (ad 0), .int 0, .int 0]))] := hD
  have hK : va_K D vwCl [] s := hK
  refine W.cs (cells' := 0) (slots' := 0) rfl rfl ?_
  refine lv_iconst (v := 0) hx hb dX0_read_12 (by decide) ?_
  refine lv_istore_n (lv' := [(3, .int 0), (0, .ref (a 14)), (1, .ref (a 5)), (2, .ref (a 7))]) hx hb dX0_read_13 rfl hl (by decide) rfl (fun ls hl => ?_)
  refine lv_iload_n hx hb dX0_read_14 rfl (lv_at hl 0 rfl) ?_
  refine lv_bipush (v := 40) hx hb dX0_read_15 (by decide) ?_
  refine lv_icmp_gt (tgt := 55) hx hb dX0_read_17 (by decide) (fun h9 => absurd h9 (by decide)) (fun _ => ?_)
  refine lv_aload_n hx hb dX0_read_20 rfl (lv_at hl 2 rfl) ?_
  have hc9 := (k_X7_isEnd l D ad a 400 )
  refine z_calli (w0 := [(a 5, .inr (7, [.ref (a 4), .int 400, .int 0, .int 0, .int 0, .int 0, .long 0, .ref (ad 0), .int 0, .int 0]))]) (wr := [(a 14, .inr (0, [.ref (a 114), .ref (a 115), .ref (a 116), .int 0, .int (-1), .int (-1), .int (-1), .int (-1)])), (a 4, .inr (6, [.ref (a 26), .int 0]))]) (va_runV (As := []) (rest := []) ⟨hx, hb, hml, hown, hts⟩ (hc9 _) (cwV 0 hts gX0_read_X7_isEnd rfl rfl rfl (by decide +kernel) ⟨Nat.le_of_ble_eq_true rfl, Nat.le_of_ble_eq_true rfl⟩) (z_preV hP hD hK hS hA hE hO [2] [] rfl (by decide +kernel) rfl 2 7 rfl rfl rfl) rfl rfl hl.1 rfl (lv_room (Nat.le_of_ble_eq_true rfl)) dX0_read_21 ⟨Nat.le_of_ble_eq_true rfl, Nat.le_of_ble_eq_true rfl⟩) hP hD hK hS hA [2] [0, 1] rfl rfl (by decide +kernel) (by decide +kernel) (fun r9 u9 H locs hw hP hD hK hS => ?_)
  obtain ⟨er9, rfl⟩ := hw
  have hP : va_P D vwCl [(a 14, .inr (0, [.ref (a 114), .ref (a 115), .ref (a 116), .int 0, .int (-1), .int (-1), .int (-1), .int (-1)])), (a 4, .inr (6, [.ref (a 26), .int 0])), (a 5, .inr (7, [.ref (a 4), .int 400, .int 0, .int 0, .int 0, .int 0, .long 0, .ref (ad 0), .int 0, .int 0]))] H := hP
  have hD : va_D A [(a 14, .inr (0, [.ref (a 114), .ref (a 115), .ref (a 116), .int 0, .int (-1), .int (-1), .int (-1), .int (-1)])), (a 4, .inr (6, [.ref (a 26), .int 0])), (a 5, .inr (7, [.ref (a 4), .int 400, .int 0, .int 0, .int 0, .int 0, .long 0, .ref (ad 0), .int 0, .int 0]))] := hD
  have hK : va_K D vwCl [] s := hK
  refine W.cs (cells' := 0) (slots' := 0) rfl rfl ?_
  obtain rfl := er9
  refine W.eq (g2 := F0 m 24 ls (.int 1 :: [])) rfl ?_
  refine lv_if_eq (tgt := 29) hx hb dX0_read_24 (by decide) (fun h9 => absurd h9 (by decide)) (fun _ => ?_)
  refine lv_iconst (v := 1) hx hb dX0_read_27 (by decide) ?_
  refine W.widen (k := 0) (n := 0) (by decide) (by decide) ?_
  exact hret 1 ([(a 14, .inr (0, [.ref (a 114), .ref (a 115), .ref (a 116), .int 0, .int (-1), .int (-1), .int (-1), .int (-1)])), (a 4, .inr (6, [.ref (a 26), .int 0])), (a 5, .inr (7, [.ref (a 4), .int 400, .int 0, .int 0, .int 0, .int 0, .long 0, .ref (ad 0), .int 0, .int 0]))], []) _ _ _ _ dX0_read_28 (by decide) ⟨rfl, rfl⟩ (hP.sub [0, 1, 2] rfl) (hK.sub [] rfl) (hD.sub [0, 1, 2] (by decide +kernel) rfl) hS

set_option maxHeartbeats 8000000 in
set_option maxRecDepth 100000 in
theorem k_X0_live (l : Launch) (D : va_G) (ad : Nat → Nat) (a : Nat → Nat)  : z_Mi l yX0_live wsX0_live { frames := 1, cells := 0, slots := 0, locals := 22 } D ad [.ref (a 14), .ref (a 8)] [(a 7, .inr (8, [.ref (a 28), .ref (a 29), .ref (a 30), .int 0, .ref (a 31), .ref (a 32), .ref (a 33), .int 0, .ref (a 34), .ref (a 35), .ref (a 36), .int 2])), (a 8, .inr (4, [.ref (a 7), .int 0, .int 0, .int 0, .ref (a 37), .ref (a 38), .ref (a 39), .ref (a 40)])), (a 14, .inr (0, [.ref (a 114), .ref (a 115), .ref (a 116), .int 0, .int (-1), .int (-1), .int (-1), .int (-1)])), (a 30, .inr (2, [.ref (a 79), .int 0]))] [] 0 0 (fun r9 u9 => r9 = (-1) ∧ u9 = ([(a 14, .inr (0, [.ref (a 114), .ref (a 115), .ref (a 116), .int 0, .int 0, .int 0, .int 0, .int 0])), (a 7, .inr (8, [.ref (a 28), .ref (a 29), .ref (a 30), .int 0, .ref (a 31), .ref (a 32), .ref (a 33), .int 0, .ref (a 34), .ref (a 35), .ref (a 36), .int 2])), (a 8, .inr (4, [.ref (a 7), .int 0, .int 0, .int 0, .ref (a 37), .ref (a 38), .ref (a 39), .ref (a 40)])), (a 30, .inr (2, [.ref (a 79), .int 0]))], [])) := by
  refine z_ofI (cc := cX0_live) (maxL := 3) (rt := .int) (by decide) rfl (Nat.le_of_ble_eq_true rfl) ?_
  intro p e s m below meth c Q A ls hx hb hml hown hts hin hK hP hD hA hE hO hS hl hret
  have hown : s.vm.findClass RX0 = some m.cls := hown
  have hiX0 : ∀ w ∈ wsX00, w ∈ wsX0_live := fun _ h9 => List.mem_cons_of_mem _ (List.mem_append_left _ (List.mem_append_left _ (List.mem_append_left _ (List.mem_append_right _ h9))))
  have hiX4 : ∀ w ∈ wsX40, w ∈ wsX0_live := fun _ h9 => List.mem_cons_of_mem _ (List.mem_append_left _ (List.mem_append_left _ (List.mem_append_right _ h9)))
  have hiX8 : ∀ w ∈ wsX80, w ∈ wsX0_live := fun _ h9 => List.mem_cons_of_mem _ (List.mem_append_left _ (List.mem_append_right _ h9))
  have hiX2 : ∀ w ∈ wsX20, w ∈ wsX0_live := fun _ h9 => List.mem_cons_of_mem _ (List.mem_append_right _ h9)
  have hl : lv_has ls 3 [(0, .ref (a 14)), (1, .ref (a 8))] := hl
  refine lv_aload_n hx hb dX0_live_0 rfl (lv_at hl 0 rfl) ?_
  refine lv_iconst (v := 0) hx hb dX0_live_1 (by decide) ?_
  refine va_put (D := D) (ci := 0) (v := .int 0) (ty := tyX0 4) (C := RX0) (T := TX0) (N := 8) hx hb hts hiX0 tyX0 tyX0_ok nmX0 hown hK hP hD hS 2 rfl rfl 4 (by decide) (hts _ (List.mem_of_getElem? (i := 1) rfl)) (fun _ h9 => h9) rfl (tyX0_ok 4 (by decide)) rfl rfl (Nat.le_of_ble_eq_true rfl) dX0_live_2 (fun H locs hP hD hS => ?_)
  have hP : va_P D vwCl [(a 7, .inr (8, [.ref (a 28), .ref (a 29), .ref (a 30), .int 0, .ref (a 31), .ref (a 32), .ref (a 33), .int 0, .ref (a 34), .ref (a 35), .ref (a 36), .int 2])), (a 8, .inr (4, [.ref (a 7), .int 0, .int 0, .int 0, .ref (a 37), .ref (a 38), .ref (a 39), .ref (a 40)])), (a 14, .inr (0, [.ref (a 114), .ref (a 115), .ref (a 116), .int 0, .int 0, .int (-1), .int (-1), .int (-1)])), (a 30, .inr (2, [.ref (a 79), .int 0]))] H := hP
  have hD : va_D A [(a 7, .inr (8, [.ref (a 28), .ref (a 29), .ref (a 30), .int 0, .ref (a 31), .ref (a 32), .ref (a 33), .int 0, .ref (a 34), .ref (a 35), .ref (a 36), .int 2])), (a 8, .inr (4, [.ref (a 7), .int 0, .int 0, .int 0, .ref (a 37), .ref (a 38), .ref (a 39), .ref (a 40)])), (a 14, .inr (0, [.ref (a 114), .ref (a 115), .ref (a 116), .int 0, .int 0, .int (-1), .int (-1), .int (-1)])), (a 30, .inr (2, [.ref (a 79), .int 0]))] := hD
  refine lv_aload_n hx hb dX0_live_5 rfl (lv_at hl 0 rfl) ?_
  refine lv_iconst (v := 0) hx hb dX0_live_6 (by decide) ?_
  refine va_put (D := D) (ci := 0) (v := .int 0) (ty := tyX0 5) (C := RX0) (T := TX0) (N := 8) hx hb hts hiX0 tyX0 tyX0_ok nmX0 hown hK hP hD hS 2 rfl rfl 5 (by decide) (hts _ (List.mem_of_getElem? (i := 2) rfl)) (fun _ h9 => h9) rfl (tyX0_ok 5 (by decide)) rfl rfl (Nat.le_of_ble_eq_true rfl) dX0_live_7 (fun H locs hP hD hS => ?_)
  have hP : va_P D vwCl [(a 7, .inr (8, [.ref (a 28), .ref (a 29), .ref (a 30), .int 0, .ref (a 31), .ref (a 32), .ref (a 33), .int 0, .ref (a 34), .ref (a 35), .ref (a 36), .int 2])), (a 8, .inr (4, [.ref (a 7), .int 0, .int 0, .int 0, .ref (a 37), .ref (a 38), .ref (a 39), .ref (a 40)])), (a 14, .inr (0, [.ref (a 114), .ref (a 115), .ref (a 116), .int 0, .int 0, .int 0, .int (-1), .int (-1)])), (a 30, .inr (2, [.ref (a 79), .int 0]))] H := hP
  have hD : va_D A [(a 7, .inr (8, [.ref (a 28), .ref (a 29), .ref (a 30), .int 0, .ref (a 31), .ref (a 32), .ref (a 33), .int 0, .ref (a 34), .ref (a 35), .ref (a 36), .int 2])), (a 8, .inr (4, [.ref (a 7), .int 0, .int 0, .int 0, .ref (a 37), .ref (a 38), .ref (a 39), .ref (a 40)])), (a 14, .inr (0, [.ref (a 114), .ref (a 115), .ref (a 116), .int 0, .int 0, .int 0, .int (-1), .int (-1)])), (a 30, .inr (2, [.ref (a 79), .int 0]))] := hD
  refine lv_iconst (v := 0) hx hb dX0_live_10 (by decide) ?_
  refine lv_istore_n (lv' := [(2, .int 0), (0, .ref (a 14)), (1, .ref (a 8))]) hx hb dX0_live_11 rfl hl (by decide) rfl (fun ls hl => ?_)
  refine lv_iload_n hx hb dX0_live_12 rfl (lv_at hl 0 rfl) ?_
  refine lv_aload_n hx hb dX0_live_13 rfl (lv_at hl 1 rfl) ?_
  refine va_get (D := D) (ci := 0) (v := .int 0) (C := RX0) (T := TX0) (N := 8) hx hb hts hiX0 hown hK hP 2 rfl rfl 3 (by decide) (hts _ (List.mem_of_getElem? (i := 3) rfl)) (fun _ h9 => h9) rfl dX0_live_14 ?_
  refine lv_icmp_ge (tgt := 64) hx hb dX0_live_17 (by decide) (fun _ => ?_) (fun h9 => absurd (by decide) h9)
  refine lv_aload_n hx hb dX0_live_64 rfl (lv_at hl 1 rfl) ?_
  refine lv_aload_n hx hb dX0_live_65 rfl (lv_at hl 2 rfl) ?_
  refine va_get (D := D) (ci := 4) (v := .int 0) (C := RX4) (T := TX4) (N := 8) hx hb hts hiX4 hown hK hP 1 rfl rfl 1 (by decide) (hts _ (List.mem_of_getElem? (i := 4) rfl)) (fun _ h9 => h9) rfl dX0_live_66 ?_
  refine va_put (D := D) (ci := 0) (v := .int 0) (ty := tyX0 6) (C := RX0) (T := TX0) (N := 8) hx hb hts hiX0 tyX0 tyX0_ok nmX0 hown hK hP hD hS 2 rfl rfl 6 (by decide) (hts _ (List.mem_of_getElem? (i := 5) rfl)) (fun _ h9 => h9) rfl (tyX0_ok 6 (by decide)) rfl rfl (Nat.le_of_ble_eq_true rfl) dX0_live_69 (fun H locs hP hD hS => ?_)
  have hP : va_P D vwCl [(a 7, .inr (8, [.ref (a 28), .ref (a 29), .ref (a 30), .int 0, .ref (a 31), .ref (a 32), .ref (a 33), .int 0, .ref (a 34), .ref (a 35), .ref (a 36), .int 2])), (a 8, .inr (4, [.ref (a 7), .int 0, .int 0, .int 0, .ref (a 37), .ref (a 38), .ref (a 39), .ref (a 40)])), (a 14, .inr (0, [.ref (a 114), .ref (a 115), .ref (a 116), .int 0, .int 0, .int 0, .int 0, .int (-1)])), (a 30, .inr (2, [.ref (a 79), .int 0]))] H := hP
  have hD : va_D A [(a 7, .inr (8, [.ref (a 28), .ref (a 29), .ref (a 30), .int 0, .ref (a 31), .ref (a 32), .ref (a 33), .int 0, .ref (a 34), .ref (a 35), .ref (a 36), .int 2])), (a 8, .inr (4, [.ref (a 7), .int 0, .int 0, .int 0, .ref (a 37), .ref (a 38), .ref (a 39), .ref (a 40)])), (a 14, .inr (0, [.ref (a 114), .ref (a 115), .ref (a 116), .int 0, .int 0, .int 0, .int 0, .int (-1)])), (a 30, .inr (2, [.ref (a 79), .int 0]))] := hD
  refine lv_aload_n hx hb dX0_live_72 rfl (lv_at hl 1 rfl) ?_
  refine lv_aload_n hx hb dX0_live_73 rfl (lv_at hl 2 rfl) ?_
  have hc9 := (k_X4_openOnes l D ad a )
  refine z_calli (w0 := [(a 7, .inr (8, [.ref (a 28), .ref (a 29), .ref (a 30), .int 0, .ref (a 31), .ref (a 32), .ref (a 33), .int 0, .ref (a 34), .ref (a 35), .ref (a 36), .int 2])), (a 8, .inr (4, [.ref (a 7), .int 0, .int 0, .int 0, .ref (a 37), .ref (a 38), .ref (a 39), .ref (a 40)])), (a 30, .inr (2, [.ref (a 79), .int 0]))]) (wr := [(a 14, .inr (0, [.ref (a 114), .ref (a 115), .ref (a 116), .int 0, .int 0, .int 0, .int 0, .int (-1)]))]) (va_runV (As := []) (rest := [.ref (a 14)]) ⟨hx, hb, hml, hown, hts⟩ (hc9 _) (cwV 0 hts gX0_live_X4_openOnes rfl rfl rfl (by decide +kernel) ⟨Nat.le_of_ble_eq_true rfl, Nat.le_of_ble_eq_true rfl⟩) (z_preV hP hD hK hS hA hE hO [0, 1, 3] [] rfl (by decide +kernel) rfl 1 4 rfl rfl rfl) rfl rfl hl.1 rfl (lv_room (Nat.le_of_ble_eq_true rfl)) dX0_live_74 ⟨Nat.le_of_ble_eq_true rfl, Nat.le_of_ble_eq_true rfl⟩) hP hD hK hS hA [0, 1, 3] [2] rfl rfl (by decide +kernel) (by decide +kernel) (fun r9 u9 H locs hw hP hD hK hS => ?_)
  obtain ⟨er9, rfl⟩ := hw
  have hP : va_P D vwCl [(a 14, .inr (0, [.ref (a 114), .ref (a 115), .ref (a 116), .int 0, .int 0, .int 0, .int 0, .int (-1)])), (a 7, .inr (8, [.ref (a 28), .ref (a 29), .ref (a 30), .int 0, .ref (a 31), .ref (a 32), .ref (a 33), .int 0, .ref (a 34), .ref (a 35), .ref (a 36), .int 2])), (a 8, .inr (4, [.ref (a 7), .int 0, .int 0, .int 0, .ref (a 37), .ref (a 38), .ref (a 39), .ref (a 40)])), (a 30, .inr (2, [.ref (a 79), .int 0]))] H := hP
  have hD : va_D A [(a 14, .inr (0, [.ref (a 114), .ref (a 115), .ref (a 116), .int 0, .int 0, .int 0, .int 0, .int (-1)])), (a 7, .inr (8, [.ref (a 28), .ref (a 29), .ref (a 30), .int 0, .ref (a 31), .ref (a 32), .ref (a 33), .int 0, .ref (a 34), .ref (a 35), .ref (a 36), .int 2])), (a 8, .inr (4, [.ref (a 7), .int 0, .int 0, .int 0, .ref (a 37), .ref (a 38), .ref (a 39), .ref (a 40)])), (a 30, .inr (2, [.ref (a 79), .int 0]))] := hD
  have hK : va_K D vwCl [] s := hK
  refine W.cs (cells' := 0) (slots' := 0) rfl rfl ?_
  obtain rfl := er9
  refine W.eq (g2 := F0 m 77 ls (.int 0 :: [.ref (a 14)])) rfl ?_
  refine va_put (D := D) (ci := 0) (v := .int 0) (ty := tyX0 7) (C := RX0) (T := TX0) (N := 8) hx hb hts hiX0 tyX0 tyX0_ok nmX0 hown hK hP hD hS 0 rfl rfl 7 (by decide) (hts _ (List.mem_of_getElem? (i := 6) rfl)) (fun _ h9 => h9) rfl (tyX0_ok 7 (by decide)) rfl rfl (Nat.le_of_ble_eq_true rfl) dX0_live_77 (fun H locs hP hD hS => ?_)
  have hP : va_P D vwCl [(a 14, .inr (0, [.ref (a 114), .ref (a 115), .ref (a 116), .int 0, .int 0, .int 0, .int 0, .int 0])), (a 7, .inr (8, [.ref (a 28), .ref (a 29), .ref (a 30), .int 0, .ref (a 31), .ref (a 32), .ref (a 33), .int 0, .ref (a 34), .ref (a 35), .ref (a 36), .int 2])), (a 8, .inr (4, [.ref (a 7), .int 0, .int 0, .int 0, .ref (a 37), .ref (a 38), .ref (a 39), .ref (a 40)])), (a 30, .inr (2, [.ref (a 79), .int 0]))] H := hP
  have hD : va_D A [(a 14, .inr (0, [.ref (a 114), .ref (a 115), .ref (a 116), .int 0, .int 0, .int 0, .int 0, .int 0])), (a 7, .inr (8, [.ref (a 28), .ref (a 29), .ref (a 30), .int 0, .ref (a 31), .ref (a 32), .ref (a 33), .int 0, .ref (a 34), .ref (a 35), .ref (a 36), .int 2])), (a 8, .inr (4, [.ref (a 7), .int 0, .int 0, .int 0, .ref (a 37), .ref (a 38), .ref (a 39), .ref (a 40)])), (a 30, .inr (2, [.ref (a 79), .int 0]))] := hD
  refine lv_aload_n hx hb dX0_live_80 rfl (lv_at hl 1 rfl) ?_
  refine va_get (D := D) (ci := 0) (v := .int 0) (C := RX0) (T := TX0) (N := 8) hx hb hts hiX0 hown hK hP 0 rfl rfl 4 (by decide) (hts _ (List.mem_of_getElem? (i := 1) rfl)) (fun _ h9 => h9) rfl dX0_live_81 ?_
  refine lv_if_ne (tgt := 91) hx hb dX0_live_84 (by decide) (fun h9 => absurd (by decide) h9) (fun _ => ?_)
  refine lv_iconst (v := (-1)) hx hb dX0_live_87 (by decide) ?_
  refine lv_goto (tgt := 95) hx hb dX0_live_88 (by decide) ?_
  refine W.widen (k := 0) (n := 0) (by decide) (by decide) ?_
  exact hret (-1) ([(a 14, .inr (0, [.ref (a 114), .ref (a 115), .ref (a 116), .int 0, .int 0, .int 0, .int 0, .int 0])), (a 7, .inr (8, [.ref (a 28), .ref (a 29), .ref (a 30), .int 0, .ref (a 31), .ref (a 32), .ref (a 33), .int 0, .ref (a 34), .ref (a 35), .ref (a 36), .int 2])), (a 8, .inr (4, [.ref (a 7), .int 0, .int 0, .int 0, .ref (a 37), .ref (a 38), .ref (a 39), .ref (a 40)])), (a 30, .inr (2, [.ref (a 79), .int 0]))], []) _ _ _ _ dX0_live_95 rfl ⟨rfl, rfl⟩ (hP.sub [0, 1, 2, 3] rfl) (hK.sub [] rfl) (hD.sub [0, 1, 2, 3] (by decide +kernel) rfl) hS

set_option maxHeartbeats 8000000 in
set_option maxRecDepth 100000 in
theorem k_X0_liveT (l : Launch) (D : va_G) (ad : Nat → Nat) (a : Nat → Nat)  : z_Mi l yX0_live wsX0_live { frames := 1, cells := 0, slots := 0, locals := 22 } D ad [.ref (a 14), .ref (a 11)] [(a 7, .inr (8, [.ref (a 28), .ref (a 29), .ref (a 30), .int 0, .ref (a 31), .ref (a 32), .ref (a 33), .int 0, .ref (a 34), .ref (a 35), .ref (a 36), .int 2])), (a 11, .inr (4, [.ref (a 7), .int 0, .int 0, .int 0, .ref (a 44), .ref (a 45), .ref (a 46), .ref (a 47)])), (a 14, .inr (0, [.ref (a 114), .ref (a 115), .ref (a 116), .int 0, .int (-1), .int (-1), .int (-1), .int (-1)])), (a 30, .inr (2, [.ref (a 79), .int 0]))] [] 0 0 (fun r9 u9 => r9 = (-1) ∧ u9 = ([(a 14, .inr (0, [.ref (a 114), .ref (a 115), .ref (a 116), .int 0, .int 0, .int 0, .int 0, .int 0])), (a 7, .inr (8, [.ref (a 28), .ref (a 29), .ref (a 30), .int 0, .ref (a 31), .ref (a 32), .ref (a 33), .int 0, .ref (a 34), .ref (a 35), .ref (a 36), .int 2])), (a 11, .inr (4, [.ref (a 7), .int 0, .int 0, .int 0, .ref (a 44), .ref (a 45), .ref (a 46), .ref (a 47)])), (a 30, .inr (2, [.ref (a 79), .int 0]))], [])) := by
  refine z_ofI (cc := cX0_live) (maxL := 3) (rt := .int) (by decide) rfl (Nat.le_of_ble_eq_true rfl) ?_
  intro p e s m below meth c Q A ls hx hb hml hown hts hin hK hP hD hA hE hO hS hl hret
  have hown : s.vm.findClass RX0 = some m.cls := hown
  have hiX0 : ∀ w ∈ wsX00, w ∈ wsX0_live := fun _ h9 => List.mem_cons_of_mem _ (List.mem_append_left _ (List.mem_append_left _ (List.mem_append_left _ (List.mem_append_right _ h9))))
  have hiX4 : ∀ w ∈ wsX40, w ∈ wsX0_live := fun _ h9 => List.mem_cons_of_mem _ (List.mem_append_left _ (List.mem_append_left _ (List.mem_append_right _ h9)))
  have hiX8 : ∀ w ∈ wsX80, w ∈ wsX0_live := fun _ h9 => List.mem_cons_of_mem _ (List.mem_append_left _ (List.mem_append_right _ h9))
  have hiX2 : ∀ w ∈ wsX20, w ∈ wsX0_live := fun _ h9 => List.mem_cons_of_mem _ (List.mem_append_right _ h9)
  have hl : lv_has ls 3 [(0, .ref (a 14)), (1, .ref (a 11))] := hl
  refine lv_aload_n hx hb dX0_live_0 rfl (lv_at hl 0 rfl) ?_
  refine lv_iconst (v := 0) hx hb dX0_live_1 (by decide) ?_
  refine va_put (D := D) (ci := 0) (v := .int 0) (ty := tyX0 4) (C := RX0) (T := TX0) (N := 8) hx hb hts hiX0 tyX0 tyX0_ok nmX0 hown hK hP hD hS 2 rfl rfl 4 (by decide) (hts _ (List.mem_of_getElem? (i := 1) rfl)) (fun _ h9 => h9) rfl (tyX0_ok 4 (by decide)) rfl rfl (Nat.le_of_ble_eq_true rfl) dX0_live_2 (fun H locs hP hD hS => ?_)
  have hP : va_P D vwCl [(a 7, .inr (8, [.ref (a 28), .ref (a 29), .ref (a 30), .int 0, .ref (a 31), .ref (a 32), .ref (a 33), .int 0, .ref (a 34), .ref (a 35), .ref (a 36), .int 2])), (a 11, .inr (4, [.ref (a 7), .int 0, .int 0, .int 0, .ref (a 44), .ref (a 45), .ref (a 46), .ref (a 47)])), (a 14, .inr (0, [.ref (a 114), .ref (a 115), .ref (a 116), .int 0, .int 0, .int (-1), .int (-1), .int (-1)])), (a 30, .inr (2, [.ref (a 79), .int 0]))] H := hP
  have hD : va_D A [(a 7, .inr (8, [.ref (a 28), .ref (a 29), .ref (a 30), .int 0, .ref (a 31), .ref (a 32), .ref (a 33), .int 0, .ref (a 34), .ref (a 35), .ref (a 36), .int 2])), (a 11, .inr (4, [.ref (a 7), .int 0, .int 0, .int 0, .ref (a 44), .ref (a 45), .ref (a 46), .ref (a 47)])), (a 14, .inr (0, [.ref (a 114), .ref (a 115), .ref (a 116), .int 0, .int 0, .int (-1), .int (-1), .int (-1)])), (a 30, .inr (2, [.ref (a 79), .int 0]))] := hD
  refine lv_aload_n hx hb dX0_live_5 rfl (lv_at hl 0 rfl) ?_
  refine lv_iconst (v := 0) hx hb dX0_live_6 (by decide) ?_
  refine va_put (D := D) (ci := 0) (v := .int 0) (ty := tyX0 5) (C := RX0) (T := TX0) (N := 8) hx hb hts hiX0 tyX0 tyX0_ok nmX0 hown hK hP hD hS 2 rfl rfl 5 (by decide) (hts _ (List.mem_of_getElem? (i := 2) rfl)) (fun _ h9 => h9) rfl (tyX0_ok 5 (by decide)) rfl rfl (Nat.le_of_ble_eq_true rfl) dX0_live_7 (fun H locs hP hD hS => ?_)
  have hP : va_P D vwCl [(a 7, .inr (8, [.ref (a 28), .ref (a 29), .ref (a 30), .int 0, .ref (a 31), .ref (a 32), .ref (a 33), .int 0, .ref (a 34), .ref (a 35), .ref (a 36), .int 2])), (a 11, .inr (4, [.ref (a 7), .int 0, .int 0, .int 0, .ref (a 44), .ref (a 45), .ref (a 46), .ref (a 47)])), (a 14, .inr (0, [.ref (a 114), .ref (a 115), .ref (a 116), .int 0, .int 0, .int 0, .int (-1), .int (-1)])), (a 30, .inr (2, [.ref (a 79), .int 0]))] H := hP
  have hD : va_D A [(a 7, .inr (8, [.ref (a 28), .ref (a 29), .ref (a 30), .int 0, .ref (a 31), .ref (a 32), .ref (a 33), .int 0, .ref (a 34), .ref (a 35), .ref (a 36), .int 2])), (a 11, .inr (4, [.ref (a 7), .int 0, .int 0, .int 0, .ref (a 44), .ref (a 45), .ref (a 46), .ref (a 47)])), (a 14, .inr (0, [.ref (a 114), .ref (a 115), .ref (a 116), .int 0, .int 0, .int 0, .int (-1), .int (-1)])), (a 30, .inr (2, [.ref (a 79), .int 0]))] := hD
  refine lv_iconst (v := 0) hx hb dX0_live_10 (by decide) ?_
  refine lv_istore_n (lv' := [(2, .int 0), (0, .ref (a 14)), (1, .ref (a 11))]) hx hb dX0_live_11 rfl hl (by decide) rfl (fun ls hl => ?_)
  refine lv_iload_n hx hb dX0_live_12 rfl (lv_at hl 0 rfl) ?_
  refine lv_aload_n hx hb dX0_live_13 rfl (lv_at hl 1 rfl) ?_
  refine va_get (D := D) (ci := 0) (v := .int 0) (C := RX0) (T := TX0) (N := 8) hx hb hts hiX0 hown hK hP 2 rfl rfl 3 (by decide) (hts _ (List.mem_of_getElem? (i := 3) rfl)) (fun _ h9 => h9) rfl dX0_live_14 ?_
  refine lv_icmp_ge (tgt := 64) hx hb dX0_live_17 (by decide) (fun _ => ?_) (fun h9 => absurd (by decide) h9)
  refine lv_aload_n hx hb dX0_live_64 rfl (lv_at hl 1 rfl) ?_
  refine lv_aload_n hx hb dX0_live_65 rfl (lv_at hl 2 rfl) ?_
  refine va_get (D := D) (ci := 4) (v := .int 0) (C := RX4) (T := TX4) (N := 8) hx hb hts hiX4 hown hK hP 1 rfl rfl 1 (by decide) (hts _ (List.mem_of_getElem? (i := 4) rfl)) (fun _ h9 => h9) rfl dX0_live_66 ?_
  refine va_put (D := D) (ci := 0) (v := .int 0) (ty := tyX0 6) (C := RX0) (T := TX0) (N := 8) hx hb hts hiX0 tyX0 tyX0_ok nmX0 hown hK hP hD hS 2 rfl rfl 6 (by decide) (hts _ (List.mem_of_getElem? (i := 5) rfl)) (fun _ h9 => h9) rfl (tyX0_ok 6 (by decide)) rfl rfl (Nat.le_of_ble_eq_true rfl) dX0_live_69 (fun H locs hP hD hS => ?_)
  have hP : va_P D vwCl [(a 7, .inr (8, [.ref (a 28), .ref (a 29), .ref (a 30), .int 0, .ref (a 31), .ref (a 32), .ref (a 33), .int 0, .ref (a 34), .ref (a 35), .ref (a 36), .int 2])), (a 11, .inr (4, [.ref (a 7), .int 0, .int 0, .int 0, .ref (a 44), .ref (a 45), .ref (a 46), .ref (a 47)])), (a 14, .inr (0, [.ref (a 114), .ref (a 115), .ref (a 116), .int 0, .int 0, .int 0, .int 0, .int (-1)])), (a 30, .inr (2, [.ref (a 79), .int 0]))] H := hP
  have hD : va_D A [(a 7, .inr (8, [.ref (a 28), .ref (a 29), .ref (a 30), .int 0, .ref (a 31), .ref (a 32), .ref (a 33), .int 0, .ref (a 34), .ref (a 35), .ref (a 36), .int 2])), (a 11, .inr (4, [.ref (a 7), .int 0, .int 0, .int 0, .ref (a 44), .ref (a 45), .ref (a 46), .ref (a 47)])), (a 14, .inr (0, [.ref (a 114), .ref (a 115), .ref (a 116), .int 0, .int 0, .int 0, .int 0, .int (-1)])), (a 30, .inr (2, [.ref (a 79), .int 0]))] := hD
  refine lv_aload_n hx hb dX0_live_72 rfl (lv_at hl 1 rfl) ?_
  refine lv_aload_n hx hb dX0_live_73 rfl (lv_at hl 2 rfl) ?_
  have hc9 := (k_X4_openOnesT l D ad a )
  refine z_calli (w0 := [(a 7, .inr (8, [.ref (a 28), .ref (a 29), .ref (a 30), .int 0, .ref (a 31), .ref (a 32), .ref (a 33), .int 0, .ref (a 34), .ref (a 35), .ref (a 36), .int 2])), (a 11, .inr (4, [.ref (a 7), .int 0, .int 0, .int 0, .ref (a 44), .ref (a 45), .ref (a 46), .ref (a 47)])), (a 30, .inr (2, [.ref (a 79), .int 0]))]) (wr := [(a 14, .inr (0, [.ref (a 114), .ref (a 115), .ref (a 116), .int 0, .int 0, .int 0, .int 0, .int (-1)]))]) (va_runV (As := []) (rest := [.ref (a 14)]) ⟨hx, hb, hml, hown, hts⟩ (hc9 _) (cwV 0 hts gX0_live_X4_openOnes rfl rfl rfl (by decide +kernel) ⟨Nat.le_of_ble_eq_true rfl, Nat.le_of_ble_eq_true rfl⟩) (z_preV hP hD hK hS hA hE hO [0, 1, 3] [] rfl (by decide +kernel) rfl 1 4 rfl rfl rfl) rfl rfl hl.1 rfl (lv_room (Nat.le_of_ble_eq_true rfl)) dX0_live_74 ⟨Nat.le_of_ble_eq_true rfl, Nat.le_of_ble_eq_true rfl⟩) hP hD hK hS hA [0, 1, 3] [2] rfl rfl (by decide +kernel) (by decide +kernel) (fun r9 u9 H locs hw hP hD hK hS => ?_)
  obtain ⟨er9, rfl⟩ := hw
  have hP : va_P D vwCl [(a 14, .inr (0, [.ref (a 114), .ref (a 115), .ref (a 116), .int 0, .int 0, .int 0, .int 0, .int (-1)])), (a 7, .inr (8, [.ref (a 28), .ref (a 29), .ref (a 30), .int 0, .ref (a 31), .ref (a 32), .ref (a 33), .int 0, .ref (a 34), .ref (a 35), .ref (a 36), .int 2])), (a 11, .inr (4, [.ref (a 7), .int 0, .int 0, .int 0, .ref (a 44), .ref (a 45), .ref (a 46), .ref (a 47)])), (a 30, .inr (2, [.ref (a 79), .int 0]))] H := hP
  have hD : va_D A [(a 14, .inr (0, [.ref (a 114), .ref (a 115), .ref (a 116), .int 0, .int 0, .int 0, .int 0, .int (-1)])), (a 7, .inr (8, [.ref (a 28), .ref (a 29), .ref (a 30), .int 0, .ref (a 31), .ref (a 32), .ref (a 33), .int 0, .ref (a 34), .ref (a 35), .ref (a 36), .int 2])), (a 11, .inr (4, [.ref (a 7), .int 0, .int 0, .int 0, .ref (a 44), .ref (a 45), .ref (a 46), .ref (a 47)])), (a 30, .inr (2, [.ref (a 79), .int 0]))] := hD
  have hK : va_K D vwCl [] s := hK
  refine W.cs (cells' := 0) (slots' := 0) rfl rfl ?_
  obtain rfl := er9
  refine W.eq (g2 := F0 m 77 ls (.int 0 :: [.ref (a 14)])) rfl ?_
  refine va_put (D := D) (ci := 0) (v := .int 0) (ty := tyX0 7) (C := RX0) (T := TX0) (N := 8) hx hb hts hiX0 tyX0 tyX0_ok nmX0 hown hK hP hD hS 0 rfl rfl 7 (by decide) (hts _ (List.mem_of_getElem? (i := 6) rfl)) (fun _ h9 => h9) rfl (tyX0_ok 7 (by decide)) rfl rfl (Nat.le_of_ble_eq_true rfl) dX0_live_77 (fun H locs hP hD hS => ?_)
  have hP : va_P D vwCl [(a 14, .inr (0, [.ref (a 114), .ref (a 115), .ref (a 116), .int 0, .int 0, .int 0, .int 0, .int 0])), (a 7, .inr (8, [.ref (a 28), .ref (a 29), .ref (a 30), .int 0, .ref (a 31), .ref (a 32), .ref (a 33), .int 0, .ref (a 34), .ref (a 35), .ref (a 36), .int 2])), (a 11, .inr (4, [.ref (a 7), .int 0, .int 0, .int 0, .ref (a 44), .ref (a 45), .ref (a 46), .ref (a 47)])), (a 30, .inr (2, [.ref (a 79), .int 0]))] H := hP
  have hD : va_D A [(a 14, .inr (0, [.ref (a 114), .ref (a 115), .ref (a 116), .int 0, .int 0, .int 0, .int 0, .int 0])), (a 7, .inr (8, [.ref (a 28), .ref (a 29), .ref (a 30), .int 0, .ref (a 31), .ref (a 32), .ref (a 33), .int 0, .ref (a 34), .ref (a 35), .ref (a 36), .int 2])), (a 11, .inr (4, [.ref (a 7), .int 0, .int 0, .int 0, .ref (a 44), .ref (a 45), .ref (a 46), .ref (a 47)])), (a 30, .inr (2, [.ref (a 79), .int 0]))] := hD
  refine lv_aload_n hx hb dX0_live_80 rfl (lv_at hl 1 rfl) ?_
  refine va_get (D := D) (ci := 0) (v := .int 0) (C := RX0) (T := TX0) (N := 8) hx hb hts hiX0 hown hK hP 0 rfl rfl 4 (by decide) (hts _ (List.mem_of_getElem? (i := 1) rfl)) (fun _ h9 => h9) rfl dX0_live_81 ?_
  refine lv_if_ne (tgt := 91) hx hb dX0_live_84 (by decide) (fun h9 => absurd (by decide) h9) (fun _ => ?_)
  refine lv_iconst (v := (-1)) hx hb dX0_live_87 (by decide) ?_
  refine lv_goto (tgt := 95) hx hb dX0_live_88 (by decide) ?_
  refine W.widen (k := 0) (n := 0) (by decide) (by decide) ?_
  exact hret (-1) ([(a 14, .inr (0, [.ref (a 114), .ref (a 115), .ref (a 116), .int 0, .int 0, .int 0, .int 0, .int 0])), (a 7, .inr (8, [.ref (a 28), .ref (a 29), .ref (a 30), .int 0, .ref (a 31), .ref (a 32), .ref (a 33), .int 0, .ref (a 34), .ref (a 35), .ref (a 36), .int 2])), (a 11, .inr (4, [.ref (a 7), .int 0, .int 0, .int 0, .ref (a 44), .ref (a 45), .ref (a 46), .ref (a 47)])), (a 30, .inr (2, [.ref (a 79), .int 0]))], []) _ _ _ _ dX0_live_95 rfl ⟨rfl, rfl⟩ (hP.sub [0, 1, 2, 3] rfl) (hK.sub [] rfl) (hD.sub [0, 1, 2, 3] (by decide +kernel) rfl) hS

set_option maxHeartbeats 8000000 in
set_option maxRecDepth 100000 in
theorem k_X5_isWhole (l : Launch) (D : va_G) (ad : Nat → Nat) (a : Nat → Nat)  : z_Mi l yX5_isWhole wsX5_isWhole { frames := 0, cells := 0, slots := 0, locals := 0 } D ad [.ref (a 43)] [(a 43, .inr (5, [.ref (a 132), .ref (a 133), .ref (a 134), .ref (a 135), .ref (a 136), .int 0, .int 0, .int 1, .int 0, .int 0]))] [] 0 0 (fun r9 u9 => r9 = 0 ∧ u9 = ([(a 43, .inr (5, [.ref (a 132), .ref (a 133), .ref (a 134), .ref (a 135), .ref (a 136), .int 0, .int 0, .int 1, .int 0, .int 0]))], [])) := by
  refine z_ofI (cc := cX5_isWhole) (maxL := 1) (rt := .boolean) (by decide) rfl (Nat.le_of_ble_eq_true rfl) ?_
  intro p e s m below meth c Q A ls hx hb hml hown hts hin hK hP hD hA hE hO hS hl hret
  have hown : s.vm.findClass RX5 = some m.cls := hown
  have hiX5 : ∀ w ∈ wsX50, w ∈ wsX5_isWhole := fun _ h9 => List.mem_cons_of_mem _ (List.mem_append_right _ h9)
  have hl : lv_has ls 1 [(0, .ref (a 43))] := hl
  refine lv_aload_n hx hb dX5_isWhole_0 rfl (lv_at hl 0 rfl) ?_
  refine va_get (D := D) (ci := 5) (v := .int 1) (C := RX5) (T := TX5) (N := 10) hx hb hts hiX5 hown hK hP 0 rfl rfl 7 (by decide) (hts _ (List.mem_of_getElem? (i := 1) rfl)) (fun _ h9 => h9) rfl dX5_isWhole_1 ?_
  refine lv_if_ne (tgt := 18) hx hb dX5_isWhole_4 (by decide) (fun _ => ?_) (fun h9 => absurd h9 (by decide))
  refine lv_iconst (v := 0) hx hb dX5_isWhole_18 (by decide) ?_
  refine W.widen (k := 0) (n := 0) (by decide) (by decide) ?_
  exact hret 0 ([(a 43, .inr (5, [.ref (a 132), .ref (a 133), .ref (a 134), .ref (a 135), .ref (a 136), .int 0, .int 0, .int 1, .int 0, .int 0]))], []) _ _ _ _ dX5_isWhole_19 (by decide) ⟨rfl, rfl⟩ (hP.sub [0] rfl) (hK.sub [] rfl) (hD.sub [0] (by decide +kernel) rfl) hS

set_option maxHeartbeats 8000000 in
set_option maxRecDepth 100000 in
theorem k_X5_readOne (l : Launch) (D : va_G) (ad : Nat → Nat) (a : Nat → Nat)  : z_Mi l yX5_readOne wsX5_readOne { frames := 2, cells := 0, slots := 0, locals := 40 } D ad [.ref (a 43), .ref (a 5), .ref (a 7)] [(a 5, .inr (7, [.ref (a 4), .int 200, .int 0, .int 0, .int 0, .int 0, .long 0, .ref (ad 0), .int 0, .int 0]))] [] 0 0 (fun r9 u9 => r9 = 0 ∧ u9 = ([(a 5, .inr (7, [.ref (a 4), .int 200, .int 0, .int 0, .int 0, .int 0, .long 0, .ref (ad 0), .int 1, .int 0]))], [])) := by
  refine z_ofI (cc := cX5_readOne) (maxL := 6) (rt := .boolean) (by decide) rfl (Nat.le_of_ble_eq_true rfl) ?_
  intro p e s m below meth c Q A ls hx hb hml hown hts hin hK hP hD hA hE hO hS hl hret
  have hown : s.vm.findClass RX5 = some m.cls := hown
  have hiX5 : ∀ w ∈ wsX50, w ∈ wsX5_readOne := fun _ h9 => List.mem_cons_of_mem _ (List.mem_append_left _ (List.mem_append_left _ (List.mem_append_left _ (List.mem_append_left _ (List.mem_append_right _ h9)))))
  have hiX7 : ∀ w ∈ wsX70, w ∈ wsX5_readOne := fun _ h9 => List.mem_cons_of_mem _ (List.mem_append_left _ (List.mem_append_left _ (List.mem_append_left _ (List.mem_append_right _ h9))))
  have hiX6 : ∀ w ∈ wsX60, w ∈ wsX5_readOne := fun _ h9 => List.mem_cons_of_mem _ (List.mem_append_left _ (List.mem_append_left _ (List.mem_append_right _ h9)))
  have hiX8 : ∀ w ∈ wsX80, w ∈ wsX5_readOne := fun _ h9 => List.mem_cons_of_mem _ (List.mem_append_left _ (List.mem_append_right _ h9))
  have hiX2 : ∀ w ∈ wsX20, w ∈ wsX5_readOne := fun _ h9 => List.mem_cons_of_mem _ (List.mem_append_right _ h9)
  have hl : lv_has ls 6 [(0, .ref (a 43)), (1, .ref (a 5)), (2, .ref (a 7))] := hl
  refine lv_aload_n hx hb dX5_readOne_0 rfl (lv_at hl 1 rfl) ?_
  refine lv_bipush (v := 40) hx hb dX5_readOne_1 (by decide) ?_
  have hc9 := (k_X7_isSign l D ad a 200 )
  refine z_calli (w0 := [(a 5, .inr (7, [.ref (a 4), .int 200, .int 0, .int 0, .int 0, .int 0, .long 0, .ref (ad 0), .int 0, .int 0]))]) (wr := []) (va_runV (As := [.int 40]) (rest := []) ⟨hx, hb, hml, hown, hts⟩ (hc9 _) (cwV 1 hts gX5_readOne_X7_isSign rfl rfl rfl (by decide +kernel) ⟨Nat.le_of_ble_eq_true rfl, Nat.le_of_ble_eq_true rfl⟩) (z_preV hP hD hK hS hA hE hO [0] [] rfl (by decide +kernel) rfl 0 7 rfl rfl rfl) rfl rfl hl.1 rfl (lv_room (Nat.le_of_ble_eq_true rfl)) dX5_readOne_3 ⟨Nat.le_of_ble_eq_true rfl, Nat.le_of_ble_eq_true rfl⟩) hP hD hK hS hA [0] [] rfl rfl (by decide +kernel) (by decide +kernel) (fun r9 u9 H locs hw hP hD hK hS => ?_)
  obtain ⟨er9, rfl⟩ := hw
  have hP : va_P D vwCl [(a 5, .inr (7, [.ref (a 4), .int 200, .int 0, .int 0, .int 0, .int 0, .long 0, .ref (ad 0), .int 0, .int 0]))] H := hP
  have hD : va_D A [(a 5, .inr (7, [.ref (a 4), .int 200, .int 0, .int 0, .int 0, .int 0, .long 0, .ref (ad 0), .int 0, .int 0]))] := hD
  have hK : va_K D vwCl [] s := hK
  refine W.cs (cells' := 0) (slots' := 0) rfl rfl ?_
  obtain rfl := er9
  refine W.eq (g2 := F0 m 6 ls (.int 0 :: [])) rfl ?_
  refine lv_istore_n (lv' := [(3, .int 0), (0, .ref (a 43)), (1, .ref (a 5)), (2, .ref (a 7))]) hx hb dX5_readOne_6 rfl hl (by decide) rfl (fun ls hl => ?_)
  refine lv_aload_n hx hb dX5_readOne_7 rfl (lv_at hl 2 rfl) ?_
  have hc9 := (k_X7_wordHere l D ad a 200 )
  refine z_callr (w0 := [(a 5, .inr (7, [.ref (a 4), .int 200, .int 0, .int 0, .int 0, .int 0, .long 0, .ref (ad 0), .int 0, .int 0]))]) (wr := []) (va_runV (As := []) (rest := []) ⟨hx, hb, hml, hown, hts⟩ (hc9 _) (cwV 0 hts gX5_readOne_X7_wordHere rfl rfl rfl (by decide +kernel) ⟨Nat.le_of_ble_eq_true rfl, Nat.le_of_ble_eq_true rfl⟩) (z_preV hP hD hK hS hA hE hO [0] [] rfl (by decide +kernel) rfl 0 7 rfl rfl rfl) rfl rfl hl.1 rfl (lv_room (Nat.le_of_ble_eq_true rfl)) dX5_readOne_8 ⟨Nat.le_of_ble_eq_true rfl, Nat.le_of_ble_eq_true rfl⟩) hP hD hK hS hA [0] [] rfl rfl (by decide +kernel) (by decide +kernel) (fun u9 H locs hw hP hD hK hS => ?_)
  obtain ⟨rfl⟩ := hw
  have hP : va_P D vwCl [(a 5, .inr (7, [.ref (a 4), .int 200, .int 0, .int 0, .int 0, .int 0, .long 0, .ref (ad 0), .int 0, .int 0]))] H := hP
  have hD : va_D A [(a 5, .inr (7, [.ref (a 4), .int 200, .int 0, .int 0, .int 0, .int 0, .long 0, .ref (ad 0), .int 0, .int 0]))] := hD
  have hK : va_K D vwCl [] s := hK
  refine W.cs (cells' := 0) (slots' := 0) rfl rfl ?_
  refine W.eq (g2 := F0 m 11 ls (.ref (ad 0) :: [])) rfl ?_
  refine lv_astore (lv' := [(4, .ref (ad 0)), (3, .int 0), (0, .ref (a 43)), (1, .ref (a 5)), (2, .ref (a 7))]) hx hb dX5_readOne_11 hl (by decide) rfl (fun ls hl => ?_)
  refine lv_iload_n hx hb dX5_readOne_13 rfl (lv_at hl 1 rfl) ?_
  refine lv_if_ne (tgt := 31) hx hb dX5_readOne_14 (by decide) (fun h9 => absurd (by decide) h9) (fun _ => ?_)
  refine lv_aload hx hb dX5_readOne_17 (lv_at hl 0 rfl) ?_
  have hc9 := (k_X9_beginsOne l D ad  )
  refine z_calli (w0 := []) (wr := [(a 5, .inr (7, [.ref (a 4), .int 200, .int 0, .int 0, .int 0, .int 0, .long 0, .ref (ad 0), .int 0, .int 0]))]) (va_runV (As := []) (rest := []) ⟨hx, hb, hml, hown, hts⟩ (hc9 _) (cwV 0 hts gX5_readOne_X9_beginsOne rfl rfl rfl (by decide +kernel) ⟨Nat.le_of_ble_eq_true rfl, Nat.le_of_ble_eq_true rfl⟩) (z_preE hP hD hK hS hA hE hO [] [] rfl (by decide) rfl (by decide)) rfl rfl hl.1 rfl (lv_room (Nat.le_of_ble_eq_true rfl)) dX5_readOne_19 ⟨Nat.le_of_ble_eq_true rfl, Nat.le_of_ble_eq_true rfl⟩) hP hD hK hS hA [] [0] rfl rfl (by decide +kernel) (by decide +kernel) (fun r9 u9 H locs hw hP hD hK hS => ?_)
  obtain ⟨er9, rfl⟩ := hw
  have hP : va_P D vwCl [(a 5, .inr (7, [.ref (a 4), .int 200, .int 0, .int 0, .int 0, .int 0, .long 0, .ref (ad 0), .int 0, .int 0]))] H := hP
  have hD : va_D A [(a 5, .inr (7, [.ref (a 4), .int 200, .int 0, .int 0, .int 0, .int 0, .long 0, .ref (ad 0), .int 0, .int 0]))] := hD
  have hK : va_K D vwCl [] s := hK
  refine W.cs (cells' := 0) (slots' := 0) rfl rfl ?_
  obtain rfl := er9
  refine W.eq (g2 := F0 m 22 ls (.int 0 :: [])) rfl ?_
  refine lv_if_ne (tgt := 31) hx hb dX5_readOne_22 (by decide) (fun h9 => absurd (by decide) h9) (fun _ => ?_)
  refine lv_aload_n hx hb dX5_readOne_25 rfl (lv_at hl 3 rfl) ?_
  refine lv_iconst (v := 1) hx hb dX5_readOne_26 (by decide) ?_
  have hc9 := (k_X7_fails l D ad a 200 )
  refine z_calli (w0 := [(a 5, .inr (7, [.ref (a 4), .int 200, .int 0, .int 0, .int 0, .int 0, .long 0, .ref (ad 0), .int 0, .int 0]))]) (wr := []) (va_runV (As := [.int 1]) (rest := []) ⟨hx, hb, hml, hown, hts⟩ (hc9 _) (cwV 1 hts gX5_readOne_X7_fails rfl rfl rfl (by decide +kernel) ⟨Nat.le_of_ble_eq_true rfl, Nat.le_of_ble_eq_true rfl⟩) (z_preV hP hD hK hS hA hE hO [0] [] rfl (by decide +kernel) rfl 0 7 rfl rfl rfl) rfl rfl hl.1 rfl (lv_room (Nat.le_of_ble_eq_true rfl)) dX5_readOne_27 ⟨Nat.le_of_ble_eq_true rfl, Nat.le_of_ble_eq_true rfl⟩) hP hD hK hS hA [0] [] rfl rfl (by decide +kernel) (by decide +kernel) (fun r9 u9 H locs hw hP hD hK hS => ?_)
  obtain ⟨er9, rfl⟩ := hw
  have hP : va_P D vwCl [(a 5, .inr (7, [.ref (a 4), .int 200, .int 0, .int 0, .int 0, .int 0, .long 0, .ref (ad 0), .int 1, .int 0]))] H := hP
  have hD : va_D A [(a 5, .inr (7, [.ref (a 4), .int 200, .int 0, .int 0, .int 0, .int 0, .long 0, .ref (ad 0), .int 1, .int 0]))] := hD
  have hK : va_K D vwCl [] s := hK
  refine W.cs (cells' := 0) (slots' := 0) rfl rfl ?_
  obtain rfl := er9
  refine W.eq (g2 := F0 m 30 ls (.int 0 :: [])) rfl ?_
  refine W.widen (k := 0) (n := 0) (by decide) (by decide) ?_
  exact hret 0 ([(a 5, .inr (7, [.ref (a 4), .int 200, .int 0, .int 0, .int 0, .int 0, .long 0, .ref (ad 0), .int 1, .int 0]))], []) _ _ _ _ dX5_readOne_30 (by decide) ⟨rfl, rfl⟩ (hP.sub [0] rfl) (hK.sub [] rfl) (hD.sub [0] (by decide +kernel) rfl) hS

set_option maxHeartbeats 8000000 in
set_option maxRecDepth 100000 in
theorem k_X5_read (l : Launch) (D : va_G) (ad : Nat → Nat) (a : Nat → Nat)  : z_Mi l yX5_read wsX5_read { frames := 4, cells := 0, slots := 0, locals := 83 } D ad [.ref (a 43), .ref (a 5), .ref (a 7)] [(a 4, .inr (6, [.ref (a 26), .int 0])), (a 5, .inr (7, [.ref (a 4), .int 0, .int 0, .int 0, .int 0, .int 0, .long 0, .ref (ad 0), .int 0, .int 0])), (a 43, .inr (5, [.ref (a 132), .ref (a 133), .ref (a 134), .ref (a 135), .ref (a 136), .int 0, .int 0, .int 0, .int 0, .int 0]))] [] 0 0 (fun r9 u9 => r9 = 0 ∧ u9 = ([(a 4, .inr (6, [.ref (a 26), .int 0])), (a 43, .inr (5, [.ref (a 132), .ref (a 133), .ref (a 134), .ref (a 135), .ref (a 136), .int 0, .int 0, .int 1, .int 0, .int 0])), (a 5, .inr (7, [.ref (a 4), .int 200, .int 0, .int 0, .int 0, .int 0, .long 0, .ref (ad 0), .int 1, .int 0]))], [])) := by
  refine z_ofI (cc := cX5_read) (maxL := 5) (rt := .boolean) (by decide) rfl (Nat.le_of_ble_eq_true rfl) ?_
  intro p e s m below meth c Q A ls hx hb hml hown hts hin hK hP hD hA hE hO hS hl hret
  have hown : s.vm.findClass RX5 = some m.cls := hown
  have hiX5 : ∀ w ∈ wsX50, w ∈ wsX5_read := fun _ h9 => List.mem_cons_of_mem _ (List.mem_append_left _ (List.mem_append_left _ (List.mem_append_left _ (List.mem_append_left _ (List.mem_append_right _ h9)))))
  have hiX7 : ∀ w ∈ wsX70, w ∈ wsX5_read := fun _ h9 => List.mem_cons_of_mem _ (List.mem_append_left _ (List.mem_append_left _ (List.mem_append_left _ (List.mem_append_right _ h9))))
  have hiX6 : ∀ w ∈ wsX60, w ∈ wsX5_read := fun _ h9 => List.mem_cons_of_mem _ (List.mem_append_left _ (List.mem_append_left _ (List.mem_append_right _ h9)))
  have hiX8 : ∀ w ∈ wsX80, w ∈ wsX5_read := fun _ h9 => List.mem_cons_of_mem _ (List.mem_append_left _ (List.mem_append_right _ h9))
  have hiX2 : ∀ w ∈ wsX20, w ∈ wsX5_read := fun _ h9 => List.mem_cons_of_mem _ (List.mem_append_right _ h9)
  have hl : lv_has ls 5 [(0, .ref (a 43)), (1, .ref (a 5)), (2, .ref (a 7))] := hl
  refine lv_aload_n hx hb dX5_read_0 rfl (lv_at hl 0 rfl) ?_
  have hc9 := (k_X5_clear l D ad a )
  refine z_callv (w0 := [(a 43, .inr (5, [.ref (a 132), .ref (a 133), .ref (a 134), .ref (a 135), .ref (a 136), .int 0, .int 0, .int 0, .int 0, .int 0]))]) (wr := [(a 4, .inr (6, [.ref (a 26), .int 0])), (a 5, .inr (7, [.ref (a 4), .int 0, .int 0, .int 0, .int 0, .int 0, .long 0, .ref (ad 0), .int 0, .int 0]))]) (va_runV (As := []) (rest := []) ⟨hx, hb, hml, hown, hts⟩ (hc9 _) (cwV 0 hts gX5_read_X5_clear rfl rfl rfl (by decide +kernel) ⟨Nat.le_of_ble_eq_true rfl, Nat.le_of_ble_eq_true rfl⟩) (z_preV hP hD hK hS hA hE hO [2] [] rfl (by decide +kernel) rfl 2 5 rfl rfl rfl) rfl rfl hl.1 rfl (lv_room (Nat.le_of_ble_eq_true rfl)) dX5_read_1 ⟨Nat.le_of_ble_eq_true rfl, Nat.le_of_ble_eq_true rfl⟩) hP hD hK hS hA [2] [0, 1] rfl rfl (by decide +kernel) (by decide +kernel) (fun u9 H locs hw hP hD hK hS => ?_)
  obtain ⟨rfl⟩ := hw
  have hP : va_P D vwCl [(a 4, .inr (6, [.ref (a 26), .int 0])), (a 5, .inr (7, [.ref (a 4), .int 0, .int 0, .int 0, .int 0, .int 0, .long 0, .ref (ad 0), .int 0, .int 0])), (a 43, .inr (5, [.ref (a 132), .ref (a 133), .ref (a 134), .ref (a 135), .ref (a 136), .int 0, .int 0, .int 0, .int 0, .int 0]))] H := hP
  have hD : va_D A [(a 4, .inr (6, [.ref (a 26), .int 0])), (a 5, .inr (7, [.ref (a 4), .int 0, .int 0, .int 0, .int 0, .int 0, .long 0, .ref (ad 0), .int 0, .int 0])), (a 43, .inr (5, [.ref (a 132), .ref (a 133), .ref (a 134), .ref (a 135), .ref (a 136), .int 0, .int 0, .int 0, .int 0, .int 0]))] := hD
  have hK : va_K D vwCl [] s := hK
  refine W.cs (cells' := 0) (slots' := 0) rfl rfl ?_
  refine lv_aload_n hx hb dX5_read_4 rfl (lv_at hl 0 rfl) ?_
  refine lv_iconst (v := 0) hx hb dX5_read_5 (by decide) ?_
  refine va_put (D := D) (ci := 5) (v := .int 0) (ty := tyX5 5) (C := RX5) (T := TX5) (N := 10) hx hb hts hiX5 tyX5 tyX5_ok nmX5 hown hK hP hD hS 2 rfl rfl 5 (by decide) (hts _ (List.mem_of_getElem? (i := 1) rfl)) (fun _ h9 => h9) rfl (tyX5_ok 5 (by decide)) rfl rfl (Nat.le_of_ble_eq_true rfl) dX5_read_6 (fun H locs hP hD hS => ?_)
  have hP : va_P D vwCl [(a 4, .inr (6, [.ref (a 26), .int 0])), (a 5, .inr (7, [.ref (a 4), .int 0, .int 0, .int 0, .int 0, .int 0, .long 0, .ref (ad 0), .int 0, .int 0])), (a 43, .inr (5, [.ref (a 132), .ref (a 133), .ref (a 134), .ref (a 135), .ref (a 136), .int 0, .int 0, .int 0, .int 0, .int 0]))] H := hP
  have hD : va_D A [(a 4, .inr (6, [.ref (a 26), .int 0])), (a 5, .inr (7, [.ref (a 4), .int 0, .int 0, .int 0, .int 0, .int 0, .long 0, .ref (ad 0), .int 0, .int 0])), (a 43, .inr (5, [.ref (a 132), .ref (a 133), .ref (a 134), .ref (a 135), .ref (a 136), .int 0, .int 0, .int 0, .int 0, .int 0]))] := hD
  refine lv_aload_n hx hb dX5_read_9 rfl (lv_at hl 0 rfl) ?_
  refine lv_iconst (v := 0) hx hb dX5_read_10 (by decide) ?_
  refine va_put (D := D) (ci := 5) (v := .int 0) (ty := tyX5 6) (C := RX5) (T := TX5) (N := 10) hx hb hts hiX5 tyX5 tyX5_ok nmX5 hown hK hP hD hS 2 rfl rfl 6 (by decide) (hts _ (List.mem_of_getElem? (i := 2) rfl)) (fun _ h9 => h9) rfl (tyX5_ok 6 (by decide)) rfl rfl (Nat.le_of_ble_eq_true rfl) dX5_read_11 (fun H locs hP hD hS => ?_)
  have hP : va_P D vwCl [(a 4, .inr (6, [.ref (a 26), .int 0])), (a 5, .inr (7, [.ref (a 4), .int 0, .int 0, .int 0, .int 0, .int 0, .long 0, .ref (ad 0), .int 0, .int 0])), (a 43, .inr (5, [.ref (a 132), .ref (a 133), .ref (a 134), .ref (a 135), .ref (a 136), .int 0, .int 0, .int 0, .int 0, .int 0]))] H := hP
  have hD : va_D A [(a 4, .inr (6, [.ref (a 26), .int 0])), (a 5, .inr (7, [.ref (a 4), .int 0, .int 0, .int 0, .int 0, .int 0, .long 0, .ref (ad 0), .int 0, .int 0])), (a 43, .inr (5, [.ref (a 132), .ref (a 133), .ref (a 134), .ref (a 135), .ref (a 136), .int 0, .int 0, .int 0, .int 0, .int 0]))] := hD
  refine lv_aload_n hx hb dX5_read_14 rfl (lv_at hl 0 rfl) ?_
  refine lv_iconst (v := 1) hx hb dX5_read_15 (by decide) ?_
  refine va_put (D := D) (ci := 5) (v := .int 1) (ty := tyX5 7) (C := RX5) (T := TX5) (N := 10) hx hb hts hiX5 tyX5 tyX5_ok nmX5 hown hK hP hD hS 2 rfl rfl 7 (by decide) (hts _ (List.mem_of_getElem? (i := 3) rfl)) (fun _ h9 => h9) rfl (tyX5_ok 7 (by decide)) (by decide) (by decide) (Nat.le_of_ble_eq_true rfl) dX5_read_16 (fun H locs hP hD hS => ?_)
  have hP : va_P D vwCl [(a 4, .inr (6, [.ref (a 26), .int 0])), (a 5, .inr (7, [.ref (a 4), .int 0, .int 0, .int 0, .int 0, .int 0, .long 0, .ref (ad 0), .int 0, .int 0])), (a 43, .inr (5, [.ref (a 132), .ref (a 133), .ref (a 134), .ref (a 135), .ref (a 136), .int 0, .int 0, .int 1, .int 0, .int 0]))] H := hP
  have hD : va_D A [(a 4, .inr (6, [.ref (a 26), .int 0])), (a 5, .inr (7, [.ref (a 4), .int 0, .int 0, .int 0, .int 0, .int 0, .long 0, .ref (ad 0), .int 0, .int 0])), (a 43, .inr (5, [.ref (a 132), .ref (a 133), .ref (a 134), .ref (a 135), .ref (a 136), .int 0, .int 0, .int 1, .int 0, .int 0]))] := hD
  refine lv_aload_n hx hb dX5_read_19 rfl (lv_at hl 1 rfl) ?_
  refine lv_sipush (v := 200) hx hb dX5_read_20 (by decide) ?_
  have hc9 := (k_X7_start200 l D ad a )
  refine z_callv (w0 := [(a 4, .inr (6, [.ref (a 26), .int 0])), (a 5, .inr (7, [.ref (a 4), .int 0, .int 0, .int 0, .int 0, .int 0, .long 0, .ref (ad 0), .int 0, .int 0]))]) (wr := [(a 43, .inr (5, [.ref (a 132), .ref (a 133), .ref (a 134), .ref (a 135), .ref (a 136), .int 0, .int 0, .int 1, .int 0, .int 0]))]) (va_runV (As := [.int 200]) (rest := []) ⟨hx, hb, hml, hown, hts⟩ (hc9 _) (cwV 1 hts gX5_read_X7_start rfl rfl rfl (by decide +kernel) ⟨Nat.le_of_ble_eq_true rfl, Nat.le_of_ble_eq_true rfl⟩) (z_preV hP hD hK hS hA hE hO [0, 1] [] rfl (by decide +kernel) rfl 1 7 rfl rfl rfl) rfl rfl hl.1 rfl (lv_room (Nat.le_of_ble_eq_true rfl)) dX5_read_23 ⟨Nat.le_of_ble_eq_true rfl, Nat.le_of_ble_eq_true rfl⟩) hP hD hK hS hA [0, 1] [2] rfl rfl (by decide +kernel) (by decide +kernel) (fun u9 H locs hw hP hD hK hS => ?_)
  obtain ⟨rfl⟩ := hw
  have hP : va_P D vwCl [(a 43, .inr (5, [.ref (a 132), .ref (a 133), .ref (a 134), .ref (a 135), .ref (a 136), .int 0, .int 0, .int 1, .int 0, .int 0])), (a 4, .inr (6, [.ref (a 26), .int 0])), (a 5, .inr (7, [.ref (a 4), .int 200, .int 0, .int 0, .int 0, .int 0, .long 0, .ref (ad 0), .int 0, .int 0]))] H := hP
  have hD : va_D A [(a 43, .inr (5, [.ref (a 132), .ref (a 133), .ref (a 134), .ref (a 135), .ref (a 136), .int 0, .int 0, .int 1, .int 0, .int 0])), (a 4, .inr (6, [.ref (a 26), .int 0])), (a 5, .inr (7, [.ref (a 4), .int 200, .int 0, .int 0, .int 0, .int 0, .long 0, .ref (ad 0), .int 0, .int 0]))] := hD
  have hK : va_K D vwCl [] s := hK
  refine W.cs (cells' := 0) (slots' := 0) rfl rfl ?_
  refine lv_iconst (v := 0) hx hb dX5_read_26 (by decide) ?_
  refine lv_istore_n (lv' := [(3, .int 0), (0, .ref (a 43)), (1, .ref (a 5)), (2, .ref (a 7))]) hx hb dX5_read_27 rfl hl (by decide) rfl (fun ls hl => ?_)
  refine lv_iload_n hx hb dX5_read_28 rfl (lv_at hl 0 rfl) ?_
  refine lv_sipush (v := 200) hx hb dX5_read_29 (by decide) ?_
  refine lv_icmp_gt (tgt := 94) hx hb dX5_read_32 (by decide) (fun h9 => absurd h9 (by decide)) (fun _ => ?_)
  refine lv_aload_n hx hb dX5_read_35 rfl (lv_at hl 1 rfl) ?_
  have hc9 := (k_X5_isWhole l D ad a )
  refine z_calli (w0 := [(a 43, .inr (5, [.ref (a 132), .ref (a 133), .ref (a 134), .ref (a 135), .ref (a 136), .int 0, .int 0, .int 1, .int 0, .int 0]))]) (wr := [(a 4, .inr (6, [.ref (a 26), .int 0])), (a 5, .inr (7, [.ref (a 4), .int 200, .int 0, .int 0, .int 0, .int 0, .long 0, .ref (ad 0), .int 0, .int 0]))]) (va_runV (As := []) (rest := []) ⟨hx, hb, hml, hown, hts⟩ (hc9 _) (cwV 0 hts gX5_read_X5_isWhole rfl rfl rfl (by decide +kernel) ⟨Nat.le_of_ble_eq_true rfl, Nat.le_of_ble_eq_true rfl⟩) (z_preV hP hD hK hS hA hE hO [0] [] rfl (by decide +kernel) rfl 0 5 rfl rfl rfl) rfl rfl hl.1 rfl (lv_room (Nat.le_of_ble_eq_true rfl)) dX5_read_36 ⟨Nat.le_of_ble_eq_true rfl, Nat.le_of_ble_eq_true rfl⟩) hP hD hK hS hA [0] [1, 2] rfl rfl (by decide +kernel) (by decide +kernel) (fun r9 u9 H locs hw hP hD hK hS => ?_)
  obtain ⟨er9, rfl⟩ := hw
  have hP : va_P D vwCl [(a 4, .inr (6, [.ref (a 26), .int 0])), (a 5, .inr (7, [.ref (a 4), .int 200, .int 0, .int 0, .int 0, .int 0, .long 0, .ref (ad 0), .int 0, .int 0])), (a 43, .inr (5, [.ref (a 132), .ref (a 133), .ref (a 134), .ref (a 135), .ref (a 136), .int 0, .int 0, .int 1, .int 0, .int 0]))] H := hP
  have hD : va_D A [(a 4, .inr (6, [.ref (a 26), .int 0])), (a 5, .inr (7, [.ref (a 4), .int 200, .int 0, .int 0, .int 0, .int 0, .long 0, .ref (ad 0), .int 0, .int 0])), (a 43, .inr (5, [.ref (a 132), .ref (a 133), .ref (a 134), .ref (a 135), .ref (a 136), .int 0, .int 0, .int 1, .int 0, .int 0]))] := hD
  have hK : va_K D vwCl [] s := hK
  refine W.cs (cells' := 0) (slots' := 0) rfl rfl ?_
  obtain rfl := er9
  refine W.eq (g2 := F0 m 39 ls (.int 0 :: [])) rfl ?_
  refine lv_if_eq (tgt := 58) hx hb dX5_read_39 (by decide) (fun _ => ?_) (fun h9 => absurd (by decide) h9)
  refine lv_aload_n hx hb dX5_read_58 rfl (lv_at hl 1 rfl) ?_
  refine va_get (D := D) (ci := 5) (v := .int 1) (C := RX5) (T := TX5) (N := 10) hx hb hts hiX5 hown hK hP 2 rfl rfl 7 (by decide) (hts _ (List.mem_of_getElem? (i := 3) rfl)) (fun _ h9 => h9) rfl dX5_read_59 ?_
  refine lv_if_eq (tgt := 74) hx hb dX5_read_62 (by decide) (fun h9 => absurd h9 (by decide)) (fun _ => ?_)
  refine lv_aload_n hx hb dX5_read_65 rfl (lv_at hl 1 rfl) ?_
  refine lv_aload_n hx hb dX5_read_66 rfl (lv_at hl 2 rfl) ?_
  refine lv_aload_n hx hb dX5_read_67 rfl (lv_at hl 3 rfl) ?_
  have hc9 := (k_X5_readOne l D ad a )
  refine z_calli (w0 := [(a 5, .inr (7, [.ref (a 4), .int 200, .int 0, .int 0, .int 0, .int 0, .long 0, .ref (ad 0), .int 0, .int 0]))]) (wr := [(a 4, .inr (6, [.ref (a 26), .int 0])), (a 43, .inr (5, [.ref (a 132), .ref (a 133), .ref (a 134), .ref (a 135), .ref (a 136), .int 0, .int 0, .int 1, .int 0, .int 0]))]) (va_runV (As := [.ref (a 5), .ref (a 7)]) (rest := []) ⟨hx, hb, hml, hown, hts⟩ (hc9 _) (cwV 2 hts gX5_read_X5_readOne rfl rfl rfl (by decide +kernel) ⟨Nat.le_of_ble_eq_true rfl, Nat.le_of_ble_eq_true rfl⟩) (z_preV hP hD hK hS hA hE hO [1] [] rfl (by decide +kernel) rfl 2 5 rfl rfl rfl) rfl rfl hl.1 rfl (lv_room (Nat.le_of_ble_eq_true rfl)) dX5_read_68 ⟨Nat.le_of_ble_eq_true rfl, Nat.le_of_ble_eq_true rfl⟩) hP hD hK hS hA [1] [0, 2] rfl rfl (by decide +kernel) (by decide +kernel) (fun r9 u9 H locs hw hP hD hK hS => ?_)
  obtain ⟨er9, rfl⟩ := hw
  have hP : va_P D vwCl [(a 4, .inr (6, [.ref (a 26), .int 0])), (a 43, .inr (5, [.ref (a 132), .ref (a 133), .ref (a 134), .ref (a 135), .ref (a 136), .int 0, .int 0, .int 1, .int 0, .int 0])), (a 5, .inr (7, [.ref (a 4), .int 200, .int 0, .int 0, .int 0, .int 0, .long 0, .ref (ad 0), .int 1, .int 0]))] H := hP
  have hD : va_D A [(a 4, .inr (6, [.ref (a 26), .int 0])), (a 43, .inr (5, [.ref (a 132), .ref (a 133), .ref (a 134), .ref (a 135), .ref (a 136), .int 0, .int 0, .int 1, .int 0, .int 0])), (a 5, .inr (7, [.ref (a 4), .int 200, .int 0, .int 0, .int 0, .int 0, .long 0, .ref (ad 0), .int 1, .int 0]))] := hD
  have hK : va_K D vwCl [] s := hK
  refine W.cs (cells' := 0) (slots' := 0) rfl rfl ?_
  obtain rfl := er9
  refine W.eq (g2 := F0 m 71 ls (.int 0 :: [])) rfl ?_
  refine lv_goto (tgt := 79) hx hb dX5_read_71 (by decide) ?_
  refine lv_istore (lv' := [(4, .int 0), (3, .int 0), (0, .ref (a 43)), (1, .ref (a 5)), (2, .ref (a 7))]) hx hb dX5_read_79 hl (by decide) rfl (fun ls hl => ?_)
  refine lv_iload hx hb dX5_read_81 (lv_at hl 0 rfl) ?_
  refine lv_if_ne (tgt := 88) hx hb dX5_read_83 (by decide) (fun h9 => absurd (by decide) h9) (fun _ => ?_)
  refine lv_iconst (v := 0) hx hb dX5_read_86 (by decide) ?_
  refine W.widen (k := 0) (n := 0) (by decide) (by decide) ?_
  exact hret 0 ([(a 4, .inr (6, [.ref (a 26), .int 0])), (a 43, .inr (5, [.ref (a 132), .ref (a 133), .ref (a 134), .ref (a 135), .ref (a 136), .int 0, .int 0, .int 1, .int 0, .int 0])), (a 5, .inr (7, [.ref (a 4), .int 200, .int 0, .int 0, .int 0, .int 0, .long 0, .ref (ad 0), .int 1, .int 0]))], []) _ _ _ _ dX5_read_87 (by decide) ⟨rfl, rfl⟩ (hP.sub [0, 1, 2] rfl) (hK.sub [] rfl) (hD.sub [0, 1, 2] (by decide +kernel) rfl) hS
