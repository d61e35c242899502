theorem dX11_end_0 : decode cX11_end 0 = .ok (.iload_n 1, 1) := by decide +kernel
theorem dX11_end_1 : decode cX11_end 1 = .ok (.ifCond .lt 14, 3) := by decide +kernel
theorem dX11_end_4 : decode cX11_end 4 = .ok (.iload_n 1, 1) := by decide +kernel
theorem dX11_end_5 : decode cX11_end 5 = .ok (.aload_n 0, 1) := by decide +kernel
theorem dX11_end_6 : decode cX11_end 6 = .ok (.getfield 14, 3) := by decide +kernel
theorem dX11_end_9 : decode cX11_end 9 = .ok (.getfield 98, 3) := by decide +kernel
theorem dX11_end_12 : decode cX11_end 12 = .ok (.if_icmp .le 5, 3) := by decide +kernel
theorem dX11_end_15 : decode cX11_end 15 = .ok (.iconst 0, 1) := by decide +kernel
theorem dX11_end_16 : decode cX11_end 16 = .ok (.ireturn, 1) := by decide +kernel
theorem dX11_end_17 : decode cX11_end 17 = .ok (.aload_n 0, 1) := by decide +kernel
theorem dX11_end_18 : decode cX11_end 18 = .ok (.getfield 14, 3) := by decide +kernel
theorem dX11_end_21 : decode cX11_end 21 = .ok (.iload_n 1, 1) := by decide +kernel
theorem dX11_end_22 : decode cX11_end 22 = .ok (.putfield 98, 3) := by decide +kernel
theorem dX11_end_25 : decode cX11_end 25 = .ok (.iconst 1, 1) := by decide +kernel
theorem dX11_end_26 : decode cX11_end 26 = .ok (.ireturn, 1) := by decide +kernel
theorem dX11_place_0 : decode cX11_place 0 = .ok (.aload_n 0, 1) := by decide +kernel
theorem dX11_place_1 : decode cX11_place 1 = .ok (.getfield 38, 3) := by decide +kernel
theorem dX11_place_4 : decode cX11_place 4 = .ok (.getfield 215, 3) := by decide +kernel
theorem dX11_place_7 : decode cX11_place 7 = .ok (.iload_n 1, 1) := by decide +kernel
theorem dX11_place_8 : decode cX11_place 8 = .ok (.invokevirtual 139, 3) := by decide +kernel
theorem dX11_place_11 : decode cX11_place 11 = .ok (.ifCond .eq 12, 3) := by decide +kernel
theorem dX11_place_23 : decode cX11_place 23 = .ok (.iconst (-1), 1) := by decide +kernel
theorem dX11_place_24 : decode cX11_place 24 = .ok (.ireturn, 1) := by decide +kernel
theorem dX11_now_0 : decode cX11_now 0 = .ok (.iload_n 1, 1) := by decide +kernel
theorem dX11_now_1 : decode cX11_now 1 = .ok (.tableswitch 113 0 7 #[47, 55, 63, 71, 79, 88, 97, 105], 47) := by decide +kernel
theorem dX11_now_48 : decode cX11_now 48 = .ok (.aload_n 0, 1) := by decide +kernel
theorem dX11_now_49 : decode cX11_now 49 = .ok (.getfield 45, 3) := by decide +kernel
theorem dX11_now_52 : decode cX11_now 52 = .ok (.getfield 224, 3) := by decide +kernel
theorem dX11_now_55 : decode cX11_now 55 = .ok (.ireturn, 1) := by decide +kernel
theorem dX11_now_56 : decode cX11_now 56 = .ok (.aload_n 0, 1) := by decide +kernel
theorem dX11_now_57 : decode cX11_now 57 = .ok (.getfield 45, 3) := by decide +kernel
theorem dX11_now_60 : decode cX11_now 60 = .ok (.invokevirtual 227, 3) := by decide +kernel
theorem dX11_now_63 : decode cX11_now 63 = .ok (.ireturn, 1) := by decide +kernel
theorem dX11_now_64 : decode cX11_now 64 = .ok (.aload_n 0, 1) := by decide +kernel
theorem dX11_now_65 : decode cX11_now 65 = .ok (.getfield 45, 3) := by decide +kernel
theorem dX11_now_68 : decode cX11_now 68 = .ok (.invokevirtual 231, 3) := by decide +kernel
theorem dX11_now_71 : decode cX11_now 71 = .ok (.ireturn, 1) := by decide +kernel
theorem dX11_now_72 : decode cX11_now 72 = .ok (.aload_n 0, 1) := by decide +kernel
theorem dX11_now_73 : decode cX11_now 73 = .ok (.getfield 45, 3) := by decide +kernel
theorem dX11_now_76 : decode cX11_now 76 = .ok (.invokevirtual 234, 3) := by decide +kernel
theorem dX11_now_79 : decode cX11_now 79 = .ok (.ireturn, 1) := by decide +kernel
theorem dX11_now_80 : decode cX11_now 80 = .ok (.aload_n 0, 1) := by decide +kernel
theorem dX11_now_81 : decode cX11_now 81 = .ok (.getfield 45, 3) := by decide +kernel
theorem dX11_now_84 : decode cX11_now 84 = .ok (.iconst 0, 1) := by decide +kernel
theorem dX11_now_85 : decode cX11_now 85 = .ok (.invokevirtual 237, 3) := by decide +kernel
theorem dX11_now_88 : decode cX11_now 88 = .ok (.ireturn, 1) := by decide +kernel
theorem dX11_now_89 : decode cX11_now 89 = .ok (.aload_n 0, 1) := by decide +kernel
theorem dX11_now_90 : decode cX11_now 90 = .ok (.getfield 45, 3) := by decide +kernel
theorem dX11_now_93 : decode cX11_now 93 = .ok (.iconst 1, 1) := by decide +kernel
theorem dX11_now_94 : decode cX11_now 94 = .ok (.invokevirtual 237, 3) := by decide +kernel
theorem dX11_now_97 : decode cX11_now 97 = .ok (.ireturn, 1) := by decide +kernel
theorem dX11_now_98 : decode cX11_now 98 = .ok (.aload_n 0, 1) := by decide +kernel
theorem dX11_now_99 : decode cX11_now 99 = .ok (.getfield 45, 3) := by decide +kernel
theorem dX11_now_102 : decode cX11_now 102 = .ok (.invokevirtual 240, 3) := by decide +kernel
theorem dX11_now_105 : decode cX11_now 105 = .ok (.ireturn, 1) := by decide +kernel
theorem dX11_now_106 : decode cX11_now 106 = .ok (.aload_n 0, 1) := by decide +kernel
theorem dX11_now_107 : decode cX11_now 107 = .ok (.getfield 45, 3) := by decide +kernel
theorem dX11_now_110 : decode cX11_now 110 = .ok (.getfield 243, 3) := by decide +kernel
theorem dX11_now_113 : decode cX11_now 113 = .ok (.ireturn, 1) := by decide +kernel
theorem dX11_now_114 : decode cX11_now 114 = .ok (.iconst (-1), 1) := by decide +kernel
theorem dX11_now_115 : decode cX11_now 115 = .ok (.ireturn, 1) := by decide +kernel
theorem dX11_count_0 : decode cX11_count 0 = .ok (.iload_n 1, 1) := by decide +kernel
theorem dX11_count_1 : decode cX11_count 1 = .ok (.tableswitch 96 0 5 #[39, 50, 61, 69, 80, 88], 39) := by decide +kernel
theorem dX11_count_40 : decode cX11_count 40 = .ok (.aload_n 0, 1) := by decide +kernel
theorem dX11_count_41 : decode cX11_count 41 = .ok (.getfield 38, 3) := by decide +kernel
theorem dX11_count_44 : decode cX11_count 44 = .ok (.getfield 215, 3) := by decide +kernel
theorem dX11_count_47 : decode cX11_count 47 = .ok (.getfield 246, 3) := by decide +kernel
theorem dX11_count_50 : decode cX11_count 50 = .ok (.ireturn, 1) := by decide +kernel
theorem dX11_count_51 : decode cX11_count 51 = .ok (.aload_n 0, 1) := by decide +kernel
theorem dX11_count_52 : decode cX11_count 52 = .ok (.getfield 38, 3) := by decide +kernel
theorem dX11_count_55 : decode cX11_count 55 = .ok (.getfield 135, 3) := by decide +kernel
theorem dX11_count_58 : decode cX11_count 58 = .ok (.getfield 246, 3) := by decide +kernel
theorem dX11_count_61 : decode cX11_count 61 = .ok (.ireturn, 1) := by decide +kernel
theorem dX11_count_62 : decode cX11_count 62 = .ok (.aload_n 0, 1) := by decide +kernel
theorem dX11_count_63 : decode cX11_count 63 = .ok (.getfield 38, 3) := by decide +kernel
theorem dX11_count_66 : decode cX11_count 66 = .ok (.getfield 198, 3) := by decide +kernel
theorem dX11_count_69 : decode cX11_count 69 = .ok (.ireturn, 1) := by decide +kernel
theorem dX11_count_70 : decode cX11_count 70 = .ok (.aload_n 0, 1) := by decide +kernel
theorem dX11_count_71 : decode cX11_count 71 = .ok (.getfield 38, 3) := by decide +kernel
theorem dX11_count_74 : decode cX11_count 74 = .ok (.getfield 175, 3) := by decide +kernel
theorem dX11_count_77 : decode cX11_count 77 = .ok (.getfield 246, 3) := by decide +kernel
theorem dX11_count_80 : decode cX11_count 80 = .ok (.ireturn, 1) := by decide +kernel
theorem dX11_count_81 : decode cX11_count 81 = .ok (.aload_n 0, 1) := by decide +kernel
theorem dX11_count_82 : decode cX11_count 82 = .ok (.getfield 38, 3) := by decide +kernel
theorem dX11_count_85 : decode cX11_count 85 = .ok (.getfield 249, 3) := by decide +kernel
theorem dX11_count_88 : decode cX11_count 88 = .ok (.ireturn, 1) := by decide +kernel
theorem dX11_count_89 : decode cX11_count 89 = .ok (.aload_n 0, 1) := by decide +kernel
theorem dX11_count_90 : decode cX11_count 90 = .ok (.getfield 14, 3) := by decide +kernel
theorem dX11_count_93 : decode cX11_count 93 = .ok (.getfield 98, 3) := by decide +kernel
theorem dX11_count_96 : decode cX11_count 96 = .ok (.ireturn, 1) := by decide +kernel
theorem dX11_count_97 : decode cX11_count 97 = .ok (.iconst (-1), 1) := by decide +kernel
theorem dX11_count_98 : decode cX11_count 98 = .ok (.ireturn, 1) := by decide +kernel
theorem dX11_go_0 : decode cX11_go 0 = .ok (.aload_n 0, 1) := by decide +kernel
theorem dX11_go_1 : decode cX11_go 1 = .ok (.getfield 38, 3) := by decide +kernel
theorem dX11_go_4 : decode cX11_go 4 = .ok (.getfield 135, 3) := by decide +kernel
theorem dX11_go_7 : decode cX11_go 7 = .ok (.iload_n 1, 1) := by decide +kernel
theorem dX11_go_8 : decode cX11_go 8 = .ok (.invokevirtual 139, 3) := by decide +kernel
theorem dX11_go_11 : decode cX11_go 11 = .ok (.ifCond .eq 17, 3) := by decide +kernel
theorem dX11_go_28 : decode cX11_go 28 = .ok (.iconst (-1), 1) := by decide +kernel
theorem dX11_go_29 : decode cX11_go 29 = .ok (.ireturn, 1) := by decide +kernel
theorem dX11_take_0 : decode cX11_take 0 = .ok (.aload_n 0, 1) := by decide +kernel
theorem dX11_take_1 : decode cX11_take 1 = .ok (.getfield 38, 3) := by decide +kernel
theorem dX11_take_4 : decode cX11_take 4 = .ok (.getfield 135, 3) := by decide +kernel
theorem dX11_take_7 : decode cX11_take 7 = .ok (.iload_n 1, 1) := by decide +kernel
theorem dX11_take_8 : decode cX11_take 8 = .ok (.invokevirtual 139, 3) := by decide +kernel
theorem dX11_take_11 : decode cX11_take 11 = .ok (.ifCond .eq 17, 3) := by decide +kernel
theorem dX11_take_28 : decode cX11_take 28 = .ok (.iconst (-1), 1) := by decide +kernel
theorem dX11_take_29 : decode cX11_take 29 = .ok (.ireturn, 1) := by decide +kernel
theorem dX11_leave_0 : decode cX11_leave 0 = .ok (.aload_n 0, 1) := by decide +kernel
theorem dX11_leave_1 : decode cX11_leave 1 = .ok (.getfield 38, 3) := by decide +kernel
theorem dX11_leave_4 : decode cX11_leave 4 = .ok (.getfield 135, 3) := by decide +kernel
theorem dX11_leave_7 : decode cX11_leave 7 = .ok (.iload_n 1, 1) := by decide +kernel
theorem dX11_leave_8 : decode cX11_leave 8 = .ok (.invokevirtual 139, 3) := by decide +kernel
theorem dX11_leave_11 : decode cX11_leave 11 = .ok (.ifCond .eq 17, 3) := by decide +kernel
theorem dX11_leave_28 : decode cX11_leave 28 = .ok (.iconst (-1), 1) := by decide +kernel
theorem dX11_leave_29 : decode cX11_leave 29 = .ok (.ireturn, 1) := by decide +kernel
theorem dX11_funeral_0 : decode cX11_funeral 0 = .ok (.aload_n 0, 1) := by decide +kernel
theorem dX11_funeral_1 : decode cX11_funeral 1 = .ok (.getfield 38, 3) := by decide +kernel
theorem dX11_funeral_4 : decode cX11_funeral 4 = .ok (.getfield 215, 3) := by decide +kernel
theorem dX11_funeral_7 : decode cX11_funeral 7 = .ok (.iload_n 1, 1) := by decide +kernel
theorem dX11_funeral_8 : decode cX11_funeral 8 = .ok (.invokevirtual 139, 3) := by decide +kernel
theorem dX11_funeral_11 : decode cX11_funeral 11 = .ok (.ifCond .ne 5, 3) := by decide +kernel
theorem dX11_funeral_14 : decode cX11_funeral 14 = .ok (.iconst (-1), 1) := by decide +kernel
theorem dX11_funeral_15 : decode cX11_funeral 15 = .ok (.ireturn, 1) := by decide +kernel
theorem dX11_drawn_0 : decode cX11_drawn 0 = .ok (.iload_n 1, 1) := by decide +kernel
theorem dX11_drawn_1 : decode cX11_drawn 1 = .ok (.iconst 1, 1) := by decide +kernel
theorem dX11_drawn_2 : decode cX11_drawn 2 = .ok (.if_icmp .lt 22, 3) := by decide +kernel
theorem dX11_drawn_5 : decode cX11_drawn 5 = .ok (.iload_n 1, 1) := by decide +kernel
theorem dX11_drawn_6 : decode cX11_drawn 6 = .ok (.bipush 60, 2) := by decide +kernel
theorem dX11_drawn_8 : decode cX11_drawn 8 = .ok (.if_icmp .gt 16, 3) := by decide +kernel
theorem dX11_drawn_11 : decode cX11_drawn 11 = .ok (.aload_n 0, 1) := by decide +kernel
theorem dX11_drawn_12 : decode cX11_drawn 12 = .ok (.getfield 38, 3) := by decide +kernel
theorem dX11_drawn_15 : decode cX11_drawn 15 = .ok (.getfield 135, 3) := by decide +kernel
theorem dX11_drawn_18 : decode cX11_drawn 18 = .ok (.getfield 246, 3) := by decide +kernel
theorem dX11_drawn_21 : decode cX11_drawn 21 = .ok (.ifCond .ne 5, 3) := by decide +kernel
theorem dX11_drawn_24 : decode cX11_drawn 24 = .ok (.iconst (-1), 1) := by decide +kernel
theorem dX11_drawn_25 : decode cX11_drawn 25 = .ok (.ireturn, 1) := by decide +kernel
theorem dX11_next_0 : decode cX11_next 0 = .ok (.aload_n 0, 1) := by decide +kernel
theorem dX11_next_1 : decode cX11_next 1 = .ok (.getfield 38, 3) := by decide +kernel
theorem dX11_next_4 : decode cX11_next 4 = .ok (.getfield 135, 3) := by decide +kernel
theorem dX11_next_7 : decode cX11_next 7 = .ok (.iload_n 1, 1) := by decide +kernel
theorem dX11_next_8 : decode cX11_next 8 = .ok (.invokevirtual 139, 3) := by decide +kernel
theorem dX11_next_11 : decode cX11_next 11 = .ok (.ifCond .ne 5, 3) := by decide +kernel
theorem dX11_next_14 : decode cX11_next 14 = .ok (.iconst (-1), 1) := by decide +kernel
theorem dX11_next_15 : decode cX11_next 15 = .ok (.ireturn, 1) := by decide +kernel
theorem dX11_sorry_0 : decode cX11_sorry 0 = .ok (.iload_n 1, 1) := by decide +kernel
theorem dX11_sorry_1 : decode cX11_sorry 1 = .ok (.iconst 1, 1) := by decide +kernel
theorem dX11_sorry_2 : decode cX11_sorry 2 = .ok (.if_icmp .lt 10, 3) := by decide +kernel
theorem dX11_sorry_5 : decode cX11_sorry 5 = .ok (.iload_n 1, 1) := by decide +kernel
theorem dX11_sorry_6 : decode cX11_sorry 6 = .ok (.sipush 199, 3) := by decide +kernel
theorem dX11_sorry_9 : decode cX11_sorry 9 = .ok (.if_icmp .le 5, 3) := by decide +kernel
theorem dX11_sorry_12 : decode cX11_sorry 12 = .ok (.iconst (-1), 1) := by decide +kernel
theorem dX11_sorry_13 : decode cX11_sorry 13 = .ok (.ireturn, 1) := by decide +kernel
theorem dX11_sorry_14 : decode cX11_sorry 14 = .ok (.iconst 0, 1) := by decide +kernel
theorem dX11_sorry_15 : decode cX11_sorry 15 = .ok (.istore_n 2, 1) := by decide +kernel
theorem dX11_sorry_16 : decode cX11_sorry 16 = .ok (.iconst 0, 1) := by decide +kernel
theorem dX11_sorry_17 : decode cX11_sorry 17 = .ok (.istore_n 3, 1) := by decide +kernel
theorem dX11_sorry_18 : decode cX11_sorry 18 = .ok (.iload_n 3, 1) := by decide +kernel
theorem dX11_sorry_19 : decode cX11_sorry 19 = .ok (.aload_n 0, 1) := by decide +kernel
theorem dX11_sorry_20 : decode cX11_sorry 20 = .ok (.getfield 38, 3) := by decide +kernel
theorem dX11_sorry_23 : decode cX11_sorry 23 = .ok (.getfield 135, 3) := by decide +kernel
theorem dX11_sorry_26 : decode cX11_sorry 26 = .ok (.getfield 246, 3) := by decide +kernel
theorem dX11_sorry_29 : decode cX11_sorry 29 = .ok (.if_icmp .ge 27, 3) := by decide +kernel
theorem dX11_sorry_56 : decode cX11_sorry 56 = .ok (.iload_n 2, 1) := by decide +kernel
theorem dX11_sorry_57 : decode cX11_sorry 57 = .ok (.ireturn, 1) := by decide +kernel
theorem dX11_odds_0 : decode cX11_odds 0 = .ok (.aload_n 0, 1) := by decide +kernel
theorem dX11_odds_1 : decode cX11_odds 1 = .ok (.getfield 38, 3) := by decide +kernel
theorem dX11_odds_4 : decode cX11_odds 4 = .ok (.getfield 135, 3) := by decide +kernel
theorem dX11_odds_7 : decode cX11_odds 7 = .ok (.iload_n 1, 1) := by decide +kernel
theorem dX11_odds_8 : decode cX11_odds 8 = .ok (.invokevirtual 139, 3) := by decide +kernel
theorem dX11_odds_11 : decode cX11_odds 11 = .ok (.ifCond .eq 14, 3) := by decide +kernel
theorem dX11_odds_25 : decode cX11_odds 25 = .ok (.iconst (-1), 1) := by decide +kernel
theorem dX11_odds_26 : decode cX11_odds 26 = .ok (.ireturn, 1) := by decide +kernel
theorem dX11_toldOf_0 : decode cX11_toldOf 0 = .ok (.aload_n 0, 1) := by decide +kernel
theorem dX11_toldOf_1 : decode cX11_toldOf 1 = .ok (.getfield 38, 3) := by decide +kernel
theorem dX11_toldOf_4 : decode cX11_toldOf 4 = .ok (.getfield 175, 3) := by decide +kernel
theorem dX11_toldOf_7 : decode cX11_toldOf 7 = .ok (.iload_n 1, 1) := by decide +kernel
theorem dX11_toldOf_8 : decode cX11_toldOf 8 = .ok (.invokevirtual 139, 3) := by decide +kernel
theorem dX11_toldOf_11 : decode cX11_toldOf 11 = .ok (.ifCond .eq 28, 3) := by decide +kernel
theorem dX11_toldOf_39 : decode cX11_toldOf 39 = .ok (.iconst (-1), 1) := by decide +kernel
theorem dX11_toldOf_40 : decode cX11_toldOf 40 = .ok (.ireturn, 1) := by decide +kernel
theorem dX11_toldAt_0 : decode cX11_toldAt 0 = .ok (.iload_n 1, 1) := by decide +kernel
theorem dX11_toldAt_1 : decode cX11_toldAt 1 = .ok (.ifCond .lt 8, 3) := by decide +kernel
theorem dX11_toldAt_4 : decode cX11_toldAt 4 = .ok (.iload_n 1, 1) := by decide +kernel
theorem dX11_toldAt_5 : decode cX11_toldAt 5 = .ok (.iconst 4, 1) := by decide +kernel
theorem dX11_toldAt_6 : decode cX11_toldAt 6 = .ok (.if_icmp .lt 7, 3) := by decide +kernel
theorem dX11_toldAt_9 : decode cX11_toldAt 9 = .ok (.iconst (-1), 1) := by decide +kernel
theorem dX11_toldAt_10 : decode cX11_toldAt 10 = .ok (.goto 12, 3) := by decide +kernel
theorem dX11_toldAt_13 : decode cX11_toldAt 13 = .ok (.aload_n 0, 1) := by decide +kernel
theorem dX11_toldAt_14 : decode cX11_toldAt 14 = .ok (.getfield 70, 3) := by decide +kernel
theorem dX11_toldAt_17 : decode cX11_toldAt 17 = .ok (.getfield 328, 3) := by decide +kernel
theorem dX11_toldAt_20 : decode cX11_toldAt 20 = .ok (.iload_n 1, 1) := by decide +kernel
theorem dX11_toldAt_21 : decode cX11_toldAt 21 = .ok (.iaload, 1) := by decide +kernel
theorem dX11_toldAt_22 : decode cX11_toldAt 22 = .ok (.ireturn, 1) := by decide +kernel
theorem dX11_hidden_0 : decode cX11_hidden 0 = .ok (.iload_n 1, 1) := by decide +kernel
theorem dX11_hidden_1 : decode cX11_hidden 1 = .ok (.ifCond .lt 9, 3) := by decide +kernel
theorem dX11_hidden_4 : decode cX11_hidden 4 = .ok (.iload_n 1, 1) := by decide +kernel
theorem dX11_hidden_5 : decode cX11_hidden 5 = .ok (.bipush 7, 2) := by decide +kernel
theorem dX11_hidden_7 : decode cX11_hidden 7 = .ok (.if_icmp .lt 7, 3) := by decide +kernel
theorem dX11_hidden_10 : decode cX11_hidden 10 = .ok (.iconst (-1), 1) := by decide +kernel
theorem dX11_hidden_11 : decode cX11_hidden 11 = .ok (.goto 12, 3) := by decide +kernel
theorem dX11_hidden_14 : decode cX11_hidden 14 = .ok (.aload_n 0, 1) := by decide +kernel
theorem dX11_hidden_15 : decode cX11_hidden 15 = .ok (.getfield 70, 3) := by decide +kernel
theorem dX11_hidden_18 : decode cX11_hidden 18 = .ok (.getfield 341, 3) := by decide +kernel
theorem dX11_hidden_21 : decode cX11_hidden 21 = .ok (.iload_n 1, 1) := by decide +kernel
theorem dX11_hidden_22 : decode cX11_hidden 22 = .ok (.iaload, 1) := by decide +kernel
theorem dX11_hidden_23 : decode cX11_hidden 23 = .ok (.ireturn, 1) := by decide +kernel
theorem dX11_turns_0 : decode cX11_turns 0 = .ok (.aload_n 0, 1) := by decide +kernel
theorem dX11_turns_1 : decode cX11_turns 1 = .ok (.getfield 38, 3) := by decide +kernel
theorem dX11_turns_4 : decode cX11_turns 4 = .ok (.getfield 175, 3) := by decide +kernel
theorem dX11_turns_7 : decode cX11_turns 7 = .ok (.iload_n 1, 1) := by decide +kernel
theorem dX11_turns_8 : decode cX11_turns 8 = .ok (.invokevirtual 139, 3) := by decide +kernel
theorem dX11_turns_11 : decode cX11_turns 11 = .ok (.ifCond .eq 28, 3) := by decide +kernel
theorem dX11_turns_39 : decode cX11_turns 39 = .ok (.iconst (-1), 1) := by decide +kernel
theorem dX11_turns_40 : decode cX11_turns 40 = .ok (.ireturn, 1) := by decide +kernel
theorem dX11_tag_0 : decode cX11_tag 0 = .ok (.aload_n 0, 1) := by decide +kernel
theorem dX11_tag_1 : decode cX11_tag 1 = .ok (.getfield 38, 3) := by decide +kernel
theorem dX11_tag_4 : decode cX11_tag 4 = .ok (.getfield 175, 3) := by decide +kernel
theorem dX11_tag_7 : decode cX11_tag 7 = .ok (.iload_n 1, 1) := by decide +kernel
theorem dX11_tag_8 : decode cX11_tag 8 = .ok (.invokevirtual 139, 3) := by decide +kernel
theorem dX11_tag_11 : decode cX11_tag 11 = .ok (.ifCond .ne 5, 3) := by decide +kernel
theorem dX11_tag_14 : decode cX11_tag 14 = .ok (.iconst (-1), 1) := by decide +kernel
theorem dX11_tag_15 : decode cX11_tag 15 = .ok (.ireturn, 1) := by decide +kernel
theorem dX11_byteAt_0 : decode cX11_byteAt 0 = .ok (.aload_n 0, 1) := by decide +kernel
theorem dX11_byteAt_1 : decode cX11_byteAt 1 = .ok (.getfield 88, 3) := by decide +kernel
theorem dX11_byteAt_4 : decode cX11_byteAt 4 = .ok (.iload_n 1, 1) := by decide +kernel
theorem dX11_byteAt_5 : decode cX11_byteAt 5 = .ok (.invokevirtual 305, 3) := by decide +kernel
theorem dX11_byteAt_8 : decode cX11_byteAt 8 = .ok (.ireturn, 1) := by decide +kernel
theorem dX11_told_0 : decode cX11_told 0 = .ok (.iload_n 1, 1) := by decide +kernel
theorem dX11_told_1 : decode cX11_told 1 = .ok (.tableswitch 63 0 3 #[31, 39, 47, 55], 31) := by decide +kernel
theorem dX11_told_32 : decode cX11_told 32 = .ok (.aload_n 0, 1) := by decide +kernel
theorem dX11_told_33 : decode cX11_told 33 = .ok (.getfield 84, 3) := by decide +kernel
theorem dX11_told_36 : decode cX11_told 36 = .ok (.getfield 375, 3) := by decide +kernel
theorem dX11_told_39 : decode cX11_told 39 = .ok (.ireturn, 1) := by decide +kernel
theorem dX11_told_40 : decode cX11_told 40 = .ok (.aload_n 0, 1) := by decide +kernel
theorem dX11_told_41 : decode cX11_told 41 = .ok (.getfield 84, 3) := by decide +kernel
theorem dX11_told_44 : decode cX11_told 44 = .ok (.getfield 378, 3) := by decide +kernel
theorem dX11_told_47 : decode cX11_told 47 = .ok (.ireturn, 1) := by decide +kernel
theorem dX11_told_48 : decode cX11_told 48 = .ok (.aload_n 0, 1) := by decide +kernel
theorem dX11_told_49 : decode cX11_told 49 = .ok (.getfield 84, 3) := by decide +kernel
theorem dX11_told_52 : decode cX11_told 52 = .ok (.getfield 381, 3) := by decide +kernel
theorem dX11_told_55 : decode cX11_told 55 = .ok (.ireturn, 1) := by decide +kernel
theorem dX11_told_56 : decode cX11_told 56 = .ok (.aload_n 0, 1) := by decide +kernel
theorem dX11_told_57 : decode cX11_told 57 = .ok (.getfield 84, 3) := by decide +kernel
theorem dX11_told_60 : decode cX11_told 60 = .ok (.getfield 382, 3) := by decide +kernel
theorem dX11_told_63 : decode cX11_told 63 = .ok (.ireturn, 1) := by decide +kernel
theorem dX11_told_64 : decode cX11_told 64 = .ok (.iconst (-1), 1) := by decide +kernel
theorem dX11_told_65 : decode cX11_told 65 = .ok (.ireturn, 1) := by decide +kernel
theorem dX11_said_0 : decode cX11_said 0 = .ok (.aload_n 0, 1) := by decide +kernel
theorem dX11_said_1 : decode cX11_said 1 = .ok (.getfield 30, 3) := by decide +kernel
theorem dX11_said_4 : decode cX11_said 4 = .ok (.getfield 116, 3) := by decide +kernel
theorem dX11_said_7 : decode cX11_said 7 = .ok (.getfield 389, 3) := by decide +kernel
theorem dX11_said_10 : decode cX11_said 10 = .ok (.ifCond .eq 8, 3) := by decide +kernel
theorem dX11_said_18 : decode cX11_said 18 = .ok (.iconst (-1), 1) := by decide +kernel
theorem dX11_said_19 : decode cX11_said 19 = .ok (.ireturn, 1) := by decide +kernel
theorem dX11_restore_0 : decode cX11_restore 0 = .ok (.iload_n 1, 1) := by decide +kernel
theorem dX11_restore_1 : decode cX11_restore 1 = .ok (.ifCond .lt 24, 3) := by decide +kernel
theorem dX11_restore_4 : decode cX11_restore 4 = .ok (.iload_n 1, 1) := by decide +kernel
theorem dX11_restore_5 : decode cX11_restore 5 = .ok (.aload_n 0, 1) := by decide +kernel
theorem dX11_restore_6 : decode cX11_restore 6 = .ok (.getfield 49, 3) := by decide +kernel
theorem dX11_restore_9 : decode cX11_restore 9 = .ok (.arraylength, 1) := by decide +kernel
theorem dX11_restore_10 : decode cX11_restore 10 = .ok (.if_icmp .ge 15, 3) := by decide +kernel
theorem dX11_restore_13 : decode cX11_restore 13 = .ok (.aload_n 0, 1) := by decide +kernel
theorem dX11_restore_14 : decode cX11_restore 14 = .ok (.getfield 49, 3) := by decide +kernel
theorem dX11_restore_17 : decode cX11_restore 17 = .ok (.iload_n 1, 1) := by decide +kernel
theorem dX11_restore_18 : decode cX11_restore 18 = .ok (.aaload, 1) := by decide +kernel
theorem dX11_restore_19 : decode cX11_restore 19 = .ok (.getfield 400, 3) := by decide +kernel
theorem dX11_restore_22 : decode cX11_restore 22 = .ok (.ifCond .ne 5, 3) := by decide +kernel
theorem dX11_restore_25 : decode cX11_restore 25 = .ok (.iconst 0, 1) := by decide +kernel
theorem dX11_restore_26 : decode cX11_restore 26 = .ok (.ireturn, 1) := by decide +kernel
set_option maxRecDepth 20000 in
theorem ggX11_place_X2_has : GoodIn wsX11_place wsX2_has := goodIn_r _ [8, 9, 58, 59] (by decide +kernel) (by decide +kernel)
set_option maxRecDepth 20000 in
theorem gX11_place_X2_has : GoodIn wsX11_place (wsV RX11 139 RX2 yX2_has wsX2_has) := goodIn_app (goodIn_of _ (by decide +kernel)) ggX11_place_X2_has
set_option maxRecDepth 20000 in
theorem ggX11_now_X4_openOnes : GoodIn wsX11_now wsX4_openOnes := goodIn_r _ [8, 9, 10, 11, 12, 13, 14, 7, 15, 16, 17, 18, 19, 20, 21, 22, 23, 24, 25, 26, 27, 28, 29, 30, 31, 32, 33, 34, 35, 36, 37, 38, 39, 40, 41, 42, 43, 44, 45, 46, 47, 48, 49, 50, 51, 52, 53, 54, 55, 56, 57, 58, 104, 105, 106, 107, 108, 109, 110, 111, 112, 113, 114, 115, 116, 117, 118, 119, 120, 121, 122, 123, 124, 125] (by decide +kernel) (by decide +kernel)
set_option maxRecDepth 20000 in
theorem gX11_now_X4_openOnes : GoodIn wsX11_now (wsV RX11 227 RX4 yX4_openOnes wsX4_openOnes) := goodIn_app (goodIn_of _ (by decide +kernel)) ggX11_now_X4_openOnes
set_option maxRecDepth 20000 in
theorem ggX11_now_X4_carriedOnes : GoodIn wsX11_now wsX4_carriedOnes := goodIn_r _ [62, 9, 10, 11, 29, 104, 105, 106, 107, 108, 109, 110, 111, 112, 113, 114, 115, 116, 117, 118, 119, 120, 121, 122, 123, 124, 125] (by decide +kernel) (by decide +kernel)
set_option maxRecDepth 20000 in
theorem gX11_now_X4_carriedOnes : GoodIn wsX11_now (wsV RX11 231 RX4 yX4_carriedOnes wsX4_carriedOnes) := goodIn_app (goodIn_of _ (by decide +kernel)) ggX11_now_X4_carriedOnes
set_option maxRecDepth 20000 in
theorem ggX11_now_X4_meantOnes : GoodIn wsX11_now wsX4_meantOnes := goodIn_r _ [66, 9, 41, 11, 67, 68, 69, 7, 70, 31, 42, 43, 44, 45, 46, 47, 48, 49, 50, 51, 52, 53, 54, 55, 56, 57, 58, 71, 72, 73, 74, 10, 25, 26, 27, 28, 29, 30, 32, 33, 34, 35, 20, 36, 104, 105, 106, 107, 108, 109, 110, 111, 112, 113, 114, 115, 116, 117, 118, 119, 120, 121, 122, 123, 124, 125] (by decide +kernel) (by decide +kernel)
set_option maxRecDepth 20000 in
theorem gX11_now_X4_meantOnes : GoodIn wsX11_now (wsV RX11 234 RX4 yX4_meantOnes wsX4_meantOnes) := goodIn_app (goodIn_of _ (by decide +kernel)) ggX11_now_X4_meantOnes
set_option maxRecDepth 20000 in
theorem ggX11_now_X4_fated : GoodIn wsX11_now wsX4_fated := goodIn_r _ [78, 9, 46, 54, 55, 56, 7, 57, 58, 48, 49, 104, 105, 106, 107, 108, 109, 110, 111, 112, 113, 114, 115, 116, 117, 118, 119, 120, 121, 122, 123] (by decide +kernel) (by decide +kernel)
set_option maxRecDepth 20000 in
theorem gX11_now_X4_fated : GoodIn wsX11_now (wsV RX11 237 RX4 yX4_fated wsX4_fated) := goodIn_app (goodIn_of _ (by decide +kernel)) ggX11_now_X4_fated
set_option maxRecDepth 20000 in
theorem ggX11_now_X4_weptByAll : GoodIn wsX11_now wsX4_weptByAll := goodIn_r _ [82, 83, 84, 85, 7, 86, 9, 46, 87, 54, 55, 56, 57, 58, 48, 49, 104, 105, 106, 107, 108, 109, 110, 111, 112, 113, 114, 115, 116, 117, 118, 119, 120, 121, 122, 123] (by decide +kernel) (by decide +kernel)
set_option maxRecDepth 20000 in
theorem gX11_now_X4_weptByAll : GoodIn wsX11_now (wsV RX11 240 RX4 yX4_weptByAll wsX4_weptByAll) := goodIn_app (goodIn_of _ (by decide +kernel)) ggX11_now_X4_weptByAll
set_option maxRecDepth 20000 in
theorem ggX11_go_X2_has : GoodIn wsX11_go wsX2_has := goodIn_r _ [10, 11, 75, 76] (by decide +kernel) (by decide +kernel)
set_option maxRecDepth 20000 in
theorem gX11_go_X2_has : GoodIn wsX11_go (wsV RX11 139 RX2 yX2_has wsX2_has) := goodIn_app (goodIn_of _ (by decide +kernel)) ggX11_go_X2_has
set_option maxRecDepth 20000 in
theorem ggX11_take_X2_has : GoodIn wsX11_take wsX2_has := goodIn_r _ [10, 11, 79, 80] (by decide +kernel) (by decide +kernel)
set_option maxRecDepth 20000 in
theorem gX11_take_X2_has : GoodIn wsX11_take (wsV RX11 139 RX2 yX2_has wsX2_has) := goodIn_app (goodIn_of _ (by decide +kernel)) ggX11_take_X2_has
set_option maxRecDepth 20000 in
theorem ggX11_leave_X2_has : GoodIn wsX11_leave wsX2_has := goodIn_r _ [10, 11, 79, 80] (by decide +kernel) (by decide +kernel)
set_option maxRecDepth 20000 in
theorem gX11_leave_X2_has : GoodIn wsX11_leave (wsV RX11 139 RX2 yX2_has wsX2_has) := goodIn_app (goodIn_of _ (by decide +kernel)) ggX11_leave_X2_has
set_option maxRecDepth 20000 in
theorem ggX11_funeral_X2_has : GoodIn wsX11_funeral wsX2_has := goodIn_r _ [9, 10, 89, 90] (by decide +kernel) (by decide +kernel)
set_option maxRecDepth 20000 in
theorem gX11_funeral_X2_has : GoodIn wsX11_funeral (wsV RX11 139 RX2 yX2_has wsX2_has) := goodIn_app (goodIn_of _ (by decide +kernel)) ggX11_funeral_X2_has
set_option maxRecDepth 20000 in
theorem ggX11_next_X2_has : GoodIn wsX11_next wsX2_has := goodIn_r _ [9, 10, 66, 67] (by decide +kernel) (by decide +kernel)
set_option maxRecDepth 20000 in
theorem gX11_next_X2_has : GoodIn wsX11_next (wsV RX11 139 RX2 yX2_has wsX2_has) := goodIn_app (goodIn_of _ (by decide +kernel)) ggX11_next_X2_has
set_option maxRecDepth 20000 in
theorem ggX11_odds_X2_has : GoodIn wsX11_odds wsX2_has := goodIn_r _ [10, 11, 170, 171] (by decide +kernel) (by decide +kernel)
set_option maxRecDepth 20000 in
theorem gX11_odds_X2_has : GoodIn wsX11_odds (wsV RX11 139 RX2 yX2_has wsX2_has) := goodIn_app (goodIn_of _ (by decide +kernel)) ggX11_odds_X2_has
set_option maxRecDepth 20000 in
theorem ggX11_toldOf_X2_has : GoodIn wsX11_toldOf wsX2_has := goodIn_r _ [10, 11, 155, 156] (by decide +kernel) (by decide +kernel)
set_option maxRecDepth 20000 in
theorem gX11_toldOf_X2_has : GoodIn wsX11_toldOf (wsV RX11 139 RX2 yX2_has wsX2_has) := goodIn_app (goodIn_of _ (by decide +kernel)) ggX11_toldOf_X2_has
set_option maxRecDepth 20000 in
theorem ggX11_turns_X2_has : GoodIn wsX11_turns wsX2_has := goodIn_r _ [11, 12, 120, 121] (by decide +kernel) (by decide +kernel)
set_option maxRecDepth 20000 in
theorem gX11_turns_X2_has : GoodIn wsX11_turns (wsV RX11 139 RX2 yX2_has wsX2_has) := goodIn_app (goodIn_of _ (by decide +kernel)) ggX11_turns_X2_has
set_option maxRecDepth 20000 in
theorem ggX11_tag_X2_has : GoodIn wsX11_tag wsX2_has := goodIn_r _ [13, 14, 173, 174] (by decide +kernel) (by decide +kernel)
set_option maxRecDepth 20000 in
theorem gX11_tag_X2_has : GoodIn wsX11_tag (wsV RX11 139 RX2 yX2_has wsX2_has) := goodIn_app (goodIn_of _ (by decide +kernel)) ggX11_tag_X2_has
set_option maxRecDepth 20000 in
theorem ggX11_byteAt_X6_get : GoodIn wsX11_byteAt wsX6_get := goodIn_r _ [6, 7, 8, 25, 26] (by decide +kernel) (by decide +kernel)
set_option maxRecDepth 20000 in
theorem gX11_byteAt_X6_get : GoodIn wsX11_byteAt (wsV RX11 305 RX6 yX6_get wsX6_get) := goodIn_app (goodIn_of _ (by decide +kernel)) ggX11_byteAt_X6_get
def s_X11_end (p0 : Int32) : Int32 := if p0 < 0 then (0) else (if p0 ≤ 0 then (1) else (0))
def s_X11_now (p0 : Int32) : Int32 := if p0 = 0 then (0) else (if p0 = 1 then (0) else (if p0 = 2 then (0) else (if p0 = 3 then (0) else (if p0 = 4 then (0) else (if p0 = 5 then (0) else (if p0 = 6 then (0) else (if p0 = 7 then (0) else ((-1)))))))))
def s_X11_count (p0 : Int32) : Int32 := if p0 = 0 then (0) else (if p0 = 1 then (0) else (if p0 = 2 then (0) else (if p0 = 3 then (0) else (if p0 = 4 then (2) else (if p0 = 5 then (0) else ((-1)))))))
def s_X11_sorry (p0 : Int32) : Int32 := if p0 < 1 then ((-1)) else (if p0 ≤ 199 then (0) else ((-1)))
set_option maxHeartbeats 8000000 in
set_option maxRecDepth 100000 in
theorem k_X11_end (l : Launch) (D : va_G) (ad : Nat → Nat) (a : Nat → Nat) (p0 : Int32)  : z_Mi l yX11_end wsX11_end { frames := 0, cells := 0, slots := 0, locals := 0 } D ad [.ref (a 0), .int p0] [(a 0, .inr (10, [.ref (a 4), .ref (a 5), .ref (a 6), .ref (a 7), .ref (a 8), .ref (a 9), .ref (a 10), .ref (a 11), .ref (a 12), .int 0, .ref (a 13), .ref (a 102), .ref (a 14), .ref (a 15), .int (-1), .int (-1)])), (a 4, .inr (6, [.ref (a 26), .int 0]))] [] 0 0 (fun r9 u9 => r9 = s_X11_end p0 ∧ u9 = ([], [])) := by
  refine z_ofI (cc := cX11_end) (maxL := 2) (rt := .boolean) (by decide) rfl (Nat.le_of_ble_eq_true rfl) ?_
  intro p e s m below meth c Q A ls hx hb hml hown hts hin hK hP hD hA hE hO hS hl hret
  have hown : s.vm.findClass RX11 = some m.cls := hown
  have hiX11 : ∀ w ∈ wsX110, w ∈ wsX11_end := fun _ h9 => List.mem_cons_of_mem _ (List.mem_append_left _ (List.mem_append_right _ h9))
  have hiX6 : ∀ w ∈ wsX60, w ∈ wsX11_end := fun _ h9 => List.mem_cons_of_mem _ (List.mem_append_right _ h9)
  have hl : lv_has ls 2 [(0, .ref (a 0)), (1, .int p0)] := hl
  refine lv_iload_n hx hb dX11_end_0 rfl (lv_at hl 1 rfl) ?_
  refine lv_if_lt (tgt := 15) hx hb dX11_end_1 (by decide) (fun c_1 => ?_) (fun c_1 => ?_)
  · refine lv_iconst (v := 0) hx hb dX11_end_15 (by decide) ?_
    refine W.widen (k := 0) (n := 0) (by decide) (by decide) ?_
    exact hret 0 ([], []) _ _ _ _ dX11_end_16 (by decide) ⟨by unfold s_X11_end; rw [if_pos c_1], rfl⟩ (hP.sub [] rfl) (hK.sub [] rfl) (hD.sub [] (by decide +kernel) rfl) hS
  · refine lv_iload_n hx hb dX11_end_4 rfl (lv_at hl 1 rfl) ?_
    refine lv_aload_n hx hb dX11_end_5 rfl (lv_at hl 0 rfl) ?_
    refine va_get (D := D) (ci := 10) (v := .ref (a 4)) (C := RX11) (T := TX11) (N := 16) hx hb hts hiX11 hown hK hP 0 rfl rfl 0 (by decide) (hts _ (List.mem_of_getElem? (i := 1) rfl)) (fun _ h9 => h9) rfl dX11_end_6 ?_
    refine va_get (D := D) (ci := 6) (v := .int 0) (C := RX6) (T := TX6) (N := 2) hx hb hts hiX6 hown hK hP 1 rfl rfl 1 (by decide) (hts _ (List.mem_of_getElem? (i := 2) rfl)) (fun _ h9 => h9) rfl dX11_end_9 ?_
    refine lv_icmp_le (tgt := 17) hx hb dX11_end_12 (by decide) (fun c_2 => ?_) (fun c_2 => ?_)
    · refine lv_aload_n hx hb dX11_end_17 rfl (lv_at hl 0 rfl) ?_
      refine va_get (D := D) (ci := 10) (v := .ref (a 4)) (C := RX11) (T := TX11) (N := 16) hx hb hts hiX11 hown hK hP 0 rfl rfl 0 (by decide) (hts _ (List.mem_of_getElem? (i := 1) rfl)) (fun _ h9 => h9) rfl dX11_end_18 ?_
      refine lv_iload_n hx hb dX11_end_21 rfl (lv_at hl 1 rfl) ?_
      refine va_put (D := D) (ci := 6) (v := .int p0) (ty := tyX6 1) (C := RX6) (T := TX6) (N := 2) hx hb hts hiX6 tyX6 tyX6_ok nmX6 hown hK hP hD hS 1 rfl rfl 1 (by decide) (hts _ (List.mem_of_getElem? (i := 2) rfl)) (fun _ h9 => h9) rfl (tyX6_ok 1 (by decide)) rfl rfl (Nat.le_of_ble_eq_true rfl) dX11_end_22 (fun H locs hP hD hS => ?_)
      have hP : va_P D vwCl [(a 0, .inr (10, [.ref (a 4), .ref (a 5), .ref (a 6), .ref (a 7), .ref (a 8), .ref (a 9), .ref (a 10), .ref (a 11), .ref (a 12), .int 0, .ref (a 13), .ref (a 102), .ref (a 14), .ref (a 15), .int (-1), .int (-1)])), (a 4, .inr (6, [.ref (a 26), .int p0]))] H := hP
      have hD : va_D A [(a 0, .inr (10, [.ref (a 4), .ref (a 5), .ref (a 6), .ref (a 7), .ref (a 8), .ref (a 9), .ref (a 10), .ref (a 11), .ref (a 12), .int 0, .ref (a 13), .ref (a 102), .ref (a 14), .ref (a 15), .int (-1), .int (-1)])), (a 4, .inr (6, [.ref (a 26), .int p0]))] := hD
      refine lv_iconst (v := 1) hx hb dX11_end_25 (by decide) ?_
      refine W.widen (k := 0) (n := 0) (by decide) (by decide) ?_
      exact hret 1 ([], []) _ _ _ _ dX11_end_26 (by decide) ⟨by unfold s_X11_end; rw [if_neg c_1, if_pos c_2], rfl⟩ (hP.sub [] rfl) (hK.sub [] rfl) (hD.sub [] (by decide +kernel) rfl) hS
    · refine lv_iconst (v := 0) hx hb dX11_end_15 (by decide) ?_
      refine W.widen (k := 0) (n := 0) (by decide) (by decide) ?_
      exact hret 0 ([], []) _ _ _ _ dX11_end_16 (by decide) ⟨by unfold s_X11_end; rw [if_neg c_1, if_neg c_2], rfl⟩ (hP.sub [] rfl) (hK.sub [] rfl) (hD.sub [] (by decide +kernel) rfl) hS

set_option maxHeartbeats 8000000 in
set_option maxRecDepth 100000 in
theorem k_X11_place (l : Launch) (D : va_G) (ad : Nat → Nat) (a : Nat → Nat) (p0 : Int32) (p1 : Int32)  : z_Mi l yX11_place wsX11_place { frames := 1, cells := 0, slots := 0, locals := 21 } D ad [.ref (a 0), .int p0, .int p1] [(a 0, .inr (10, [.ref (a 4), .ref (a 5), .ref (a 6), .ref (a 7), .ref (a 8), .ref (a 9), .ref (a 10), .ref (a 11), .ref (a 12), .int 0, .ref (a 13), .ref (a 102), .ref (a 14), .ref (a 15), .int (-1), .int (-1)])), (a 7, .inr (8, [.ref (a 28), .ref (a 29), .ref (a 30), .int 0, .ref (a 31), .ref (a 32), .ref (a 33), .int 0, .ref (a 34), .ref (a 35), .ref (a 36), .int 2])), (a 28, .inr (2, [.ref (a 77), .int 0]))] [] 0 0 (fun r9 u9 => r9 = (-1) ∧ u9 = ([], [])) := by
  refine z_ofI (cc := cX11_place) (maxL := 3) (rt := .int) (by decide) rfl (Nat.le_of_ble_eq_true rfl) ?_
  intro p e s m below meth c Q A ls hx hb hml hown hts hin hK hP hD hA hE hO hS hl hret
  have hown : s.vm.findClass RX11 = some m.cls := hown
  have hiX11 : ∀ w ∈ wsX110, w ∈ wsX11_place := fun _ h9 => List.mem_cons_of_mem _ (List.mem_append_left _ (List.mem_append_left _ (List.mem_append_left _ (List.mem_append_right _ h9))))
  have hiX8 : ∀ w ∈ wsX80, w ∈ wsX11_place := fun _ h9 => List.mem_cons_of_mem _ (List.mem_append_left _ (List.mem_append_left _ (List.mem_append_right _ h9)))
  have hiX2 : ∀ w ∈ wsX20, w ∈ wsX11_place := fun _ h9 => List.mem_cons_of_mem _ (List.mem_append_left _ (List.mem_append_right _ h9))
  have hiX4 : ∀ w ∈ wsX40, w ∈ wsX11_place := fun _ h9 => List.mem_cons_of_mem _ (List.mem_append_right _ h9)
  have hl : lv_has ls 3 [(0, .ref (a 0)), (1, .int p0), (2, .int p1)] := hl
  refine lv_aload_n hx hb dX11_place_0 rfl (lv_at hl 0 rfl) ?_
  refine va_get (D := D) (ci := 10) (v := .ref (a 7)) (C := RX11) (T := TX11) (N := 16) hx hb hts hiX11 hown hK hP 0 rfl rfl 3 (by decide) (hts _ (List.mem_of_getElem? (i := 1) rfl)) (fun _ h9 => h9) rfl dX11_place_1 ?_
  refine va_get (D := D) (ci := 8) (v := .ref (a 28)) (C := RX8) (T := TX8) (N := 12) hx hb hts hiX8 hown hK hP 1 rfl rfl 0 (by decide) (hts _ (List.mem_of_getElem? (i := 2) rfl)) (fun _ h9 => h9) rfl dX11_place_4 ?_
  refine lv_iload_n hx hb dX11_place_7 rfl (lv_at hl 1 rfl) ?_
  have hc9 := (k_X2_has l D ad (a 28) (a 77) p0 )
  refine z_calli (w0 := [(a 28, .inr (2, [.ref (a 77), .int 0]))]) (wr := [(a 0, .inr (10, [.ref (a 4), .ref (a 5), .ref (a 6), .ref (a 7), .ref (a 8), .ref (a 9), .ref (a 10), .ref (a 11), .ref (a 12), .int 0, .ref (a 13), .ref (a 102), .ref (a 14), .ref (a 15), .int (-1), .int (-1)])), (a 7, .inr (8, [.ref (a 28), .ref (a 29), .ref (a 30), .int 0, .ref (a 31), .ref (a 32), .ref (a 33), .int 0, .ref (a 34), .ref (a 35), .ref (a 36), .int 2]))]) (va_runV (As := [.int p0]) (rest := []) ⟨hx, hb, hml, hown, hts⟩ (hc9 _) (cwV 1 hts gX11_place_X2_has rfl rfl rfl (by decide +kernel) ⟨Nat.le_of_ble_eq_true rfl, Nat.le_of_ble_eq_true rfl⟩) (z_preV hP hD hK hS hA hE hO [2] [] rfl (by decide +kernel) rfl 2 2 rfl rfl rfl) rfl rfl hl.1 rfl (lv_room (Nat.le_of_ble_eq_true rfl)) dX11_place_8 ⟨Nat.le_of_ble_eq_true rfl, Nat.le_of_ble_eq_true rfl⟩) hP hD hK hS hA [2] [0, 1] rfl rfl (by decide +kernel) (by decide +kernel) (fun r9 u9 H locs hw hP hD hK hS => ?_)
  obtain ⟨er9, rfl⟩ := hw
  have hP : va_P D vwCl [(a 0, .inr (10, [.ref (a 4), .ref (a 5), .ref (a 6), .ref (a 7), .ref (a 8), .ref (a 9), .ref (a 10), .ref (a 11), .ref (a 12), .int 0, .ref (a 13), .ref (a 102), .ref (a 14), .ref (a 15), .int (-1), .int (-1)])), (a 7, .inr (8, [.ref (a 28), .ref (a 29), .ref (a 30), .int 0, .ref (a 31), .ref (a 32), .ref (a 33), .int 0, .ref (a 34), .ref (a 35), .ref (a 36), .int 2])), (a 28, .inr (2, [.ref (a 77), .int 0]))] H := hP
  have hD : va_D A [(a 0, .inr (10, [.ref (a 4), .ref (a 5), .ref (a 6), .ref (a 7), .ref (a 8), .ref (a 9), .ref (a 10), .ref (a 11), .ref (a 12), .int 0, .ref (a 13), .ref (a 102), .ref (a 14), .ref (a 15), .int (-1), .int (-1)])), (a 7, .inr (8, [.ref (a 28), .ref (a 29), .ref (a 30), .int 0, .ref (a 31), .ref (a 32), .ref (a 33), .int 0, .ref (a 34), .ref (a 35), .ref (a 36), .int 2])), (a 28, .inr (2, [.ref (a 77), .int 0]))] := hD
  have hK : va_K D vwCl [] s := hK
  refine W.cs (cells' := 0) (slots' := 0) rfl rfl ?_
  obtain rfl := er9
  refine W.eq (g2 := F0 m 11 ls (.int 0 :: [])) rfl ?_
  refine lv_if_eq (tgt := 23) hx hb dX11_place_11 (by decide) (fun _ => ?_) (fun h9 => absurd (by decide) h9)
  refine lv_iconst (v := (-1)) hx hb dX11_place_23 (by decide) ?_
  refine W.widen (k := 0) (n := 0) (by decide) (by decide) ?_
  exact hret (-1) ([], []) _ _ _ _ dX11_place_24 rfl ⟨rfl, rfl⟩ (hP.sub [] rfl) (hK.sub [] rfl) (hD.sub [] (by decide +kernel) rfl) hS

set_option maxHeartbeats 8000000 in
set_option maxRecDepth 100000 in
theorem k_X11_now (l : Launch) (D : va_G) (ad : Nat → Nat) (a : Nat → Nat) (p0 : Int32)  : z_Mi l yX11_now wsX11_now { frames := 2, cells := 0, slots := 0, locals := 43 } D ad [.ref (a 0), .int p0] [(a 0, .inr (10, [.ref (a 4), .ref (a 5), .ref (a 6), .ref (a 7), .ref (a 8), .ref (a 9), .ref (a 10), .ref (a 11), .ref (a 12), .int 0, .ref (a 13), .ref (a 102), .ref (a 14), .ref (a 15), .int (-1), .int (-1)])), (a 7, .inr (8, [.ref (a 28), .ref (a 29), .ref (a 30), .int 0, .ref (a 31), .ref (a 32), .ref (a 33), .int 0, .ref (a 34), .ref (a 35), .ref (a 36), .int 2])), (a 8, .inr (4, [.ref (a 7), .int 0, .int 0, .int 0, .ref (a 37), .ref (a 38), .ref (a 39), .ref (a 40)])), (a 29, .inr (2, [.ref (a 78), .int 0])), (a 30, .inr (2, [.ref (a 79), .int 0]))] [] 0 0 (fun r9 u9 => r9 = s_X11_now p0 ∧ u9 = ([], [])) := by
  refine z_ofI (cc := cX11_now) (maxL := 2) (rt := .int) (by decide) rfl (Nat.le_of_ble_eq_true rfl) ?_
  intro p e s m below meth c Q A ls hx hb hml hown hts hin hK hP hD hA hE hO hS hl hret
  have hown : s.vm.findClass RX11 = some m.cls := hown
  have hiX11 : ∀ w ∈ wsX110, w ∈ wsX11_now := fun _ h9 => List.mem_cons_of_mem _ (List.mem_append_left _ (List.mem_append_left _ (List.mem_append_left _ (List.mem_append_right _ h9))))
  have hiX4 : ∀ w ∈ wsX40, w ∈ wsX11_now := fun _ h9 => List.mem_cons_of_mem _ (List.mem_append_left _ (List.mem_append_left _ (List.mem_append_right _ h9)))
  have hiX8 : ∀ w ∈ wsX80, w ∈ wsX11_now := fun _ h9 => List.mem_cons_of_mem _ (List.mem_append_left _ (List.mem_append_right _ h9))
  have hiX2 : ∀ w ∈ wsX20, w ∈ wsX11_now := fun _ h9 => List.mem_cons_of_mem _ (List.mem_append_right _ h9)
  have hl : lv_has ls 2 [(0, .ref (a 0)), (1, .int p0)] := hl
  refine lv_iload_n hx hb dX11_now_0 rfl (lv_at hl 1 rfl) ?_
  by_cases c_1 : p0 = 0
  · refine lv_tableIn (tgt := 48) hx hb dX11_now_1 (by rw [c_1]; decide) (by rw [c_1]; decide) (by rw [c_1]; rfl) (by decide) ?_
    refine lv_aload_n hx hb dX11_now_48 rfl (lv_at hl 0 rfl) ?_
    refine va_get (D := D) (ci := 10) (v := .ref (a 8)) (C := RX11) (T := TX11) (N := 16) hx hb hts hiX11 hown hK hP 0 rfl rfl 4 (by decide) (hts _ (List.mem_of_getElem? (i := 1) rfl)) (fun _ h9 => h9) rfl dX11_now_49 ?_
    refine va_get (D := D) (ci := 4) (v := .int 0) (C := RX4) (T := TX4) (N := 8) hx hb hts hiX4 hown hK hP 2 rfl rfl 1 (by decide) (hts _ (List.mem_of_getElem? (i := 2) rfl)) (fun _ h9 => h9) rfl dX11_now_52 ?_
    refine W.widen (k := 0) (n := 0) (by decide) (by decide) ?_
    exact hret 0 ([], []) _ _ _ _ dX11_now_55 rfl ⟨by unfold s_X11_now; rw [if_pos c_1], rfl⟩ (hP.sub [] rfl) (hK.sub [] rfl) (hD.sub [] (by decide +kernel) rfl) hS
  · skip
    by_cases c_2 : p0 = 1
    · refine lv_tableIn (tgt := 56) hx hb dX11_now_1 (by rw [c_2]; decide) (by rw [c_2]; decide) (by rw [c_2]; rfl) (by decide) ?_
      refine lv_aload_n hx hb dX11_now_56 rfl (lv_at hl 0 rfl) ?_
      refine va_get (D := D) (ci := 10) (v := .ref (a 8)) (C := RX11) (T := TX11) (N := 16) hx hb hts hiX11 hown hK hP 0 rfl rfl 4 (by decide) (hts _ (List.mem_of_getElem? (i := 1) rfl)) (fun _ h9 => h9) rfl dX11_now_57 ?_
      have hc9 := (k_X4_openOnes l D ad a )
      refine z_calli (w0 := [(a 7, .inr (8, [.ref (a 28), .ref (a 29), .ref (a 30), .int 0, .ref (a 31), .ref (a 32), .ref (a 33), .int 0, .ref (a 34), .ref (a 35), .ref (a 36), .int 2])), (a 8, .inr (4, [.ref (a 7), .int 0, .int 0, .int 0, .ref (a 37), .ref (a 38), .ref (a 39), .ref (a 40)])), (a 30, .inr (2, [.ref (a 79), .int 0]))]) (wr := [(a 0, .inr (10, [.ref (a 4), .ref (a 5), .ref (a 6), .ref (a 7), .ref (a 8), .ref (a 9), .ref (a 10), .ref (a 11), .ref (a 12), .int 0, .ref (a 13), .ref (a 102), .ref (a 14), .ref (a 15), .int (-1), .int (-1)])), (a 29, .inr (2, [.ref (a 78), .int 0]))]) (va_runV (As := []) (rest := []) ⟨hx, hb, hml, hown, hts⟩ (hc9 _) (cwV 0 hts gX11_now_X4_openOnes rfl rfl rfl (by decide +kernel) ⟨Nat.le_of_ble_eq_true rfl, Nat.le_of_ble_eq_true rfl⟩) (z_preV hP hD hK hS hA hE hO [1, 2, 4] [] rfl (by decide +kernel) rfl 2 4 rfl rfl rfl) rfl rfl hl.1 rfl (lv_room (Nat.le_of_ble_eq_true rfl)) dX11_now_60 ⟨Nat.le_of_ble_eq_true rfl, Nat.le_of_ble_eq_true rfl⟩) hP hD hK hS hA [1, 2, 4] [0, 3] rfl rfl (by decide +kernel) (by decide +kernel) (fun r9 u9 H locs hw hP hD hK hS => ?_)
      obtain ⟨er9, rfl⟩ := hw
      have hP : va_P D vwCl [(a 0, .inr (10, [.ref (a 4), .ref (a 5), .ref (a 6), .ref (a 7), .ref (a 8), .ref (a 9), .ref (a 10), .ref (a 11), .ref (a 12), .int 0, .ref (a 13), .ref (a 102), .ref (a 14), .ref (a 15), .int (-1), .int (-1)])), (a 29, .inr (2, [.ref (a 78), .int 0])), (a 7, .inr (8, [.ref (a 28), .ref (a 29), .ref (a 30), .int 0, .ref (a 31), .ref (a 32), .ref (a 33), .int 0, .ref (a 34), .ref (a 35), .ref (a 36), .int 2])), (a 8, .inr (4, [.ref (a 7), .int 0, .int 0, .int 0, .ref (a 37), .ref (a 38), .ref (a 39), .ref (a 40)])), (a 30, .inr (2, [.ref (a 79), .int 0]))] H := hP
      have hD : va_D A [(a 0, .inr (10, [.ref (a 4), .ref (a 5), .ref (a 6), .ref (a 7), .ref (a 8), .ref (a 9), .ref (a 10), .ref (a 11), .ref (a 12), .int 0, .ref (a 13), .ref (a 102), .ref (a 14), .ref (a 15), .int (-1), .int (-1)])), (a 29, .inr (2, [.ref (a 78), .int 0])), (a 7, .inr (8, [.ref (a 28), .ref (a 29), .ref (a 30), .int 0, .ref (a 31), .ref (a 32), .ref (a 33), .int 0, .ref (a 34), .ref (a 35), .ref (a 36), .int 2])), (a 8, .inr (4, [.ref (a 7), .int 0, .int 0, .int 0, .ref (a 37), .ref (a 38), .ref (a 39), .ref (a 40)])), (a 30, .inr (2, [.ref (a 79), .int 0]))] := hD
      have hK : va_K D vwCl [] s := hK
      refine W.cs (cells' := 0) (slots' := 0) rfl rfl ?_
      obtain rfl := er9
      refine W.eq (g2 := F0 m 63 ls (.int 0 :: [])) rfl ?_
      refine W.widen (k := 0) (n := 0) (by decide) (by decide) ?_
      exact hret 0 ([], []) _ _ _ _ dX11_now_63 rfl ⟨by unfold s_X11_now; rw [if_neg c_1, if_pos c_2], rfl⟩ (hP.sub [] rfl) (hK.sub [] rfl) (hD.sub [] (by decide +kernel) rfl) hS
    · skip
      by_cases c_3 : p0 = 2
      · refine lv_tableIn (tgt := 64) hx hb dX11_now_1 (by rw [c_3]; decide) (by rw [c_3]; decide) (by rw [c_3]; rfl) (by decide) ?_
        refine lv_aload_n hx hb dX11_now_64 rfl (lv_at hl 0 rfl) ?_
        refine va_get (D := D) (ci := 10) (v := .ref (a 8)) (C := RX11) (T := TX11) (N := 16) hx hb hts hiX11 hown hK hP 0 rfl rfl 4 (by decide) (hts _ (List.mem_of_getElem? (i := 1) rfl)) (fun _ h9 => h9) rfl dX11_now_65 ?_
        have hc9 := (k_X4_carriedOnes l D ad a )
        refine z_calli (w0 := [(a 7, .inr (8, [.ref (a 28), .ref (a 29), .ref (a 30), .int 0, .ref (a 31), .ref (a 32), .ref (a 33), .int 0, .ref (a 34), .ref (a 35), .ref (a 36), .int 2])), (a 8, .inr (4, [.ref (a 7), .int 0, .int 0, .int 0, .ref (a 37), .ref (a 38), .ref (a 39), .ref (a 40)])), (a 30, .inr (2, [.ref (a 79), .int 0]))]) (wr := [(a 0, .inr (10, [.ref (a 4), .ref (a 5), .ref (a 6), .ref (a 7), .ref (a 8), .ref (a 9), .ref (a 10), .ref (a 11), .ref (a 12), .int 0, .ref (a 13), .ref (a 102), .ref (a 14), .ref (a 15), .int (-1), .int (-1)])), (a 29, .inr (2, [.ref (a 78), .int 0]))]) (va_runV (As := []) (rest := []) ⟨hx, hb, hml, hown, hts⟩ (hc9 _) (cwV 0 hts gX11_now_X4_carriedOnes rfl rfl rfl (by decide +kernel) ⟨Nat.le_of_ble_eq_true rfl, Nat.le_of_ble_eq_true rfl⟩) (z_preV hP hD hK hS hA hE hO [1, 2, 4] [] rfl (by decide +kernel) rfl 2 4 rfl rfl rfl) rfl rfl hl.1 rfl (lv_room (Nat.le_of_ble_eq_true rfl)) dX11_now_68 ⟨Nat.le_of_ble_eq_true rfl, Nat.le_of_ble_eq_true rfl⟩) hP hD hK hS hA [1, 2, 4] [0, 3] rfl rfl (by decide +kernel) (by decide +kernel) (fun r9 u9 H locs hw hP hD hK hS => ?_)
        obtain ⟨er9, rfl⟩ := hw
        have hP : va_P D vwCl [(a 0, .inr (10, [.ref (a 4), .ref (a 5), .ref (a 6), .ref (a 7), .ref (a 8), .ref (a 9), .ref (a 10), .ref (a 11), .ref (a 12), .int 0, .ref (a 13), .ref (a 102), .ref (a 14), .ref (a 15), .int (-1), .int (-1)])), (a 29, .inr (2, [.ref (a 78), .int 0])), (a 7, .inr (8, [.ref (a 28), .ref (a 29), .ref (a 30), .int 0, .ref (a 31), .ref (a 32), .ref (a 33), .int 0, .ref (a 34), .ref (a 35), .ref (a 36), .int 2])), (a 8, .inr (4, [.ref (a 7), .int 0, .int 0, .int 0, .ref (a 37), .ref (a 38), .ref (a 39), .ref (a 40)])), (a 30, .inr (2, [.ref (a 79), .int 0]))] H := hP
        have hD : va_D A [(a 0, .inr (10, [.ref (a 4), .ref (a 5), .ref (a 6), .ref (a 7), .ref (a 8), .ref (a 9), .ref (a 10), .ref (a 11), .ref (a 12), .int 0, .ref (a 13), .ref (a 102), .ref (a 14), .ref (a 15), .int (-1), .int (-1)])), (a 29, .inr (2, [.ref (a 78), .int 0])), (a 7, .inr (8, [.ref (a 28), .ref (a 29), .ref (a 30), .int 0, .ref (a 31), .ref (a 32), .ref (a 33), .int 0, .ref (a 34), .ref (a 35), .ref (a 36), .int 2])), (a 8, .inr (4, [.ref (a 7), .int 0, .int 0, .int 0, .ref (a 37), .ref (a 38), .ref (a 39), .ref (a 40)])), (a 30, .inr (2, [.ref (a 79), .int 0]))] := hD
        have hK : va_K D vwCl [] s := hK
        refine W.cs (cells' := 0) (slots' := 0) rfl rfl ?_
        obtain rfl := er9
        refine W.eq (g2 := F0 m 71 ls (.int 0 :: [])) rfl ?_
        refine W.widen (k := 0) (n := 0) (by decide) (by decide) ?_
        exact hret 0 ([], []) _ _ _ _ dX11_now_71 rfl ⟨by unfold s_X11_now; rw [if_neg c_1, if_neg c_2, if_pos c_3], rfl⟩ (hP.sub [] rfl) (hK.sub [] rfl) (hD.sub [] (by decide +kernel) rfl) hS
      · skip
        by_cases c_4 : p0 = 3
        · refine lv_tableIn (tgt := 72) hx hb dX11_now_1 (by rw [c_4]; decide) (by rw [c_4]; decide) (by rw [c_4]; rfl) (by decide) ?_
          refine lv_aload_n hx hb dX11_now_72 rfl (lv_at hl 0 rfl) ?_
          refine va_get (D := D) (ci := 10) (v := .ref (a 8)) (C := RX11) (T := TX11) (N := 16) hx hb hts hiX11 hown hK hP 0 rfl rfl 4 (by decide) (hts _ (List.mem_of_getElem? (i := 1) rfl)) (fun _ h9 => h9) rfl dX11_now_73 ?_
          have hc9 := (k_X4_meantOnes l D ad a )
          refine z_calli (w0 := [(a 7, .inr (8, [.ref (a 28), .ref (a 29), .ref (a 30), .int 0, .ref (a 31), .ref (a 32), .ref (a 33), .int 0, .ref (a 34), .ref (a 35), .ref (a 36), .int 2])), (a 8, .inr (4, [.ref (a 7), .int 0, .int 0, .int 0, .ref (a 37), .ref (a 38), .ref (a 39), .ref (a 40)])), (a 29, .inr (2, [.ref (a 78), .int 0]))]) (wr := [(a 0, .inr (10, [.ref (a 4), .ref (a 5), .ref (a 6), .ref (a 7), .ref (a 8), .ref (a 9), .ref (a 10), .ref (a 11), .ref (a 12), .int 0, .ref (a 13), .ref (a 102), .ref (a 14), .ref (a 15), .int (-1), .int (-1)])), (a 30, .inr (2, [.ref (a 79), .int 0]))]) (va_runV (As := []) (rest := []) ⟨hx, hb, hml, hown, hts⟩ (hc9 _) (cwV 0 hts gX11_now_X4_meantOnes rfl rfl rfl (by decide +kernel) ⟨Nat.le_of_ble_eq_true rfl, Nat.le_of_ble_eq_true rfl⟩) (z_preV hP hD hK hS hA hE hO [1, 2, 3] [] rfl (by decide +kernel) rfl 2 4 rfl rfl rfl) rfl rfl hl.1 rfl (lv_room (Nat.le_of_ble_eq_true rfl)) dX11_now_76 ⟨Nat.le_of_ble_eq_true rfl, Nat.le_of_ble_eq_true rfl⟩) hP hD hK hS hA [1, 2, 3] [0, 4] rfl rfl (by decide +kernel) (by decide +kernel) (fun r9 u9 H locs hw hP hD hK hS => ?_)
          obtain ⟨er9, rfl⟩ := hw
          have hP : va_P D vwCl [(a 0, .inr (10, [.ref (a 4), .ref (a 5), .ref (a 6), .ref (a 7), .ref (a 8), .ref (a 9), .ref (a 10), .ref (a 11), .ref (a 12), .int 0, .ref (a 13), .ref (a 102), .ref (a 14), .ref (a 15), .int (-1), .int (-1)])), (a 30, .inr (2, [.ref (a 79), .int 0])), (a 7, .inr (8, [.ref (a 28), .ref (a 29), .ref (a 30), .int 0, .ref (a 31), .ref (a 32), .ref (a 33), .int 0, .ref (a 34), .ref (a 35), .ref (a 36), .int 2])), (a 8, .inr (4, [.ref (a 7), .int 0, .int 0, .int 0, .ref (a 37), .ref (a 38), .ref (a 39), .ref (a 40)])), (a 29, .inr (2, [.ref (a 78), .int 0]))] H := hP
          have hD : va_D A [(a 0, .inr (10, [.ref (a 4), .ref (a 5), .ref (a 6), .ref (a 7), .ref (a 8), .ref (a 9), .ref (a 10), .ref (a 11), .ref (a 12), .int 0, .ref (a 13), .ref (a 102), .ref (a 14), .ref (a 15), .int (-1), .int (-1)])), (a 30, .inr (2, [.ref (a 79), .int 0])), (a 7, .inr (8, [.ref (a 28), .ref (a 29), .ref (a 30), .int 0, .ref (a 31), .ref (a 32), .ref (a 33), .int 0, .ref (a 34), .ref (a 35), .ref (a 36), .int 2])), (a 8, .inr (4, [.ref (a 7), .int 0, .int 0, .int 0, .ref (a 37), .ref (a 38), .ref (a 39), .ref (a 40)])), (a 29, .inr (2, [.ref (a 78), .int 0]))] := hD
          have hK : va_K D vwCl [] s := hK
          refine W.cs (cells' := 0) (slots' := 0) rfl rfl ?_
          obtain rfl := er9
          refine W.eq (g2 := F0 m 79 ls (.int 0 :: [])) rfl ?_
          refine W.widen (k := 0) (n := 0) (by decide) (by decide) ?_
          exact hret 0 ([], []) _ _ _ _ dX11_now_79 rfl ⟨by unfold s_X11_now; rw [if_neg c_1, if_neg c_2, if_neg c_3, if_pos c_4], rfl⟩ (hP.sub [] rfl) (hK.sub [] rfl) (hD.sub [] (by decide +kernel) rfl) hS
        · skip
          by_cases c_5 : p0 = 4
          · refine lv_tableIn (tgt := 80) hx hb dX11_now_1 (by rw [c_5]; decide) (by rw [c_5]; decide) (by rw [c_5]; rfl) (by decide) ?_
            refine lv_aload_n hx hb dX11_now_80 rfl (lv_at hl 0 rfl) ?_
            refine va_get (D := D) (ci := 10) (v := .ref (a 8)) (C := RX11) (T := TX11) (N := 16) hx hb hts hiX11 hown hK hP 0 rfl rfl 4 (by decide) (hts _ (List.mem_of_getElem? (i := 1) rfl)) (fun _ h9 => h9) rfl dX11_now_81 ?_
            refine lv_iconst (v := 0) hx hb dX11_now_84 (by decide) ?_
            have hc9 := (k_X4_fated0 l D ad a )
            refine z_calli (w0 := [(a 7, .inr (8, [.ref (a 28), .ref (a 29), .ref (a 30), .int 0, .ref (a 31), .ref (a 32), .ref (a 33), .int 0, .ref (a 34), .ref (a 35), .ref (a 36), .int 2])), (a 8, .inr (4, [.ref (a 7), .int 0, .int 0, .int 0, .ref (a 37), .ref (a 38), .ref (a 39), .ref (a 40)]))]) (wr := [(a 0, .inr (10, [.ref (a 4), .ref (a 5), .ref (a 6), .ref (a 7), .ref (a 8), .ref (a 9), .ref (a 10), .ref (a 11), .ref (a 12), .int 0, .ref (a 13), .ref (a 102), .ref (a 14), .ref (a 15), .int (-1), .int (-1)])), (a 29, .inr (2, [.ref (a 78), .int 0])), (a 30, .inr (2, [.ref (a 79), .int 0]))]) (va_runV (As := [.int 0]) (rest := []) ⟨hx, hb, hml, hown, hts⟩ (hc9 _) (cwV 1 hts gX11_now_X4_fated rfl rfl rfl (by decide +kernel) ⟨Nat.le_of_ble_eq_true rfl, Nat.le_of_ble_eq_true rfl⟩) (z_preV hP hD hK hS hA hE hO [1, 2] [] rfl (by decide +kernel) rfl 2 4 rfl rfl rfl) rfl rfl hl.1 rfl (lv_room (Nat.le_of_ble_eq_true rfl)) dX11_now_85 ⟨Nat.le_of_ble_eq_true rfl, Nat.le_of_ble_eq_true rfl⟩) hP hD hK hS hA [1, 2] [0, 3, 4] rfl rfl (by decide +kernel) (by decide +kernel) (fun r9 u9 H locs hw hP hD hK hS => ?_)
            obtain ⟨er9, rfl⟩ := hw
            have hP : va_P D vwCl [(a 0, .inr (10, [.ref (a 4), .ref (a 5), .ref (a 6), .ref (a 7), .ref (a 8), .ref (a 9), .ref (a 10), .ref (a 11), .ref (a 12), .int 0, .ref (a 13), .ref (a 102), .ref (a 14), .ref (a 15), .int (-1), .int (-1)])), (a 29, .inr (2, [.ref (a 78), .int 0])), (a 30, .inr (2, [.ref (a 79), .int 0])), (a 7, .inr (8, [.ref (a 28), .ref (a 29), .ref (a 30), .int 0, .ref (a 31), .ref (a 32), .ref (a 33), .int 0, .ref (a 34), .ref (a 35), .ref (a 36), .int 2])), (a 8, .inr (4, [.ref (a 7), .int 0, .int 0, .int 0, .ref (a 37), .ref (a 38), .ref (a 39), .ref (a 40)]))] H := hP
            have hD : va_D A [(a 0, .inr (10, [.ref (a 4), .ref (a 5), .ref (a 6), .ref (a 7), .ref (a 8), .ref (a 9), .ref (a 10), .ref (a 11), .ref (a 12), .int 0, .ref (a 13), .ref (a 102), .ref (a 14), .ref (a 15), .int (-1), .int (-1)])), (a 29, .inr (2, [.ref (a 78), .int 0])), (a 30, .inr (2, [.ref (a 79), .int 0])), (a 7, .inr (8, [.ref (a 28), .ref (a 29), .ref (a 30), .int 0, .ref (a 31), .ref (a 32), .ref (a 33), .int 0, .ref (a 34), .ref (a 35), .ref (a 36), .int 2])), (a 8, .inr (4, [.ref (a 7), .int 0, .int 0, .int 0, .ref (a 37), .ref (a 38), .ref (a 39), .ref (a 40)]))] := hD
            have hK : va_K D vwCl [] s := hK
            refine W.cs (cells' := 0) (slots' := 0) rfl rfl ?_
            obtain rfl := er9
            refine W.eq (g2 := F0 m 88 ls (.int 0 :: [])) rfl ?_
            refine W.widen (k := 0) (n := 0) (by decide) (by decide) ?_
            exact hret 0 ([], []) _ _ _ _ dX11_now_88 rfl ⟨by unfold s_X11_now; rw [if_neg c_1, if_neg c_2, if_neg c_3, if_neg c_4, if_pos c_5], rfl⟩ (hP.sub [] rfl) (hK.sub [] rfl) (hD.sub [] (by decide +kernel) rfl) hS
          · skip
            by_cases c_6 : p0 = 5
            · refine lv_tableIn (tgt := 89) hx hb dX11_now_1 (by rw [c_6]; decide) (by rw [c_6]; decide) (by rw [c_6]; rfl) (by decide) ?_
              refine lv_aload_n hx hb dX11_now_89 rfl (lv_at hl 0 rfl) ?_
              refine va_get (D := D) (ci := 10) (v := .ref (a 8)) (C := RX11) (T := TX11) (N := 16) hx hb hts hiX11 hown hK hP 0 rfl rfl 4 (by decide) (hts _ (List.mem_of_getElem? (i := 1) rfl)) (fun _ h9 => h9) rfl dX11_now_90 ?_
              refine lv_iconst (v := 1) hx hb dX11_now_93 (by decide) ?_
              have hc9 := (k_X4_fated1 l D ad a )
              refine z_calli (w0 := [(a 7, .inr (8, [.ref (a 28), .ref (a 29), .ref (a 30), .int 0, .ref (a 31), .ref (a 32), .ref (a 33), .int 0, .ref (a 34), .ref (a 35), .ref (a 36), .int 2])), (a 8, .inr (4, [.ref (a 7), .int 0, .int 0, .int 0, .ref (a 37), .ref (a 38), .ref (a 39), .ref (a 40)]))]) (wr := [(a 0, .inr (10, [.ref (a 4), .ref (a 5), .ref (a 6), .ref (a 7), .ref (a 8), .ref (a 9), .ref (a 10), .ref (a 11), .ref (a 12), .int 0, .ref (a 13), .ref (a 102), .ref (a 14), .ref (a 15), .int (-1), .int (-1)])), (a 29, .inr (2, [.ref (a 78), .int 0])), (a 30, .inr (2, [.ref (a 79), .int 0]))]) (va_runV (As := [.int 1]) (rest := []) ⟨hx, hb, hml, hown, hts⟩ (hc9 _) (cwV 1 hts gX11_now_X4_fated rfl rfl rfl (by decide +kernel) ⟨Nat.le_of_ble_eq_true rfl, Nat.le_of_ble_eq_true rfl⟩) (z_preV hP hD hK hS hA hE hO [1, 2] [] rfl (by decide +kernel) rfl 2 4 rfl rfl rfl) rfl rfl hl.1 rfl (lv_room (Nat.le_of_ble_eq_true rfl)) dX11_now_94 ⟨Nat.le_of_ble_eq_true rfl, Nat.le_of_ble_eq_true rfl⟩) hP hD hK hS hA [1, 2] [0, 3, 4] rfl rfl (by decide +kernel) (by decide +kernel) (fun r9 u9 H locs hw hP hD hK hS => ?_)
              obtain ⟨er9, rfl⟩ := hw
              have hP : va_P D vwCl [(a 0, .inr (10, [.ref (a 4), .ref (a 5), .ref (a 6), .ref (a 7), .ref (a 8), .ref (a 9), .ref (a 10), .ref (a 11), .ref (a 12), .int 0, .ref (a 13), .ref (a 102), .ref (a 14), .ref (a 15), .int (-1), .int (-1)])), (a 29, .inr (2, [.ref (a 78), .int 0])), (a 30, .inr (2, [.ref (a 79), .int 0])), (a 7, .inr (8, [.ref (a 28), .ref (a 29), .ref (a 30), .int 0, .ref (a 31), .ref (a 32), .ref (a 33), .int 0, .ref (a 34), .ref (a 35), .ref (a 36), .int 2])), (a 8, .inr (4, [.ref (a 7), .int 0, .int 0, .int 0, .ref (a 37), .ref (a 38), .ref (a 39), .ref (a 40)]))] H := hP
              have hD : va_D A [(a 0, .inr (10, [.ref (a 4), .ref (a 5), .ref (a 6), .ref (a 7), .ref (a 8), .ref (a 9), .ref (a 10), .ref (a 11), .ref (a 12), .int 0, .ref (a 13), .ref (a 102), .ref (a 14), .ref (a 15), .int (-1), .int (-1)])), (a 29, .inr (2, [.ref (a 78), .int 0])), (a 30, .inr (2, [.ref (a 79), .int 0])), (a 7, .inr (8, [.ref (a 28), .ref (a 29), .ref (a 30), .int 0, .ref (a 31), .ref (a 32), .ref (a 33), .int 0, .ref (a 34), .ref (a 35), .ref (a 36), .int 2])), (a 8, .inr (4, [.ref (a 7), .int 0, .int 0, .int 0, .ref (a 37), .ref (a 38), .ref (a 39), .ref (a 40)]))] := hD
              have hK : va_K D vwCl [] s := hK
              refine W.cs (cells' := 0) (slots' := 0) rfl rfl ?_
              obtain rfl := er9
              refine W.eq (g2 := F0 m 97 ls (.int 0 :: [])) rfl ?_
              refine W.widen (k := 0) (n := 0) (by decide) (by decide) ?_
              exact hret 0 ([], []) _ _ _ _ dX11_now_97 rfl ⟨by unfold s_X11_now; rw [if_neg c_1, if_neg c_2, if_neg c_3, if_neg c_4, if_neg c_5, if_pos c_6], rfl⟩ (hP.sub [] rfl) (hK.sub [] rfl) (hD.sub [] (by decide +kernel) rfl) hS
            · skip
              by_cases c_7 : p0 = 6
              · refine lv_tableIn (tgt := 98) hx hb dX11_now_1 (by rw [c_7]; decide) (by rw [c_7]; decide) (by rw [c_7]; rfl) (by decide) ?_
                refine lv_aload_n hx hb dX11_now_98 rfl (lv_at hl 0 rfl) ?_
                refine va_get (D := D) (ci := 10) (v := .ref (a 8)) (C := RX11) (T := TX11) (N := 16) hx hb hts hiX11 hown hK hP 0 rfl rfl 4 (by decide) (hts _ (List.mem_of_getElem? (i := 1) rfl)) (fun _ h9 => h9) rfl dX11_now_99 ?_
                have hc9 := (k_X4_weptByAll l D ad a 0 )
                refine z_calli (w0 := [(a 7, .inr (8, [.ref (a 28), .ref (a 29), .ref (a 30), .int 0, .ref (a 31), .ref (a 32), .ref (a 33), .int 0, .ref (a 34), .ref (a 35), .ref (a 36), .int 2])), (a 8, .inr (4, [.ref (a 7), .int 0, .int 0, .int 0, .ref (a 37), .ref (a 38), .ref (a 39), .ref (a 40)]))]) (wr := [(a 0, .inr (10, [.ref (a 4), .ref (a 5), .ref (a 6), .ref (a 7), .ref (a 8), .ref (a 9), .ref (a 10), .ref (a 11), .ref (a 12), .int 0, .ref (a 13), .ref (a 102), .ref (a 14), .ref (a 15), .int (-1), .int (-1)])), (a 29, .inr (2, [.ref (a 78), .int 0])), (a 30, .inr (2, [.ref (a 79), .int 0]))]) (va_runV (As := []) (rest := []) ⟨hx, hb, hml, hown, hts⟩ (hc9 _) (cwV 0 hts gX11_now_X4_weptByAll rfl rfl rfl (by decide +kernel) ⟨Nat.le_of_ble_eq_true rfl, Nat.le_of_ble_eq_true rfl⟩) (z_preV hP hD hK hS hA hE hO [1, 2] [] rfl (by decide +kernel) rfl 2 4 rfl rfl rfl) rfl rfl hl.1 rfl (lv_room (Nat.le_of_ble_eq_true rfl)) dX11_now_102 ⟨Nat.le_of_ble_eq_true rfl, Nat.le_of_ble_eq_true rfl⟩) hP hD hK hS hA [1, 2] [0, 3, 4] rfl rfl (by decide +kernel) (by decide +kernel) (fun r9 u9 H locs hw hP hD hK hS => ?_)
                obtain ⟨er9, rfl⟩ := hw
                have hP : va_P D vwCl [(a 0, .inr (10, [.ref (a 4), .ref (a 5), .ref (a 6), .ref (a 7), .ref (a 8), .ref (a 9), .ref (a 10), .ref (a 11), .ref (a 12), .int 0, .ref (a 13), .ref (a 102), .ref (a 14), .ref (a 15), .int (-1), .int (-1)])), (a 29, .inr (2, [.ref (a 78), .int 0])), (a 30, .inr (2, [.ref (a 79), .int 0])), (a 7, .inr (8, [.ref (a 28), .ref (a 29), .ref (a 30), .int 0, .ref (a 31), .ref (a 32), .ref (a 33), .int 0, .ref (a 34), .ref (a 35), .ref (a 36), .int 2])), (a 8, .inr (4, [.ref (a 7), .int (nI 0), .int 0, .int 0, .ref (a 37), .ref (a 38), .ref (a 39), .ref (a 40)]))] H := hP
                have hD : va_D A [(a 0, .inr (10, [.ref (a 4), .ref (a 5), .ref (a 6), .ref (a 7), .ref (a 8), .ref (a 9), .ref (a 10), .ref (a 11), .ref (a 12), .int 0, .ref (a 13), .ref (a 102), .ref (a 14), .ref (a 15), .int (-1), .int (-1)])), (a 29, .inr (2, [.ref (a 78), .int 0])), (a 30, .inr (2, [.ref (a 79), .int 0])), (a 7, .inr (8, [.ref (a 28), .ref (a 29), .ref (a 30), .int 0, .ref (a 31), .ref (a 32), .ref (a 33), .int 0, .ref (a 34), .ref (a 35), .ref (a 36), .int 2])), (a 8, .inr (4, [.ref (a 7), .int (nI 0), .int 0, .int 0, .ref (a 37), .ref (a 38), .ref (a 39), .ref (a 40)]))] := hD
                have hK : va_K D vwCl [] s := hK
                refine W.cs (cells' := 0) (slots' := 0) rfl rfl ?_
                obtain rfl := er9
                refine W.eq (g2 := F0 m 105 ls (.int 0 :: [])) rfl ?_
                refine W.widen (k := 0) (n := 0) (by decide) (by decide) ?_
                exact hret 0 ([], []) _ _ _ _ dX11_now_105 rfl ⟨by unfold s_X11_now; rw [if_neg c_1, if_neg c_2, if_neg c_3, if_neg c_4, if_neg c_5, if_neg c_6, if_pos c_7], rfl⟩ (hP.sub [] rfl) (hK.sub [] rfl) (hD.sub [] (by decide +kernel) rfl) hS
              · skip
                by_cases c_8 : p0 = 7
                · refine lv_tableIn (tgt := 106) hx hb dX11_now_1 (by rw [c_8]; decide) (by rw [c_8]; decide) (by rw [c_8]; rfl) (by decide) ?_
                  refine lv_aload_n hx hb dX11_now_106 rfl (lv_at hl 0 rfl) ?_
                  refine va_get (D := D) (ci := 10) (v := .ref (a 8)) (C := RX11) (T := TX11) (N := 16) hx hb hts hiX11 hown hK hP 0 rfl rfl 4 (by decide) (hts _ (List.mem_of_getElem? (i := 1) rfl)) (fun _ h9 => h9) rfl dX11_now_107 ?_
                  refine va_get (D := D) (ci := 4) (v := .int 0) (C := RX4) (T := TX4) (N := 8) hx hb hts hiX4 hown hK hP 2 rfl rfl 2 (by decide) (hts _ (List.mem_of_getElem? (i := 3) rfl)) (fun _ h9 => h9) rfl dX11_now_110 ?_
                  refine W.widen (k := 0) (n := 0) (by decide) (by decide) ?_
                  exact hret 0 ([], []) _ _ _ _ dX11_now_113 rfl ⟨by unfold s_X11_now; rw [if_neg c_1, if_neg c_2, if_neg c_3, if_neg c_4, if_neg c_5, if_neg c_6, if_neg c_7, if_pos c_8], rfl⟩ (hP.sub [] rfl) (hK.sub [] rfl) (hD.sub [] (by decide +kernel) rfl) hS
                · skip
                  refine lv_tableOut (tgt := 114) hx hb dX11_now_1 (z_sw (M := 7) (n := 7) (by decide) (fun j hj e9 => by rcases (show j = 0 ∨ j = 1 ∨ j = 2 ∨ j = 3 ∨ j = 4 ∨ j = 5 ∨ j = 6 ∨ j = 7 by omega) with rfl | rfl | rfl | rfl | rfl | rfl | rfl | rfl <;> first | exact c_1 e9 | exact c_2 e9 | exact c_3 e9 | exact c_4 e9 | exact c_5 e9 | exact c_6 e9 | exact c_7 e9 | exact c_8 e9)) (by decide) ?_
                  refine lv_iconst (v := (-1)) hx hb dX11_now_114 (by decide) ?_
                  refine W.widen (k := 0) (n := 0) (by decide) (by decide) ?_
                  exact hret (-1) ([], []) _ _ _ _ dX11_now_115 rfl ⟨by unfold s_X11_now; rw [if_neg c_1, if_neg c_2, if_neg c_3, if_neg c_4, if_neg c_5, if_neg c_6, if_neg c_7, if_neg c_8], rfl⟩ (hP.sub [] rfl) (hK.sub [] rfl) (hD.sub [] (by decide +kernel) rfl) hS

set_option maxHeartbeats 8000000 in
set_option maxRecDepth 100000 in
theorem k_X11_count (l : Launch) (D : va_G) (ad : Nat → Nat) (a : Nat → Nat) (p0 : Int32)  : z_Mi l yX11_count wsX11_count { frames := 0, cells := 0, slots := 0, locals := 0 } D ad [.ref (a 0), .int p0] [(a 0, .inr (10, [.ref (a 4), .ref (a 5), .ref (a 6), .ref (a 7), .ref (a 8), .ref (a 9), .ref (a 10), .ref (a 11), .ref (a 12), .int 0, .ref (a 13), .ref (a 102), .ref (a 14), .ref (a 15), .int (-1), .int (-1)])), (a 4, .inr (6, [.ref (a 26), .int 0])), (a 7, .inr (8, [.ref (a 28), .ref (a 29), .ref (a 30), .int 0, .ref (a 31), .ref (a 32), .ref (a 33), .int 0, .ref (a 34), .ref (a 35), .ref (a 36), .int 2])), (a 28, .inr (2, [.ref (a 77), .int 0])), (a 29, .inr (2, [.ref (a 78), .int 0])), (a 30, .inr (2, [.ref (a 79), .int 0]))] [] 0 0 (fun r9 u9 => r9 = s_X11_count p0 ∧ u9 = ([], [])) := by
  refine z_ofI (cc := cX11_count) (maxL := 2) (rt := .int) (by decide) rfl (Nat.le_of_ble_eq_true rfl) ?_
  intro p e s m below meth c Q A ls hx hb hml hown hts hin hK hP hD hA hE hO hS hl hret
  have hown : s.vm.findClass RX11 = some m.cls := hown
  have hiX11 : ∀ w ∈ wsX110, w ∈ wsX11_count := fun _ h9 => List.mem_cons_of_mem _ (List.mem_append_left _ (List.mem_append_left _ (List.mem_append_left _ (List.mem_append_right _ h9))))
  have hiX8 : ∀ w ∈ wsX80, w ∈ wsX11_count := fun _ h9 => List.mem_cons_of_mem _ (List.mem_append_left _ (List.mem_append_left _ (List.mem_append_right _ h9)))
  have hiX2 : ∀ w ∈ wsX20, w ∈ wsX11_count := fun _ h9 => List.mem_cons_of_mem _ (List.mem_append_left _ (List.mem_append_right _ h9))
  have hiX6 : ∀ w ∈ wsX60, w ∈ wsX11_count := fun _ h9 => List.mem_cons_of_mem _ (List.mem_append_right _ h9)
  have hl : lv_has ls 2 [(0, .ref (a 0)), (1, .int p0)] := hl
  refine lv_iload_n hx hb dX11_count_0 rfl (lv_at hl 1 rfl) ?_
  by_cases c_1 : p0 = 0
  · refine lv_tableIn (tgt := 40) hx hb dX11_count_1 (by rw [c_1]; decide) (by rw [c_1]; decide) (by rw [c_1]; rfl) (by decide) ?_
    refine lv_aload_n hx hb dX11_count_40 rfl (lv_at hl 0 rfl) ?_
    refine va_get (D := D) (ci := 10) (v := .ref (a 7)) (C := RX11) (T := TX11) (N := 16) hx hb hts hiX11 hown hK hP 0 rfl rfl 3 (by decide) (hts _ (List.mem_of_getElem? (i := 1) rfl)) (fun _ h9 => h9) rfl dX11_count_41 ?_
    refine va_get (D := D) (ci := 8) (v := .ref (a 28)) (C := RX8) (T := TX8) (N := 12) hx hb hts hiX8 hown hK hP 2 rfl rfl 0 (by decide) (hts _ (List.mem_of_getElem? (i := 2) rfl)) (fun _ h9 => h9) rfl dX11_count_44 ?_
    refine va_get (D := D) (ci := 2) (v := .int 0) (C := RX2) (T := TX2) (N := 2) hx hb hts hiX2 hown hK hP 3 rfl rfl 1 (by decide) (hts _ (List.mem_of_getElem? (i := 3) rfl)) (fun _ h9 => h9) rfl dX11_count_47 ?_
    refine W.widen (k := 0) (n := 0) (by decide) (by decide) ?_
    exact hret 0 ([], []) _ _ _ _ dX11_count_50 rfl ⟨by unfold s_X11_count; rw [if_pos c_1], rfl⟩ (hP.sub [] rfl) (hK.sub [] rfl) (hD.sub [] (by decide +kernel) rfl) hS
  · skip
    by_cases c_2 : p0 = 1
    · refine lv_tableIn (tgt := 51) hx hb dX11_count_1 (by rw [c_2]; decide) (by rw [c_2]; decide) (by rw [c_2]; rfl) (by decide) ?_
      refine lv_aload_n hx hb dX11_count_51 rfl (lv_at hl 0 rfl) ?_
      refine va_get (D := D) (ci := 10) (v := .ref (a 7)) (C := RX11) (T := TX11) (N := 16) hx hb hts hiX11 hown hK hP 0 rfl rfl 3 (by decide) (hts _ (List.mem_of_getElem? (i := 1) rfl)) (fun _ h9 => h9) rfl dX11_count_52 ?_
      refine va_get (D := D) (ci := 8) (v := .ref (a 29)) (C := RX8) (T := TX8) (N := 12) hx hb hts hiX8 hown hK hP 2 rfl rfl 1 (by decide) (hts _ (List.mem_of_getElem? (i := 4) rfl)) (fun _ h9 => h9) rfl dX11_count_55 ?_
      refine va_get (D := D) (ci := 2) (v := .int 0) (C := RX2) (T := TX2) (N := 2) hx hb hts hiX2 hown hK hP 4 rfl rfl 1 (by decide) (hts _ (List.mem_of_getElem? (i := 3) rfl)) (fun _ h9 => h9) rfl dX11_count_58 ?_
      refine W.widen (k := 0) (n := 0) (by decide) (by decide) ?_
      exact hret 0 ([], []) _ _ _ _ dX11_count_61 rfl ⟨by unfold s_X11_count; rw [if_neg c_1, if_pos c_2], rfl⟩ (hP.sub [] rfl) (hK.sub [] rfl) (hD.sub [] (by decide +kernel) rfl) hS
    · skip
      by_cases c_3 : p0 = 2
      · refine lv_tableIn (tgt := 62) hx hb dX11_count_1 (by rw [c_3]; decide) (by rw [c_3]; decide) (by rw [c_3]; rfl) (by decide) ?_
        refine lv_aload_n hx hb dX11_count_62 rfl (lv_at hl 0 rfl) ?_
        refine va_get (D := D) (ci := 10) (v := .ref (a 7)) (C := RX11) (T := TX11) (N := 16) hx hb hts hiX11 hown hK hP 0 rfl rfl 3 (by decide) (hts _ (List.mem_of_getElem? (i := 1) rfl)) (fun _ h9 => h9) rfl dX11_count_63 ?_
        refine va_get (D := D) (ci := 8) (v := .int 0) (C := RX8) (T := TX8) (N := 12) hx hb hts hiX8 hown hK hP 2 rfl rfl 7 (by decide) (hts _ (List.mem_of_getElem? (i := 5) rfl)) (fun _ h9 => h9) rfl dX11_count_66 ?_
        refine W.widen (k := 0) (n := 0) (by decide) (by decide) ?_
        exact hret 0 ([], []) _ _ _ _ dX11_count_69 rfl ⟨by unfold s_X11_count; rw [if_neg c_1, if_neg c_2, if_pos c_3], rfl⟩ (hP.sub [] rfl) (hK.sub [] rfl) (hD.sub [] (by decide +kernel) rfl) hS
      · skip
        by_cases c_4 : p0 = 3
        · refine lv_tableIn (tgt := 70) hx hb dX11_count_1 (by rw [c_4]; decide) (by rw [c_4]; decide) (by rw [c_4]; rfl) (by decide) ?_
          refine lv_aload_n hx hb dX11_count_70 rfl (lv_at hl 0 rfl) ?_
          refine va_get (D := D) (ci := 10) (v := .ref (a 7)) (C := RX11) (T := TX11) (N := 16) hx hb hts hiX11 hown hK hP 0 rfl rfl 3 (by decide) (hts _ (List.mem_of_getElem? (i := 1) rfl)) (fun _ h9 => h9) rfl dX11_count_71 ?_
          refine va_get (D := D) (ci := 8) (v := .ref (a 30)) (C := RX8) (T := TX8) (N := 12) hx hb hts hiX8 hown hK hP 2 rfl rfl 2 (by decide) (hts _ (List.mem_of_getElem? (i := 6) rfl)) (fun _ h9 => h9) rfl dX11_count_74 ?_
          refine va_get (D := D) (ci := 2) (v := .int 0) (C := RX2) (T := TX2) (N := 2) hx hb hts hiX2 hown hK hP 5 rfl rfl 1 (by decide) (hts _ (List.mem_of_getElem? (i := 3) rfl)) (fun _ h9 => h9) rfl dX11_count_77 ?_
          refine W.widen (k := 0) (n := 0) (by decide) (by decide) ?_
          exact hret 0 ([], []) _ _ _ _ dX11_count_80 rfl ⟨by unfold s_X11_count; rw [if_neg c_1, if_neg c_2, if_neg c_3, if_pos c_4], rfl⟩ (hP.sub [] rfl) (hK.sub [] rfl) (hD.sub [] (by decide +kernel) rfl) hS
        · skip
          by_cases c_5 : p0 = 4
          · refine lv_tableIn (tgt := 81) hx hb dX11_count_1 (by rw [c_5]; decide) (by rw [c_5]; decide) (by rw [c_5]; rfl) (by decide) ?_
            refine lv_aload_n hx hb dX11_count_81 rfl (lv_at hl 0 rfl) ?_
            refine va_get (D := D) (ci := 10) (v := .ref (a 7)) (C := RX11) (T := TX11) (N := 16) hx hb hts hiX11 hown hK hP 0 rfl rfl 3 (by decide) (hts _ (List.mem_of_getElem? (i := 1) rfl)) (fun _ h9 => h9) rfl dX11_count_82 ?_
            refine va_get (D := D) (ci := 8) (v := .int 2) (C := RX8) (T := TX8) (N := 12) hx hb hts hiX8 hown hK hP 2 rfl rfl 11 (by decide) (hts _ (List.mem_of_getElem? (i := 7) rfl)) (fun _ h9 => h9) rfl dX11_count_85 ?_
            refine W.widen (k := 0) (n := 0) (by decide) (by decide) ?_
            exact hret 2 ([], []) _ _ _ _ dX11_count_88 rfl ⟨by unfold s_X11_count; rw [if_neg c_1, if_neg c_2, if_neg c_3, if_neg c_4, if_pos c_5], rfl⟩ (hP.sub [] rfl) (hK.sub [] rfl) (hD.sub [] (by decide +kernel) rfl) hS
          · skip
            by_cases c_6 : p0 = 5
            · refine lv_tableIn (tgt := 89) hx hb dX11_count_1 (by rw [c_6]; decide) (by rw [c_6]; decide) (by rw [c_6]; rfl) (by decide) ?_
              refine lv_aload_n hx hb dX11_count_89 rfl (lv_at hl 0 rfl) ?_
              refine va_get (D := D) (ci := 10) (v := .ref (a 4)) (C := RX11) (T := TX11) (N := 16) hx hb hts hiX11 hown hK hP 0 rfl rfl 0 (by decide) (hts _ (List.mem_of_getElem? (i := 8) rfl)) (fun _ h9 => h9) rfl dX11_count_90 ?_
              refine va_get (D := D) (ci := 6) (v := .int 0) (C := RX6) (T := TX6) (N := 2) hx hb hts hiX6 hown hK hP 1 rfl rfl 1 (by decide) (hts _ (List.mem_of_getElem? (i := 9) rfl)) (fun _ h9 => h9) rfl dX11_count_93 ?_
              refine W.widen (k := 0) (n := 0) (by decide) (by decide) ?_
              exact hret 0 ([], []) _ _ _ _ dX11_count_96 rfl ⟨by unfold s_X11_count; rw [if_neg c_1, if_neg c_2, if_neg c_3, if_neg c_4, if_neg c_5, if_pos c_6], rfl⟩ (hP.sub [] rfl) (hK.sub [] rfl) (hD.sub [] (by decide +kernel) rfl) hS
            · skip
              refine lv_tableOut (tgt := 97) hx hb dX11_count_1 (z_sw (M := 5) (n := 5) (by decide) (fun j hj e9 => by rcases (show j = 0 ∨ j = 1 ∨ j = 2 ∨ j = 3 ∨ j = 4 ∨ j = 5 by omega) with rfl | rfl | rfl | rfl | rfl | rfl <;> first | exact c_1 e9 | exact c_2 e9 | exact c_3 e9 | exact c_4 e9 | exact c_5 e9 | exact c_6 e9)) (by decide) ?_
              refine lv_iconst (v := (-1)) hx hb dX11_count_97 (by decide) ?_
              refine W.widen (k := 0) (n := 0) (by decide) (by decide) ?_
              exact hret (-1) ([], []) _ _ _ _ dX11_count_98 rfl ⟨by unfold s_X11_count; rw [if_neg c_1, if_neg c_2, if_neg c_3, if_neg c_4, if_neg c_5, if_neg c_6], rfl⟩ (hP.sub [] rfl) (hK.sub [] rfl) (hD.sub [] (by decide +kernel) rfl) hS

set_option maxHeartbeats 8000000 in
set_option maxRecDepth 100000 in
theorem k_X11_go (l : Launch) (D : va_G) (ad : Nat → Nat) (a : Nat → Nat) (p0 : Int32) (p1 : Int32)  : z_Mi l yX11_go wsX11_go { frames := 1, cells := 0, slots := 0, locals := 21 } D ad [.ref (a 0), .int p0, .int p1] [(a 0, .inr (10, [.ref (a 4), .ref (a 5), .ref (a 6), .ref (a 7), .ref (a 8), .ref (a 9), .ref (a 10), .ref (a 11), .ref (a 12), .int 0, .ref (a 13), .ref (a 102), .ref (a 14), .ref (a 15), .int (-1), .int (-1)])), (a 7, .inr (8, [.ref (a 28), .ref (a 29), .ref (a 30), .int 0, .ref (a 31), .ref (a 32), .ref (a 33), .int 0, .ref (a 34), .ref (a 35), .ref (a 36), .int 2])), (a 29, .inr (2, [.ref (a 78), .int 0]))] [] 0 0 (fun r9 u9 => r9 = (-1) ∧ u9 = ([], [])) := by
  refine z_ofI (cc := cX11_go) (maxL := 3) (rt := .int) (by decide) rfl (Nat.le_of_ble_eq_true rfl) ?_
  intro p e s m below meth c Q A ls hx hb hml hown hts hin hK hP hD hA hE hO hS hl hret
  have hown : s.vm.findClass RX11 = some m.cls := hown
  have hiX11 : ∀ w ∈ wsX110, w ∈ wsX11_go := fun _ h9 => List.mem_cons_of_mem _ (List.mem_append_left _ (List.mem_append_left _ (List.mem_append_left _ (List.mem_append_right _ h9))))
  have hiX8 : ∀ w ∈ wsX80, w ∈ wsX11_go := fun _ h9 => List.mem_cons_of_mem _ (List.mem_append_left _ (List.mem_append_left _ (List.mem_append_right _ h9)))
  have hiX2 : ∀ w ∈ wsX20, w ∈ wsX11_go := fun _ h9 => List.mem_cons_of_mem _ (List.mem_append_left _ (List.mem_append_right _ h9))
  have hiX4 : ∀ w ∈ wsX40, w ∈ wsX11_go := fun _ h9 => List.mem_cons_of_mem _ (List.mem_append_right _ h9)
  have hl : lv_has ls 3 [(0, .ref (a 0)), (1, .int p0), (2, .int p1)] := hl
  refine lv_aload_n hx hb dX11_go_0 rfl (lv_at hl 0 rfl) ?_
  refine va_get (D := D) (ci := 10) (v := .ref (a 7)) (C := RX11) (T := TX11) (N := 16) hx hb hts hiX11 hown hK hP 0 rfl rfl 3 (by decide) (hts _ (List.mem_of_getElem? (i := 1) rfl)) (fun _ h9 => h9) rfl dX11_go_1 ?_
  refine va_get (D := D) (ci := 8) (v := .ref (a 29)) (C := RX8) (T := TX8) (N := 12) hx hb hts hiX8 hown hK hP 1 rfl rfl 1 (by decide) (hts _ (List.mem_of_getElem? (i := 2) rfl)) (fun _ h9 => h9) rfl dX11_go_4 ?_
  refine lv_iload_n hx hb dX11_go_7 rfl (lv_at hl 1 rfl) ?_
  have hc9 := (k_X2_has l D ad (a 29) (a 78) p0 )
  refine z_calli (w0 := [(a 29, .inr (2, [.ref (a 78), .int 0]))]) (wr := [(a 0, .inr (10, [.ref (a 4), .ref (a 5), .ref (a 6), .ref (a 7), .ref (a 8), .ref (a 9), .ref (a 10), .ref (a 11), .ref (a 12), .int 0, .ref (a 13), .ref (a 102), .ref (a 14), .ref (a 15), .int (-1), .int (-1)])), (a 7, .inr (8, [.ref (a 28), .ref (a 29), .ref (a 30), .int 0, .ref (a 31), .ref (a 32), .ref (a 33), .int 0, .ref (a 34), .ref (a 35), .ref (a 36), .int 2]))]) (va_runV (As := [.int p0]) (rest := []) ⟨hx, hb, hml, hown, hts⟩ (hc9 _) (cwV 1 hts gX11_go_X2_has rfl rfl rfl (by decide +kernel) ⟨Nat.le_of_ble_eq_true rfl, Nat.le_of_ble_eq_true rfl⟩) (z_preV hP hD hK hS hA hE hO [2] [] rfl (by decide +kernel) rfl 2 2 rfl rfl rfl) rfl rfl hl.1 rfl (lv_room (Nat.le_of_ble_eq_true rfl)) dX11_go_8 ⟨Nat.le_of_ble_eq_true rfl, Nat.le_of_ble_eq_true rfl⟩) hP hD hK hS hA [2] [0, 1] rfl rfl (by decide +kernel) (by decide +kernel) (fun r9 u9 H locs hw hP hD hK hS => ?_)
  obtain ⟨er9, rfl⟩ := hw
  have hP : va_P D vwCl [(a 0, .inr (10, [.ref (a 4), .ref (a 5), .ref (a 6), .ref (a 7), .ref (a 8), .ref (a 9), .ref (a 10), .ref (a 11), .ref (a 12), .int 0, .ref (a 13), .ref (a 102), .ref (a 14), .ref (a 15), .int (-1), .int (-1)])), (a 7, .inr (8, [.ref (a 28), .ref (a 29), .ref (a 30), .int 0, .ref (a 31), .ref (a 32), .ref (a 33), .int 0, .ref (a 34), .ref (a 35), .ref (a 36), .int 2])), (a 29, .inr (2, [.ref (a 78), .int 0]))] H := hP
  have hD : va_D A [(a 0, .inr (10, [.ref (a 4), .ref (a 5), .ref (a 6), .ref (a 7), .ref (a 8), .ref (a 9), .ref (a 10), .ref (a 11), .ref (a 12), .int 0, .ref (a 13), .ref (a 102), .ref (a 14), .ref (a 15), .int (-1), .int (-1)])), (a 7, .inr (8, [.ref (a 28), .ref (a 29), .ref (a 30), .int 0, .ref (a 31), .ref (a 32), .ref (a 33), .int 0, .ref (a 34), .ref (a 35), .ref (a 36), .int 2])), (a 29, .inr (2, [.ref (a 78), .int 0]))] := hD
  have hK : va_K D vwCl [] s := hK
  refine W.cs (cells' := 0) (slots' := 0) rfl rfl ?_
  obtain rfl := er9
  refine W.eq (g2 := F0 m 11 ls (.int 0 :: [])) rfl ?_
  refine lv_if_eq (tgt := 28) hx hb dX11_go_11 (by decide) (fun _ => ?_) (fun h9 => absurd (by decide) h9)
  refine lv_iconst (v := (-1)) hx hb dX11_go_28 (by decide) ?_
  refine W.widen (k := 0) (n := 0) (by decide) (by decide) ?_
  exact hret (-1) ([], []) _ _ _ _ dX11_go_29 rfl ⟨rfl, rfl⟩ (hP.sub [] rfl) (hK.sub [] rfl) (hD.sub [] (by decide +kernel) rfl) hS

set_option maxHeartbeats 8000000 in
set_option maxRecDepth 100000 in
theorem k_X11_take (l : Launch) (D : va_G) (ad : Nat → Nat) (a : Nat → Nat) (p0 : Int32) (p1 : Int32)  : z_Mi l yX11_take wsX11_take { frames := 1, cells := 0, slots := 0, locals := 21 } D ad [.ref (a 0), .int p0, .int p1] [(a 0, .inr (10, [.ref (a 4), .ref (a 5), .ref (a 6), .ref (a 7), .ref (a 8), .ref (a 9), .ref (a 10), .ref (a 11), .ref (a 12), .int 0, .ref (a 13), .ref (a 102), .ref (a 14), .ref (a 15), .int (-1), .int (-1)])), (a 7, .inr (8, [.ref (a 28), .ref (a 29), .ref (a 30), .int 0, .ref (a 31), .ref (a 32), .ref (a 33), .int 0, .ref (a 34), .ref (a 35), .ref (a 36), .int 2])), (a 29, .inr (2, [.ref (a 78), .int 0]))] [] 0 0 (fun r9 u9 => r9 = (-1) ∧ u9 = ([], [])) := by
  refine z_ofI (cc := cX11_take) (maxL := 3) (rt := .int) (by decide) rfl (Nat.le_of_ble_eq_true rfl) ?_
  intro p e s m below meth c Q A ls hx hb hml hown hts hin hK hP hD hA hE hO hS hl hret
  have hown : s.vm.findClass RX11 = some m.cls := hown
  have hiX11 : ∀ w ∈ wsX110, w ∈ wsX11_take := fun _ h9 => List.mem_cons_of_mem _ (List.mem_append_left _ (List.mem_append_left _ (List.mem_append_left _ (List.mem_append_right _ h9))))
  have hiX8 : ∀ w ∈ wsX80, w ∈ wsX11_take := fun _ h9 => List.mem_cons_of_mem _ (List.mem_append_left _ (List.mem_append_left _ (List.mem_append_right _ h9)))
  have hiX2 : ∀ w ∈ wsX20, w ∈ wsX11_take := fun _ h9 => List.mem_cons_of_mem _ (List.mem_append_left _ (List.mem_append_right _ h9))
  have hiX4 : ∀ w ∈ wsX40, w ∈ wsX11_take := fun _ h9 => List.mem_cons_of_mem _ (List.mem_append_right _ h9)
  have hl : lv_has ls 3 [(0, .ref (a 0)), (1, .int p0), (2, .int p1)] := hl
  refine lv_aload_n hx hb dX11_take_0 rfl (lv_at hl 0 rfl) ?_
  refine va_get (D := D) (ci := 10) (v := .ref (a 7)) (C := RX11) (T := TX11) (N := 16) hx hb hts hiX11 hown hK hP 0 rfl rfl 3 (by decide) (hts _ (List.mem_of_getElem? (i := 1) rfl)) (fun _ h9 => h9) rfl dX11_take_1 ?_
  refine va_get (D := D) (ci := 8) (v := .ref (a 29)) (C := RX8) (T := TX8) (N := 12) hx hb hts hiX8 hown hK hP 1 rfl rfl 1 (by decide) (hts _ (List.mem_of_getElem? (i := 2) rfl)) (fun _ h9 => h9) rfl dX11_take_4 ?_
  refine lv_iload_n hx hb dX11_take_7 rfl (lv_at hl 1 rfl) ?_
  have hc9 := (k_X2_has l D ad (a 29) (a 78) p0 )
  refine z_calli (w0 := [(a 29, .inr (2, [.ref (a 78), .int 0]))]) (wr := [(a 0, .inr (10, [.ref (a 4), .ref (a 5), .ref (a 6), .ref (a 7), .ref (a 8), .ref (a 9), .ref (a 10), .ref (a 11), .ref (a 12), .int 0, .ref (a 13), .ref (a 102), .ref (a 14), .ref (a 15), .int (-1), .int (-1)])), (a 7, .inr (8, [.ref (a 28), .ref (a 29), .ref (a 30), .int 0, .ref (a 31), .ref (a 32), .ref (a 33), .int 0, .ref (a 34), .ref (a 35), .ref (a 36), .int 2]))]) (va_runV (As := [.int p0]) (rest := []) ⟨hx, hb, hml, hown, hts⟩ (hc9 _) (cwV 1 hts gX11_take_X2_has rfl rfl rfl (by decide +kernel) ⟨Nat.le_of_ble_eq_true rfl, Nat.le_of_ble_eq_true rfl⟩) (z_preV hP hD hK hS hA hE hO [2] [] rfl (by decide +kernel) rfl 2 2 rfl rfl rfl) rfl rfl hl.1 rfl (lv_room (Nat.le_of_ble_eq_true rfl)) dX11_take_8 ⟨Nat.le_of_ble_eq_true rfl, Nat.le_of_ble_eq_true rfl⟩) hP hD hK hS hA [2] [0, 1] rfl rfl (by decide +kernel) (by decide +kernel) (fun r9 u9 H locs hw hP hD hK hS => ?_)
  obtain ⟨er9, rfl⟩ := hw
  have hP : va_P D vwCl [(a 0, .inr (10, [.ref (a 4), .ref (a 5), .ref (a 6), .ref (a 7), .ref (a 8), .ref (a 9), .ref (a 10), .ref (a 11), .ref (a 12), .int 0, .ref (a 13), .ref (a 102), .ref (a 14), .ref (a 15), .int (-1), .int (-1)])), (a 7, .inr (8, [.ref (a 28), .ref (a 29), .ref (a 30), .int 0, .ref (a 31), .ref (a 32), .ref (a 33), .int 0, .ref (a 34), .ref (a 35), .ref (a 36), .int 2])), (a 29, .inr (2, [.ref (a 78), .int 0]))] H := hP
  have hD : va_D A [(a 0, .inr (10, [.ref (a 4), .ref (a 5), .ref (a 6), .ref (a 7), .ref (a 8), .ref (a 9), .ref (a 10), .ref (a 11), .ref (a 12), .int 0, .ref (a 13), .ref (a 102), .ref (a 14), .ref (a 15), .int (-1), .int (-1)])), (a 7, .inr (8, [.ref (a 28), .ref (a 29), .ref (a 30), .int 0, .ref (a 31), .ref (a 32), .ref (a 33), .int 0, .ref (a 34), .ref (a 35), .ref (a 36), .int 2])), (a 29, .inr (2, [.ref (a 78), .int 0]))] := hD
  have hK : va_K D vwCl [] s := hK
  refine W.cs (cells' := 0) (slots' := 0) rfl rfl ?_
  obtain rfl := er9
  refine W.eq (g2 := F0 m 11 ls (.int 0 :: [])) rfl ?_
  refine lv_if_eq (tgt := 28) hx hb dX11_take_11 (by decide) (fun _ => ?_) (fun h9 => absurd (by decide) h9)
  refine lv_iconst (v := (-1)) hx hb dX11_take_28 (by decide) ?_
  refine W.widen (k := 0) (n := 0) (by decide) (by decide) ?_
  exact hret (-1) ([], []) _ _ _ _ dX11_take_29 rfl ⟨rfl, rfl⟩ (hP.sub [] rfl) (hK.sub [] rfl) (hD.sub [] (by decide +kernel) rfl) hS

set_option maxHeartbeats 8000000 in
set_option maxRecDepth 100000 in
theorem k_X11_leave (l : Launch) (D : va_G) (ad : Nat → Nat) (a : Nat → Nat) (p0 : Int32) (p1 : Int32)  : z_Mi l yX11_leave wsX11_leave { frames := 1, cells := 0, slots := 0, locals := 21 } D ad [.ref (a 0), .int p0, .int p1] [(a 0, .inr (10, [.ref (a 4), .ref (a 5), .ref (a 6), .ref (a 7), .ref (a 8), .ref (a 9), .ref (a 10), .ref (a 11), .ref (a 12), .int 0, .ref (a 13), .ref (a 102), .ref (a 14), .ref (a 15), .int (-1), .int (-1)])), (a 7, .inr (8, [.ref (a 28), .ref (a 29), .ref (a 30), .int 0, .ref (a 31), .ref (a 32), .ref (a 33), .int 0, .ref (a 34), .ref (a 35), .ref (a 36), .int 2])), (a 29, .inr (2, [.ref (a 78), .int 0]))] [] 0 0 (fun r9 u9 => r9 = (-1) ∧ u9 = ([], [])) := by
  refine z_ofI (cc := cX11_leave) (maxL := 3) (rt := .int) (by decide) rfl (Nat.le_of_ble_eq_true rfl) ?_
  intro p e s m below meth c Q A ls hx hb hml hown hts hin hK hP hD hA hE hO hS hl hret
  have hown : s.vm.findClass RX11 = some m.cls := hown
  have hiX11 : ∀ w ∈ wsX110, w ∈ wsX11_leave := fun _ h9 => List.mem_cons_of_mem _ (List.mem_append_left _ (List.mem_append_left _ (List.mem_append_left _ (List.mem_append_right _ h9))))
  have hiX8 : ∀ w ∈ wsX80, w ∈ wsX11_leave := fun _ h9 => List.mem_cons_of_mem _ (List.mem_append_left _ (List.mem_append_left _ (List.mem_append_right _ h9)))
  have hiX2 : ∀ w ∈ wsX20, w ∈ wsX11_leave := fun _ h9 => List.mem_cons_of_mem _ (List.mem_append_left _ (List.mem_append_right _ h9))
  have hiX4 : ∀ w ∈ wsX40, w ∈ wsX11_leave := fun _ h9 => List.mem_cons_of_mem _ (List.mem_append_right _ h9)
  have hl : lv_has ls 3 [(0, .ref (a 0)), (1, .int p0), (2, .int p1)] := hl
  refine lv_aload_n hx hb dX11_leave_0 rfl (lv_at hl 0 rfl) ?_
  refine va_get (D := D) (ci := 10) (v := .ref (a 7)) (C := RX11) (T := TX11) (N := 16) hx hb hts hiX11 hown hK hP 0 rfl rfl 3 (by decide) (hts _ (List.mem_of_getElem? (i := 1) rfl)) (fun _ h9 => h9) rfl dX11_leave_1 ?_
  refine va_get (D := D) (ci := 8) (v := .ref (a 29)) (C := RX8) (T := TX8) (N := 12) hx hb hts hiX8 hown hK hP 1 rfl rfl 1 (by decide) (hts _ (List.mem_of_getElem? (i := 2) rfl)) (fun _ h9 => h9) rfl dX11_leave_4 ?_
  refine lv_iload_n hx hb dX11_leave_7 rfl (lv_at hl 1 rfl) ?_
  have hc9 := (k_X2_has l D ad (a 29) (a 78) p0 )
  refine z_calli (w0 := [(a 29, .inr (2, [.ref (a 78), .int 0]))]) (wr := [(a 0, .inr (10, [.ref (a 4), .ref (a 5), .ref (a 6), .ref (a 7), .ref (a 8), .ref (a 9), .ref (a 10), .ref (a 11), .ref (a 12), .int 0, .ref (a 13), .ref (a 102), .ref (a 14), .ref (a 15), .int (-1), .int (-1)])), (a 7, .inr (8, [.ref (a 28), .ref (a 29), .ref (a 30), .int 0, .ref (a 31), .ref (a 32), .ref (a 33), .int 0, .ref (a 34), .ref (a 35), .ref (a 36), .int 2]))]) (va_runV (As := [.int p0]) (rest := []) ⟨hx, hb, hml, hown, hts⟩ (hc9 _) (cwV 1 hts gX11_leave_X2_has rfl rfl rfl (by decide +kernel) ⟨Nat.le_of_ble_eq_true rfl, Nat.le_of_ble_eq_true rfl⟩) (z_preV hP hD hK hS hA hE hO [2] [] rfl (by decide +kernel) rfl 2 2 rfl rfl rfl) rfl rfl hl.1 rfl (lv_room (Nat.le_of_ble_eq_true rfl)) dX11_leave_8 ⟨Nat.le_of_ble_eq_true rfl, Nat.le_of_ble_eq_true rfl⟩) hP hD hK hS hA [2] [0, 1] rfl rfl (by decide +kernel) (by decide +kernel) (fun r9 u9 H locs hw hP hD hK hS => ?_)
  obtain ⟨er9, rfl⟩ := hw
  have hP : va_P D vwCl [(a 0, .inr (10, [.ref (a 4), .ref (a 5), .ref (a 6), .ref (a 7), .ref (a 8), .ref (a 9), .ref (a 10), .ref (a 11), .ref (a 12), .int 0, .ref (a 13), .ref (a 102), .ref (a 14), .ref (a 15), .int (-1), .int (-1)])), (a 7, .inr (8, [.ref (a 28), .ref (a 29), .ref (a 30), .int 0, .ref (a 31), .ref (a 32), .ref (a 33), .int 0, .ref (a 34), .ref (a 35), .ref (a 36), .int 2])), (a 29, .inr (2, [.ref (a 78), .int 0]))] H := hP
  have hD : va_D A [(a 0, .inr (10, [.ref (a 4), .ref (a 5), .ref (a 6), .ref (a 7), .ref (a 8), .ref (a 9), .ref (a 10), .ref (a 11), .ref (a 12), .int 0, .ref (a 13), .ref (a 102), .ref (a 14), .ref (a 15), .int (-1), .int (-1)])), (a 7, .inr (8, [.ref (a 28), .ref (a 29), .ref (a 30), .int 0, .ref (a 31), .ref (a 32), .ref (a 33), .int 0, .ref (a 34), .ref (a 35), .ref (a 36), .int 2])), (a 29, .inr (2, [.ref (a 78), .int 0]))] := hD
  have hK : va_K D vwCl [] s := hK
  refine W.cs (cells' := 0) (slots' := 0) rfl rfl ?_
  obtain rfl := er9
  refine W.eq (g2 := F0 m 11 ls (.int 0 :: [])) rfl ?_
  refine lv_if_eq (tgt := 28) hx hb dX11_leave_11 (by decide) (fun _ => ?_) (fun h9 => absurd (by decide) h9)
  refine lv_iconst (v := (-1)) hx hb dX11_leave_28 (by decide) ?_
  refine W.widen (k := 0) (n := 0) (by decide) (by decide) ?_
  exact hret (-1) ([], []) _ _ _ _ dX11_leave_29 rfl ⟨rfl, rfl⟩ (hP.sub [] rfl) (hK.sub [] rfl) (hD.sub [] (by decide +kernel) rfl) hS

set_option maxHeartbeats 8000000 in
set_option maxRecDepth 100000 in
theorem k_X11_funeral (l : Launch) (D : va_G) (ad : Nat → Nat) (a : Nat → Nat) (p0 : Int32)  : z_Mi l yX11_funeral wsX11_funeral { frames := 1, cells := 0, slots := 0, locals := 21 } D ad [.ref (a 0), .int p0] [(a 0, .inr (10, [.ref (a 4), .ref (a 5), .ref (a 6), .ref (a 7), .ref (a 8), .ref (a 9), .ref (a 10), .ref (a 11), .ref (a 12), .int 0, .ref (a 13), .ref (a 102), .ref (a 14), .ref (a 15), .int (-1), .int (-1)])), (a 7, .inr (8, [.ref (a 28), .ref (a 29), .ref (a 30), .int 0, .ref (a 31), .ref (a 32), .ref (a 33), .int 0, .ref (a 34), .ref (a 35), .ref (a 36), .int 2])), (a 28, .inr (2, [.ref (a 77), .int 0]))] [] 0 0 (fun r9 u9 => r9 = (-1) ∧ u9 = ([], [])) := by
  refine z_ofI (cc := cX11_funeral) (maxL := 2) (rt := .int) (by decide) rfl (Nat.le_of_ble_eq_true rfl) ?_
  intro p e s m below meth c Q A ls hx hb hml hown hts hin hK hP hD hA hE hO hS hl hret
  have hown : s.vm.findClass RX11 = some m.cls := hown
  have hiX11 : ∀ w ∈ wsX110, w ∈ wsX11_funeral := fun _ h9 => List.mem_cons_of_mem _ (List.mem_append_left _ (List.mem_append_left _ (List.mem_append_left _ (List.mem_append_right _ h9))))
  have hiX8 : ∀ w ∈ wsX80, w ∈ wsX11_funeral := fun _ h9 => List.mem_cons_of_mem _ (List.mem_append_left _ (List.mem_append_left _ (List.mem_append_right _ h9)))
  have hiX2 : ∀ w ∈ wsX20, w ∈ wsX11_funeral := fun _ h9 => List.mem_cons_of_mem _ (List.mem_append_left _ (List.mem_append_right _ h9))
  have hiX4 : ∀ w ∈ wsX40, w ∈ wsX11_funeral := fun _ h9 => List.mem_cons_of_mem _ (List.mem_append_right _ h9)
  have hl : lv_has ls 2 [(0, .ref (a 0)), (1, .int p0)] := hl
  refine lv_aload_n hx hb dX11_funeral_0 rfl (lv_at hl 0 rfl) ?_
  refine va_get (D := D) (ci := 10) (v := .ref (a 7)) (C := RX11) (T := TX11) (N := 16) hx hb hts hiX11 hown hK hP 0 rfl rfl 3 (by decide) (hts _ (List.mem_of_getElem? (i := 1) rfl)) (fun _ h9 => h9) rfl dX11_funeral_1 ?_
  refine va_get (D := D) (ci := 8) (v := .ref (a 28)) (C := RX8) (T := TX8) (N := 12) hx hb hts hiX8 hown hK hP 1 rfl rfl 0 (by decide) (hts _ (List.mem_of_getElem? (i := 2) rfl)) (fun _ h9 => h9) rfl dX11_funeral_4 ?_
  refine lv_iload_n hx hb dX11_funeral_7 rfl (lv_at hl 1 rfl) ?_
  have hc9 := (k_X2_has l D ad (a 28) (a 77) p0 )
  refine z_calli (w0 := [(a 28, .inr (2, [.ref (a 77), .int 0]))]) (wr := [(a 0, .inr (10, [.ref (a 4), .ref (a 5), .ref (a 6), .ref (a 7), .ref (a 8), .ref (a 9), .ref (a 10), .ref (a 11), .ref (a 12), .int 0, .ref (a 13), .ref (a 102), .ref (a 14), .ref (a 15), .int (-1), .int (-1)])), (a 7, .inr (8, [.ref (a 28), .ref (a 29), .ref (a 30), .int 0, .ref (a 31), .ref (a 32), .ref (a 33), .int 0, .ref (a 34), .ref (a 35), .ref (a 36), .int 2]))]) (va_runV (As := [.int p0]) (rest := []) ⟨hx, hb, hml, hown, hts⟩ (hc9 _) (cwV 1 hts gX11_funeral_X2_has rfl rfl rfl (by decide +kernel) ⟨Nat.le_of_ble_eq_true rfl, Nat.le_of_ble_eq_true rfl⟩) (z_preV hP hD hK hS hA hE hO [2] [] rfl (by decide +kernel) rfl 2 2 rfl rfl rfl) rfl rfl hl.1 rfl (lv_room (Nat.le_of_ble_eq_true rfl)) dX11_funeral_8 ⟨Nat.le_of_ble_eq_true rfl, Nat.le_of_ble_eq_true rfl⟩) hP hD hK hS hA [2] [0, 1] rfl rfl (by decide +kernel) (by decide +kernel) (fun r9 u9 H locs hw hP hD hK hS => ?_)
  obtain ⟨er9, rfl⟩ := hw
  have hP : va_P D vwCl [(a 0, .inr (10, [.ref (a 4), .ref (a 5), .ref (a 6), .ref (a 7), .ref (a 8), .ref (a 9), .ref (a 10), .ref (a 11), .ref (a 12), .int 0, .ref (a 13), .ref (a 102), .ref (a 14), .ref (a 15), .int (-1), .int (-1)])), (a 7, .inr (8, [.ref (a 28), .ref (a 29), .ref (a 30), .int 0, .ref (a 31), .ref (a 32), .ref (a 33), .int 0, .ref (a 34), .ref (a 35), .ref (a 36), .int 2])), (a 28, .inr (2, [.ref (a 77), .int 0]))] H := hP
  have hD : va_D A [(a 0, .inr (10, [.ref (a 4), .ref (a 5), .ref (a 6), .ref (a 7), .ref (a 8), .ref (a 9), .ref (a 10), .ref (a 11), .ref (a 12), .int 0, .ref (a 13), .ref (a 102), .ref (a 14), .ref (a 15), .int (-1), .int (-1)])), (a 7, .inr (8, [.ref (a 28), .ref (a 29), .ref (a 30), .int 0, .ref (a 31), .ref (a 32), .ref (a 33), .int 0, .ref (a 34), .ref (a 35), .ref (a 36), .int 2])), (a 28, .inr (2, [.ref (a 77), .int 0]))] := hD
  have hK : va_K D vwCl [] s := hK
  refine W.cs (cells' := 0) (slots' := 0) rfl rfl ?_
  obtain rfl := er9
  refine W.eq (g2 := F0 m 11 ls (.int 0 :: [])) rfl ?_
  refine lv_if_ne (tgt := 16) hx hb dX11_funeral_11 (by decide) (fun h9 => absurd (by decide) h9) (fun _ => ?_)
  refine lv_iconst (v := (-1)) hx hb dX11_funeral_14 (by decide) ?_
  refine W.widen (k := 0) (n := 0) (by decide) (by decide) ?_
  exact hret (-1) ([], []) _ _ _ _ dX11_funeral_15 rfl ⟨rfl, rfl⟩ (hP.sub [] rfl) (hK.sub [] rfl) (hD.sub [] (by decide +kernel) rfl) hS

set_option maxHeartbeats 8000000 in
set_option maxRecDepth 100000 in
theorem k_X11_drawn (l : Launch) (D : va_G) (ad : Nat → Nat) (a : Nat → Nat) (p0 : Int32) (p1 : Int32)  : z_Mi l yX11_drawn wsX11_drawn { frames := 0, cells := 0, slots := 0, locals := 0 } D ad [.ref (a 0), .int p0, .int p1] [(a 0, .inr (10, [.ref (a 4), .ref (a 5), .ref (a 6), .ref (a 7), .ref (a 8), .ref (a 9), .ref (a 10), .ref (a 11), .ref (a 12), .int 0, .ref (a 13), .ref (a 102), .ref (a 14), .ref (a 15), .int (-1), .int (-1)])), (a 7, .inr (8, [.ref (a 28), .ref (a 29), .ref (a 30), .int 0, .ref (a 31), .ref (a 32), .ref (a 33), .int 0, .ref (a 34), .ref (a 35), .ref (a 36), .int 2])), (a 29, .inr (2, [.ref (a 78), .int 0]))] [] 0 0 (fun r9 u9 => r9 = (-1) ∧ u9 = ([], [])) := by
  refine z_ofI (cc := cX11_drawn) (maxL := 3) (rt := .int) (by decide) rfl (Nat.le_of_ble_eq_true rfl) ?_
  intro p e s m below meth c Q A ls hx hb hml hown hts hin hK hP hD hA hE hO hS hl hret
  have hown : s.vm.findClass RX11 = some m.cls := hown
  have hiX11 : ∀ w ∈ wsX110, w ∈ wsX11_drawn := fun _ h9 => List.mem_cons_of_mem _ (List.mem_append_left _ (List.mem_append_left _ (List.mem_append_left _ (List.mem_append_left _ (List.mem_append_right _ h9)))))
  have hiX8 : ∀ w ∈ wsX80, w ∈ wsX11_drawn := fun _ h9 => List.mem_cons_of_mem _ (List.mem_append_left _ (List.mem_append_left _ (List.mem_append_left _ (List.mem_append_right _ h9))))
  have hiX2 : ∀ w ∈ wsX20, w ∈ wsX11_drawn := fun _ h9 => List.mem_cons_of_mem _ (List.mem_append_left _ (List.mem_append_left _ (List.mem_append_right _ h9)))
  have hiX4 : ∀ w ∈ wsX40, w ∈ wsX11_drawn := fun _ h9 => List.mem_cons_of_mem _ (List.mem_append_left _ (List.mem_append_right _ h9))
  have hiX1 : ∀ w ∈ wsX10, w ∈ wsX11_drawn := fun _ h9 => List.mem_cons_of_mem _ (List.mem_append_right _ h9)
  have hl : lv_has ls 3 [(0, .ref (a 0)), (1, .int p0), (2, .int p1)] := hl
  refine lv_iload_n hx hb dX11_drawn_0 rfl (lv_at hl 1 rfl) ?_
  refine lv_iconst (v := 1) hx hb dX11_drawn_1 (by decide) ?_
  refine lv_icmp_lt (tgt := 24) hx hb dX11_drawn_2 (by decide) (fun c_1 => ?_) (fun c_1 => ?_)
  · refine lv_iconst (v := (-1)) hx hb dX11_drawn_24 (by decide) ?_
    refine W.widen (k := 0) (n := 0) (by decide) (by decide) ?_
    exact hret (-1) ([], []) _ _ _ _ dX11_drawn_25 rfl ⟨rfl, rfl⟩ (hP.sub [] rfl) (hK.sub [] rfl) (hD.sub [] (by decide +kernel) rfl) hS
  · refine lv_iload_n hx hb dX11_drawn_5 rfl (lv_at hl 1 rfl) ?_
    refine lv_bipush (v := 60) hx hb dX11_drawn_6 (by decide) ?_
    refine lv_icmp_gt (tgt := 24) hx hb dX11_drawn_8 (by decide) (fun c_2 => ?_) (fun c_2 => ?_)
    · refine lv_iconst (v := (-1)) hx hb dX11_drawn_24 (by decide) ?_
      refine W.widen (k := 0) (n := 0) (by decide) (by decide) ?_
      exact hret (-1) ([], []) _ _ _ _ dX11_drawn_25 rfl ⟨rfl, rfl⟩ (hP.sub [] rfl) (hK.sub [] rfl) (hD.sub [] (by decide +kernel) rfl) hS
    · refine lv_aload_n hx hb dX11_drawn_11 rfl (lv_at hl 0 rfl) ?_
      refine va_get (D := D) (ci := 10) (v := .ref (a 7)) (C := RX11) (T := TX11) (N := 16) hx hb hts hiX11 hown hK hP 0 rfl rfl 3 (by decide) (hts _ (List.mem_of_getElem? (i := 1) rfl)) (fun _ h9 => h9) rfl dX11_drawn_12 ?_
      refine va_get (D := D) (ci := 8) (v := .ref (a 29)) (C := RX8) (T := TX8) (N := 12) hx hb hts hiX8 hown hK hP 1 rfl rfl 1 (by decide) (hts _ (List.mem_of_getElem? (i := 2) rfl)) (fun _ h9 => h9) rfl dX11_drawn_15 ?_
      refine va_get (D := D) (ci := 2) (v := .int 0) (C := RX2) (T := TX2) (N := 2) hx hb hts hiX2 hown hK hP 2 rfl rfl 1 (by decide) (hts _ (List.mem_of_getElem? (i := 3) rfl)) (fun _ h9 => h9) rfl dX11_drawn_18 ?_
      refine lv_if_ne (tgt := 26) hx hb dX11_drawn_21 (by decide) (fun h9 => absurd (by decide) h9) (fun _ => ?_)
      refine lv_iconst (v := (-1)) hx hb dX11_drawn_24 (by decide) ?_
      refine W.widen (k := 0) (n := 0) (by decide) (by decide) ?_
      exact hret (-1) ([], []) _ _ _ _ dX11_drawn_25 rfl ⟨rfl, rfl⟩ (hP.sub [] rfl) (hK.sub [] rfl) (hD.sub [] (by decide +kernel) rfl) hS

set_option maxHeartbeats 8000000 in
set_option maxRecDepth 100000 in
theorem k_X11_next (l : Launch) (D : va_G) (ad : Nat → Nat) (a : Nat → Nat) (p0 : Int32)  : z_Mi l yX11_next wsX11_next { frames := 1, cells := 0, slots := 0, locals := 21 } D ad [.ref (a 0), .int p0] [(a 0, .inr (10, [.ref (a 4), .ref (a 5), .ref (a 6), .ref (a 7), .ref (a 8), .ref (a 9), .ref (a 10), .ref (a 11), .ref (a 12), .int 0, .ref (a 13), .ref (a 102), .ref (a 14), .ref (a 15), .int (-1), .int (-1)])), (a 7, .inr (8, [.ref (a 28), .ref (a 29), .ref (a 30), .int 0, .ref (a 31), .ref (a 32), .ref (a 33), .int 0, .ref (a 34), .ref (a 35), .ref (a 36), .int 2])), (a 29, .inr (2, [.ref (a 78), .int 0]))] [] 0 0 (fun r9 u9 => r9 = (-1) ∧ u9 = ([], [])) := by
  refine z_ofI (cc := cX11_next) (maxL := 3) (rt := .int) (by decide) rfl (Nat.le_of_ble_eq_true rfl) ?_
  intro p e s m below meth c Q A ls hx hb hml hown hts hin hK hP hD hA hE hO hS hl hret
  have hown : s.vm.findClass RX11 = some m.cls := hown
  have hiX11 : ∀ w ∈ wsX110, w ∈ wsX11_next := fun _ h9 => List.mem_cons_of_mem _ (List.mem_append_left _ (List.mem_append_left _ (List.mem_append_left _ (List.mem_append_right _ h9))))
  have hiX8 : ∀ w ∈ wsX80, w ∈ wsX11_next := fun _ h9 => List.mem_cons_of_mem _ (List.mem_append_left _ (List.mem_append_left _ (List.mem_append_right _ h9)))
  have hiX4 : ∀ w ∈ wsX40, w ∈ wsX11_next := fun _ h9 => List.mem_cons_of_mem _ (List.mem_append_left _ (List.mem_append_right _ h9))
  have hiX2 : ∀ w ∈ wsX20, w ∈ wsX11_next := fun _ h9 => List.mem_cons_of_mem _ (List.mem_append_right _ h9)
  have hl : lv_has ls 3 [(0, .ref (a 0)), (1, .int p0)] := hl
  refine lv_aload_n hx hb dX11_next_0 rfl (lv_at hl 0 rfl) ?_
  refine va_get (D := D) (ci := 10) (v := .ref (a 7)) (C := RX11) (T := TX11) (N := 16) hx hb hts hiX11 hown hK hP 0 rfl rfl 3 (by decide) (hts _ (List.mem_of_getElem? (i := 1) rfl)) (fun _ h9 => h9) rfl dX11_next_1 ?_
  refine va_get (D := D) (ci := 8) (v := .ref (a 29)) (C := RX8) (T := TX8) (N := 12) hx hb hts hiX8 hown hK hP 1 rfl rfl 1 (by decide) (hts _ (List.mem_of_getElem? (i := 2) rfl)) (fun _ h9 => h9) rfl dX11_next_4 ?_
  refine lv_iload_n hx hb dX11_next_7 rfl (lv_at hl 1 rfl) ?_
  have hc9 := (k_X2_has l D ad (a 29) (a 78) p0 )
  refine z_calli (w0 := [(a 29, .inr (2, [.ref (a 78), .int 0]))]) (wr := [(a 0, .inr (10, [.ref (a 4), .ref (a 5), .ref (a 6), .ref (a 7), .ref (a 8), .ref (a 9), .ref (a 10), .ref (a 11), .ref (a 12), .int 0, .ref (a 13), .ref (a 102), .ref (a 14), .ref (a 15), .int (-1), .int (-1)])), (a 7, .inr (8, [.ref (a 28), .ref (a 29), .ref (a 30), .int 0, .ref (a 31), .ref (a 32), .ref (a 33), .int 0, .ref (a 34), .ref (a 35), .ref (a 36), .int 2]))]) (va_runV (As := [.int p0]) (rest := []) ⟨hx, hb, hml, hown, hts⟩ (hc9 _) (cwV 1 hts gX11_next_X2_has rfl rfl rfl (by decide +kernel) ⟨Nat.le_of_ble_eq_true rfl, Nat.le_of_ble_eq_true rfl⟩) (z_preV hP hD hK hS hA hE hO [2] [] rfl (by decide +kernel) rfl 2 2 rfl rfl rfl) rfl rfl hl.1 rfl (lv_room (Nat.le_of_ble_eq_true rfl)) dX11_next_8 ⟨Nat.le_of_ble_eq_true rfl, Nat.le_of_ble_eq_true rfl⟩) hP hD hK hS hA [2] [0, 1] rfl rfl (by decide +kernel) (by decide +kernel) (fun r9 u9 H locs hw hP hD hK hS => ?_)
  obtain ⟨er9, rfl⟩ := hw
  have hP : va_P D vwCl [(a 0, .inr (10, [.ref (a 4), .ref (a 5), .ref (a 6), .ref (a 7), .ref (a 8), .ref (a 9), .ref (a 10), .ref (a 11), .ref (a 12), .int 0, .ref (a 13), .ref (a 102), .ref (a 14), .ref (a 15), .int (-1), .int (-1)])), (a 7, .inr (8, [.ref (a 28), .ref (a 29), .ref (a 30), .int 0, .ref (a 31), .ref (a 32), .ref (a 33), .int 0, .ref (a 34), .ref (a 35), .ref (a 36), .int 2])), (a 29, .inr (2, [.ref (a 78), .int 0]))] H := hP
  have hD : va_D A [(a 0, .inr (10, [.ref (a 4), .ref (a 5), .ref (a 6), .ref (a 7), .ref (a 8), .ref (a 9), .ref (a 10), .ref (a 11), .ref (a 12), .int 0, .ref (a 13), .ref (a 102), .ref (a 14), .ref (a 15), .int (-1), .int (-1)])), (a 7, .inr (8, [.ref (a 28), .ref (a 29), .ref (a 30), .int 0, .ref (a 31), .ref (a 32), .ref (a 33), .int 0, .ref (a 34), .ref (a 35), .ref (a 36), .int 2])), (a 29, .inr (2, [.ref (a 78), .int 0]))] := hD
  have hK : va_K D vwCl [] s := hK
  refine W.cs (cells' := 0) (slots' := 0) rfl rfl ?_
  obtain rfl := er9
  refine W.eq (g2 := F0 m 11 ls (.int 0 :: [])) rfl ?_
  refine lv_if_ne (tgt := 16) hx hb dX11_next_11 (by decide) (fun h9 => absurd (by decide) h9) (fun _ => ?_)
  refine lv_iconst (v := (-1)) hx hb dX11_next_14 (by decide) ?_
  refine W.widen (k := 0) (n := 0) (by decide) (by decide) ?_
  exact hret (-1) ([], []) _ _ _ _ dX11_next_15 rfl ⟨rfl, rfl⟩ (hP.sub [] rfl) (hK.sub [] rfl) (hD.sub [] (by decide +kernel) rfl) hS

set_option maxHeartbeats 8000000 in
set_option maxRecDepth 100000 in
theorem k_X11_sorry (l : Launch) (D : va_G) (ad : Nat → Nat) (a : Nat → Nat) (p0 : Int32)  : z_Mi l yX11_sorry wsX11_sorry { frames := 0, cells := 0, slots := 0, locals := 0 } D ad [.ref (a 0), .int p0] [(a 0, .inr (10, [.ref (a 4), .ref (a 5), .ref (a 6), .ref (a 7), .ref (a 8), .ref (a 9), .ref (a 10), .ref (a 11), .ref (a 12), .int 0, .ref (a 13), .ref (a 102), .ref (a 14), .ref (a 15), .int (-1), .int (-1)])), (a 7, .inr (8, [.ref (a 28), .ref (a 29), .ref (a 30), .int 0, .ref (a 31), .ref (a 32), .ref (a 33), .int 0, .ref (a 34), .ref (a 35), .ref (a 36), .int 2])), (a 29, .inr (2, [.ref (a 78), .int 0]))] [] 0 0 (fun r9 u9 => r9 = s_X11_sorry p0 ∧ u9 = ([], [])) := by
  refine z_ofI (cc := cX11_sorry) (maxL := 4) (rt := .int) (by decide) rfl (Nat.le_of_ble_eq_true rfl) ?_
  intro p e s m below meth c Q A ls hx hb hml hown hts hin hK hP hD hA hE hO hS hl hret
  have hown : s.vm.findClass RX11 = some m.cls := hown
  have hiX11 : ∀ w ∈ wsX110, w ∈ wsX11_sorry := fun _ h9 => List.mem_cons_of_mem _ (List.mem_append_left _ (List.mem_append_left _ (List.mem_append_left _ (List.mem_append_right _ h9))))
  have hiX8 : ∀ w ∈ wsX80, w ∈ wsX11_sorry := fun _ h9 => List.mem_cons_of_mem _ (List.mem_append_left _ (List.mem_append_left _ (List.mem_append_right _ h9)))
  have hiX2 : ∀ w ∈ wsX20, w ∈ wsX11_sorry := fun _ h9 => List.mem_cons_of_mem _ (List.mem_append_left _ (List.mem_append_right _ h9))
  have hiX4 : ∀ w ∈ wsX40, w ∈ wsX11_sorry := fun _ h9 => List.mem_cons_of_mem _ (List.mem_append_right _ h9)
  have hl : lv_has ls 4 [(0, .ref (a 0)), (1, .int p0)] := hl
  refine lv_iload_n hx hb dX11_sorry_0 rfl (lv_at hl 1 rfl) ?_
  refine lv_iconst (v := 1) hx hb dX11_sorry_1 (by decide) ?_
  refine lv_icmp_lt (tgt := 12) hx hb dX11_sorry_2 (by decide) (fun c_1 => ?_) (fun c_1 => ?_)
  · refine lv_iconst (v := (-1)) hx hb dX11_sorry_12 (by decide) ?_
    refine W.widen (k := 0) (n := 0) (by decide) (by decide) ?_
    exact hret (-1) ([], []) _ _ _ _ dX11_sorry_13 rfl ⟨by unfold s_X11_sorry; rw [if_pos c_1], rfl⟩ (hP.sub [] rfl) (hK.sub [] rfl) (hD.sub [] (by decide +kernel) rfl) hS
  · refine lv_iload_n hx hb dX11_sorry_5 rfl (lv_at hl 1 rfl) ?_
    refine lv_sipush (v := 199) hx hb dX11_sorry_6 (by decide) ?_
    refine lv_icmp_le (tgt := 14) hx hb dX11_sorry_9 (by decide) (fun c_2 => ?_) (fun c_2 => ?_)
    · refine lv_iconst (v := 0) hx hb dX11_sorry_14 (by decide) ?_
      refine lv_istore_n (lv' := [(2, .int 0), (0, .ref (a 0)), (1, .int p0)]) hx hb dX11_sorry_15 rfl hl (by decide) rfl (fun ls hl => ?_)
      refine lv_iconst (v := 0) hx hb dX11_sorry_16 (by decide) ?_
      refine lv_istore_n (lv' := [(3, .int 0), (2, .int 0), (0, .ref (a 0)), (1, .int p0)]) hx hb dX11_sorry_17 rfl hl (by decide) rfl (fun ls hl => ?_)
      refine lv_iload_n hx hb dX11_sorry_18 rfl (lv_at hl 0 rfl) ?_
      refine lv_aload_n hx hb dX11_sorry_19 rfl (lv_at hl 2 rfl) ?_
      refine va_get (D := D) (ci := 10) (v := .ref (a 7)) (C := RX11) (T := TX11) (N := 16) hx hb hts hiX11 hown hK hP 0 rfl rfl 3 (by decide) (hts _ (List.mem_of_getElem? (i := 1) rfl)) (fun _ h9 => h9) rfl dX11_sorry_20 ?_
      refine va_get (D := D) (ci := 8) (v := .ref (a 29)) (C := RX8) (T := TX8) (N := 12) hx hb hts hiX8 hown hK hP 1 rfl rfl 1 (by decide) (hts _ (List.mem_of_getElem? (i := 2) rfl)) (fun _ h9 => h9) rfl dX11_sorry_23 ?_
      refine va_get (D := D) (ci := 2) (v := .int 0) (C := RX2) (T := TX2) (N := 2) hx hb hts hiX2 hown hK hP 2 rfl rfl 1 (by decide) (hts _ (List.mem_of_getElem? (i := 3) rfl)) (fun _ h9 => h9) rfl dX11_sorry_26 ?_
      refine lv_icmp_ge (tgt := 56) hx hb dX11_sorry_29 (by decide) (fun _ => ?_) (fun h9 => absurd (by decide) h9)
      refine lv_iload_n hx hb dX11_sorry_56 rfl (lv_at hl 1 rfl) ?_
      refine W.widen (k := 0) (n := 0) (by decide) (by decide) ?_
      exact hret 0 ([], []) _ _ _ _ dX11_sorry_57 rfl ⟨by unfold s_X11_sorry; rw [if_neg c_1, if_pos c_2], rfl⟩ (hP.sub [] rfl) (hK.sub [] rfl) (hD.sub [] (by decide +kernel) rfl) hS
    · refine lv_iconst (v := (-1)) hx hb dX11_sorry_12 (by decide) ?_
      refine W.widen (k := 0) (n := 0) (by decide) (by decide) ?_
      exact hret (-1) ([], []) _ _ _ _ dX11_sorry_13 rfl ⟨by unfold s_X11_sorry; rw [if_neg c_1, if_neg c_2], rfl⟩ (hP.sub [] rfl) (hK.sub [] rfl) (hD.sub [] (by decide +kernel) rfl) hS

set_option maxHeartbeats 8000000 in
set_option maxRecDepth 100000 in
theorem k_X11_odds (l : Launch) (D : va_G) (ad : Nat → Nat) (a : Nat → Nat) (p0 : Int32) (p1 : Int32) (p2 : Int32)  : z_Mi l yX11_odds wsX11_odds { frames := 1, cells := 0, slots := 0, locals := 21 } D ad [.ref (a 0), .int p0, .int p1, .int p2] [(a 0, .inr (10, [.ref (a 4), .ref (a 5), .ref (a 6), .ref (a 7), .ref (a 8), .ref (a 9), .ref (a 10), .ref (a 11), .ref (a 12), .int 0, .ref (a 13), .ref (a 102), .ref (a 14), .ref (a 15), .int (-1), .int (-1)])), (a 7, .inr (8, [.ref (a 28), .ref (a 29), .ref (a 30), .int 0, .ref (a 31), .ref (a 32), .ref (a 33), .int 0, .ref (a 34), .ref (a 35), .ref (a 36), .int 2])), (a 29, .inr (2, [.ref (a 78), .int 0]))] [] 0 0 (fun r9 u9 => r9 = (-1) ∧ u9 = ([], [])) := by
  refine z_ofI (cc := cX11_odds) (maxL := 7) (rt := .int) (by decide) rfl (Nat.le_of_ble_eq_true rfl) ?_
  intro p e s m below meth c Q A ls hx hb hml hown hts hin hK hP hD hA hE hO hS hl hret
  have hown : s.vm.findClass RX11 = some m.cls := hown
  have hiX11 : ∀ w ∈ wsX110, w ∈ wsX11_odds := fun _ h9 => List.mem_cons_of_mem _ (List.mem_append_left _ (List.mem_append_left _ (List.mem_append_left _ (List.mem_append_left _ (List.mem_append_right _ h9)))))
  have hiX8 : ∀ w ∈ wsX80, w ∈ wsX11_odds := fun _ h9 => List.mem_cons_of_mem _ (List.mem_append_left _ (List.mem_append_left _ (List.mem_append_left _ (List.mem_append_right _ h9))))
  have hiX2 : ∀ w ∈ wsX20, w ∈ wsX11_odds := fun _ h9 => List.mem_cons_of_mem _ (List.mem_append_left _ (List.mem_append_left _ (List.mem_append_right _ h9)))
  have hiX4 : ∀ w ∈ wsX40, w ∈ wsX11_odds := fun _ h9 => List.mem_cons_of_mem _ (List.mem_append_left _ (List.mem_append_right _ h9))
  have hiX1 : ∀ w ∈ wsX10, w ∈ wsX11_odds := fun _ h9 => List.mem_cons_of_mem _ (List.mem_append_right _ h9)
  have hl : lv_has ls 7 [(0, .ref (a 0)), (1, .int p0), (2, .int p1), (3, .int p2)] := hl
  refine lv_aload_n hx hb dX11_odds_0 rfl (lv_at hl 0 rfl) ?_
  refine va_get (D := D) (ci := 10) (v := .ref (a 7)) (C := RX11) (T := TX11) (N := 16) hx hb hts hiX11 hown hK hP 0 rfl rfl 3 (by decide) (hts _ (List.mem_of_getElem? (i := 1) rfl)) (fun _ h9 => h9) rfl dX11_odds_1 ?_
  refine va_get (D := D) (ci := 8) (v := .ref (a 29)) (C := RX8) (T := TX8) (N := 12) hx hb hts hiX8 hown hK hP 1 rfl rfl 1 (by decide) (hts _ (List.mem_of_getElem? (i := 2) rfl)) (fun _ h9 => h9) rfl dX11_odds_4 ?_
  refine lv_iload_n hx hb dX11_odds_7 rfl (lv_at hl 1 rfl) ?_
  have hc9 := (k_X2_has l D ad (a 29) (a 78) p0 )
  refine z_calli (w0 := [(a 29, .inr (2, [.ref (a 78), .int 0]))]) (wr := [(a 0, .inr (10, [.ref (a 4), .ref (a 5), .ref (a 6), .ref (a 7), .ref (a 8), .ref (a 9), .ref (a 10), .ref (a 11), .ref (a 12), .int 0, .ref (a 13), .ref (a 102), .ref (a 14), .ref (a 15), .int (-1), .int (-1)])), (a 7, .inr (8, [.ref (a 28), .ref (a 29), .ref (a 30), .int 0, .ref (a 31), .ref (a 32), .ref (a 33), .int 0, .ref (a 34), .ref (a 35), .ref (a 36), .int 2]))]) (va_runV (As := [.int p0]) (rest := []) ⟨hx, hb, hml, hown, hts⟩ (hc9 _) (cwV 1 hts gX11_odds_X2_has rfl rfl rfl (by decide +kernel) ⟨Nat.le_of_ble_eq_true rfl, Nat.le_of_ble_eq_true rfl⟩) (z_preV hP hD hK hS hA hE hO [2] [] rfl (by decide +kernel) rfl 2 2 rfl rfl rfl) rfl rfl hl.1 rfl (lv_room (Nat.le_of_ble_eq_true rfl)) dX11_odds_8 ⟨Nat.le_of_ble_eq_true rfl, Nat.le_of_ble_eq_true rfl⟩) hP hD hK hS hA [2] [0, 1] rfl rfl (by decide +kernel) (by decide +kernel) (fun r9 u9 H locs hw hP hD hK hS => ?_)
  obtain ⟨er9, rfl⟩ := hw
  have hP : va_P D vwCl [(a 0, .inr (10, [.ref (a 4), .ref (a 5), .ref (a 6), .ref (a 7), .ref (a 8), .ref (a 9), .ref (a 10), .ref (a 11), .ref (a 12), .int 0, .ref (a 13), .ref (a 102), .ref (a 14), .ref (a 15), .int (-1), .int (-1)])), (a 7, .inr (8, [.ref (a 28), .ref (a 29), .ref (a 30), .int 0, .ref (a 31), .ref (a 32), .ref (a 33), .int 0, .ref (a 34), .ref (a 35), .ref (a 36), .int 2])), (a 29, .inr (2, [.ref (a 78), .int 0]))] H := hP
  have hD : va_D A [(a 0, .inr (10, [.ref (a 4), .ref (a 5), .ref (a 6), .ref (a 7), .ref (a 8), .ref (a 9), .ref (a 10), .ref (a 11), .ref (a 12), .int 0, .ref (a 13), .ref (a 102), .ref (a 14), .ref (a 15), .int (-1), .int (-1)])), (a 7, .inr (8, [.ref (a 28), .ref (a 29), .ref (a 30), .int 0, .ref (a 31), .ref (a 32), .ref (a 33), .int 0, .ref (a 34), .ref (a 35), .ref (a 36), .int 2])), (a 29, .inr (2, [.ref (a 78), .int 0]))] := hD
  have hK : va_K D vwCl [] s := hK
  refine W.cs (cells' := 0) (slots' := 0) rfl rfl ?_
  obtain rfl := er9
  refine W.eq (g2 := F0 m 11 ls (.int 0 :: [])) rfl ?_
  refine lv_if_eq (tgt := 25) hx hb dX11_odds_11 (by decide) (fun _ => ?_) (fun h9 => absurd (by decide) h9)
  refine lv_iconst (v := (-1)) hx hb dX11_odds_25 (by decide) ?_
  refine W.widen (k := 0) (n := 0) (by decide) (by decide) ?_
  exact hret (-1) ([], []) _ _ _ _ dX11_odds_26 rfl ⟨rfl, rfl⟩ (hP.sub [] rfl) (hK.sub [] rfl) (hD.sub [] (by decide +kernel) rfl) hS

set_option maxHeartbeats 8000000 in
set_option maxRecDepth 100000 in
theorem k_X11_toldOf (l : Launch) (D : va_G) (ad : Nat → Nat) (a : Nat → Nat) (p0 : Int32) (p1 : Int32)  : z_Mi l yX11_toldOf wsX11_toldOf { frames := 1, cells := 0, slots := 0, locals := 21 } D ad [.ref (a 0), .int p0, .int p1] [(a 0, .inr (10, [.ref (a 4), .ref (a 5), .ref (a 6), .ref (a 7), .ref (a 8), .ref (a 9), .ref (a 10), .ref (a 11), .ref (a 12), .int 0, .ref (a 13), .ref (a 102), .ref (a 14), .ref (a 15), .int (-1), .int (-1)])), (a 7, .inr (8, [.ref (a 28), .ref (a 29), .ref (a 30), .int 0, .ref (a 31), .ref (a 32), .ref (a 33), .int 0, .ref (a 34), .ref (a 35), .ref (a 36), .int 2])), (a 30, .inr (2, [.ref (a 79), .int 0]))] [] 0 0 (fun r9 u9 => r9 = (-1) ∧ u9 = ([], [])) := by
  refine z_ofI (cc := cX11_toldOf) (maxL := 3) (rt := .int) (by decide) rfl (Nat.le_of_ble_eq_true rfl) ?_
  intro p e s m below meth c Q A ls hx hb hml hown hts hin hK hP hD hA hE hO hS hl hret
  have hown : s.vm.findClass RX11 = some m.cls := hown
  have hiX11 : ∀ w ∈ wsX110, w ∈ wsX11_toldOf := fun _ h9 => List.mem_cons_of_mem _ (List.mem_append_left _ (List.mem_append_left _ (List.mem_append_left _ (List.mem_append_left _ (List.mem_append_right _ h9)))))
  have hiX8 : ∀ w ∈ wsX80, w ∈ wsX11_toldOf := fun _ h9 => List.mem_cons_of_mem _ (List.mem_append_left _ (List.mem_append_left _ (List.mem_append_left _ (List.mem_append_right _ h9))))
  have hiX4 : ∀ w ∈ wsX40, w ∈ wsX11_toldOf := fun _ h9 => List.mem_cons_of_mem _ (List.mem_append_left _ (List.mem_append_left _ (List.mem_append_right _ h9)))
  have hiX2 : ∀ w ∈ wsX20, w ∈ wsX11_toldOf := fun _ h9 => List.mem_cons_of_mem _ (List.mem_append_left _ (List.mem_append_right _ h9))
  have hiX3 : ∀ w ∈ wsX30, w ∈ wsX11_toldOf := fun _ h9 => List.mem_cons_of_mem _ (List.mem_append_right _ h9)
  have hl : lv_has ls 3 [(0, .ref (a 0)), (1, .int p0), (2, .int p1)] := hl
  refine lv_aload_n hx hb dX11_toldOf_0 rfl (lv_at hl 0 rfl) ?_
  refine va_get (D := D) (ci := 10) (v := .ref (a 7)) (C := RX11) (T := TX11) (N := 16) hx hb hts hiX11 hown hK hP 0 rfl rfl 3 (by decide) (hts _ (List.mem_of_getElem? (i := 1) rfl)) (fun _ h9 => h9) rfl dX11_toldOf_1 ?_
  refine va_get (D := D) (ci := 8) (v := .ref (a 30)) (C := RX8) (T := TX8) (N := 12) hx hb hts hiX8 hown hK hP 1 rfl rfl 2 (by decide) (hts _ (List.mem_of_getElem? (i := 2) rfl)) (fun _ h9 => h9) rfl dX11_toldOf_4 ?_
  refine lv_iload_n hx hb dX11_toldOf_7 rfl (lv_at hl 1 rfl) ?_
  have hc9 := (k_X2_has l D ad (a 30) (a 79) p0 )
  refine z_calli (w0 := [(a 30, .inr (2, [.ref (a 79), .int 0]))]) (wr := [(a 0, .inr (10, [.ref (a 4), .ref (a 5), .ref (a 6), .ref (a 7), .ref (a 8), .ref (a 9), .ref (a 10), .ref (a 11), .ref (a 12), .int 0, .ref (a 13), .ref (a 102), .ref (a 14), .ref (a 15), .int (-1), .int (-1)])), (a 7, .inr (8, [.ref (a 28), .ref (a 29), .ref (a 30), .int 0, .ref (a 31), .ref (a 32), .ref (a 33), .int 0, .ref (a 34), .ref (a 35), .ref (a 36), .int 2]))]) (va_runV (As := [.int p0]) (rest := []) ⟨hx, hb, hml, hown, hts⟩ (hc9 _) (cwV 1 hts gX11_toldOf_X2_has rfl rfl rfl (by decide +kernel) ⟨Nat.le_of_ble_eq_true rfl, Nat.le_of_ble_eq_true rfl⟩) (z_preV hP hD hK hS hA hE hO [2] [] rfl (by decide +kernel) rfl 2 2 rfl rfl rfl) rfl rfl hl.1 rfl (lv_room (Nat.le_of_ble_eq_true rfl)) dX11_toldOf_8 ⟨Nat.le_of_ble_eq_true rfl, Nat.le_of_ble_eq_true rfl⟩) hP hD hK hS hA [2] [0, 1] rfl rfl (by decide +kernel) (by decide +kernel) (fun r9 u9 H locs hw hP hD hK hS => ?_)
  obtain ⟨er9, rfl⟩ := hw
  have hP : va_P D vwCl [(a 0, .inr (10, [.ref (a 4), .ref (a 5), .ref (a 6), .ref (a 7), .ref (a 8), .ref (a 9), .ref (a 10), .ref (a 11), .ref (a 12), .int 0, .ref (a 13), .ref (a 102), .ref (a 14), .ref (a 15), .int (-1), .int (-1)])), (a 7, .inr (8, [.ref (a 28), .ref (a 29), .ref (a 30), .int 0, .ref (a 31), .ref (a 32), .ref (a 33), .int 0, .ref (a 34), .ref (a 35), .ref (a 36), .int 2])), (a 30, .inr (2, [.ref (a 79), .int 0]))] H := hP
  have hD : va_D A [(a 0, .inr (10, [.ref (a 4), .ref (a 5), .ref (a 6), .ref (a 7), .ref (a 8), .ref (a 9), .ref (a 10), .ref (a 11), .ref (a 12), .int 0, .ref (a 13), .ref (a 102), .ref (a 14), .ref (a 15), .int (-1), .int (-1)])), (a 7, .inr (8, [.ref (a 28), .ref (a 29), .ref (a 30), .int 0, .ref (a 31), .ref (a 32), .ref (a 33), .int 0, .ref (a 34), .ref (a 35), .ref (a 36), .int 2])), (a 30, .inr (2, [.ref (a 79), .int 0]))] := hD
  have hK : va_K D vwCl [] s := hK
  refine W.cs (cells' := 0) (slots' := 0) rfl rfl ?_
  obtain rfl := er9
  refine W.eq (g2 := F0 m 11 ls (.int 0 :: [])) rfl ?_
  refine lv_if_eq (tgt := 39) hx hb dX11_toldOf_11 (by decide) (fun _ => ?_) (fun h9 => absurd (by decide) h9)
  refine lv_iconst (v := (-1)) hx hb dX11_toldOf_39 (by decide) ?_
  refine W.widen (k := 0) (n := 0) (by decide) (by decide) ?_
  exact hret (-1) ([], []) _ _ _ _ dX11_toldOf_40 rfl ⟨rfl, rfl⟩ (hP.sub [] rfl) (hK.sub [] rfl) (hD.sub [] (by decide +kernel) rfl) hS

set_option maxHeartbeats 8000000 in
set_option maxRecDepth 100000 in
theorem k_X11_turns (l : Launch) (D : va_G) (ad : Nat → Nat) (a : Nat → Nat) (p0 : Int32) (p1 : Int32) (p2 : Int32)  : z_Mi l yX11_turns wsX11_turns { frames := 1, cells := 0, slots := 0, locals := 21 } D ad [.ref (a 0), .int p0, .int p1, .int p2] [(a 0, .inr (10, [.ref (a 4), .ref (a 5), .ref (a 6), .ref (a 7), .ref (a 8), .ref (a 9), .ref (a 10), .ref (a 11), .ref (a 12), .int 0, .ref (a 13), .ref (a 102), .ref (a 14), .ref (a 15), .int (-1), .int (-1)])), (a 7, .inr (8, [.ref (a 28), .ref (a 29), .ref (a 30), .int 0, .ref (a 31), .ref (a 32), .ref (a 33), .int 0, .ref (a 34), .ref (a 35), .ref (a 36), .int 2])), (a 30, .inr (2, [.ref (a 79), .int 0]))] [] 0 0 (fun r9 u9 => r9 = (-1) ∧ u9 = ([], [])) := by
  refine z_ofI (cc := cX11_turns) (maxL := 4) (rt := .int) (by decide) rfl (Nat.le_of_ble_eq_true rfl) ?_
  intro p e s m below meth c Q A ls hx hb hml hown hts hin hK hP hD hA hE hO hS hl hret
  have hown : s.vm.findClass RX11 = some m.cls := hown
  have hiX11 : ∀ w ∈ wsX110, w ∈ wsX11_turns := fun _ h9 => List.mem_cons_of_mem _ (List.mem_append_left _ (List.mem_append_left _ (List.mem_append_left _ (List.mem_append_left _ (List.mem_append_right _ h9)))))
  have hiX8 : ∀ w ∈ wsX80, w ∈ wsX11_turns := fun _ h9 => List.mem_cons_of_mem _ (List.mem_append_left _ (List.mem_append_left _ (List.mem_append_left _ (List.mem_append_right _ h9))))
  have hiX4 : ∀ w ∈ wsX40, w ∈ wsX11_turns := fun _ h9 => List.mem_cons_of_mem _ (List.mem_append_left _ (List.mem_append_left _ (List.mem_append_right _ h9)))
  have hiX2 : ∀ w ∈ wsX20, w ∈ wsX11_turns := fun _ h9 => List.mem_cons_of_mem _ (List.mem_append_left _ (List.mem_append_right _ h9))
  have hiX3 : ∀ w ∈ wsX30, w ∈ wsX11_turns := fun _ h9 => List.mem_cons_of_mem _ (List.mem_append_right _ h9)
  have hl : lv_has ls 4 [(0, .ref (a 0)), (1, .int p0), (2, .int p1), (3, .int p2)] := hl
  refine lv_aload_n hx hb dX11_turns_0 rfl (lv_at hl 0 rfl) ?_
  refine va_get (D := D) (ci := 10) (v := .ref (a 7)) (C := RX11) (T := TX11) (N := 16) hx hb hts hiX11 hown hK hP 0 rfl rfl 3 (by decide) (hts _ (List.mem_of_getElem? (i := 1) rfl)) (fun _ h9 => h9) rfl dX11_turns_1 ?_
  refine va_get (D := D) (ci := 8) (v := .ref (a 30)) (C := RX8) (T := TX8) (N := 12) hx hb hts hiX8 hown hK hP 1 rfl rfl 2 (by decide) (hts _ (List.mem_of_getElem? (i := 2) rfl)) (fun _ h9 => h9) rfl dX11_turns_4 ?_
  refine lv_iload_n hx hb dX11_turns_7 rfl (lv_at hl 1 rfl) ?_
  have hc9 := (k_X2_has l D ad (a 30) (a 79) p0 )
  refine z_calli (w0 := [(a 30, .inr (2, [.ref (a 79), .int 0]))]) (wr := [(a 0, .inr (10, [.ref (a 4), .ref (a 5), .ref (a 6), .ref (a 7), .ref (a 8), .ref (a 9), .ref (a 10), .ref (a 11), .ref (a 12), .int 0, .ref (a 13), .ref (a 102), .ref (a 14), .ref (a 15), .int (-1), .int (-1)])), (a 7, .inr (8, [.ref (a 28), .ref (a 29), .ref (a 30), .int 0, .ref (a 31), .ref (a 32), .ref (a 33), .int 0, .ref (a 34), .ref (a 35), .ref (a 36), .int 2]))]) (va_runV (As := [.int p0]) (rest := []) ⟨hx, hb, hml, hown, hts⟩ (hc9 _) (cwV 1 hts gX11_turns_X2_has rfl rfl rfl (by decide +kernel) ⟨Nat.le_of_ble_eq_true rfl, Nat.le_of_ble_eq_true rfl⟩) (z_preV hP hD hK hS hA hE hO [2] [] rfl (by decide +kernel) rfl 2 2 rfl rfl rfl) rfl rfl hl.1 rfl (lv_room (Nat.le_of_ble_eq_true rfl)) dX11_turns_8 ⟨Nat.le_of_ble_eq_true rfl, Nat.le_of_ble_eq_true rfl⟩) hP hD hK hS hA [2] [0, 1] rfl rfl (by decide +kernel) (by decide +kernel) (fun r9 u9 H locs hw hP hD hK hS => ?_)
  obtain ⟨er9, rfl⟩ := hw
  have hP : va_P D vwCl [(a 0, .inr (10, [.ref (a 4), .ref (a 5), .ref (a 6), .ref (a 7), .ref (a 8), .ref (a 9), .ref (a 10), .ref (a 11), .ref (a 12), .int 0, .ref (a 13), .ref (a 102), .ref (a 14), .ref (a 15), .int (-1), .int (-1)])), (a 7, .inr (8, [.ref (a 28), .ref (a 29), .ref (a 30), .int 0, .ref (a 31), .ref (a 32), .ref (a 33), .int 0, .ref (a 34), .ref (a 35), .ref (a 36), .int 2])), (a 30, .inr (2, [.ref (a 79), .int 0]))] H := hP
  have hD : va_D A [(a 0, .inr (10, [.ref (a 4), .ref (a 5), .ref (a 6), .ref (a 7), .ref (a 8), .ref (a 9), .ref (a 10), .ref (a 11), .ref (a 12), .int 0, .ref (a 13), .ref (a 102), .ref (a 14), .ref (a 15), .int (-1), .int (-1)])), (a 7, .inr (8, [.ref (a 28), .ref (a 29), .ref (a 30), .int 0, .ref (a 31), .ref (a 32), .ref (a 33), .int 0, .ref (a 34), .ref (a 35), .ref (a 36), .int 2])), (a 30, .inr (2, [.ref (a 79), .int 0]))] := hD
  have hK : va_K D vwCl [] s := hK
  refine W.cs (cells' := 0) (slots' := 0) rfl rfl ?_
  obtain rfl := er9
  refine W.eq (g2 := F0 m 11 ls (.int 0 :: [])) rfl ?_
  refine lv_if_eq (tgt := 39) hx hb dX11_turns_11 (by decide) (fun _ => ?_) (fun h9 => absurd (by decide) h9)
  refine lv_iconst (v := (-1)) hx hb dX11_turns_39 (by decide) ?_
  refine W.widen (k := 0) (n := 0) (by decide) (by decide) ?_
  exact hret (-1) ([], []) _ _ _ _ dX11_turns_40 rfl ⟨rfl, rfl⟩ (hP.sub [] rfl) (hK.sub [] rfl) (hD.sub [] (by decide +kernel) rfl) hS

set_option maxHeartbeats 8000000 in
set_option maxRecDepth 100000 in
theorem k_X11_tag (l : Launch) (D : va_G) (ad : Nat → Nat) (a : Nat → Nat) (p0 : Int32)  : z_Mi l yX11_tag wsX11_tag { frames := 1, cells := 0, slots := 0, locals := 21 } D ad [.ref (a 0), .int p0] [(a 0, .inr (10, [.ref (a 4), .ref (a 5), .ref (a 6), .ref (a 7), .ref (a 8), .ref (a 9), .ref (a 10), .ref (a 11), .ref (a 12), .int 0, .ref (a 13), .ref (a 102), .ref (a 14), .ref (a 15), .int (-1), .int (-1)])), (a 7, .inr (8, [.ref (a 28), .ref (a 29), .ref (a 30), .int 0, .ref (a 31), .ref (a 32), .ref (a 33), .int 0, .ref (a 34), .ref (a 35), .ref (a 36), .int 2])), (a 30, .inr (2, [.ref (a 79), .int 0]))] [] 0 0 (fun r9 u9 => r9 = (-1) ∧ u9 = ([], [])) := by
  refine z_ofI (cc := cX11_tag) (maxL := 3) (rt := .int) (by decide) rfl (Nat.le_of_ble_eq_true rfl) ?_
  intro p e s m below meth c Q A ls hx hb hml hown hts hin hK hP hD hA hE hO hS hl hret
  have hown : s.vm.findClass RX11 = some m.cls := hown
  have hiX11 : ∀ w ∈ wsX110, w ∈ wsX11_tag := fun _ h9 => List.mem_cons_of_mem _ (List.mem_append_left _ (List.mem_append_left _ (List.mem_append_left _ (List.mem_append_left _ (List.mem_append_right _ h9)))))
  have hiX8 : ∀ w ∈ wsX80, w ∈ wsX11_tag := fun _ h9 => List.mem_cons_of_mem _ (List.mem_append_left _ (List.mem_append_left _ (List.mem_append_left _ (List.mem_append_right _ h9))))
  have hiX6 : ∀ w ∈ wsX60, w ∈ wsX11_tag := fun _ h9 => List.mem_cons_of_mem _ (List.mem_append_left _ (List.mem_append_left _ (List.mem_append_right _ h9)))
  have hiX4 : ∀ w ∈ wsX40, w ∈ wsX11_tag := fun _ h9 => List.mem_cons_of_mem _ (List.mem_append_left _ (List.mem_append_right _ h9))
  have hiX2 : ∀ w ∈ wsX20, w ∈ wsX11_tag := fun _ h9 => List.mem_cons_of_mem _ (List.mem_append_right _ h9)
  have hl : lv_has ls 3 [(0, .ref (a 0)), (1, .int p0)] := hl
  refine lv_aload_n hx hb dX11_tag_0 rfl (lv_at hl 0 rfl) ?_
  refine va_get (D := D) (ci := 10) (v := .ref (a 7)) (C := RX11) (T := TX11) (N := 16) hx hb hts hiX11 hown hK hP 0 rfl rfl 3 (by decide) (hts _ (List.mem_of_getElem? (i := 1) rfl)) (fun _ h9 => h9) rfl dX11_tag_1 ?_
  refine va_get (D := D) (ci := 8) (v := .ref (a 30)) (C := RX8) (T := TX8) (N := 12) hx hb hts hiX8 hown hK hP 1 rfl rfl 2 (by decide) (hts _ (List.mem_of_getElem? (i := 2) rfl)) (fun _ h9 => h9) rfl dX11_tag_4 ?_
  refine lv_iload_n hx hb dX11_tag_7 rfl (lv_at hl 1 rfl) ?_
  have hc9 := (k_X2_has l D ad (a 30) (a 79) p0 )
  refine z_calli (w0 := [(a 30, .inr (2, [.ref (a 79), .int 0]))]) (wr := [(a 0, .inr (10, [.ref (a 4), .ref (a 5), .ref (a 6), .ref (a 7), .ref (a 8), .ref (a 9), .ref (a 10), .ref (a 11), .ref (a 12), .int 0, .ref (a 13), .ref (a 102), .ref (a 14), .ref (a 15), .int (-1), .int (-1)])), (a 7, .inr (8, [.ref (a 28), .ref (a 29), .ref (a 30), .int 0, .ref (a 31), .ref (a 32), .ref (a 33), .int 0, .ref (a 34), .ref (a 35), .ref (a 36), .int 2]))]) (va_runV (As := [.int p0]) (rest := []) ⟨hx, hb, hml, hown, hts⟩ (hc9 _) (cwV 1 hts gX11_tag_X2_has rfl rfl rfl (by decide +kernel) ⟨Nat.le_of_ble_eq_true rfl, Nat.le_of_ble_eq_true rfl⟩) (z_preV hP hD hK hS hA hE hO [2] [] rfl (by decide +kernel) rfl 2 2 rfl rfl rfl) rfl rfl hl.1 rfl (lv_room (Nat.le_of_ble_eq_true rfl)) dX11_tag_8 ⟨Nat.le_of_ble_eq_true rfl, Nat.le_of_ble_eq_true rfl⟩) hP hD hK hS hA [2] [0, 1] rfl rfl (by decide +kernel) (by decide +kernel) (fun r9 u9 H locs hw hP hD hK hS => ?_)
  obtain ⟨er9, rfl⟩ := hw
  have hP : va_P D vwCl [(a 0, .inr (10, [.ref (a 4), .ref (a 5), .ref (a 6), .ref (a 7), .ref (a 8), .ref (a 9), .ref (a 10), .ref (a 11), .ref (a 12), .int 0, .ref (a 13), .ref (a 102), .ref (a 14), .ref (a 15), .int (-1), .int (-1)])), (a 7, .inr (8, [.ref (a 28), .ref (a 29), .ref (a 30), .int 0, .ref (a 31), .ref (a 32), .ref (a 33), .int 0, .ref (a 34), .ref (a 35), .ref (a 36), .int 2])), (a 30, .inr (2, [.ref (a 79), .int 0]))] H := hP
  have hD : va_D A [(a 0, .inr (10, [.ref (a 4), .ref (a 5), .ref (a 6), .ref (a 7), .ref (a 8), .ref (a 9), .ref (a 10), .ref (a 11), .ref (a 12), .int 0, .ref (a 13), .ref (a 102), .ref (a 14), .ref (a 15), .int (-1), .int (-1)])), (a 7, .inr (8, [.ref (a 28), .ref (a 29), .ref (a 30), .int 0, .ref (a 31), .ref (a 32), .ref (a 33), .int 0, .ref (a 34), .ref (a 35), .ref (a 36), .int 2])), (a 30, .inr (2, [.ref (a 79), .int 0]))] := hD
  have hK : va_K D vwCl [] s := hK
  refine W.cs (cells' := 0) (slots' := 0) rfl rfl ?_
  obtain rfl := er9
  refine W.eq (g2 := F0 m 11 ls (.int 0 :: [])) rfl ?_
  refine lv_if_ne (tgt := 16) hx hb dX11_tag_11 (by decide) (fun h9 => absurd (by decide) h9) (fun _ => ?_)
  refine lv_iconst (v := (-1)) hx hb dX11_tag_14 (by decide) ?_
  refine W.widen (k := 0) (n := 0) (by decide) (by decide) ?_
  exact hret (-1) ([], []) _ _ _ _ dX11_tag_15 rfl ⟨rfl, rfl⟩ (hP.sub [] rfl) (hK.sub [] rfl) (hD.sub [] (by decide +kernel) rfl) hS

set_option maxHeartbeats 8000000 in
set_option maxRecDepth 100000 in
theorem k_X11_byteAt (l : Launch) (D : va_G) (ad : Nat → Nat) (a : Nat → Nat) (p0 : Int32)  : z_Mi l yX11_byteAt wsX11_byteAt { frames := 1, cells := 0, slots := 0, locals := 21 } D ad [.ref (a 0), .int p0] [(a 0, .inr (10, [.ref (a 4), .ref (a 5), .ref (a 6), .ref (a 7), .ref (a 8), .ref (a 9), .ref (a 10), .ref (a 11), .ref (a 12), .int 0, .ref (a 13), .ref (a 102), .ref (a 14), .ref (a 15), .int (-1), .int (-1)])), (a 15, .inr (6, [.ref (a 50), .int 0]))] [] 0 0 (fun r9 u9 => r9 = (-1) ∧ u9 = ([], [])) := by
  refine z_ofI (cc := cX11_byteAt) (maxL := 2) (rt := .int) (by decide) rfl (Nat.le_of_ble_eq_true rfl) ?_
  intro p e s m below meth c Q A ls hx hb hml hown hts hin hK hP hD hA hE hO hS hl hret
  have hown : s.vm.findClass RX11 = some m.cls := hown
  have hiX11 : ∀ w ∈ wsX110, w ∈ wsX11_byteAt := fun _ h9 => List.mem_cons_of_mem _ (List.mem_append_left _ (List.mem_append_right _ h9))
  have hiX6 : ∀ w ∈ wsX60, w ∈ wsX11_byteAt := fun _ h9 => List.mem_cons_of_mem _ (List.mem_append_right _ h9)
  have hl : lv_has ls 2 [(0, .ref (a 0)), (1, .int p0)] := hl
  refine lv_aload_n hx hb dX11_byteAt_0 rfl (lv_at hl 0 rfl) ?_
  refine va_get (D := D) (ci := 10) (v := .ref (a 15)) (C := RX11) (T := TX11) (N := 16) hx hb hts hiX11 hown hK hP 0 rfl rfl 13 (by decide) (hts _ (List.mem_of_getElem? (i := 1) rfl)) (fun _ h9 => h9) rfl dX11_byteAt_1 ?_
  refine lv_iload_n hx hb dX11_byteAt_4 rfl (lv_at hl 1 rfl) ?_
  have hc9 := (k_X6_get l D ad (a 15) (a 50) p0 )
  refine z_calli (w0 := [(a 15, .inr (6, [.ref (a 50), .int 0]))]) (wr := [(a 0, .inr (10, [.ref (a 4), .ref (a 5), .ref (a 6), .ref (a 7), .ref (a 8), .ref (a 9), .ref (a 10), .ref (a 11), .ref (a 12), .int 0, .ref (a 13), .ref (a 102), .ref (a 14), .ref (a 15), .int (-1), .int (-1)]))]) (va_runV (As := [.int p0]) (rest := []) ⟨hx, hb, hml, hown, hts⟩ (hc9 _) (cwV 1 hts gX11_byteAt_X6_get rfl rfl rfl (by decide +kernel) ⟨Nat.le_of_ble_eq_true rfl, Nat.le_of_ble_eq_true rfl⟩) (z_preV hP hD hK hS hA hE hO [1] [] rfl (by decide +kernel) rfl 1 6 rfl rfl rfl) rfl rfl hl.1 rfl (lv_room (Nat.le_of_ble_eq_true rfl)) dX11_byteAt_5 ⟨Nat.le_of_ble_eq_true rfl, Nat.le_of_ble_eq_true rfl⟩) hP hD hK hS hA [1] [0] rfl rfl (by decide +kernel) (by decide +kernel) (fun r9 u9 H locs hw hP hD hK hS => ?_)
  obtain ⟨er9, rfl⟩ := hw
  have hP : va_P D vwCl [(a 0, .inr (10, [.ref (a 4), .ref (a 5), .ref (a 6), .ref (a 7), .ref (a 8), .ref (a 9), .ref (a 10), .ref (a 11), .ref (a 12), .int 0, .ref (a 13), .ref (a 102), .ref (a 14), .ref (a 15), .int (-1), .int (-1)])), (a 15, .inr (6, [.ref (a 50), .int 0]))] H := hP
  have hD : va_D A [(a 0, .inr (10, [.ref (a 4), .ref (a 5), .ref (a 6), .ref (a 7), .ref (a 8), .ref (a 9), .ref (a 10), .ref (a 11), .ref (a 12), .int 0, .ref (a 13), .ref (a 102), .ref (a 14), .ref (a 15), .int (-1), .int (-1)])), (a 15, .inr (6, [.ref (a 50), .int 0]))] := hD
  have hK : va_K D vwCl [] s := hK
  refine W.cs (cells' := 0) (slots' := 0) rfl rfl ?_
  obtain rfl := er9
  refine W.eq (g2 := F0 m 8 ls (.int (-1) :: [])) rfl ?_
  refine W.widen (k := 0) (n := 0) (by decide) (by decide) ?_
  exact hret (-1) ([], []) _ _ _ _ dX11_byteAt_8 rfl ⟨rfl, rfl⟩ (hP.sub [] rfl) (hK.sub [] rfl) (hD.sub [] (by decide +kernel) rfl) hS

set_option maxHeartbeats 8000000 in
set_option maxRecDepth 100000 in
theorem k_X11_told (l : Launch) (D : va_G) (ad : Nat → Nat) (a : Nat → Nat) (p0 : Int32)  : z_Mi l yX11_told wsX11_told { frames := 0, cells := 0, slots := 0, locals := 0 } D ad [.ref (a 0), .int p0] [(a 0, .inr (10, [.ref (a 4), .ref (a 5), .ref (a 6), .ref (a 7), .ref (a 8), .ref (a 9), .ref (a 10), .ref (a 11), .ref (a 12), .int 0, .ref (a 13), .ref (a 102), .ref (a 14), .ref (a 15), .int (-1), .int (-1)])), (a 14, .inr (0, [.ref (a 114), .ref (a 115), .ref (a 116), .int 0, .int (-1), .int (-1), .int (-1), .int (-1)]))] [] 0 0 (fun r9 u9 => r9 = (-1) ∧ u9 = ([], [])) := by
  refine z_ofI (cc := cX11_told) (maxL := 2) (rt := .int) (by decide) rfl (Nat.le_of_ble_eq_true rfl) ?_
  intro p e s m below meth c Q A ls hx hb hml hown hts hin hK hP hD hA hE hO hS hl hret
  have hown : s.vm.findClass RX11 = some m.cls := hown
  have hiX11 : ∀ w ∈ wsX110, w ∈ wsX11_told := fun _ h9 => List.mem_cons_of_mem _ (List.mem_append_left _ (List.mem_append_right _ h9))
  have hiX0 : ∀ w ∈ wsX00, w ∈ wsX11_told := fun _ h9 => List.mem_cons_of_mem _ (List.mem_append_right _ h9)
  have hl : lv_has ls 2 [(0, .ref (a 0)), (1, .int p0)] := hl
  refine lv_iload_n hx hb dX11_told_0 rfl (lv_at hl 1 rfl) ?_
  by_cases c_1 : p0 = 0
  · refine lv_tableIn (tgt := 32) hx hb dX11_told_1 (by rw [c_1]; decide) (by rw [c_1]; decide) (by rw [c_1]; rfl) (by decide) ?_
    refine lv_aload_n hx hb dX11_told_32 rfl (lv_at hl 0 rfl) ?_
    refine va_get (D := D) (ci := 10) (v := .ref (a 14)) (C := RX11) (T := TX11) (N := 16) hx hb hts hiX11 hown hK hP 0 rfl rfl 12 (by decide) (hts _ (List.mem_of_getElem? (i := 1) rfl)) (fun _ h9 => h9) rfl dX11_told_33 ?_
    refine va_get (D := D) (ci := 0) (v := .int (-1)) (C := RX0) (T := TX0) (N := 8) hx hb hts hiX0 hown hK hP 1 rfl rfl 4 (by decide) (hts _ (List.mem_of_getElem? (i := 2) rfl)) (fun _ h9 => h9) rfl dX11_told_36 ?_
    refine W.widen (k := 0) (n := 0) (by decide) (by decide) ?_
    exact hret (-1) ([], []) _ _ _ _ dX11_told_39 rfl ⟨rfl, rfl⟩ (hP.sub [] rfl) (hK.sub [] rfl) (hD.sub [] (by decide +kernel) rfl) hS
  · skip
    by_cases c_2 : p0 = 1
    · refine lv_tableIn (tgt := 40) hx hb dX11_told_1 (by rw [c_2]; decide) (by rw [c_2]; decide) (by rw [c_2]; rfl) (by decide) ?_
      refine lv_aload_n hx hb dX11_told_40 rfl (lv_at hl 0 rfl) ?_
      refine va_get (D := D) (ci := 10) (v := .ref (a 14)) (C := RX11) (T := TX11) (N := 16) hx hb hts hiX11 hown hK hP 0 rfl rfl 12 (by decide) (hts _ (List.mem_of_getElem? (i := 1) rfl)) (fun _ h9 => h9) rfl dX11_told_41 ?_
      refine va_get (D := D) (ci := 0) (v := .int (-1)) (C := RX0) (T := TX0) (N := 8) hx hb hts hiX0 hown hK hP 1 rfl rfl 5 (by decide) (hts _ (List.mem_of_getElem? (i := 3) rfl)) (fun _ h9 => h9) rfl dX11_told_44 ?_
      refine W.widen (k := 0) (n := 0) (by decide) (by decide) ?_
      exact hret (-1) ([], []) _ _ _ _ dX11_told_47 rfl ⟨rfl, rfl⟩ (hP.sub [] rfl) (hK.sub [] rfl) (hD.sub [] (by decide +kernel) rfl) hS
    · skip
      by_cases c_3 : p0 = 2
      · refine lv_tableIn (tgt := 48) hx hb dX11_told_1 (by rw [c_3]; decide) (by rw [c_3]; decide) (by rw [c_3]; rfl) (by decide) ?_
        refine lv_aload_n hx hb dX11_told_48 rfl (lv_at hl 0 rfl) ?_
        refine va_get (D := D) (ci := 10) (v := .ref (a 14)) (C := RX11) (T := TX11) (N := 16) hx hb hts hiX11 hown hK hP 0 rfl rfl 12 (by decide) (hts _ (List.mem_of_getElem? (i := 1) rfl)) (fun _ h9 => h9) rfl dX11_told_49 ?_
        refine va_get (D := D) (ci := 0) (v := .int (-1)) (C := RX0) (T := TX0) (N := 8) hx hb hts hiX0 hown hK hP 1 rfl rfl 6 (by decide) (hts _ (List.mem_of_getElem? (i := 4) rfl)) (fun _ h9 => h9) rfl dX11_told_52 ?_
        refine W.widen (k := 0) (n := 0) (by decide) (by decide) ?_
        exact hret (-1) ([], []) _ _ _ _ dX11_told_55 rfl ⟨rfl, rfl⟩ (hP.sub [] rfl) (hK.sub [] rfl) (hD.sub [] (by decide +kernel) rfl) hS
      · skip
        by_cases c_4 : p0 = 3
        · refine lv_tableIn (tgt := 56) hx hb dX11_told_1 (by rw [c_4]; decide) (by rw [c_4]; decide) (by rw [c_4]; rfl) (by decide) ?_
          refine lv_aload_n hx hb dX11_told_56 rfl (lv_at hl 0 rfl) ?_
          refine va_get (D := D) (ci := 10) (v := .ref (a 14)) (C := RX11) (T := TX11) (N := 16) hx hb hts hiX11 hown hK hP 0 rfl rfl 12 (by decide) (hts _ (List.mem_of_getElem? (i := 1) rfl)) (fun _ h9 => h9) rfl dX11_told_57 ?_
          refine va_get (D := D) (ci := 0) (v := .int (-1)) (C := RX0) (T := TX0) (N := 8) hx hb hts hiX0 hown hK hP 1 rfl rfl 7 (by decide) (hts _ (List.mem_of_getElem? (i := 5) rfl)) (fun _ h9 => h9) rfl dX11_told_60 ?_
          refine W.widen (k := 0) (n := 0) (by decide) (by decide) ?_
          exact hret (-1) ([], []) _ _ _ _ dX11_told_63 rfl ⟨rfl, rfl⟩ (hP.sub [] rfl) (hK.sub [] rfl) (hD.sub [] (by decide +kernel) rfl) hS
        · skip
          refine lv_tableOut (tgt := 64) hx hb dX11_told_1 (z_sw (M := 3) (n := 3) (by decide) (fun j hj e9 => by rcases (show j = 0 ∨ j = 1 ∨ j = 2 ∨ j = 3 by omega) with rfl | rfl | rfl | rfl <;> first | exact c_1 e9 | exact c_2 e9 | exact c_3 e9 | exact c_4 e9)) (by decide) ?_
          refine lv_iconst (v := (-1)) hx hb dX11_told_64 (by decide) ?_
          refine W.widen (k := 0) (n := 0) (by decide) (by decide) ?_
          exact hret (-1) ([], []) _ _ _ _ dX11_told_65 rfl ⟨rfl, rfl⟩ (hP.sub [] rfl) (hK.sub [] rfl) (hD.sub [] (by decide +kernel) rfl) hS

set_option maxHeartbeats 8000000 in
set_option maxRecDepth 100000 in
theorem k_X11_said (l : Launch) (D : va_G) (ad : Nat → Nat) (a : Nat → Nat) (p0 : Int32)  : z_Mi l yX11_said wsX11_said { frames := 0, cells := 0, slots := 0, locals := 0 } D ad [.ref (a 0), .int p0] [(a 0, .inr (10, [.ref (a 4), .ref (a 5), .ref (a 6), .ref (a 7), .ref (a 8), .ref (a 9), .ref (a 10), .ref (a 11), .ref (a 12), .int 0, .ref (a 13), .ref (a 102), .ref (a 14), .ref (a 15), .int (-1), .int (-1)])), (a 6, .inr (9, [.ref (a 7), .ref (a 8), .ref (a 27), .int 0])), (a 27, .inr (5, [.ref (a 127), .ref (a 128), .ref (a 129), .ref (a 130), .ref (a 131), .int 0, .int 0, .int 0, .int 0, .int 0]))] [] 0 0 (fun r9 u9 => r9 = (-1) ∧ u9 = ([], [])) := by
  refine z_ofI (cc := cX11_said) (maxL := 5) (rt := .int) (by decide) rfl (Nat.le_of_ble_eq_true rfl) ?_
  intro p e s m below meth c Q A ls hx hb hml hown hts hin hK hP hD hA hE hO hS hl hret
  have hown : s.vm.findClass RX11 = some m.cls := hown
  have hiX11 : ∀ w ∈ wsX110, w ∈ wsX11_said := fun _ h9 => List.mem_cons_of_mem _ (List.mem_append_left _ (List.mem_append_left _ (List.mem_append_left _ (List.mem_append_left _ (List.mem_append_left _ (List.mem_append_right _ h9))))))
  have hiX10 : ∀ w ∈ wsX100, w ∈ wsX11_said := fun _ h9 => List.mem_cons_of_mem _ (List.mem_append_left _ (List.mem_append_left _ (List.mem_append_left _ (List.mem_append_left _ (List.mem_append_right _ h9)))))
  have hiX5 : ∀ w ∈ wsX50, w ∈ wsX11_said := fun _ h9 => List.mem_cons_of_mem _ (List.mem_append_left _ (List.mem_append_left _ (List.mem_append_left _ (List.mem_append_right _ h9))))
  have hiX8 : ∀ w ∈ wsX80, w ∈ wsX11_said := fun _ h9 => List.mem_cons_of_mem _ (List.mem_append_left _ (List.mem_append_left _ (List.mem_append_right _ h9)))
  have hiX2 : ∀ w ∈ wsX20, w ∈ wsX11_said := fun _ h9 => List.mem_cons_of_mem _ (List.mem_append_left _ (List.mem_append_right _ h9))
  have hiX4 : ∀ w ∈ wsX40, w ∈ wsX11_said := fun _ h9 => List.mem_cons_of_mem _ (List.mem_append_right _ h9)
  have hl : lv_has ls 5 [(0, .ref (a 0)), (1, .int p0)] := hl
  refine lv_aload_n hx hb dX11_said_0 rfl (lv_at hl 0 rfl) ?_
  refine va_get (D := D) (ci := 10) (v := .ref (a 6)) (C := RX11) (T := TX11) (N := 16) hx hb hts hiX11 hown hK hP 0 rfl rfl 2 (by decide) (hts _ (List.mem_of_getElem? (i := 1) rfl)) (fun _ h9 => h9) rfl dX11_said_1 ?_
  refine va_get (D := D) (ci := 9) (v := .ref (a 27)) (C := RX10) (T := TX10) (N := 4) hx hb hts hiX10 hown hK hP 1 rfl rfl 2 (by decide) (hts _ (List.mem_of_getElem? (i := 2) rfl)) (fun _ h9 => h9) rfl dX11_said_4 ?_
  refine va_get (D := D) (ci := 5) (v := .int 0) (C := RX5) (T := TX5) (N := 10) hx hb hts hiX5 hown hK hP 2 rfl rfl 9 (by decide) (hts _ (List.mem_of_getElem? (i := 3) rfl)) (fun _ h9 => h9) rfl dX11_said_7 ?_
  refine lv_if_eq (tgt := 18) hx hb dX11_said_10 (by decide) (fun _ => ?_) (fun h9 => absurd (by decide) h9)
  refine lv_iconst (v := (-1)) hx hb dX11_said_18 (by decide) ?_
  refine W.widen (k := 0) (n := 0) (by decide) (by decide) ?_
  exact hret (-1) ([], []) _ _ _ _ dX11_said_19 rfl ⟨rfl, rfl⟩ (hP.sub [] rfl) (hK.sub [] rfl) (hD.sub [] (by decide +kernel) rfl) hS

set_option maxHeartbeats 8000000 in
set_option maxRecDepth 100000 in
theorem k_X11_toldAt (l : Launch) (D : va_G) (ad : Nat → Nat) (a : Nat → Nat) (t : Nat → ClassId) (p0 : Int32)  : z_Mi l yX11_toldAt wsX11_toldAt { frames := 0, cells := 0, slots := 0, locals := 0 } D ad [.ref (a 0), .int p0] [(a 0, .inr (10, [.ref (a 4), .ref (a 5), .ref (a 6), .ref (a 7), .ref (a 8), .ref (a 9), .ref (a 10), .ref (a 11), .ref (a 12), .int 0, .ref (a 13), .ref (a 102), .ref (a 14), .ref (a 15), .int (-1), .int (-1)])), (a 13, .inr (3, [.ref (a 8), .ref (a 7), .ref (a 110), .ref (a 111), .ref (a 48), .int 0, .ref (a 112), .int (-1), .ref (a 49), .ref (a 113), .int (-1)])), (a 48, .inl (t 21, 4, .inl (upd (upd (upd (upd (fun _ => 0) 0 (-1)) 1 (-1)) 2 (-1)) 3 (-1))))] [(t 21, .int)] 0 0 (fun r9 u9 => r9 = (-1) ∧ u9 = ([], [])) := by
  refine z_ofI (cc := cX11_toldAt) (maxL := 2) (rt := .int) (by decide) rfl (Nat.le_of_ble_eq_true rfl) ?_
  intro p e s m below meth c Q A ls hx hb hml hown hts hin hK hP hD hA hE hO hS hl hret
  have hown : s.vm.findClass RX11 = some m.cls := hown
  have hiX11 : ∀ w ∈ wsX110, w ∈ wsX11_toldAt := fun _ h9 => List.mem_cons_of_mem _ (List.mem_append_left _ (List.mem_append_right _ h9))
  have hiX3 : ∀ w ∈ wsX30, w ∈ wsX11_toldAt := fun _ h9 => List.mem_cons_of_mem _ (List.mem_append_right _ h9)
  have hl : lv_has ls 2 [(0, .ref (a 0)), (1, .int p0)] := hl
  refine lv_iload_n hx hb dX11_toldAt_0 rfl (lv_at hl 1 rfl) ?_
  refine lv_if_lt (tgt := 9) hx hb dX11_toldAt_1 (by decide) (fun c_1 => ?_) (fun c_1 => ?_)
  · refine lv_iconst (v := (-1)) hx hb dX11_toldAt_9 (by decide) ?_
    refine lv_goto (tgt := 22) hx hb dX11_toldAt_10 (by decide) ?_
    refine W.widen (k := 0) (n := 0) (by decide) (by decide) ?_
    exact hret (-1) ([], []) _ _ _ _ dX11_toldAt_22 rfl ⟨rfl, rfl⟩ (hP.sub [] rfl) (hK.sub [] rfl) (hD.sub [] (by decide +kernel) rfl) hS
  · refine lv_iload_n hx hb dX11_toldAt_4 rfl (lv_at hl 1 rfl) ?_
    refine lv_iconst (v := 4) hx hb dX11_toldAt_5 (by decide) ?_
    refine lv_icmp_lt (tgt := 13) hx hb dX11_toldAt_6 (by decide) (fun c_2 => ?_) (fun c_2 => ?_)
    · obtain ⟨j9, hj9, rfl⟩ := z_ix 4 (by decide) c_1 c_2
      rcases (show j9 = 0 ∨ j9 = 1 ∨ j9 = 2 ∨ j9 = 3 by omega) with rfl | rfl | rfl | rfl
      · refine lv_aload_n hx hb dX11_toldAt_13 rfl (lv_at hl 0 rfl) ?_
        refine va_get (D := D) (ci := 10) (v := .ref (a 13)) (C := RX11) (T := TX11) (N := 16) hx hb hts hiX11 hown hK hP 0 rfl rfl 10 (by decide) (hts _ (List.mem_of_getElem? (i := 1) rfl)) (fun _ h9 => h9) rfl dX11_toldAt_14 ?_
        refine va_get (D := D) (ci := 3) (v := .ref (a 48)) (C := RX3) (T := TX3) (N := 11) hx hb hts hiX3 hown hK hP 1 rfl rfl 4 (by decide) (hts _ (List.mem_of_getElem? (i := 2) rfl)) (fun _ h9 => h9) rfl dX11_toldAt_17 ?_
        refine lv_iload_n hx hb dX11_toldAt_20 rfl (lv_at hl 1 rfl) ?_
        refine va_iald hx hb hK hP 2 0 rfl rfl (show ¬ (_ ∨ _) by decide) dX11_toldAt_21 ?_
        refine W.eq (g2 := F0 m 22 ls (.int (-1) :: [])) rfl ?_
        refine W.widen (k := 0) (n := 0) (by decide) (by decide) ?_
        exact hret (-1) ([], []) _ _ _ _ dX11_toldAt_22 rfl ⟨rfl, rfl⟩ (hP.sub [] rfl) (hK.sub [] rfl) (hD.sub [] (by decide +kernel) rfl) hS
      · refine lv_aload_n hx hb dX11_toldAt_13 rfl (lv_at hl 0 rfl) ?_
        refine va_get (D := D) (ci := 10) (v := .ref (a 13)) (C := RX11) (T := TX11) (N := 16) hx hb hts hiX11 hown hK hP 0 rfl rfl 10 (by decide) (hts _ (List.mem_of_getElem? (i := 1) rfl)) (fun _ h9 => h9) rfl dX11_toldAt_14 ?_
        refine va_get (D := D) (ci := 3) (v := .ref (a 48)) (C := RX3) (T := TX3) (N := 11) hx hb hts hiX3 hown hK hP 1 rfl rfl 4 (by decide) (hts _ (List.mem_of_getElem? (i := 2) rfl)) (fun _ h9 => h9) rfl dX11_toldAt_17 ?_
        refine lv_iload_n hx hb dX11_toldAt_20 rfl (lv_at hl 1 rfl) ?_
        refine va_iald hx hb hK hP 2 0 rfl rfl (show ¬ (_ ∨ _) by decide) dX11_toldAt_21 ?_
        refine W.eq (g2 := F0 m 22 ls (.int (-1) :: [])) rfl ?_
        refine W.widen (k := 0) (n := 0) (by decide) (by decide) ?_
        exact hret (-1) ([], []) _ _ _ _ dX11_toldAt_22 rfl ⟨rfl, rfl⟩ (hP.sub [] rfl) (hK.sub [] rfl) (hD.sub [] (by decide +kernel) rfl) hS
      · refine lv_aload_n hx hb dX11_toldAt_13 rfl (lv_at hl 0 rfl) ?_
        refine va_get (D := D) (ci := 10) (v := .ref (a 13)) (C := RX11) (T := TX11) (N := 16) hx hb hts hiX11 hown hK hP 0 rfl rfl 10 (by decide) (hts _ (List.mem_of_getElem? (i := 1) rfl)) (fun _ h9 => h9) rfl dX11_toldAt_14 ?_
        refine va_get (D := D) (ci := 3) (v := .ref (a 48)) (C := RX3) (T := TX3) (N := 11) hx hb hts hiX3 hown hK hP 1 rfl rfl 4 (by decide) (hts _ (List.mem_of_getElem? (i := 2) rfl)) (fun _ h9 => h9) rfl dX11_toldAt_17 ?_
        refine lv_iload_n hx hb dX11_toldAt_20 rfl (lv_at hl 1 rfl) ?_
        refine va_iald hx hb hK hP 2 0 rfl rfl (show ¬ (_ ∨ _) by decide) dX11_toldAt_21 ?_
        refine W.eq (g2 := F0 m 22 ls (.int (-1) :: [])) rfl ?_
        refine W.widen (k := 0) (n := 0) (by decide) (by decide) ?_
        exact hret (-1) ([], []) _ _ _ _ dX11_toldAt_22 rfl ⟨rfl, rfl⟩ (hP.sub [] rfl) (hK.sub [] rfl) (hD.sub [] (by decide +kernel) rfl) hS
      · refine lv_aload_n hx hb dX11_toldAt_13 rfl (lv_at hl 0 rfl) ?_
        refine va_get (D := D) (ci := 10) (v := .ref (a 13)) (C := RX11) (T := TX11) (N := 16) hx hb hts hiX11 hown hK hP 0 rfl rfl 10 (by decide) (hts _ (List.mem_of_getElem? (i := 1) rfl)) (fun _ h9 => h9) rfl dX11_toldAt_14 ?_
        refine va_get (D := D) (ci := 3) (v := .ref (a 48)) (C := RX3) (T := TX3) (N := 11) hx hb hts hiX3 hown hK hP 1 rfl rfl 4 (by decide) (hts _ (List.mem_of_getElem? (i := 2) rfl)) (fun _ h9 => h9) rfl dX11_toldAt_17 ?_
        refine lv_iload_n hx hb dX11_toldAt_20 rfl (lv_at hl 1 rfl) ?_
        refine va_iald hx hb hK hP 2 0 rfl rfl (show ¬ (_ ∨ _) by decide) dX11_toldAt_21 ?_
        refine W.eq (g2 := F0 m 22 ls (.int (-1) :: [])) rfl ?_
        refine W.widen (k := 0) (n := 0) (by decide) (by decide) ?_
        exact hret (-1) ([], []) _ _ _ _ dX11_toldAt_22 rfl ⟨rfl, rfl⟩ (hP.sub [] rfl) (hK.sub [] rfl) (hD.sub [] (by decide +kernel) rfl) hS
    · refine lv_iconst (v := (-1)) hx hb dX11_toldAt_9 (by decide) ?_
      refine lv_goto (tgt := 22) hx hb dX11_toldAt_10 (by decide) ?_
      refine W.widen (k := 0) (n := 0) (by decide) (by decide) ?_
      exact hret (-1) ([], []) _ _ _ _ dX11_toldAt_22 rfl ⟨rfl, rfl⟩ (hP.sub [] rfl) (hK.sub [] rfl) (hD.sub [] (by decide +kernel) rfl) hS

set_option maxHeartbeats 8000000 in
set_option maxRecDepth 100000 in
theorem k_X11_hidden (l : Launch) (D : va_G) (ad : Nat → Nat) (a : Nat → Nat) (t : Nat → ClassId) (p0 : Int32)  : z_Mi l yX11_hidden wsX11_hidden { frames := 0, cells := 0, slots := 0, locals := 0 } D ad [.ref (a 0), .int p0] [(a 0, .inr (10, [.ref (a 4), .ref (a 5), .ref (a 6), .ref (a 7), .ref (a 8), .ref (a 9), .ref (a 10), .ref (a 11), .ref (a 12), .int 0, .ref (a 13), .ref (a 102), .ref (a 14), .ref (a 15), .int (-1), .int (-1)])), (a 13, .inr (3, [.ref (a 8), .ref (a 7), .ref (a 110), .ref (a 111), .ref (a 48), .int 0, .ref (a 112), .int (-1), .ref (a 49), .ref (a 113), .int (-1)])), (a 49, .inl (t 22, 7, .inl (upd (upd (upd (upd (upd (upd (upd (fun _ => 0) 0 (-1)) 1 (-1)) 2 (-1)) 3 (-1)) 4 (-1)) 5 (-1)) 6 (-1))))] [(t 22, .int)] 0 0 (fun r9 u9 => r9 = (-1) ∧ u9 = ([], [])) := by
  refine z_ofI (cc := cX11_hidden) (maxL := 2) (rt := .int) (by decide) rfl (Nat.le_of_ble_eq_true rfl) ?_
  intro p e s m below meth c Q A ls hx hb hml hown hts hin hK hP hD hA hE hO hS hl hret
  have hown : s.vm.findClass RX11 = some m.cls := hown
  have hiX11 : ∀ w ∈ wsX110, w ∈ wsX11_hidden := fun _ h9 => List.mem_cons_of_mem _ (List.mem_append_left _ (List.mem_append_right _ h9))
  have hiX3 : ∀ w ∈ wsX30, w ∈ wsX11_hidden := fun _ h9 => List.mem_cons_of_mem _ (List.mem_append_right _ h9)
  have hl : lv_has ls 2 [(0, .ref (a 0)), (1, .int p0)] := hl
  refine lv_iload_n hx hb dX11_hidden_0 rfl (lv_at hl 1 rfl) ?_
  refine lv_if_lt (tgt := 10) hx hb dX11_hidden_1 (by decide) (fun c_1 => ?_) (fun c_1 => ?_)
  · refine lv_iconst (v := (-1)) hx hb dX11_hidden_10 (by decide) ?_
    refine lv_goto (tgt := 23) hx hb dX11_hidden_11 (by decide) ?_
    refine W.widen (k := 0) (n := 0) (by decide) (by decide) ?_
    exact hret (-1) ([], []) _ _ _ _ dX11_hidden_23 rfl ⟨rfl, rfl⟩ (hP.sub [] rfl) (hK.sub [] rfl) (hD.sub [] (by decide +kernel) rfl) hS
  · refine lv_iload_n hx hb dX11_hidden_4 rfl (lv_at hl 1 rfl) ?_
    refine lv_bipush (v := 7) hx hb dX11_hidden_5 (by decide) ?_
    refine lv_icmp_lt (tgt := 14) hx hb dX11_hidden_7 (by decide) (fun c_2 => ?_) (fun c_2 => ?_)
    · obtain ⟨j9, hj9, rfl⟩ := z_ix 7 (by decide) c_1 c_2
      rcases (show j9 = 0 ∨ j9 = 1 ∨ j9 = 2 ∨ j9 = 3 ∨ j9 = 4 ∨ j9 = 5 ∨ j9 = 6 by omega) with rfl | rfl | rfl | rfl | rfl | rfl | rfl
      · refine lv_aload_n hx hb dX11_hidden_14 rfl (lv_at hl 0 rfl) ?_
        refine va_get (D := D) (ci := 10) (v := .ref (a 13)) (C := RX11) (T := TX11) (N := 16) hx hb hts hiX11 hown hK hP 0 rfl rfl 10 (by decide) (hts _ (List.mem_of_getElem? (i := 1) rfl)) (fun _ h9 => h9) rfl dX11_hidden_15 ?_
        refine va_get (D := D) (ci := 3) (v := .ref (a 49)) (C := RX3) (T := TX3) (N := 11) hx hb hts hiX3 hown hK hP 1 rfl rfl 8 (by decide) (hts _ (List.mem_of_getElem? (i := 2) rfl)) (fun _ h9 => h9) rfl dX11_hidden_18 ?_
        refine lv_iload_n hx hb dX11_hidden_21 rfl (lv_at hl 1 rfl) ?_
        refine va_iald hx hb hK hP 2 0 rfl rfl (show ¬ (_ ∨ _) by decide) dX11_hidden_22 ?_
        refine W.eq (g2 := F0 m 23 ls (.int (-1) :: [])) rfl ?_
        refine W.widen (k := 0) (n := 0) (by decide) (by decide) ?_
        exact hret (-1) ([], []) _ _ _ _ dX11_hidden_23 rfl ⟨rfl, rfl⟩ (hP.sub [] rfl) (hK.sub [] rfl) (hD.sub [] (by decide +kernel) rfl) hS
      · refine lv_aload_n hx hb dX11_hidden_14 rfl (lv_at hl 0 rfl) ?_
        refine va_get (D := D) (ci := 10) (v := .ref (a 13)) (C := RX11) (T := TX11) (N := 16) hx hb hts hiX11 hown hK hP 0 rfl rfl 10 (by decide) (hts _ (List.mem_of_getElem? (i := 1) rfl)) (fun _ h9 => h9) rfl dX11_hidden_15 ?_
        refine va_get (D := D) (ci := 3) (v := .ref (a 49)) (C := RX3) (T := TX3) (N := 11) hx hb hts hiX3 hown hK hP 1 rfl rfl 8 (by decide) (hts _ (List.mem_of_getElem? (i := 2) rfl)) (fun _ h9 => h9) rfl dX11_hidden_18 ?_
        refine lv_iload_n hx hb dX11_hidden_21 rfl (lv_at hl 1 rfl) ?_
        refine va_iald hx hb hK hP 2 0 rfl rfl (show ¬ (_ ∨ _) by decide) dX11_hidden_22 ?_
        refine W.eq (g2 := F0 m 23 ls (.int (-1) :: [])) rfl ?_
        refine W.widen (k := 0) (n := 0) (by decide) (by decide) ?_
        exact hret (-1) ([], []) _ _ _ _ dX11_hidden_23 rfl ⟨rfl, rfl⟩ (hP.sub [] rfl) (hK.sub [] rfl) (hD.sub [] (by decide +kernel) rfl) hS
      · refine lv_aload_n hx hb dX11_hidden_14 rfl (lv_at hl 0 rfl) ?_
        refine va_get (D := D) (ci := 10) (v := .ref (a 13)) (C := RX11) (T := TX11) (N := 16) hx hb hts hiX11 hown hK hP 0 rfl rfl 10 (by decide) (hts _ (List.mem_of_getElem? (i := 1) rfl)) (fun _ h9 => h9) rfl dX11_hidden_15 ?_
        refine va_get (D := D) (ci := 3) (v := .ref (a 49)) (C := RX3) (T := TX3) (N := 11) hx hb hts hiX3 hown hK hP 1 rfl rfl 8 (by decide) (hts _ (List.mem_of_getElem? (i := 2) rfl)) (fun _ h9 => h9) rfl dX11_hidden_18 ?_
        refine lv_iload_n hx hb dX11_hidden_21 rfl (lv_at hl 1 rfl) ?_
        refine va_iald hx hb hK hP 2 0 rfl rfl (show ¬ (_ ∨ _) by decide) dX11_hidden_22 ?_
        refine W.eq (g2 := F0 m 23 ls (.int (-1) :: [])) rfl ?_
        refine W.widen (k := 0) (n := 0) (by decide) (by decide) ?_
        exact hret (-1) ([], []) _ _ _ _ dX11_hidden_23 rfl ⟨rfl, rfl⟩ (hP.sub [] rfl) (hK.sub [] rfl) (hD.sub [] (by decide +kernel) rfl) hS
      · refine lv_aload_n hx hb dX11_hidden_14 rfl (lv_at hl 0 rfl) ?_
        refine va_get (D := D) (ci := 10) (v := .ref (a 13)) (C := RX11) (T := TX11) (N := 16) hx hb hts hiX11 hown hK hP 0 rfl rfl 10 (by decide) (hts _ (List.mem_of_getElem? (i := 1) rfl)) (fun _ h9 => h9) rfl dX11_hidden_15 ?_
        refine va_get (D := D) (ci := 3) (v := .ref (a 49)) (C := RX3) (T := TX3) (N := 11) hx hb hts hiX3 hown hK hP 1 rfl rfl 8 (by decide) (hts _ (List.mem_of_getElem? (i := 2) rfl)) (fun _ h9 => h9) rfl dX11_hidden_18 ?_
        refine lv_iload_n hx hb dX11_hidden_21 rfl (lv_at hl 1 rfl) ?_
        refine va_iald hx hb hK hP 2 0 rfl rfl (show ¬ (_ ∨ _) by decide) dX11_hidden_22 ?_
        refine W.eq (g2 := F0 m 23 ls (.int (-1) :: [])) rfl ?_
        refine W.widen (k := 0) (n := 0) (by decide) (by decide) ?_
        exact hret (-1) ([], []) _ _ _ _ dX11_hidden_23 rfl ⟨rfl, rfl⟩ (hP.sub [] rfl) (hK.sub [] rfl) (hD.sub [] (by decide +kernel) rfl) hS
      · refine lv_aload_n hx hb dX11_hidden_14 rfl (lv_at hl 0 rfl) ?_
        refine va_get (D := D) (ci := 10) (v := .ref (a 13)) (C := RX11) (T := TX11) (N := 16) hx hb hts hiX11 hown hK hP 0 rfl rfl 10 (by decide) (hts _ (List.mem_of_getElem? (i := 1) rfl)) (fun _ h9 => h9) rfl dX11_hidden_15 ?_
        refine va_get (D := D) (ci := 3) (v := .ref (a 49)) (C := RX3) (T := TX3) (N := 11) hx hb hts hiX3 hown hK hP 1 rfl rfl 8 (by decide) (hts _ (List.mem_of_getElem? (i := 2) rfl)) (fun _ h9 => h9) rfl dX11_hidden_18 ?_
        refine lv_iload_n hx hb dX11_hidden_21 rfl (lv_at hl 1 rfl) ?_
        refine va_iald hx hb hK hP 2 0 rfl rfl (show ¬ (_ ∨ _) by decide) dX11_hidden_22 ?_
        refine W.eq (g2 := F0 m 23 ls (.int (-1) :: [])) rfl ?_
        refine W.widen (k := 0) (n := 0) (by decide) (by decide) ?_
        exact hret (-1) ([], []) _ _ _ _ dX11_hidden_23 rfl ⟨rfl, rfl⟩ (hP.sub [] rfl) (hK.sub [] rfl) (hD.sub [] (by decide +kernel) rfl) hS
      · refine lv_aload_n hx hb dX11_hidden_14 rfl (lv_at hl 0 rfl) ?_
        refine va_get (D := D) (ci := 10) (v := .ref (a 13)) (C := RX11) (T := TX11) (N := 16) hx hb hts hiX11 hown hK hP 0 rfl rfl 10 (by decide) (hts _ (List.mem_of_getElem? (i := 1) rfl)) (fun _ h9 => h9) rfl dX11_hidden_15 ?_
        refine va_get (D := D) (ci := 3) (v := .ref (a 49)) (C := RX3) (T := TX3) (N := 11) hx hb hts hiX3 hown hK hP 1 rfl rfl 8 (by decide) (hts _ (List.mem_of_getElem? (i := 2) rfl)) (fun _ h9 => h9) rfl dX11_hidden_18 ?_
        refine lv_iload_n hx hb dX11_hidden_21 rfl (lv_at hl 1 rfl) ?_
        refine va_iald hx hb hK hP 2 0 rfl rfl (show ¬ (_ ∨ _) by decide) dX11_hidden_22 ?_
        refine W.eq (g2 := F0 m 23 ls (.int (-1) :: [])) rfl ?_
        refine W.widen (k := 0) (n := 0) (by decide) (by decide) ?_
        exact hret (-1) ([], []) _ _ _ _ dX11_hidden_23 rfl ⟨rfl, rfl⟩ (hP.sub [] rfl) (hK.sub [] rfl) (hD.sub [] (by decide +kernel) rfl) hS
      · refine lv_aload_n hx hb dX11_hidden_14 rfl (lv_at hl 0 rfl) ?_
        refine va_get (D := D) (ci := 10) (v := .ref (a 13)) (C := RX11) (T := TX11) (N := 16) hx hb hts hiX11 hown hK hP 0 rfl rfl 10 (by decide) (hts _ (List.mem_of_getElem? (i := 1) rfl)) (fun _ h9 => h9) rfl dX11_hidden_15 ?_
        refine va_get (D := D) (ci := 3) (v := .ref (a 49)) (C := RX3) (T := TX3) (N := 11) hx hb hts hiX3 hown hK hP 1 rfl rfl 8 (by decide) (hts _ (List.mem_of_getElem? (i := 2) rfl)) (fun _ h9 => h9) rfl dX11_hidden_18 ?_
        refine lv_iload_n hx hb dX11_hidden_21 rfl (lv_at hl 1 rfl) ?_
        refine va_iald hx hb hK hP 2 0 rfl rfl (show ¬ (_ ∨ _) by decide) dX11_hidden_22 ?_
        refine W.eq (g2 := F0 m 23 ls (.int (-1) :: [])) rfl ?_
        refine W.widen (k := 0) (n := 0) (by decide) (by decide) ?_
        exact hret (-1) ([], []) _ _ _ _ dX11_hidden_23 rfl ⟨rfl, rfl⟩ (hP.sub [] rfl) (hK.sub [] rfl) (hD.sub [] (by decide +kernel) rfl) hS
    · refine lv_iconst (v := (-1)) hx hb dX11_hidden_10 (by decide) ?_
      refine lv_goto (tgt := 23) hx hb dX11_hidden_11 (by decide) ?_
      refine W.widen (k := 0) (n := 0) (by decide) (by decide) ?_
      exact hret (-1) ([], []) _ _ _ _ dX11_hidden_23 rfl ⟨rfl, rfl⟩ (hP.sub [] rfl) (hK.sub [] rfl) (hD.sub [] (by decide +kernel) rfl) hS

set_option maxHeartbeats 8000000 in
set_option maxRecDepth 100000 in
theorem k_X11_restore (l : Launch) (D : va_G) (ad : Nat → Nat) (a : Nat → Nat) (t : Nat → ClassId) (p0 : Int32)  : z_Mi l yX11_restore wsX11_restore { frames := 0, cells := 0, slots := 0, locals := 0 } D ad [.ref (a 0), .int p0] [(a 0, .inr (10, [.ref (a 4), .ref (a 5), .ref (a 6), .ref (a 7), .ref (a 8), .ref (a 9), .ref (a 10), .ref (a 11), .ref (a 12), .int 0, .ref (a 13), .ref (a 102), .ref (a 14), .ref (a 15), .int (-1), .int (-1)])), (a 1, .inr (9, [.ref (a 16), .ref (a 17), .ref (a 18), .int 0])), (a 2, .inr (9, [.ref (a 19), .ref (a 20), .ref (a 21), .int 0])), (a 10, .inl (t 0, 2, .inr (.inr (.inr (.inr (va_up (va_up (fun _ => none) 0 (some (a 1))) 1 (some (a 2))))))))] [(t 0, .object "FuneralUmbrellas$World")] 0 0 (fun r9 u9 => r9 = 0 ∧ u9 = ([], [])) := by
  refine z_ofI (cc := cX11_restore) (maxL := 2) (rt := .boolean) (by decide) rfl (Nat.le_of_ble_eq_true rfl) ?_
  intro p e s m below meth c Q A ls hx hb hml hown hts hin hK hP hD hA hE hO hS hl hret
  have hown : s.vm.findClass RX11 = some m.cls := hown
  have hiX11 : ∀ w ∈ wsX110, w ∈ wsX11_restore := fun _ h9 => List.mem_cons_of_mem _ (List.mem_append_left _ (List.mem_append_left _ (List.mem_append_left _ (List.mem_append_left _ (List.mem_append_left _ (List.mem_append_right _ h9))))))
  have hiX10 : ∀ w ∈ wsX100, w ∈ wsX11_restore := fun _ h9 => List.mem_cons_of_mem _ (List.mem_append_left _ (List.mem_append_left _ (List.mem_append_left _ (List.mem_append_left _ (List.mem_append_right _ h9)))))
  have hiX8 : ∀ w ∈ wsX80, w ∈ wsX11_restore := fun _ h9 => List.mem_cons_of_mem _ (List.mem_append_left _ (List.mem_append_left _ (List.mem_append_left _ (List.mem_append_right _ h9))))
  have hiX2 : ∀ w ∈ wsX20, w ∈ wsX11_restore := fun _ h9 => List.mem_cons_of_mem _ (List.mem_append_left _ (List.mem_append_left _ (List.mem_append_right _ h9)))
  have hiX4 : ∀ w ∈ wsX40, w ∈ wsX11_restore := fun _ h9 => List.mem_cons_of_mem _ (List.mem_append_left _ (List.mem_append_right _ h9))
  have hiX5 : ∀ w ∈ wsX50, w ∈ wsX11_restore := fun _ h9 => List.mem_cons_of_mem _ (List.mem_append_right _ h9)
  have hl : lv_has ls 2 [(0, .ref (a 0)), (1, .int p0)] := hl
  refine lv_iload_n hx hb dX11_restore_0 rfl (lv_at hl 1 rfl) ?_
  refine lv_if_lt (tgt := 25) hx hb dX11_restore_1 (by decide) (fun c_1 => ?_) (fun c_1 => ?_)
  · refine lv_iconst (v := 0) hx hb dX11_restore_25 (by decide) ?_
    refine W.widen (k := 0) (n := 0) (by decide) (by decide) ?_
    exact hret 0 ([], []) _ _ _ _ dX11_restore_26 (by decide) ⟨rfl, rfl⟩ (hP.sub [] rfl) (hK.sub [] rfl) (hD.sub [] (by decide +kernel) rfl) hS
  · refine lv_iload_n hx hb dX11_restore_4 rfl (lv_at hl 1 rfl) ?_
    refine lv_aload_n hx hb dX11_restore_5 rfl (lv_at hl 0 rfl) ?_
    refine va_get (D := D) (ci := 10) (v := .ref (a 10)) (C := RX11) (T := TX11) (N := 16) hx hb hts hiX11 hown hK hP 0 rfl rfl 6 (by decide) (hts _ (List.mem_of_getElem? (i := 1) rfl)) (fun _ h9 => h9) rfl dX11_restore_6 ?_
    refine va_alen (v := 2) hx hb hK hP 3 0 rfl rfl rfl dX11_restore_9 ?_
    refine lv_icmp_ge (tgt := 25) hx hb dX11_restore_10 (by decide) (fun c_2 => ?_) (fun c_2 => ?_)
    · refine lv_iconst (v := 0) hx hb dX11_restore_25 (by decide) ?_
      refine W.widen (k := 0) (n := 0) (by decide) (by decide) ?_
      exact hret 0 ([], []) _ _ _ _ dX11_restore_26 (by decide) ⟨rfl, rfl⟩ (hP.sub [] rfl) (hK.sub [] rfl) (hD.sub [] (by decide +kernel) rfl) hS
    · obtain ⟨j9, hj9, rfl⟩ := z_ix 2 (by decide) c_1 (Int32.not_le.mp c_2)
      rcases (show j9 = 0 ∨ j9 = 1 by omega) with rfl | rfl
      · refine lv_aload_n hx hb dX11_restore_13 rfl (lv_at hl 0 rfl) ?_
        refine va_get (D := D) (ci := 10) (v := .ref (a 10)) (C := RX11) (T := TX11) (N := 16) hx hb hts hiX11 hown hK hP 0 rfl rfl 6 (by decide) (hts _ (List.mem_of_getElem? (i := 1) rfl)) (fun _ h9 => h9) rfl dX11_restore_14 ?_
        refine lv_iload_n hx hb dX11_restore_17 rfl (lv_at hl 1 rfl) ?_
        refine va_aldq hx hb hK hP 3 0 rfl rfl (show ¬ (_ ∨ _) by decide) dX11_restore_18 ?_
        refine W.eq (g2 := F0 m 19 ls (.ref (a 1) :: [])) rfl ?_
        refine va_get (D := D) (ci := 9) (v := .int 0) (C := RX10) (T := TX10) (N := 4) hx hb hts hiX10 hown hK hP 1 rfl rfl 3 (by decide) (hts _ (List.mem_of_getElem? (i := 2) rfl)) (fun _ h9 => h9) rfl dX11_restore_19 ?_
        refine lv_if_ne (tgt := 27) hx hb dX11_restore_22 (by decide) (fun h9 => absurd (by decide) h9) (fun _ => ?_)
        refine lv_iconst (v := 0) hx hb dX11_restore_25 (by decide) ?_
        refine W.widen (k := 0) (n := 0) (by decide) (by decide) ?_
        exact hret 0 ([], []) _ _ _ _ dX11_restore_26 (by decide) ⟨rfl, rfl⟩ (hP.sub [] rfl) (hK.sub [] rfl) (hD.sub [] (by decide +kernel) rfl) hS
      · refine lv_aload_n hx hb dX11_restore_13 rfl (lv_at hl 0 rfl) ?_
        refine va_get (D := D) (ci := 10) (v := .ref (a 10)) (C := RX11) (T := TX11) (N := 16) hx hb hts hiX11 hown hK hP 0 rfl rfl 6 (by decide) (hts _ (List.mem_of_getElem? (i := 1) rfl)) (fun _ h9 => h9) rfl dX11_restore_14 ?_
        refine lv_iload_n hx hb dX11_restore_17 rfl (lv_at hl 1 rfl) ?_
        refine va_aldq hx hb hK hP 3 0 rfl rfl (show ¬ (_ ∨ _) by decide) dX11_restore_18 ?_
        refine W.eq (g2 := F0 m 19 ls (.ref (a 2) :: [])) rfl ?_
        refine va_get (D := D) (ci := 9) (v := .int 0) (C := RX10) (T := TX10) (N := 4) hx hb hts hiX10 hown hK hP 2 rfl rfl 3 (by decide) (hts _ (List.mem_of_getElem? (i := 2) rfl)) (fun _ h9 => h9) rfl dX11_restore_19 ?_
        refine lv_if_ne (tgt := 27) hx hb dX11_restore_22 (by decide) (fun h9 => absurd (by decide) h9) (fun _ => ?_)
        refine lv_iconst (v := 0) hx hb dX11_restore_25 (by decide) ?_
        refine W.widen (k := 0) (n := 0) (by decide) (by decide) ?_
        exact hret 0 ([], []) _ _ _ _ dX11_restore_26 (by decide) ⟨rfl, rfl⟩ (hP.sub [] rfl) (hK.sub [] rfl) (hD.sub [] (by decide +kernel) rfl) hS
