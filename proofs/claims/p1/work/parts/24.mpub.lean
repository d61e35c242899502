theorem dX12_feed_0 : decode cX12_feed 0 = .ok (.aload_n 0, 1) := by decide +kernel
theorem dX12_feed_1 : decode cX12_feed 1 = .ok (.iconst 0, 1) := by decide +kernel
theorem dX12_feed_2 : decode cX12_feed 2 = .ok (.putfield 1, 3) := by decide +kernel
theorem dX12_feed_5 : decode cX12_feed 5 = .ok (.aload_n 0, 1) := by decide +kernel
theorem dX12_feed_6 : decode cX12_feed 6 = .ok (.getfield 7, 3) := by decide +kernel
theorem dX12_feed_9 : decode cX12_feed 9 = .ok (.bipush 20, 2) := by decide +kernel
theorem dX12_feed_11 : decode cX12_feed 11 = .ok (.iadd, 1) := by decide +kernel
theorem dX12_feed_12 : decode cX12_feed 12 = .ok (.sipush 940, 3) := by decide +kernel
theorem dX12_feed_15 : decode cX12_feed 15 = .ok (.if_icmp .le 5, 3) := by decide +kernel
theorem dX12_feed_20 : decode cX12_feed 20 = .ok (.aload_n 0, 1) := by decide +kernel
theorem dX12_feed_21 : decode cX12_feed 21 = .ok (.iload_n 1, 1) := by decide +kernel
theorem dX12_feed_22 : decode cX12_feed 22 = .ok (.invokevirtual 10, 3) := by decide +kernel
theorem dX12_feed_25 : decode cX12_feed 25 = .ok (.aload_n 0, 1) := by decide +kernel
theorem dX12_feed_26 : decode cX12_feed 26 = .ok (.iload_n 2, 1) := by decide +kernel
theorem dX12_feed_27 : decode cX12_feed 27 = .ok (.invokevirtual 10, 3) := by decide +kernel
theorem dX12_feed_30 : decode cX12_feed 30 = .ok (.aload_n 0, 1) := by decide +kernel
theorem dX12_feed_31 : decode cX12_feed 31 = .ok (.iload_n 3, 1) := by decide +kernel
theorem dX12_feed_32 : decode cX12_feed 32 = .ok (.invokevirtual 10, 3) := by decide +kernel
theorem dX12_feed_35 : decode cX12_feed 35 = .ok (.aload_n 0, 1) := by decide +kernel
theorem dX12_feed_36 : decode cX12_feed 36 = .ok (.iload 4, 2) := by decide +kernel
theorem dX12_feed_38 : decode cX12_feed 38 = .ok (.invokevirtual 10, 3) := by decide +kernel
theorem dX12_feed_41 : decode cX12_feed 41 = .ok (.aload_n 0, 1) := by decide +kernel
theorem dX12_feed_42 : decode cX12_feed 42 = .ok (.iload 5, 2) := by decide +kernel
theorem dX12_feed_44 : decode cX12_feed 44 = .ok (.invokevirtual 10, 3) := by decide +kernel
theorem dX12_feed_47 : decode cX12_feed 47 = .ok (.aload_n 0, 1) := by decide +kernel
theorem dX12_feed_48 : decode cX12_feed 48 = .ok (.getfield 7, 3) := by decide +kernel
theorem dX12_feed_51 : decode cX12_feed 51 = .ok (.ireturn, 1) := by decide +kernel
theorem dX12_end_0 : decode cX12_end 0 = .ok (.aload_n 0, 1) := by decide +kernel
theorem dX12_end_1 : decode cX12_end 1 = .ok (.iconst 0, 1) := by decide +kernel
theorem dX12_end_2 : decode cX12_end 2 = .ok (.putfield 1, 3) := by decide +kernel
theorem dX12_end_5 : decode cX12_end 5 = .ok (.iload_n 1, 1) := by decide +kernel
theorem dX12_end_6 : decode cX12_end 6 = .ok (.ifCond .lt 11, 3) := by decide +kernel
theorem dX12_end_9 : decode cX12_end 9 = .ok (.iload_n 1, 1) := by decide +kernel
theorem dX12_end_10 : decode cX12_end 10 = .ok (.aload_n 0, 1) := by decide +kernel
theorem dX12_end_11 : decode cX12_end 11 = .ok (.getfield 7, 3) := by decide +kernel
theorem dX12_end_14 : decode cX12_end 14 = .ok (.if_icmp .le 5, 3) := by decide +kernel
theorem dX12_end_17 : decode cX12_end 17 = .ok (.iconst 0, 1) := by decide +kernel
theorem dX12_end_18 : decode cX12_end 18 = .ok (.ireturn, 1) := by decide +kernel
theorem dX12_end_19 : decode cX12_end 19 = .ok (.aload_n 0, 1) := by decide +kernel
theorem dX12_end_20 : decode cX12_end 20 = .ok (.iload_n 1, 1) := by decide +kernel
theorem dX12_end_21 : decode cX12_end 21 = .ok (.putfield 7, 3) := by decide +kernel
theorem dX12_end_24 : decode cX12_end 24 = .ok (.iconst 1, 1) := by decide +kernel
theorem dX12_end_25 : decode cX12_end 25 = .ok (.ireturn, 1) := by decide +kernel
theorem dX12_fault_0 : decode cX12_fault 0 = .ok (.aload_n 0, 1) := by decide +kernel
theorem dX12_fault_1 : decode cX12_fault 1 = .ok (.iconst 0, 1) := by decide +kernel
theorem dX12_fault_2 : decode cX12_fault 2 = .ok (.putfield 1, 3) := by decide +kernel
theorem dX12_fault_5 : decode cX12_fault 5 = .ok (.aload_n 0, 1) := by decide +kernel
theorem dX12_fault_6 : decode cX12_fault 6 = .ok (.getfield 171, 3) := by decide +kernel
theorem dX12_fault_9 : decode cX12_fault 9 = .ok (.ireturn, 1) := by decide +kernel
theorem dX12_person_0 : decode cX12_person 0 = .ok (.aload_n 0, 1) := by decide +kernel
theorem dX12_person_1 : decode cX12_person 1 = .ok (.aload_n 0, 1) := by decide +kernel
theorem dX12_person_2 : decode cX12_person 2 = .ok (.iload_n 1, 1) := by decide +kernel
theorem dX12_person_3 : decode cX12_person 3 = .ok (.invokevirtual 281, 3) := by decide +kernel
theorem dX12_person_6 : decode cX12_person 6 = .ok (.ifCond .eq 13, 3) := by decide +kernel
theorem dX12_person_19 : decode cX12_person 19 = .ok (.iconst 1, 1) := by decide +kernel
theorem dX12_person_20 : decode cX12_person 20 = .ok (.goto 4, 3) := by decide +kernel
theorem dX12_person_24 : decode cX12_person 24 = .ok (.invokevirtual 284, 3) := by decide +kernel
theorem dX12_person_27 : decode cX12_person 27 = .ok (.ifCond .eq 5, 3) := by decide +kernel
theorem dX12_person_30 : decode cX12_person 30 = .ok (.iconst 0, 1) := by decide +kernel
theorem dX12_person_31 : decode cX12_person 31 = .ok (.ireturn, 1) := by decide +kernel
theorem dX12_umbrella_0 : decode cX12_umbrella 0 = .ok (.aload_n 0, 1) := by decide +kernel
theorem dX12_umbrella_1 : decode cX12_umbrella 1 = .ok (.aload_n 0, 1) := by decide +kernel
theorem dX12_umbrella_2 : decode cX12_umbrella 2 = .ok (.iload_n 1, 1) := by decide +kernel
theorem dX12_umbrella_3 : decode cX12_umbrella 3 = .ok (.invokevirtual 300, 3) := by decide +kernel
theorem dX12_umbrella_6 : decode cX12_umbrella 6 = .ok (.ifCond .eq 12, 3) := by decide +kernel
theorem dX12_umbrella_18 : decode cX12_umbrella 18 = .ok (.iconst 1, 1) := by decide +kernel
theorem dX12_umbrella_19 : decode cX12_umbrella 19 = .ok (.goto 4, 3) := by decide +kernel
theorem dX12_umbrella_23 : decode cX12_umbrella 23 = .ok (.invokevirtual 284, 3) := by decide +kernel
theorem dX12_umbrella_26 : decode cX12_umbrella 26 = .ok (.ifCond .eq 5, 3) := by decide +kernel
theorem dX12_umbrella_29 : decode cX12_umbrella 29 = .ok (.iconst 0, 1) := by decide +kernel
theorem dX12_umbrella_30 : decode cX12_umbrella 30 = .ok (.ireturn, 1) := by decide +kernel
theorem dX12_sorrow_0 : decode cX12_sorrow 0 = .ok (.aload_n 0, 1) := by decide +kernel
theorem dX12_sorrow_1 : decode cX12_sorrow 1 = .ok (.aload_n 0, 1) := by decide +kernel
theorem dX12_sorrow_2 : decode cX12_sorrow 2 = .ok (.iload_n 1, 1) := by decide +kernel
theorem dX12_sorrow_3 : decode cX12_sorrow 3 = .ok (.invokevirtual 306, 3) := by decide +kernel
theorem dX12_sorrow_6 : decode cX12_sorrow 6 = .ok (.ifCond .eq 12, 3) := by decide +kernel
theorem dX12_sorrow_18 : decode cX12_sorrow 18 = .ok (.iconst 1, 1) := by decide +kernel
theorem dX12_sorrow_19 : decode cX12_sorrow 19 = .ok (.goto 4, 3) := by decide +kernel
theorem dX12_sorrow_23 : decode cX12_sorrow 23 = .ok (.invokevirtual 284, 3) := by decide +kernel
theorem dX12_sorrow_26 : decode cX12_sorrow 26 = .ok (.ifCond .eq 5, 3) := by decide +kernel
theorem dX12_sorrow_29 : decode cX12_sorrow 29 = .ok (.iconst 0, 1) := by decide +kernel
theorem dX12_sorrow_30 : decode cX12_sorrow 30 = .ok (.ireturn, 1) := by decide +kernel
theorem dX12_place_0 : decode cX12_place 0 = .ok (.aload_n 0, 1) := by decide +kernel
theorem dX12_place_1 : decode cX12_place 1 = .ok (.iconst 0, 1) := by decide +kernel
theorem dX12_place_2 : decode cX12_place 2 = .ok (.putfield 1, 3) := by decide +kernel
theorem dX12_place_5 : decode cX12_place 5 = .ok (.aload_n 0, 1) := by decide +kernel
theorem dX12_place_6 : decode cX12_place 6 = .ok (.iload_n 1, 1) := by decide +kernel
theorem dX12_place_7 : decode cX12_place 7 = .ok (.invokevirtual 309, 3) := by decide +kernel
theorem dX12_place_10 : decode cX12_place 10 = .ok (.ifCond .ne 5, 3) := by decide +kernel
theorem dX12_place_13 : decode cX12_place 13 = .ok (.iconst (-1), 1) := by decide +kernel
theorem dX12_place_14 : decode cX12_place 14 = .ok (.ireturn, 1) := by decide +kernel
theorem dX12_now_0 : decode cX12_now 0 = .ok (.aload_n 0, 1) := by decide +kernel
theorem dX12_now_1 : decode cX12_now 1 = .ok (.iconst 0, 1) := by decide +kernel
theorem dX12_now_2 : decode cX12_now 2 = .ok (.putfield 1, 3) := by decide +kernel
theorem dX12_now_5 : decode cX12_now 5 = .ok (.iconst 0, 1) := by decide +kernel
theorem dX12_now_6 : decode cX12_now 6 = .ok (.istore_n 2, 1) := by decide +kernel
theorem dX12_now_7 : decode cX12_now 7 = .ok (.iconst 0, 1) := by decide +kernel
theorem dX12_now_8 : decode cX12_now 8 = .ok (.istore_n 3, 1) := by decide +kernel
theorem dX12_now_9 : decode cX12_now 9 = .ok (.iconst 0, 1) := by decide +kernel
theorem dX12_now_10 : decode cX12_now 10 = .ok (.istore 4, 2) := by decide +kernel
theorem dX12_now_12 : decode cX12_now 12 = .ok (.iconst 0, 1) := by decide +kernel
theorem dX12_now_13 : decode cX12_now 13 = .ok (.istore 5, 2) := by decide +kernel
theorem dX12_now_15 : decode cX12_now 15 = .ok (.iload 5, 2) := by decide +kernel
theorem dX12_now_17 : decode cX12_now 17 = .ok (.aload_n 0, 1) := by decide +kernel
theorem dX12_now_18 : decode cX12_now 18 = .ok (.getfield 33, 3) := by decide +kernel
theorem dX12_now_21 : decode cX12_now 21 = .ok (.iconst 3, 1) := by decide +kernel
theorem dX12_now_22 : decode cX12_now 22 = .ok (.iaload, 1) := by decide +kernel
theorem dX12_now_23 : decode cX12_now 23 = .ok (.if_icmp .ge 33, 3) := by decide +kernel
theorem dX12_now_56 : decode cX12_now 56 = .ok (.iconst 0, 1) := by decide +kernel
theorem dX12_now_57 : decode cX12_now 57 = .ok (.istore 5, 2) := by decide +kernel
theorem dX12_now_59 : decode cX12_now 59 = .ok (.iload 5, 2) := by decide +kernel
theorem dX12_now_61 : decode cX12_now 61 = .ok (.aload_n 0, 1) := by decide +kernel
theorem dX12_now_62 : decode cX12_now 62 = .ok (.getfield 33, 3) := by decide +kernel
theorem dX12_now_65 : decode cX12_now 65 = .ok (.iconst 1, 1) := by decide +kernel
theorem dX12_now_66 : decode cX12_now 66 = .ok (.iaload, 1) := by decide +kernel
theorem dX12_now_67 : decode cX12_now 67 = .ok (.if_icmp .ge 40, 3) := by decide +kernel
theorem dX12_now_107 : decode cX12_now 107 = .ok (.iload_n 1, 1) := by decide +kernel
theorem dX12_now_108 : decode cX12_now 108 = .ok (.tableswitch 92 0 7 #[48, 56, 61, 63, 65, 68, 79, 84], 48) := by decide +kernel
theorem dX12_now_156 : decode cX12_now 156 = .ok (.aload_n 0, 1) := by decide +kernel
theorem dX12_now_157 : decode cX12_now 157 = .ok (.getfield 33, 3) := by decide +kernel
theorem dX12_now_160 : decode cX12_now 160 = .ok (.bipush 67, 2) := by decide +kernel
theorem dX12_now_162 : decode cX12_now 162 = .ok (.iaload, 1) := by decide +kernel
theorem dX12_now_163 : decode cX12_now 163 = .ok (.ireturn, 1) := by decide +kernel
theorem dX12_now_164 : decode cX12_now 164 = .ok (.aload_n 0, 1) := by decide +kernel
theorem dX12_now_165 : decode cX12_now 165 = .ok (.invokevirtual 315, 3) := by decide +kernel
theorem dX12_now_168 : decode cX12_now 168 = .ok (.ireturn, 1) := by decide +kernel
theorem dX12_now_169 : decode cX12_now 169 = .ok (.iload_n 2, 1) := by decide +kernel
theorem dX12_now_170 : decode cX12_now 170 = .ok (.ireturn, 1) := by decide +kernel
theorem dX12_now_171 : decode cX12_now 171 = .ok (.iload_n 3, 1) := by decide +kernel
theorem dX12_now_172 : decode cX12_now 172 = .ok (.ireturn, 1) := by decide +kernel
theorem dX12_now_173 : decode cX12_now 173 = .ok (.iload 4, 2) := by decide +kernel
theorem dX12_now_175 : decode cX12_now 175 = .ok (.ireturn, 1) := by decide +kernel
theorem dX12_now_176 : decode cX12_now 176 = .ok (.aload_n 0, 1) := by decide +kernel
theorem dX12_now_177 : decode cX12_now 177 = .ok (.getfield 33, 3) := by decide +kernel
theorem dX12_now_180 : decode cX12_now 180 = .ok (.bipush 101, 2) := by decide +kernel
theorem dX12_now_182 : decode cX12_now 182 = .ok (.iaload, 1) := by decide +kernel
theorem dX12_now_183 : decode cX12_now 183 = .ok (.invokestatic 278, 3) := by decide +kernel
theorem dX12_now_186 : decode cX12_now 186 = .ok (.ireturn, 1) := by decide +kernel
theorem dX12_now_187 : decode cX12_now 187 = .ok (.aload_n 0, 1) := by decide +kernel
theorem dX12_now_188 : decode cX12_now 188 = .ok (.invokevirtual 318, 3) := by decide +kernel
theorem dX12_now_191 : decode cX12_now 191 = .ok (.ireturn, 1) := by decide +kernel
theorem dX12_now_192 : decode cX12_now 192 = .ok (.aload_n 0, 1) := by decide +kernel
theorem dX12_now_193 : decode cX12_now 193 = .ok (.getfield 33, 3) := by decide +kernel
theorem dX12_now_196 : decode cX12_now 196 = .ok (.bipush 68, 2) := by decide +kernel
theorem dX12_now_198 : decode cX12_now 198 = .ok (.iaload, 1) := by decide +kernel
theorem dX12_now_199 : decode cX12_now 199 = .ok (.ireturn, 1) := by decide +kernel
theorem dX12_now_200 : decode cX12_now 200 = .ok (.iconst (-1), 1) := by decide +kernel
theorem dX12_now_201 : decode cX12_now 201 = .ok (.ireturn, 1) := by decide +kernel
theorem dX12_go_0 : decode cX12_go 0 = .ok (.aload_n 0, 1) := by decide +kernel
theorem dX12_go_1 : decode cX12_go 1 = .ok (.iconst 0, 1) := by decide +kernel
theorem dX12_go_2 : decode cX12_go 2 = .ok (.putfield 1, 3) := by decide +kernel
theorem dX12_go_5 : decode cX12_go 5 = .ok (.aload_n 0, 1) := by decide +kernel
theorem dX12_go_6 : decode cX12_go 6 = .ok (.iload_n 1, 1) := by decide +kernel
theorem dX12_go_7 : decode cX12_go 7 = .ok (.invokevirtual 281, 3) := by decide +kernel
theorem dX12_go_10 : decode cX12_go 10 = .ok (.ifCond .eq 11, 3) := by decide +kernel
theorem dX12_go_21 : decode cX12_go 21 = .ok (.iconst (-1), 1) := by decide +kernel
theorem dX12_go_22 : decode cX12_go 22 = .ok (.ireturn, 1) := by decide +kernel
theorem dX12_take_0 : decode cX12_take 0 = .ok (.aload_n 0, 1) := by decide +kernel
theorem dX12_take_1 : decode cX12_take 1 = .ok (.iconst 0, 1) := by decide +kernel
theorem dX12_take_2 : decode cX12_take 2 = .ok (.putfield 1, 3) := by decide +kernel
theorem dX12_take_5 : decode cX12_take 5 = .ok (.aload_n 0, 1) := by decide +kernel
theorem dX12_take_6 : decode cX12_take 6 = .ok (.iload_n 1, 1) := by decide +kernel
theorem dX12_take_7 : decode cX12_take 7 = .ok (.invokevirtual 281, 3) := by decide +kernel
theorem dX12_take_10 : decode cX12_take 10 = .ok (.ifCond .eq 11, 3) := by decide +kernel
theorem dX12_take_21 : decode cX12_take 21 = .ok (.iconst (-1), 1) := by decide +kernel
theorem dX12_take_22 : decode cX12_take 22 = .ok (.ireturn, 1) := by decide +kernel
theorem dX12_leave_0 : decode cX12_leave 0 = .ok (.aload_n 0, 1) := by decide +kernel
theorem dX12_leave_1 : decode cX12_leave 1 = .ok (.iconst 0, 1) := by decide +kernel
theorem dX12_leave_2 : decode cX12_leave 2 = .ok (.putfield 1, 3) := by decide +kernel
theorem dX12_leave_5 : decode cX12_leave 5 = .ok (.aload_n 0, 1) := by decide +kernel
theorem dX12_leave_6 : decode cX12_leave 6 = .ok (.iload_n 1, 1) := by decide +kernel
theorem dX12_leave_7 : decode cX12_leave 7 = .ok (.invokevirtual 281, 3) := by decide +kernel
theorem dX12_leave_10 : decode cX12_leave 10 = .ok (.ifCond .eq 11, 3) := by decide +kernel
theorem dX12_leave_21 : decode cX12_leave 21 = .ok (.iconst (-1), 1) := by decide +kernel
theorem dX12_leave_22 : decode cX12_leave 22 = .ok (.ireturn, 1) := by decide +kernel
theorem dX12_funeral_0 : decode cX12_funeral 0 = .ok (.aload_n 0, 1) := by decide +kernel
theorem dX12_funeral_1 : decode cX12_funeral 1 = .ok (.iconst 0, 1) := by decide +kernel
theorem dX12_funeral_2 : decode cX12_funeral 2 = .ok (.putfield 1, 3) := by decide +kernel
theorem dX12_funeral_5 : decode cX12_funeral 5 = .ok (.aload_n 0, 1) := by decide +kernel
theorem dX12_funeral_6 : decode cX12_funeral 6 = .ok (.iload_n 1, 1) := by decide +kernel
theorem dX12_funeral_7 : decode cX12_funeral 7 = .ok (.invokevirtual 309, 3) := by decide +kernel
theorem dX12_funeral_10 : decode cX12_funeral 10 = .ok (.ifCond .ne 5, 3) := by decide +kernel
theorem dX12_funeral_13 : decode cX12_funeral 13 = .ok (.iconst (-1), 1) := by decide +kernel
theorem dX12_funeral_14 : decode cX12_funeral 14 = .ok (.ireturn, 1) := by decide +kernel
theorem dX12_undo_0 : decode cX12_undo 0 = .ok (.aload_n 0, 1) := by decide +kernel
theorem dX12_undo_1 : decode cX12_undo 1 = .ok (.iconst 0, 1) := by decide +kernel
theorem dX12_undo_2 : decode cX12_undo 2 = .ok (.putfield 1, 3) := by decide +kernel
theorem dX12_undo_5 : decode cX12_undo 5 = .ok (.aload_n 0, 1) := by decide +kernel
theorem dX12_undo_6 : decode cX12_undo 6 = .ok (.getfield 246, 3) := by decide +kernel
theorem dX12_undo_9 : decode cX12_undo 9 = .ok (.ifCond .ne 5, 3) := by decide +kernel
theorem dX12_undo_12 : decode cX12_undo 12 = .ok (.iconst (-1), 1) := by decide +kernel
theorem dX12_undo_13 : decode cX12_undo 13 = .ok (.ireturn, 1) := by decide +kernel
theorem dX12_next_0 : decode cX12_next 0 = .ok (.aload_n 0, 1) := by decide +kernel
theorem dX12_next_1 : decode cX12_next 1 = .ok (.iconst 0, 1) := by decide +kernel
theorem dX12_next_2 : decode cX12_next 2 = .ok (.putfield 1, 3) := by decide +kernel
theorem dX12_next_5 : decode cX12_next 5 = .ok (.aload_n 0, 1) := by decide +kernel
theorem dX12_next_6 : decode cX12_next 6 = .ok (.iload_n 1, 1) := by decide +kernel
theorem dX12_next_7 : decode cX12_next 7 = .ok (.invokevirtual 281, 3) := by decide +kernel
theorem dX12_next_10 : decode cX12_next 10 = .ok (.ifCond .eq 29, 3) := by decide +kernel
theorem dX12_next_39 : decode cX12_next 39 = .ok (.iconst (-1), 1) := by decide +kernel
theorem dX12_next_40 : decode cX12_next 40 = .ok (.ireturn, 1) := by decide +kernel
theorem dX12_sorry_0 : decode cX12_sorry 0 = .ok (.aload_n 0, 1) := by decide +kernel
theorem dX12_sorry_1 : decode cX12_sorry 1 = .ok (.iconst 0, 1) := by decide +kernel
theorem dX12_sorry_2 : decode cX12_sorry 2 = .ok (.putfield 1, 3) := by decide +kernel
theorem dX12_sorry_5 : decode cX12_sorry 5 = .ok (.iload_n 1, 1) := by decide +kernel
theorem dX12_sorry_6 : decode cX12_sorry 6 = .ok (.iconst 1, 1) := by decide +kernel
theorem dX12_sorry_7 : decode cX12_sorry 7 = .ok (.sipush 199, 3) := by decide +kernel
theorem dX12_sorry_10 : decode cX12_sorry 10 = .ok (.invokestatic 186, 3) := by decide +kernel
theorem dX12_sorry_13 : decode cX12_sorry 13 = .ok (.ifCond .ne 5, 3) := by decide +kernel
theorem dX12_sorry_16 : decode cX12_sorry 16 = .ok (.iconst (-1), 1) := by decide +kernel
theorem dX12_sorry_17 : decode cX12_sorry 17 = .ok (.ireturn, 1) := by decide +kernel
theorem dX12_sorry_18 : decode cX12_sorry 18 = .ok (.iconst 0, 1) := by decide +kernel
theorem dX12_sorry_19 : decode cX12_sorry 19 = .ok (.istore_n 2, 1) := by decide +kernel
theorem dX12_sorry_20 : decode cX12_sorry 20 = .ok (.iconst 0, 1) := by decide +kernel
theorem dX12_sorry_21 : decode cX12_sorry 21 = .ok (.istore_n 3, 1) := by decide +kernel
theorem dX12_sorry_22 : decode cX12_sorry 22 = .ok (.iload_n 3, 1) := by decide +kernel
theorem dX12_sorry_23 : decode cX12_sorry 23 = .ok (.aload_n 0, 1) := by decide +kernel
theorem dX12_sorry_24 : decode cX12_sorry 24 = .ok (.getfield 33, 3) := by decide +kernel
theorem dX12_sorry_27 : decode cX12_sorry 27 = .ok (.iconst 1, 1) := by decide +kernel
theorem dX12_sorry_28 : decode cX12_sorry 28 = .ok (.iaload, 1) := by decide +kernel
theorem dX12_sorry_29 : decode cX12_sorry 29 = .ok (.if_icmp .ge 28, 3) := by decide +kernel
theorem dX12_sorry_57 : decode cX12_sorry 57 = .ok (.iload_n 2, 1) := by decide +kernel
theorem dX12_sorry_58 : decode cX12_sorry 58 = .ok (.ireturn, 1) := by decide +kernel
theorem dX12_meant_0 : decode cX12_meant 0 = .ok (.aload_n 0, 1) := by decide +kernel
theorem dX12_meant_1 : decode cX12_meant 1 = .ok (.iconst 0, 1) := by decide +kernel
theorem dX12_meant_2 : decode cX12_meant 2 = .ok (.putfield 1, 3) := by decide +kernel
theorem dX12_meant_5 : decode cX12_meant 5 = .ok (.aload_n 0, 1) := by decide +kernel
theorem dX12_meant_6 : decode cX12_meant 6 = .ok (.sipush 940, 3) := by decide +kernel
theorem dX12_meant_9 : decode cX12_meant 9 = .ok (.invokevirtual 234, 3) := by decide +kernel
theorem dX12_meant_12 : decode cX12_meant 12 = .ok (.iconst 1, 1) := by decide +kernel
theorem dX12_meant_13 : decode cX12_meant 13 = .ok (.aload_n 0, 1) := by decide +kernel
theorem dX12_meant_14 : decode cX12_meant 14 = .ok (.getfield 33, 3) := by decide +kernel
theorem dX12_meant_17 : decode cX12_meant 17 = .ok (.iconst 1, 1) := by decide +kernel
theorem dX12_meant_18 : decode cX12_meant 18 = .ok (.iaload, 1) := by decide +kernel
theorem dX12_meant_19 : decode cX12_meant 19 = .ok (.ishl, 1) := by decide +kernel
theorem dX12_meant_20 : decode cX12_meant 20 = .ok (.iconst 1, 1) := by decide +kernel
theorem dX12_meant_21 : decode cX12_meant 21 = .ok (.isub, 1) := by decide +kernel
theorem dX12_meant_22 : decode cX12_meant 22 = .ok (.istore_n 1, 1) := by decide +kernel
theorem dX12_meant_23 : decode cX12_meant 23 = .ok (.aload_n 0, 1) := by decide +kernel
theorem dX12_meant_24 : decode cX12_meant 24 = .ok (.getfield 18, 3) := by decide +kernel
theorem dX12_meant_27 : decode cX12_meant 27 = .ok (.iconst 2, 1) := by decide +kernel
theorem dX12_meant_28 : decode cX12_meant 28 = .ok (.bipush 16, 2) := by decide +kernel
theorem dX12_meant_30 : decode cX12_meant 30 = .ok (.invokestatic 186, 3) := by decide +kernel
theorem dX12_meant_33 : decode cX12_meant 33 = .ok (.ifCond .eq 13, 3) := by decide +kernel
theorem dX12_meant_46 : decode cX12_meant 46 = .ok (.iconst (-1), 1) := by decide +kernel
theorem dX12_meant_47 : decode cX12_meant 47 = .ok (.ireturn, 1) := by decide +kernel
theorem dX12_surely_0 : decode cX12_surely 0 = .ok (.aload_n 0, 1) := by decide +kernel
theorem dX12_surely_1 : decode cX12_surely 1 = .ok (.iconst 0, 1) := by decide +kernel
theorem dX12_surely_2 : decode cX12_surely 2 = .ok (.putfield 1, 3) := by decide +kernel
theorem dX12_surely_5 : decode cX12_surely 5 = .ok (.aload_n 0, 1) := by decide +kernel
theorem dX12_surely_6 : decode cX12_surely 6 = .ok (.getfield 358, 3) := by decide +kernel
theorem dX12_surely_9 : decode cX12_surely 9 = .ok (.ifCond .eq 10, 3) := by decide +kernel
theorem dX12_surely_19 : decode cX12_surely 19 = .ok (.iconst (-1), 1) := by decide +kernel
theorem dX12_surely_20 : decode cX12_surely 20 = .ok (.ireturn, 1) := by decide +kernel
theorem dX12_ask_0 : decode cX12_ask 0 = .ok (.aload_n 0, 1) := by decide +kernel
theorem dX12_ask_1 : decode cX12_ask 1 = .ok (.iconst 0, 1) := by decide +kernel
theorem dX12_ask_2 : decode cX12_ask 2 = .ok (.putfield 1, 3) := by decide +kernel
theorem dX12_ask_5 : decode cX12_ask 5 = .ok (.aload_n 0, 1) := by decide +kernel
theorem dX12_ask_6 : decode cX12_ask 6 = .ok (.getfield 358, 3) := by decide +kernel
theorem dX12_ask_9 : decode cX12_ask 9 = .ok (.ifCond .eq 10, 3) := by decide +kernel
theorem dX12_ask_19 : decode cX12_ask 19 = .ok (.iconst (-1), 1) := by decide +kernel
theorem dX12_ask_20 : decode cX12_ask 20 = .ok (.ireturn, 1) := by decide +kernel
theorem dX12_far_0 : decode cX12_far 0 = .ok (.aload_n 0, 1) := by decide +kernel
theorem dX12_far_1 : decode cX12_far 1 = .ok (.iconst 0, 1) := by decide +kernel
theorem dX12_far_2 : decode cX12_far 2 = .ok (.putfield 1, 3) := by decide +kernel
theorem dX12_far_5 : decode cX12_far 5 = .ok (.aload_n 0, 1) := by decide +kernel
theorem dX12_far_6 : decode cX12_far 6 = .ok (.sipush 940, 3) := by decide +kernel
theorem dX12_far_9 : decode cX12_far 9 = .ok (.invokevirtual 234, 3) := by decide +kernel
theorem dX12_far_12 : decode cX12_far 12 = .ok (.aload_n 0, 1) := by decide +kernel
theorem dX12_far_13 : decode cX12_far 13 = .ok (.getfield 18, 3) := by decide +kernel
theorem dX12_far_16 : decode cX12_far 16 = .ok (.iconst 3, 1) := by decide +kernel
theorem dX12_far_17 : decode cX12_far 17 = .ok (.bipush 18, 2) := by decide +kernel
theorem dX12_far_19 : decode cX12_far 19 = .ok (.invokestatic 186, 3) := by decide +kernel
theorem dX12_far_22 : decode cX12_far 22 = .ok (.ifCond .eq 12, 3) := by decide +kernel
theorem dX12_far_34 : decode cX12_far 34 = .ok (.iconst (-1), 1) := by decide +kernel
theorem dX12_far_35 : decode cX12_far 35 = .ok (.ireturn, 1) := by decide +kernel
theorem dX12_toldOf_0 : decode cX12_toldOf 0 = .ok (.aload_n 0, 1) := by decide +kernel
theorem dX12_toldOf_1 : decode cX12_toldOf 1 = .ok (.iconst 0, 1) := by decide +kernel
theorem dX12_toldOf_2 : decode cX12_toldOf 2 = .ok (.putfield 1, 3) := by decide +kernel
theorem dX12_toldOf_5 : decode cX12_toldOf 5 = .ok (.aload_n 0, 1) := by decide +kernel
theorem dX12_toldOf_6 : decode cX12_toldOf 6 = .ok (.iload_n 1, 1) := by decide +kernel
theorem dX12_toldOf_7 : decode cX12_toldOf 7 = .ok (.invokevirtual 300, 3) := by decide +kernel
theorem dX12_toldOf_10 : decode cX12_toldOf 10 = .ok (.ifCond .eq 27, 3) := by decide +kernel
theorem dX12_toldOf_37 : decode cX12_toldOf 37 = .ok (.iconst (-1), 1) := by decide +kernel
theorem dX12_toldOf_38 : decode cX12_toldOf 38 = .ok (.ireturn, 1) := by decide +kernel
theorem dX12_toldAt_0 : decode cX12_toldAt 0 = .ok (.aload_n 0, 1) := by decide +kernel
theorem dX12_toldAt_1 : decode cX12_toldAt 1 = .ok (.iconst 0, 1) := by decide +kernel
theorem dX12_toldAt_2 : decode cX12_toldAt 2 = .ok (.putfield 1, 3) := by decide +kernel
theorem dX12_toldAt_5 : decode cX12_toldAt 5 = .ok (.iload_n 1, 1) := by decide +kernel
theorem dX12_toldAt_6 : decode cX12_toldAt 6 = .ok (.iconst 0, 1) := by decide +kernel
theorem dX12_toldAt_7 : decode cX12_toldAt 7 = .ok (.aload_n 0, 1) := by decide +kernel
theorem dX12_toldAt_8 : decode cX12_toldAt 8 = .ok (.getfield 59, 3) := by decide +kernel
theorem dX12_toldAt_11 : decode cX12_toldAt 11 = .ok (.iconst 1, 1) := by decide +kernel
theorem dX12_toldAt_12 : decode cX12_toldAt 12 = .ok (.isub, 1) := by decide +kernel
theorem dX12_toldAt_13 : decode cX12_toldAt 13 = .ok (.invokestatic 186, 3) := by decide +kernel
theorem dX12_toldAt_16 : decode cX12_toldAt 16 = .ok (.ifCond .eq 12, 3) := by decide +kernel
theorem dX12_toldAt_28 : decode cX12_toldAt 28 = .ok (.iconst (-1), 1) := by decide +kernel
theorem dX12_toldAt_29 : decode cX12_toldAt 29 = .ok (.ireturn, 1) := by decide +kernel
theorem dX12_cover_0 : decode cX12_cover 0 = .ok (.aload_n 0, 1) := by decide +kernel
theorem dX12_cover_1 : decode cX12_cover 1 = .ok (.iconst 0, 1) := by decide +kernel
theorem dX12_cover_2 : decode cX12_cover 2 = .ok (.putfield 1, 3) := by decide +kernel
theorem dX12_cover_5 : decode cX12_cover 5 = .ok (.iconst 0, 1) := by decide +kernel
theorem dX12_cover_6 : decode cX12_cover 6 = .ok (.istore_n 1, 1) := by decide +kernel
theorem dX12_cover_7 : decode cX12_cover 7 = .ok (.iload_n 1, 1) := by decide +kernel
theorem dX12_cover_8 : decode cX12_cover 8 = .ok (.iconst 5, 1) := by decide +kernel
theorem dX12_cover_9 : decode cX12_cover 9 = .ok (.if_icmp .ge 34, 3) := by decide +kernel
theorem dX12_cover_12 : decode cX12_cover 12 = .ok (.aload_n 0, 1) := by decide +kernel
theorem dX12_cover_13 : decode cX12_cover 13 = .ok (.getfield 62, 3) := by decide +kernel
theorem dX12_cover_16 : decode cX12_cover 16 = .ok (.iload_n 1, 1) := by decide +kernel
theorem dX12_cover_17 : decode cX12_cover 17 = .ok (.iload_n 1, 1) := by decide +kernel
theorem dX12_cover_18 : decode cX12_cover 18 = .ok (.aload_n 0, 1) := by decide +kernel
theorem dX12_cover_19 : decode cX12_cover 19 = .ok (.getfield 33, 3) := by decide +kernel
theorem dX12_cover_22 : decode cX12_cover 22 = .ok (.iconst 0, 1) := by decide +kernel
theorem dX12_cover_23 : decode cX12_cover 23 = .ok (.iaload, 1) := by decide +kernel
theorem dX12_cover_24 : decode cX12_cover 24 = .ok (.if_icmp .ge 11, 3) := by decide +kernel
theorem dX12_cover_35 : decode cX12_cover 35 = .ok (.iconst 0, 1) := by decide +kernel
theorem dX12_cover_36 : decode cX12_cover 36 = .ok (.iastore, 1) := by decide +kernel
theorem dX12_cover_37 : decode cX12_cover 37 = .ok (.iinc 1 1, 3) := by decide +kernel
theorem dX12_cover_40 : decode cX12_cover 40 = .ok (.goto (-33), 3) := by decide +kernel
theorem dX12_cover_43 : decode cX12_cover 43 = .ok (.iconst (-1), 1) := by decide +kernel
theorem dX12_cover_44 : decode cX12_cover 44 = .ok (.istore_n 1, 1) := by decide +kernel
theorem dX12_cover_45 : decode cX12_cover 45 = .ok (.iconst 0, 1) := by decide +kernel
theorem dX12_cover_46 : decode cX12_cover 46 = .ok (.istore_n 2, 1) := by decide +kernel
theorem dX12_cover_47 : decode cX12_cover 47 = .ok (.iload_n 2, 1) := by decide +kernel
theorem dX12_cover_48 : decode cX12_cover 48 = .ok (.iconst 1, 1) := by decide +kernel
theorem dX12_cover_49 : decode cX12_cover 49 = .ok (.aload_n 0, 1) := by decide +kernel
theorem dX12_cover_50 : decode cX12_cover 50 = .ok (.getfield 33, 3) := by decide +kernel
theorem dX12_cover_53 : decode cX12_cover 53 = .ok (.iconst 3, 1) := by decide +kernel
theorem dX12_cover_54 : decode cX12_cover 54 = .ok (.iaload, 1) := by decide +kernel
theorem dX12_cover_55 : decode cX12_cover 55 = .ok (.ishl, 1) := by decide +kernel
theorem dX12_cover_56 : decode cX12_cover 56 = .ok (.if_icmp .ge 34, 3) := by decide +kernel
theorem dX12_cover_59 : decode cX12_cover 59 = .ok (.iload_n 1, 1) := by decide +kernel
theorem dX12_cover_60 : decode cX12_cover 60 = .ok (.ifCond .lt 14, 3) := by decide +kernel
theorem dX12_cover_74 : decode cX12_cover 74 = .ok (.aload_n 0, 1) := by decide +kernel
theorem dX12_cover_75 : decode cX12_cover 75 = .ok (.iload_n 2, 1) := by decide +kernel
theorem dX12_cover_76 : decode cX12_cover 76 = .ok (.invokevirtual 381, 3) := by decide +kernel
theorem dX12_cover_79 : decode cX12_cover 79 = .ok (.ifCond .eq 5, 3) := by decide +kernel
theorem dX12_cover_82 : decode cX12_cover 82 = .ok (.iload_n 2, 1) := by decide +kernel
theorem dX12_cover_83 : decode cX12_cover 83 = .ok (.istore_n 1, 1) := by decide +kernel
theorem dX12_cover_84 : decode cX12_cover 84 = .ok (.iinc 2 1, 3) := by decide +kernel
theorem dX12_cover_87 : decode cX12_cover 87 = .ok (.goto (-40), 3) := by decide +kernel
theorem dX12_cover_90 : decode cX12_cover 90 = .ok (.iload_n 1, 1) := by decide +kernel
theorem dX12_cover_91 : decode cX12_cover 91 = .ok (.ifCond .ge 5, 3) := by decide +kernel
theorem dX12_cover_96 : decode cX12_cover 96 = .ok (.aload_n 0, 1) := by decide +kernel
theorem dX12_cover_97 : decode cX12_cover 97 = .ok (.iconst 1, 1) := by decide +kernel
theorem dX12_cover_98 : decode cX12_cover 98 = .ok (.putfield 384, 3) := by decide +kernel
theorem dX12_cover_101 : decode cX12_cover 101 = .ok (.aload_n 0, 1) := by decide +kernel
theorem dX12_cover_102 : decode cX12_cover 102 = .ok (.iload_n 1, 1) := by decide +kernel
theorem dX12_cover_103 : decode cX12_cover 103 = .ok (.putfield 387, 3) := by decide +kernel
theorem dX12_cover_106 : decode cX12_cover 106 = .ok (.iload_n 1, 1) := by decide +kernel
theorem dX12_cover_107 : decode cX12_cover 107 = .ok (.invokestatic 278, 3) := by decide +kernel
theorem dX12_cover_110 : decode cX12_cover 110 = .ok (.ireturn, 1) := by decide +kernel
theorem dX12_covering_0 : decode cX12_covering 0 = .ok (.aload_n 0, 1) := by decide +kernel
theorem dX12_covering_1 : decode cX12_covering 1 = .ok (.iconst 0, 1) := by decide +kernel
theorem dX12_covering_2 : decode cX12_covering 2 = .ok (.putfield 1, 3) := by decide +kernel
theorem dX12_covering_5 : decode cX12_covering 5 = .ok (.aload_n 0, 1) := by decide +kernel
theorem dX12_covering_6 : decode cX12_covering 6 = .ok (.getfield 384, 3) := by decide +kernel
theorem dX12_covering_9 : decode cX12_covering 9 = .ok (.ifCond .eq 10, 3) := by decide +kernel
theorem dX12_covering_19 : decode cX12_covering 19 = .ok (.iconst (-1), 1) := by decide +kernel
theorem dX12_covering_20 : decode cX12_covering 20 = .ok (.ireturn, 1) := by decide +kernel
theorem dX12_hiding_0 : decode cX12_hiding 0 = .ok (.aload_n 0, 1) := by decide +kernel
theorem dX12_hiding_1 : decode cX12_hiding 1 = .ok (.iconst 0, 1) := by decide +kernel
theorem dX12_hiding_2 : decode cX12_hiding 2 = .ok (.putfield 1, 3) := by decide +kernel
theorem dX12_hiding_5 : decode cX12_hiding 5 = .ok (.aload_n 0, 1) := by decide +kernel
theorem dX12_hiding_6 : decode cX12_hiding 6 = .ok (.invokevirtual 346, 3) := by decide +kernel
theorem dX12_hiding_9 : decode cX12_hiding 9 = .ok (.iconst 0, 1) := by decide +kernel
theorem dX12_hiding_10 : decode cX12_hiding 10 = .ok (.istore_n 1, 1) := by decide +kernel
theorem dX12_hiding_11 : decode cX12_hiding 11 = .ok (.iconst 1, 1) := by decide +kernel
theorem dX12_hiding_12 : decode cX12_hiding 12 = .ok (.istore_n 2, 1) := by decide +kernel
theorem dX12_hiding_13 : decode cX12_hiding 13 = .ok (.iload_n 2, 1) := by decide +kernel
theorem dX12_hiding_14 : decode cX12_hiding 14 = .ok (.ifCond .eq 45, 3) := by decide +kernel
theorem dX12_hiding_17 : decode cX12_hiding 17 = .ok (.iload_n 1, 1) := by decide +kernel
theorem dX12_hiding_18 : decode cX12_hiding 18 = .ok (.bipush 10, 2) := by decide +kernel
theorem dX12_hiding_20 : decode cX12_hiding 20 = .ok (.if_icmp .ge 39, 3) := by decide +kernel
theorem dX12_hiding_23 : decode cX12_hiding 23 = .ok (.iconst 0, 1) := by decide +kernel
theorem dX12_hiding_24 : decode cX12_hiding 24 = .ok (.istore_n 2, 1) := by decide +kernel
theorem dX12_hiding_25 : decode cX12_hiding 25 = .ok (.iconst 0, 1) := by decide +kernel
theorem dX12_hiding_26 : decode cX12_hiding 26 = .ok (.istore_n 3, 1) := by decide +kernel
theorem dX12_hiding_27 : decode cX12_hiding 27 = .ok (.iload_n 3, 1) := by decide +kernel
theorem dX12_hiding_28 : decode cX12_hiding 28 = .ok (.aload_n 0, 1) := by decide +kernel
theorem dX12_hiding_29 : decode cX12_hiding 29 = .ok (.getfield 33, 3) := by decide +kernel
theorem dX12_hiding_32 : decode cX12_hiding 32 = .ok (.iconst 1, 1) := by decide +kernel
theorem dX12_hiding_33 : decode cX12_hiding 33 = .ok (.iaload, 1) := by decide +kernel
theorem dX12_hiding_34 : decode cX12_hiding 34 = .ok (.if_icmp .ge 19, 3) := by decide +kernel
theorem dX12_hiding_53 : decode cX12_hiding 53 = .ok (.iinc 1 1, 3) := by decide +kernel
theorem dX12_hiding_56 : decode cX12_hiding 56 = .ok (.goto (-43), 3) := by decide +kernel
theorem dX12_hiding_59 : decode cX12_hiding 59 = .ok (.aload_n 0, 1) := by decide +kernel
theorem dX12_hiding_60 : decode cX12_hiding 60 = .ok (.aload_n 0, 1) := by decide +kernel
theorem dX12_hiding_61 : decode cX12_hiding 61 = .ok (.getfield 33, 3) := by decide +kernel
theorem dX12_hiding_64 : decode cX12_hiding 64 = .ok (.iconst 1, 1) := by decide +kernel
theorem dX12_hiding_65 : decode cX12_hiding 65 = .ok (.iaload, 1) := by decide +kernel
theorem dX12_hiding_66 : decode cX12_hiding 66 = .ok (.putfield 68, 3) := by decide +kernel
theorem dX12_hiding_69 : decode cX12_hiding 69 = .ok (.iconst 0, 1) := by decide +kernel
theorem dX12_hiding_70 : decode cX12_hiding 70 = .ok (.istore_n 3, 1) := by decide +kernel
theorem dX12_hiding_71 : decode cX12_hiding 71 = .ok (.iload_n 3, 1) := by decide +kernel
theorem dX12_hiding_72 : decode cX12_hiding 72 = .ok (.aload_n 0, 1) := by decide +kernel
theorem dX12_hiding_73 : decode cX12_hiding 73 = .ok (.getfield 68, 3) := by decide +kernel
theorem dX12_hiding_76 : decode cX12_hiding 76 = .ok (.if_icmp .ge 24, 3) := by decide +kernel
theorem dX12_hiding_100 : decode cX12_hiding 100 = .ok (.aload_n 0, 1) := by decide +kernel
theorem dX12_hiding_101 : decode cX12_hiding 101 = .ok (.invokevirtual 349, 3) := by decide +kernel
theorem dX12_hiding_104 : decode cX12_hiding 104 = .ok (.iload_n 1, 1) := by decide +kernel
theorem dX12_hiding_105 : decode cX12_hiding 105 = .ok (.ireturn, 1) := by decide +kernel
theorem dX12_hidden_0 : decode cX12_hidden 0 = .ok (.aload_n 0, 1) := by decide +kernel
theorem dX12_hidden_1 : decode cX12_hidden 1 = .ok (.iconst 0, 1) := by decide +kernel
theorem dX12_hidden_2 : decode cX12_hidden 2 = .ok (.putfield 1, 3) := by decide +kernel
theorem dX12_hidden_5 : decode cX12_hidden 5 = .ok (.iload_n 1, 1) := by decide +kernel
theorem dX12_hidden_6 : decode cX12_hidden 6 = .ok (.iconst 0, 1) := by decide +kernel
theorem dX12_hidden_7 : decode cX12_hidden 7 = .ok (.aload_n 0, 1) := by decide +kernel
theorem dX12_hidden_8 : decode cX12_hidden 8 = .ok (.getfield 68, 3) := by decide +kernel
theorem dX12_hidden_11 : decode cX12_hidden 11 = .ok (.iconst 1, 1) := by decide +kernel
theorem dX12_hidden_12 : decode cX12_hidden 12 = .ok (.isub, 1) := by decide +kernel
theorem dX12_hidden_13 : decode cX12_hidden 13 = .ok (.invokestatic 186, 3) := by decide +kernel
theorem dX12_hidden_16 : decode cX12_hidden 16 = .ok (.ifCond .eq 12, 3) := by decide +kernel
theorem dX12_hidden_28 : decode cX12_hidden 28 = .ok (.iconst (-1), 1) := by decide +kernel
theorem dX12_hidden_29 : decode cX12_hidden 29 = .ok (.ireturn, 1) := by decide +kernel
theorem dX12_turns_0 : decode cX12_turns 0 = .ok (.aload_n 0, 1) := by decide +kernel
theorem dX12_turns_1 : decode cX12_turns 1 = .ok (.iconst 0, 1) := by decide +kernel
theorem dX12_turns_2 : decode cX12_turns 2 = .ok (.putfield 1, 3) := by decide +kernel
theorem dX12_turns_5 : decode cX12_turns 5 = .ok (.aload_n 0, 1) := by decide +kernel
theorem dX12_turns_6 : decode cX12_turns 6 = .ok (.iload_n 1, 1) := by decide +kernel
theorem dX12_turns_7 : decode cX12_turns 7 = .ok (.invokevirtual 300, 3) := by decide +kernel
theorem dX12_turns_10 : decode cX12_turns 10 = .ok (.ifCond .eq 36, 3) := by decide +kernel
theorem dX12_turns_46 : decode cX12_turns 46 = .ok (.iconst (-1), 1) := by decide +kernel
theorem dX12_turns_47 : decode cX12_turns 47 = .ok (.ireturn, 1) := by decide +kernel
theorem dX12_turn_0 : decode cX12_turn 0 = .ok (.aload_n 0, 1) := by decide +kernel
theorem dX12_turn_1 : decode cX12_turn 1 = .ok (.iconst 0, 1) := by decide +kernel
theorem dX12_turn_2 : decode cX12_turn 2 = .ok (.putfield 1, 3) := by decide +kernel
theorem dX12_turn_5 : decode cX12_turn 5 = .ok (.aload_n 0, 1) := by decide +kernel
theorem dX12_turn_6 : decode cX12_turn 6 = .ok (.getfield 403, 3) := by decide +kernel
theorem dX12_turn_9 : decode cX12_turn 9 = .ok (.ifCond .eq 10, 3) := by decide +kernel
theorem dX12_turn_19 : decode cX12_turn 19 = .ok (.iconst (-1), 1) := by decide +kernel
theorem dX12_turn_20 : decode cX12_turn 20 = .ok (.ireturn, 1) := by decide +kernel
theorem dX12_tag_0 : decode cX12_tag 0 = .ok (.aload_n 0, 1) := by decide +kernel
theorem dX12_tag_1 : decode cX12_tag 1 = .ok (.iconst 0, 1) := by decide +kernel
theorem dX12_tag_2 : decode cX12_tag 2 = .ok (.putfield 1, 3) := by decide +kernel
theorem dX12_tag_5 : decode cX12_tag 5 = .ok (.aload_n 0, 1) := by decide +kernel
theorem dX12_tag_6 : decode cX12_tag 6 = .ok (.iload_n 1, 1) := by decide +kernel
theorem dX12_tag_7 : decode cX12_tag 7 = .ok (.invokevirtual 300, 3) := by decide +kernel
theorem dX12_tag_10 : decode cX12_tag 10 = .ok (.ifCond .ne 5, 3) := by decide +kernel
theorem dX12_tag_13 : decode cX12_tag 13 = .ok (.iconst (-1), 1) := by decide +kernel
theorem dX12_tag_14 : decode cX12_tag 14 = .ok (.ireturn, 1) := by decide +kernel
theorem dX12_byteAt_0 : decode cX12_byteAt 0 = .ok (.aload_n 0, 1) := by decide +kernel
theorem dX12_byteAt_1 : decode cX12_byteAt 1 = .ok (.iconst 0, 1) := by decide +kernel
theorem dX12_byteAt_2 : decode cX12_byteAt 2 = .ok (.putfield 1, 3) := by decide +kernel
theorem dX12_byteAt_5 : decode cX12_byteAt 5 = .ok (.iload_n 1, 1) := by decide +kernel
theorem dX12_byteAt_6 : decode cX12_byteAt 6 = .ok (.iconst 0, 1) := by decide +kernel
theorem dX12_byteAt_7 : decode cX12_byteAt 7 = .ok (.aload_n 0, 1) := by decide +kernel
theorem dX12_byteAt_8 : decode cX12_byteAt 8 = .ok (.getfield 406, 3) := by decide +kernel
theorem dX12_byteAt_11 : decode cX12_byteAt 11 = .ok (.iconst 1, 1) := by decide +kernel
theorem dX12_byteAt_12 : decode cX12_byteAt 12 = .ok (.isub, 1) := by decide +kernel
theorem dX12_byteAt_13 : decode cX12_byteAt 13 = .ok (.invokestatic 186, 3) := by decide +kernel
theorem dX12_byteAt_16 : decode cX12_byteAt 16 = .ok (.ifCond .eq 12, 3) := by decide +kernel
theorem dX12_byteAt_28 : decode cX12_byteAt 28 = .ok (.iconst (-1), 1) := by decide +kernel
theorem dX12_byteAt_29 : decode cX12_byteAt 29 = .ok (.ireturn, 1) := by decide +kernel
theorem dX12_drawn_0 : decode cX12_drawn 0 = .ok (.aload_n 0, 1) := by decide +kernel
theorem dX12_drawn_1 : decode cX12_drawn 1 = .ok (.iconst 0, 1) := by decide +kernel
theorem dX12_drawn_2 : decode cX12_drawn 2 = .ok (.putfield 1, 3) := by decide +kernel
theorem dX12_drawn_5 : decode cX12_drawn 5 = .ok (.iload_n 1, 1) := by decide +kernel
theorem dX12_drawn_6 : decode cX12_drawn 6 = .ok (.iconst 1, 1) := by decide +kernel
theorem dX12_drawn_7 : decode cX12_drawn 7 = .ok (.bipush 60, 2) := by decide +kernel
theorem dX12_drawn_9 : decode cX12_drawn 9 = .ok (.invokestatic 186, 3) := by decide +kernel
theorem dX12_drawn_12 : decode cX12_drawn 12 = .ok (.ifCond .eq 12, 3) := by decide +kernel
theorem dX12_drawn_15 : decode cX12_drawn 15 = .ok (.aload_n 0, 1) := by decide +kernel
theorem dX12_drawn_16 : decode cX12_drawn 16 = .ok (.getfield 33, 3) := by decide +kernel
theorem dX12_drawn_19 : decode cX12_drawn 19 = .ok (.iconst 1, 1) := by decide +kernel
theorem dX12_drawn_20 : decode cX12_drawn 20 = .ok (.iaload, 1) := by decide +kernel
theorem dX12_drawn_21 : decode cX12_drawn 21 = .ok (.ifCond .ne 5, 3) := by decide +kernel
theorem dX12_drawn_24 : decode cX12_drawn 24 = .ok (.iconst (-1), 1) := by decide +kernel
theorem dX12_drawn_25 : decode cX12_drawn 25 = .ok (.ireturn, 1) := by decide +kernel
theorem dX12_odds_0 : decode cX12_odds 0 = .ok (.aload_n 0, 1) := by decide +kernel
theorem dX12_odds_1 : decode cX12_odds 1 = .ok (.iconst 0, 1) := by decide +kernel
theorem dX12_odds_2 : decode cX12_odds 2 = .ok (.putfield 1, 3) := by decide +kernel
theorem dX12_odds_5 : decode cX12_odds 5 = .ok (.aload_n 0, 1) := by decide +kernel
theorem dX12_odds_6 : decode cX12_odds 6 = .ok (.iload_n 1, 1) := by decide +kernel
theorem dX12_odds_7 : decode cX12_odds 7 = .ok (.invokevirtual 281, 3) := by decide +kernel
theorem dX12_odds_10 : decode cX12_odds 10 = .ok (.ifCond .eq 13, 3) := by decide +kernel
theorem dX12_odds_23 : decode cX12_odds 23 = .ok (.iconst (-1), 1) := by decide +kernel
theorem dX12_odds_24 : decode cX12_odds 24 = .ok (.ireturn, 1) := by decide +kernel
theorem dX12_told_0 : decode cX12_told 0 = .ok (.aload_n 0, 1) := by decide +kernel
theorem dX12_told_1 : decode cX12_told 1 = .ok (.iconst 0, 1) := by decide +kernel
theorem dX12_told_2 : decode cX12_told 2 = .ok (.putfield 1, 3) := by decide +kernel
theorem dX12_told_5 : decode cX12_told 5 = .ok (.aload_n 0, 1) := by decide +kernel
theorem dX12_told_6 : decode cX12_told 6 = .ok (.getfield 449, 3) := by decide +kernel
theorem dX12_told_9 : decode cX12_told 9 = .ok (.ifCond .eq 21, 3) := by decide +kernel
theorem dX12_told_30 : decode cX12_told 30 = .ok (.iconst (-1), 1) := by decide +kernel
theorem dX12_told_31 : decode cX12_told 31 = .ok (.ireturn, 1) := by decide +kernel
theorem dX12_sentence_0 : decode cX12_sentence 0 = .ok (.aload_n 0, 1) := by decide +kernel
theorem dX12_sentence_1 : decode cX12_sentence 1 = .ok (.iconst 0, 1) := by decide +kernel
theorem dX12_sentence_2 : decode cX12_sentence 2 = .ok (.putfield 1, 3) := by decide +kernel
theorem dX12_sentence_5 : decode cX12_sentence 5 = .ok (.aload_n 0, 1) := by decide +kernel
theorem dX12_sentence_6 : decode cX12_sentence 6 = .ok (.sipush 200, 3) := by decide +kernel
theorem dX12_sentence_9 : decode cX12_sentence 9 = .ok (.invokevirtual 234, 3) := by decide +kernel
theorem dX12_sentence_12 : decode cX12_sentence 12 = .ok (.aload_n 0, 1) := by decide +kernel
theorem dX12_sentence_13 : decode cX12_sentence 13 = .ok (.iconst 0, 1) := by decide +kernel
theorem dX12_sentence_14 : decode cX12_sentence 14 = .ok (.putfield 171, 3) := by decide +kernel
theorem dX12_sentence_17 : decode cX12_sentence 17 = .ok (.aload_n 0, 1) := by decide +kernel
theorem dX12_sentence_18 : decode cX12_sentence 18 = .ok (.iconst 0, 1) := by decide +kernel
theorem dX12_sentence_19 : decode cX12_sentence 19 = .ok (.putfield 452, 3) := by decide +kernel
theorem dX12_sentence_22 : decode cX12_sentence 22 = .ok (.aload_n 0, 1) := by decide +kernel
theorem dX12_sentence_23 : decode cX12_sentence 23 = .ok (.iconst 0, 1) := by decide +kernel
theorem dX12_sentence_24 : decode cX12_sentence 24 = .ok (.putfield 468, 3) := by decide +kernel
theorem dX12_sentence_27 : decode cX12_sentence 27 = .ok (.aload_n 0, 1) := by decide +kernel
theorem dX12_sentence_28 : decode cX12_sentence 28 = .ok (.iconst 0, 1) := by decide +kernel
theorem dX12_sentence_29 : decode cX12_sentence 29 = .ok (.putfield 455, 3) := by decide +kernel
theorem dX12_sentence_32 : decode cX12_sentence 32 = .ok (.aload_n 0, 1) := by decide +kernel
theorem dX12_sentence_33 : decode cX12_sentence 33 = .ok (.iconst 1, 1) := by decide +kernel
theorem dX12_sentence_34 : decode cX12_sentence 34 = .ok (.putfield 462, 3) := by decide +kernel
theorem dX12_sentence_37 : decode cX12_sentence 37 = .ok (.aload_n 0, 1) := by decide +kernel
theorem dX12_sentence_38 : decode cX12_sentence 38 = .ok (.iconst 0, 1) := by decide +kernel
theorem dX12_sentence_39 : decode cX12_sentence 39 = .ok (.putfield 471, 3) := by decide +kernel
theorem dX12_sentence_42 : decode cX12_sentence 42 = .ok (.aload_n 0, 1) := by decide +kernel
theorem dX12_sentence_43 : decode cX12_sentence 43 = .ok (.invokevirtual 183, 3) := by decide +kernel
theorem dX12_sentence_46 : decode cX12_sentence 46 = .ok (.iconst 1, 1) := by decide +kernel
theorem dX12_sentence_47 : decode cX12_sentence 47 = .ok (.istore_n 1, 1) := by decide +kernel
theorem dX12_sentence_48 : decode cX12_sentence 48 = .ok (.iload_n 1, 1) := by decide +kernel
theorem dX12_sentence_49 : decode cX12_sentence 49 = .ok (.ifCond .eq 83, 3) := by decide +kernel
theorem dX12_sentence_52 : decode cX12_sentence 52 = .ok (.aload_n 0, 1) := by decide +kernel
theorem dX12_sentence_53 : decode cX12_sentence 53 = .ok (.getfield 471, 3) := by decide +kernel
theorem dX12_sentence_56 : decode cX12_sentence 56 = .ok (.ifCond .eq 45, 3) := by decide +kernel
theorem dX12_sentence_101 : decode cX12_sentence 101 = .ok (.aload_n 0, 1) := by decide +kernel
theorem dX12_sentence_102 : decode cX12_sentence 102 = .ok (.getfield 471, 3) := by decide +kernel
theorem dX12_sentence_105 : decode cX12_sentence 105 = .ok (.ifCond .eq 13, 3) := by decide +kernel
theorem dX12_sentence_118 : decode cX12_sentence 118 = .ok (.aload_n 0, 1) := by decide +kernel
theorem dX12_sentence_119 : decode cX12_sentence 119 = .ok (.invokevirtual 483, 3) := by decide +kernel
theorem dX12_sentence_122 : decode cX12_sentence 122 = .ok (.ifCond .ne (-74), 3) := by decide +kernel
theorem dX12_sentence_125 : decode cX12_sentence 125 = .ok (.iconst (-1), 1) := by decide +kernel
theorem dX12_sentence_126 : decode cX12_sentence 126 = .ok (.aload_n 0, 1) := by decide +kernel
theorem dX12_sentence_127 : decode cX12_sentence 127 = .ok (.getfield 174, 3) := by decide +kernel
theorem dX12_sentence_130 : decode cX12_sentence 130 = .ok (.isub, 1) := by decide +kernel
theorem dX12_sentence_131 : decode cX12_sentence 131 = .ok (.ireturn, 1) := by decide +kernel
theorem dX12_said_0 : decode cX12_said 0 = .ok (.aload_n 0, 1) := by decide +kernel
theorem dX12_said_1 : decode cX12_said 1 = .ok (.iconst 0, 1) := by decide +kernel
theorem dX12_said_2 : decode cX12_said 2 = .ok (.putfield 1, 3) := by decide +kernel
theorem dX12_said_5 : decode cX12_said 5 = .ok (.aload_n 0, 1) := by decide +kernel
theorem dX12_said_6 : decode cX12_said 6 = .ok (.getfield 33, 3) := by decide +kernel
theorem dX12_said_9 : decode cX12_said 9 = .ok (.bipush 102, 2) := by decide +kernel
theorem dX12_said_11 : decode cX12_said 11 = .ok (.iaload, 1) := by decide +kernel
theorem dX12_said_12 : decode cX12_said 12 = .ok (.ifCond .eq 8, 3) := by decide +kernel
theorem dX12_said_20 : decode cX12_said 20 = .ok (.iconst (-1), 1) := by decide +kernel
theorem dX12_said_21 : decode cX12_said 21 = .ok (.ireturn, 1) := by decide +kernel
set_option maxRecDepth 20000 in
theorem ggX12_feed_X12_four : GoodIn wsX12_feed wsX12_four := goodIn_r _ [7, 8, 2, 9, 10, 11, 12, 13, 14, 15, 16, 17, 18, 19, 20, 21, 22, 23, 24, 25, 26, 27, 28, 29, 30, 31, 32, 33, 34, 35, 36, 37, 38, 39, 40, 41, 42, 43, 44, 45, 46, 47, 48, 49, 50, 51, 52, 53, 54, 55, 56, 57, 58, 59, 60, 61, 62] (by decide +kernel) (by decide +kernel)
set_option maxRecDepth 20000 in
theorem gX12_feed_X12_four : GoodIn wsX12_feed (wsV RX12 10 RX12 yX12_four wsX12_four) := goodIn_app (goodIn_of _ (by decide +kernel)) ggX12_feed_X12_four
set_option maxRecDepth 20000 in
theorem ggX12_person_X12_isPerson : GoodIn wsX12_person wsX12_isPerson := goodIn_r _ [6, 1, 7, 8, 5, 9, 65, 66, 67, 68, 69, 70, 71, 72, 73, 74, 75, 76, 77, 78, 79, 80, 81, 82, 83, 84, 85, 86, 87, 88, 89, 90, 91, 92, 93, 94, 95, 96, 97, 98, 99, 100, 101, 102, 103, 104, 105, 106, 107, 108, 109, 110, 111, 112, 113, 114, 115, 116, 117, 118] (by decide +kernel) (by decide +kernel)
set_option maxRecDepth 20000 in
theorem gX12_person_X12_isPerson : GoodIn wsX12_person (wsV RX12 281 RX12 yX12_isPerson wsX12_isPerson) := goodIn_app (goodIn_of _ (by decide +kernel)) ggX12_person_X12_isPerson
set_option maxRecDepth 20000 in
theorem ggX12_person_X12_throwsIf : GoodIn wsX12_person wsX12_throwsIf := goodIn_r _ [13, 14, 65, 66, 67, 68, 69, 70, 71, 72, 73, 74, 75, 76, 77, 78, 79, 80, 81, 82, 83, 84, 85, 86, 87, 88, 89, 90, 91, 92, 93, 94, 95, 96, 97, 98, 99, 100, 101, 102, 103, 104, 105, 106, 107, 108, 109, 110, 111, 112, 113, 114, 115, 116, 117, 118] (by decide +kernel) (by decide +kernel)
set_option maxRecDepth 20000 in
theorem gX12_person_X12_throwsIf : GoodIn wsX12_person (wsV RX12 284 RX12 yX12_throwsIf wsX12_throwsIf) := goodIn_app (goodIn_of _ (by decide +kernel)) ggX12_person_X12_throwsIf
set_option maxRecDepth 20000 in
theorem ggX12_umbrella_X12_isUmbrella : GoodIn wsX12_umbrella wsX12_isUmbrella := goodIn_r _ [6, 1, 7, 8, 5, 9, 50, 51, 52, 53, 54, 55, 56, 57, 58, 59, 60, 61, 62, 63, 64, 65, 66, 67, 68, 69, 70, 71, 72, 73, 74, 75, 76, 77, 78, 79, 80, 81, 82, 83, 84, 85, 86, 87, 88, 89, 90, 91, 92, 93, 94, 95, 96, 97, 98, 99, 100, 101, 102, 103] (by decide +kernel) (by decide +kernel)
set_option maxRecDepth 20000 in
theorem gX12_umbrella_X12_isUmbrella : GoodIn wsX12_umbrella (wsV RX12 300 RX12 yX12_isUmbrella wsX12_isUmbrella) := goodIn_app (goodIn_of _ (by decide +kernel)) ggX12_umbrella_X12_isUmbrella
set_option maxRecDepth 20000 in
theorem ggX12_umbrella_X12_throwsIf : GoodIn wsX12_umbrella wsX12_throwsIf := goodIn_r _ [13, 14, 50, 51, 52, 53, 54, 55, 56, 57, 58, 59, 60, 61, 62, 63, 64, 65, 66, 67, 68, 69, 70, 71, 72, 73, 74, 75, 76, 77, 78, 79, 80, 81, 82, 83, 84, 85, 86, 87, 88, 89, 90, 91, 92, 93, 94, 95, 96, 97, 98, 99, 100, 101, 102, 103] (by decide +kernel) (by decide +kernel)
set_option maxRecDepth 20000 in
theorem gX12_umbrella_X12_throwsIf : GoodIn wsX12_umbrella (wsV RX12 284 RX12 yX12_throwsIf wsX12_throwsIf) := goodIn_app (goodIn_of _ (by decide +kernel)) ggX12_umbrella_X12_throwsIf
set_option maxRecDepth 20000 in
theorem ggX12_sorrow_X12_isSorrow : GoodIn wsX12_sorrow wsX12_isSorrow := goodIn_r _ [6, 1, 7, 8, 5, 9, 22, 23, 24, 25, 26, 27, 28, 29, 30, 31, 32, 33, 34, 35, 36, 37, 38, 39, 40, 41, 42, 43, 44, 45, 46, 47, 48, 49, 50, 51, 52, 53, 54, 55, 56, 57, 58, 59, 60, 61, 62, 63, 64, 65, 66, 67, 68, 69, 70, 71, 72, 73, 74, 75] (by decide +kernel) (by decide +kernel)
set_option maxRecDepth 20000 in
theorem gX12_sorrow_X12_isSorrow : GoodIn wsX12_sorrow (wsV RX12 306 RX12 yX12_isSorrow wsX12_isSorrow) := goodIn_app (goodIn_of _ (by decide +kernel)) ggX12_sorrow_X12_isSorrow
set_option maxRecDepth 20000 in
theorem ggX12_sorrow_X12_throwsIf : GoodIn wsX12_sorrow wsX12_throwsIf := goodIn_r _ [13, 14, 22, 23, 24, 25, 26, 27, 28, 29, 30, 31, 32, 33, 34, 35, 36, 37, 38, 39, 40, 41, 42, 43, 44, 45, 46, 47, 48, 49, 50, 51, 52, 53, 54, 55, 56, 57, 58, 59, 60, 61, 62, 63, 64, 65, 66, 67, 68, 69, 70, 71, 72, 73, 74, 75] (by decide +kernel) (by decide +kernel)
set_option maxRecDepth 20000 in
theorem gX12_sorrow_X12_throwsIf : GoodIn wsX12_sorrow (wsV RX12 284 RX12 yX12_throwsIf wsX12_throwsIf) := goodIn_app (goodIn_of _ (by decide +kernel)) ggX12_sorrow_X12_throwsIf
set_option maxRecDepth 20000 in
theorem ggX12_place_X12_isPlace : GoodIn wsX12_place wsX12_isPlace := goodIn_r _ [6, 7, 8, 9, 5, 10, 23, 24, 25, 26, 27, 28, 29, 30, 31, 32, 33, 34, 35, 36, 37, 38, 39, 40, 41, 42, 43, 44, 45, 46, 47, 48, 49, 50, 51, 52, 53, 54, 55, 56, 57, 58, 59, 60, 61, 62, 63, 64, 65, 66, 67, 68, 69, 70, 71, 72, 73, 74, 75, 76] (by decide +kernel) (by decide +kernel)
set_option maxRecDepth 20000 in
theorem gX12_place_X12_isPlace : GoodIn wsX12_place (wsV RX12 309 RX12 yX12_isPlace wsX12_isPlace) := goodIn_app (goodIn_of _ (by decide +kernel)) ggX12_place_X12_isPlace
set_option maxRecDepth 20000 in
theorem ggX12_now_X12_openSet : GoodIn wsX12_now wsX12_openSet := goodIn_r _ [42, 2, 43, 44, 45, 6, 46, 47, 48, 49, 50, 8, 9, 10, 11, 12, 13, 14, 15, 16, 17, 18, 19, 20, 21, 22, 23, 24, 25, 26, 27, 28, 29, 30, 31, 32, 33, 34, 58, 59, 60, 61, 62, 63, 64, 65, 66, 67, 68, 69, 70, 71, 72, 73, 74, 75, 76, 77, 78, 79, 80, 81, 82, 83, 84, 85, 86, 87, 88, 89, 90, 91, 92, 93, 94, 95, 96, 97, 98, 99, 100, 101, 102, 103, 104, 105, 106, 107, 108, 109, 110, 111] (by decide +kernel) (by decide +kernel)
set_option maxRecDepth 20000 in
theorem gX12_now_X12_openSet : GoodIn wsX12_now (wsV RX12 315 RX12 yX12_openSet wsX12_openSet) := goodIn_app (goodIn_of _ (by decide +kernel)) ggX12_now_X12_openSet
set_option maxRecDepth 20000 in
theorem ggX12_now_X12_bits : GoodIn wsX12_now wsX12_bits := goodIn_r _ [53] (by decide +kernel) (by decide +kernel)
set_option maxRecDepth 20000 in
theorem gX12_now_X12_bits : GoodIn wsX12_now (va_wsS RX12 278 yX12_bits wsX12_bits) := goodIn_app (goodIn_of _ (by decide +kernel)) ggX12_now_X12_bits
set_option maxRecDepth 20000 in
theorem ggX12_now_X12_weptByAll : GoodIn wsX12_now wsX12_weptByAll := goodIn_r _ [57, 2, 58, 59, 60, 61, 62, 63, 64, 65, 66, 67, 68, 69, 70, 71, 72, 73, 74, 75, 76, 77, 78, 79, 80, 81, 82, 83, 84, 85, 86, 87, 88, 89, 90, 91, 92, 93, 94, 95, 96, 97, 98, 99, 100, 101, 102, 103, 104, 105, 106, 107, 108, 109, 110, 111] (by decide +kernel) (by decide +kernel)
set_option maxRecDepth 20000 in
theorem gX12_now_X12_weptByAll : GoodIn wsX12_now (wsV RX12 318 RX12 yX12_weptByAll wsX12_weptByAll) := goodIn_app (goodIn_of _ (by decide +kernel)) ggX12_now_X12_weptByAll
set_option maxRecDepth 20000 in
theorem ggX12_go_X12_isPerson : GoodIn wsX12_go wsX12_isPerson := goodIn_r _ [7, 2, 8, 9, 6, 10, 21, 22, 23, 24, 25, 26, 27, 28, 29, 30, 31, 32, 33, 34, 35, 36, 37, 38, 39, 40, 41, 42, 43, 44, 45, 46, 47, 48, 49, 50, 51, 52, 53, 54, 55, 56, 57, 58, 59, 60, 61, 62, 63, 64, 65, 66, 67, 68, 69, 70, 71, 72, 73, 74] (by decide +kernel) (by decide +kernel)
set_option maxRecDepth 20000 in
theorem gX12_go_X12_isPerson : GoodIn wsX12_go (wsV RX12 281 RX12 yX12_isPerson wsX12_isPerson) := goodIn_app (goodIn_of _ (by decide +kernel)) ggX12_go_X12_isPerson
set_option maxRecDepth 20000 in
theorem ggX12_take_X12_isPerson : GoodIn wsX12_take wsX12_isPerson := goodIn_r _ [7, 2, 8, 9, 6, 10, 29, 30, 31, 32, 33, 34, 35, 36, 37, 38, 39, 40, 41, 42, 43, 44, 45, 46, 47, 48, 49, 50, 51, 52, 53, 54, 55, 56, 57, 58, 59, 60, 61, 62, 63, 64, 65, 66, 67, 68, 69, 70, 71, 72, 73, 74, 75, 76, 77, 78, 79, 80, 81, 82] (by decide +kernel) (by decide +kernel)
set_option maxRecDepth 20000 in
theorem gX12_take_X12_isPerson : GoodIn wsX12_take (wsV RX12 281 RX12 yX12_isPerson wsX12_isPerson) := goodIn_app (goodIn_of _ (by decide +kernel)) ggX12_take_X12_isPerson
set_option maxRecDepth 20000 in
theorem ggX12_leave_X12_isPerson : GoodIn wsX12_leave wsX12_isPerson := goodIn_r _ [7, 2, 8, 9, 6, 10, 25, 26, 27, 28, 29, 30, 31, 32, 33, 34, 35, 36, 37, 38, 39, 40, 41, 42, 43, 44, 45, 46, 47, 48, 49, 50, 51, 52, 53, 54, 55, 56, 57, 58, 59, 60, 61, 62, 63, 64, 65, 66, 67, 68, 69, 70, 71, 72, 73, 74, 75, 76, 77, 78] (by decide +kernel) (by decide +kernel)
set_option maxRecDepth 20000 in
theorem gX12_leave_X12_isPerson : GoodIn wsX12_leave (wsV RX12 281 RX12 yX12_isPerson wsX12_isPerson) := goodIn_app (goodIn_of _ (by decide +kernel)) ggX12_leave_X12_isPerson
set_option maxRecDepth 20000 in
theorem ggX12_funeral_X12_isPlace : GoodIn wsX12_funeral wsX12_isPlace := goodIn_r _ [6, 7, 8, 9, 5, 10, 32, 33, 34, 35, 36, 37, 38, 39, 40, 41, 42, 43, 44, 45, 46, 47, 48, 49, 50, 51, 52, 53, 54, 55, 56, 57, 58, 59, 60, 61, 62, 63, 64, 65, 66, 67, 68, 69, 70, 71, 72, 73, 74, 75, 76, 77, 78, 79, 80, 81, 82, 83, 84, 85] (by decide +kernel) (by decide +kernel)
set_option maxRecDepth 20000 in
theorem gX12_funeral_X12_isPlace : GoodIn wsX12_funeral (wsV RX12 309 RX12 yX12_isPlace wsX12_isPlace) := goodIn_app (goodIn_of _ (by decide +kernel)) ggX12_funeral_X12_isPlace
set_option maxRecDepth 20000 in
theorem ggX12_next_X12_isPerson : GoodIn wsX12_next wsX12_isPerson := goodIn_r _ [8, 3, 9, 10, 7, 11, 26, 27, 28, 29, 30, 31, 32, 33, 34, 35, 36, 37, 38, 39, 40, 41, 42, 43, 44, 45, 46, 47, 48, 49, 50, 51, 52, 53, 54, 55, 56, 57, 58, 59, 60, 61, 62, 63, 64, 65, 66, 67, 68, 69, 70, 71, 72, 73, 74, 75, 76, 77, 78, 79] (by decide +kernel) (by decide +kernel)
set_option maxRecDepth 20000 in
theorem gX12_next_X12_isPerson : GoodIn wsX12_next (wsV RX12 281 RX12 yX12_isPerson wsX12_isPerson) := goodIn_app (goodIn_of _ (by decide +kernel)) ggX12_next_X12_isPerson
set_option maxRecDepth 20000 in
theorem ggX12_sorry_X12_isIn : GoodIn wsX12_sorry wsX12_isIn := goodIn_r _ [6] (by decide +kernel) (by decide +kernel)
set_option maxRecDepth 20000 in
theorem gX12_sorry_X12_isIn : GoodIn wsX12_sorry (va_wsS RX12 186 yX12_isIn wsX12_isIn) := goodIn_app (goodIn_of _ (by decide +kernel)) ggX12_sorry_X12_isIn
set_option maxRecDepth 20000 in
theorem ggX12_meant_X12_taken : GoodIn wsX12_meant wsX12_taken := goodIn_r _ [12, 13, 3, 14, 15, 34, 35, 36, 37, 38, 39, 40, 41, 42, 43, 44, 45, 46, 47, 48, 49, 50, 51, 52, 53, 54, 55, 56, 57, 58, 59, 60, 61, 62, 63, 64, 65, 66, 67, 68, 69, 70, 71, 72, 73, 74, 75, 76, 77, 78, 79, 80, 81, 82, 83, 84, 85, 86, 87] (by decide +kernel) (by decide +kernel)
set_option maxRecDepth 20000 in
theorem gX12_meant_X12_taken : GoodIn wsX12_meant (wsV RX12 234 RX12 yX12_taken wsX12_taken) := goodIn_app (goodIn_of _ (by decide +kernel)) ggX12_meant_X12_taken
set_option maxRecDepth 20000 in
theorem ggX12_meant_X12_isIn : GoodIn wsX12_meant wsX12_isIn := goodIn_r _ [18] (by decide +kernel) (by decide +kernel)
set_option maxRecDepth 20000 in
theorem gX12_meant_X12_isIn : GoodIn wsX12_meant (va_wsS RX12 186 yX12_isIn wsX12_isIn) := goodIn_app (goodIn_of _ (by decide +kernel)) ggX12_meant_X12_isIn
set_option maxRecDepth 20000 in
theorem ggX12_far_X12_taken : GoodIn wsX12_far wsX12_taken := goodIn_r _ [7, 8, 2, 9, 10, 19, 20, 21, 22, 23, 24, 25, 26, 27, 28, 29, 30, 31, 32, 33, 34, 35, 36, 37, 38, 39, 40, 41, 42, 43, 44, 45, 46, 47, 48, 49, 50, 51, 52, 53, 54, 55, 56, 57, 58, 59, 60, 61, 62, 63, 64, 65, 66, 67, 68, 69, 70, 71, 72] (by decide +kernel) (by decide +kernel)
set_option maxRecDepth 20000 in
theorem gX12_far_X12_taken : GoodIn wsX12_far (wsV RX12 234 RX12 yX12_taken wsX12_taken) := goodIn_app (goodIn_of _ (by decide +kernel)) ggX12_far_X12_taken
set_option maxRecDepth 20000 in
theorem ggX12_far_X12_isIn : GoodIn wsX12_far wsX12_isIn := goodIn_r _ [13] (by decide +kernel) (by decide +kernel)
set_option maxRecDepth 20000 in
theorem gX12_far_X12_isIn : GoodIn wsX12_far (va_wsS RX12 186 yX12_isIn wsX12_isIn) := goodIn_app (goodIn_of _ (by decide +kernel)) ggX12_far_X12_isIn
set_option maxRecDepth 20000 in
theorem ggX12_toldOf_X12_isUmbrella : GoodIn wsX12_toldOf wsX12_isUmbrella := goodIn_r _ [9, 2, 10, 11, 8, 12, 82, 83, 84, 85, 86, 87, 88, 89, 90, 91, 92, 93, 94, 95, 96, 97, 98, 99, 100, 101, 102, 103, 104, 105, 106, 107, 108, 109, 110, 111, 112, 113, 114, 115, 116, 117, 118, 119, 120, 121, 122, 123, 124, 125, 126, 127, 128, 129, 130, 131, 132, 133, 134, 135] (by decide +kernel) (by decide +kernel)
set_option maxRecDepth 20000 in
theorem gX12_toldOf_X12_isUmbrella : GoodIn wsX12_toldOf (wsV RX12 300 RX12 yX12_isUmbrella wsX12_isUmbrella) := goodIn_app (goodIn_of _ (by decide +kernel)) ggX12_toldOf_X12_isUmbrella
set_option maxRecDepth 20000 in
theorem ggX12_toldAt_X12_isIn : GoodIn wsX12_toldAt wsX12_isIn := goodIn_r _ [7] (by decide +kernel) (by decide +kernel)
set_option maxRecDepth 20000 in
theorem gX12_toldAt_X12_isIn : GoodIn wsX12_toldAt (va_wsS RX12 186 yX12_isIn wsX12_isIn) := goodIn_app (goodIn_of _ (by decide +kernel)) ggX12_toldAt_X12_isIn
set_option maxRecDepth 20000 in
theorem ggX12_cover_X12_bits : GoodIn wsX12_cover wsX12_bits := goodIn_r _ [31] (by decide +kernel) (by decide +kernel)
set_option maxRecDepth 20000 in
theorem gX12_cover_X12_bits : GoodIn wsX12_cover (va_wsS RX12 278 yX12_bits wsX12_bits) := goodIn_app (goodIn_of _ (by decide +kernel)) ggX12_cover_X12_bits
set_option maxRecDepth 20000 in
theorem ggX12_cover_X12_isCover : GoodIn wsX12_cover wsX12_isCover := goodIn_r _ [35, 3, 2, 20, 21, 9, 22, 36, 37, 38, 39, 40, 41, 42, 43, 44, 45, 46, 47, 48, 49, 50, 51, 52, 53, 54, 55, 56, 57, 58, 59, 60, 61, 62, 63, 64, 65, 66, 67, 68, 69, 70, 71, 72, 73, 74, 75, 76, 77, 78, 79, 80, 81, 82, 83, 84, 85, 86, 87, 88, 89, 90, 91, 92, 93] (by decide +kernel) (by decide +kernel)
set_option maxRecDepth 20000 in
theorem gX12_cover_X12_isCover : GoodIn wsX12_cover (wsV RX12 381 RX12 yX12_isCover wsX12_isCover) := goodIn_app (goodIn_of _ (by decide +kernel)) ggX12_cover_X12_isCover
set_option maxRecDepth 20000 in
theorem ggX12_hiding_X12_tries : GoodIn wsX12_hiding wsX12_tries := goodIn_r _ [9, 10, 2, 54, 55, 56, 57, 58, 59, 60, 61, 62, 63, 64, 65, 66, 67, 68, 69, 70, 71, 72, 73, 74, 75, 76, 77, 78, 79, 80, 81, 82, 83, 84, 85, 86, 87, 88, 89, 90, 91, 92, 93, 94, 95, 96, 97, 98, 99, 100, 101, 102, 103, 104, 105, 106, 107] (by decide +kernel) (by decide +kernel)
set_option maxRecDepth 20000 in
theorem gX12_hiding_X12_tries : GoodIn wsX12_hiding (wsV RX12 346 RX12 yX12_tries wsX12_tries) := goodIn_app (goodIn_of _ (by decide +kernel)) ggX12_hiding_X12_tries
set_option maxRecDepth 20000 in
theorem ggX12_hiding_X12_back : GoodIn wsX12_hiding wsX12_back := goodIn_r _ [53, 2, 10, 54, 55, 56, 57, 58, 59, 60, 61, 62, 63, 64, 65, 66, 67, 68, 69, 70, 71, 72, 73, 74, 75, 76, 77, 78, 79, 80, 81, 82, 83, 84, 85, 86, 87, 88, 89, 90, 91, 92, 93, 94, 95, 96, 97, 98, 99, 100, 101, 102, 103, 104, 105, 106, 107] (by decide +kernel) (by decide +kernel)
set_option maxRecDepth 20000 in
theorem gX12_hiding_X12_back : GoodIn wsX12_hiding (wsV RX12 349 RX12 yX12_back wsX12_back) := goodIn_app (goodIn_of _ (by decide +kernel)) ggX12_hiding_X12_back
set_option maxRecDepth 20000 in
theorem ggX12_hidden_X12_isIn : GoodIn wsX12_hidden wsX12_isIn := goodIn_r _ [7] (by decide +kernel) (by decide +kernel)
set_option maxRecDepth 20000 in
theorem gX12_hidden_X12_isIn : GoodIn wsX12_hidden (va_wsS RX12 186 yX12_isIn wsX12_isIn) := goodIn_app (goodIn_of _ (by decide +kernel)) ggX12_hidden_X12_isIn
set_option maxRecDepth 20000 in
theorem ggX12_turns_X12_isUmbrella : GoodIn wsX12_turns wsX12_isUmbrella := goodIn_r _ [10, 2, 11, 12, 9, 13, 79, 80, 81, 82, 83, 84, 85, 86, 87, 88, 89, 90, 91, 92, 93, 94, 95, 96, 97, 98, 99, 100, 101, 102, 103, 104, 105, 106, 107, 108, 109, 110, 111, 112, 113, 114, 115, 116, 117, 118, 119, 120, 121, 122, 123, 124, 125, 126, 127, 128, 129, 130, 131, 132] (by decide +kernel) (by decide +kernel)
set_option maxRecDepth 20000 in
theorem gX12_turns_X12_isUmbrella : GoodIn wsX12_turns (wsV RX12 300 RX12 yX12_isUmbrella wsX12_isUmbrella) := goodIn_app (goodIn_of _ (by decide +kernel)) ggX12_turns_X12_isUmbrella
set_option maxRecDepth 20000 in
theorem ggX12_tag_X12_isUmbrella : GoodIn wsX12_tag wsX12_isUmbrella := goodIn_r _ [14, 7, 15, 16, 13, 17, 67, 68, 69, 70, 71, 72, 73, 74, 75, 76, 77, 78, 79, 80, 81, 82, 83, 84, 85, 86, 87, 88, 89, 90, 91, 92, 93, 94, 95, 96, 97, 98, 99, 100, 101, 102, 103, 104, 105, 106, 107, 108, 109, 110, 111, 112, 113, 114, 115, 116, 117, 118, 119, 120] (by decide +kernel) (by decide +kernel)
set_option maxRecDepth 20000 in
theorem gX12_tag_X12_isUmbrella : GoodIn wsX12_tag (wsV RX12 300 RX12 yX12_isUmbrella wsX12_isUmbrella) := goodIn_app (goodIn_of _ (by decide +kernel)) ggX12_tag_X12_isUmbrella
set_option maxRecDepth 20000 in
theorem ggX12_byteAt_X12_isIn : GoodIn wsX12_byteAt wsX12_isIn := goodIn_r _ [7] (by decide +kernel) (by decide +kernel)
set_option maxRecDepth 20000 in
theorem gX12_byteAt_X12_isIn : GoodIn wsX12_byteAt (va_wsS RX12 186 yX12_isIn wsX12_isIn) := goodIn_app (goodIn_of _ (by decide +kernel)) ggX12_byteAt_X12_isIn
set_option maxRecDepth 20000 in
theorem ggX12_drawn_X12_isIn : GoodIn wsX12_drawn wsX12_isIn := goodIn_r _ [6] (by decide +kernel) (by decide +kernel)
set_option maxRecDepth 20000 in
theorem gX12_drawn_X12_isIn : GoodIn wsX12_drawn (va_wsS RX12 186 yX12_isIn wsX12_isIn) := goodIn_app (goodIn_of _ (by decide +kernel)) ggX12_drawn_X12_isIn
set_option maxRecDepth 20000 in
theorem ggX12_odds_X12_isPerson : GoodIn wsX12_odds wsX12_isPerson := goodIn_r _ [7, 2, 8, 9, 6, 10, 99, 100, 101, 102, 103, 104, 105, 106, 107, 108, 109, 110, 111, 112, 113, 114, 115, 116, 117, 118, 119, 120, 121, 122, 123, 124, 125, 126, 127, 128, 129, 130, 131, 132, 133, 134, 135, 136, 137, 138, 139, 140, 141, 142, 143, 144, 145, 146, 147, 148, 149, 150, 151, 152] (by decide +kernel) (by decide +kernel)
set_option maxRecDepth 20000 in
theorem gX12_odds_X12_isPerson : GoodIn wsX12_odds (wsV RX12 281 RX12 yX12_isPerson wsX12_isPerson) := goodIn_app (goodIn_of _ (by decide +kernel)) ggX12_odds_X12_isPerson
set_option maxRecDepth 20000 in
theorem ggX12_sentence_X12_taken : GoodIn wsX12_sentence wsX12_taken := goodIn_r _ [16, 17, 18, 19, 20, 103, 104, 105, 106, 107, 108, 109, 110, 111, 112, 113, 114, 115, 116, 117, 118, 119, 120, 121, 122, 123, 124, 125, 126, 127, 128, 129, 130, 131, 132, 133, 134, 135, 136, 137, 138, 139, 140, 141, 142, 143, 144, 145, 146, 147, 148, 149, 150, 151, 152, 153, 154, 155, 156] (by decide +kernel) (by decide +kernel)
set_option maxRecDepth 20000 in
theorem gX12_sentence_X12_taken : GoodIn wsX12_sentence (wsV RX12 234 RX12 yX12_taken wsX12_taken) := goodIn_app (goodIn_of _ (by decide +kernel)) ggX12_sentence_X12_taken
set_option maxRecDepth 20000 in
theorem ggX12_sentence_X12_step : GoodIn wsX12_sentence wsX12_step := goodIn_r _ [24, 19, 25, 26, 18, 20, 8, 27, 28, 29, 30, 31, 15, 32, 33, 34, 35, 36, 37, 38, 39, 103, 104, 105, 106, 107, 108, 109, 110, 111, 112, 113, 114, 115, 116, 117, 118, 119, 120, 121, 122, 123, 124, 125, 126, 127, 128, 129, 130, 131, 132, 133, 134, 135, 136, 137, 138, 139, 140, 141, 142, 143, 144, 145, 146, 147, 148, 149, 150, 151, 152, 153, 154, 155, 156] (by decide +kernel) (by decide +kernel)
set_option maxRecDepth 20000 in
theorem gX12_sentence_X12_step : GoodIn wsX12_sentence (wsV RX12 183 RX12 yX12_step wsX12_step) := goodIn_app (goodIn_of _ (by decide +kernel)) ggX12_sentence_X12_step
set_option maxRecDepth 20000 in
theorem ggX12_sentence_X12_operand : GoodIn wsX12_sentence wsX12_operand := goodIn_r _ [74, 75, 4, 6, 44, 5, 7, 10, 76, 8, 27, 63, 64, 65, 15, 66, 28, 67, 68, 69, 70, 77, 78, 79, 80, 81, 82, 83, 84, 85, 86, 87, 88, 53, 54, 55, 56, 2, 25, 9, 21, 22, 23, 24, 19, 26, 18, 20, 29, 30, 31, 32, 33, 34, 35, 36, 37, 38, 39, 45, 46, 47, 48, 11, 3, 89, 90, 91, 92, 93, 94, 95, 96, 97, 98, 99, 100, 101, 102, 103, 104, 105, 106, 107, 108, 109, 110, 111, 112, 113, 114, 115, 116, 117, 118, 119, 120, 121, 122, 123, 124, 125, 126, 127, 128, 129, 130, 131, 132, 133, 134, 135, 136, 137, 138, 139, 140, 141, 142, 143, 144, 145, 146, 147, 148, 149, 150, 151, 152, 153, 154, 155, 156] (by decide +kernel) (by decide +kernel)
set_option maxRecDepth 20000 in
theorem gX12_sentence_X12_operand : GoodIn wsX12_sentence (wsV RX12 483 RX12 yX12_operand wsX12_operand) := goodIn_app (goodIn_of _ (by decide +kernel)) ggX12_sentence_X12_operand
def s_X12_end (p0 : Int32) : Int32 := if p0 < 0 then (0) else (if p0 ≤ 0 then (1) else (0))
def s_X12_now (p0 : Int32) : Int32 := if p0 = 0 then (0) else (if p0 = 1 then (0) else (if p0 = 2 then (0) else (if p0 = 3 then (0) else (if p0 = 4 then (0) else (if p0 = 5 then (0) else (if p0 = 6 then (0) else (if p0 = 7 then (0) else ((-1)))))))))
def s_X12_sorry (p0 : Int32) : Int32 := if (s_X12_isIn p0 1 199) = 0 then ((-1)) else (0)
set_option maxHeartbeats 8000000 in
set_option maxRecDepth 100000 in
theorem k_X12_feed (l : Launch) (D : va_G) (ad : Nat → Nat) (am : Nat → Nat) (tm : Nat → ClassId) (p0 : Int32) (p1 : Int32) (p2 : Int32) (p3 : Int32) (p4 : Int32) (u_3 : Int32) (u_4 : Int32) (u_5 : Int32) (u_6 : Nat) (u_7 : Nat) (u_8 : Nat) (u_9 : Nat) (u_10 : Nat) (u_11 : Int32) (u_12 : Int32) (u_13 : Int32) (u_14 : Int32) (u_15 : Int32) (u_16 : Int32) (u_17 : Int64) (u_18 : Int32) (u_19 : Int32) (u_20 : Int32) (u_21 : Nat) (u_22 : Nat) (u_23 : Int32) (u_24 : Int32) (u_25 : Int32) (u_26 : Int32) (u_27 : Nat) (u_28 : Int32) (u_29 : Nat) (u_30 : Int32) (u_31 : Int32) (u_32 : Nat) (u_33 : Int32) (u_34 : Nat) (u_35 : Nat) (u_36 : Int32) (u_37 : Int32) (u_38 : Nat) (u_39 : Int32) (u_40 : Int32) (u_41 : Int32) (u_42 : Nat) (u_43 : Int32) (u_44 : Nat) (u_45 : Int32) (u_46 : Int32) (u_47 : Int32) (u_48 : Int32) (u_49 : Int32) (u_50 : Nat) (u_51 : Nat) (u_52 : Nat) (u_53 : Nat)  : z_Mi l yX12_feed wsX12_feed { frames := 1, cells := 0, slots := 0, locals := 22 } D ad [.ref (am 18), .int p0, .int p1, .int p2, .int p3, .int p4] [(am 0, .inl (tm 0, 940, .inl (fun _ => 0))), (am 18, .inr (11, [.int 0, .ref (am 0), .int 0, .int u_3, .int u_4, .int u_5, .ref u_6, .ref u_7, .ref u_8, .ref u_9, .ref u_10, .int u_11, .int u_12, .int u_13, .int u_14, .int u_15, .int u_16, .long u_17, .int u_18, .int u_19, .int u_20, .ref u_21, .ref u_22, .int u_23, .int u_24, .int u_25, .int u_26, .ref u_27, .int u_28, .ref u_29, .int u_30, .int u_31, .ref u_32, .int u_33, .ref u_34, .ref u_35, .int u_36, .int u_37, .ref u_38, .int u_39, .int u_40, .int u_41, .ref u_42, .int u_43, .ref u_44, .int u_45, .int u_46, .int u_47, .int u_48, .int u_49, .ref u_50, .ref u_51, .ref u_52, .ref u_53]))] [(tm 0, .byte)] 0 0 (fun r9 u9 => r9 = nI ((((((((((((((((((((0 + 1) + 1) + 1) + 1) + 1) + 1) + 1) + 1) + 1) + 1) + 1) + 1) + 1) + 1) + 1) + 1) + 1) + 1) + 1) + 1) ∧ u9 = ([], [])) := by
  refine z_ofI (cc := cX12_feed) (maxL := 6) (rt := .int) (by decide) rfl (Nat.le_of_ble_eq_true rfl) ?_
  intro p e s m below meth c Q A ls hx hb hml hown hts hin hK hP hD hA hE hO hS hl hret
  have hown : s.vm.findClass RX12 = some m.cls := hown
  have hiX12 : ∀ w ∈ wsX120, w ∈ wsX12_feed := fun _ h9 => List.mem_cons_of_mem _ (List.mem_append_right _ h9)
  have hl : lv_has ls 6 [(0, .ref (am 18)), (1, .int p0), (2, .int p1), (3, .int p2), (4, .int p3), (5, .int p4)] := hl
  refine lv_aload_n hx hb dX12_feed_0 rfl (lv_at hl 0 rfl) ?_
  refine lv_iconst (v := 0) hx hb dX12_feed_1 (by decide) ?_
  refine va_put (D := D) (ci := 11) (v := .int 0) (ty := tyX12 0) (C := RX12) (T := TX12) (N := 54) hx hb hts hiX12 tyX12 tyX12_ok nmX12 hown hK hP hD hS 1 rfl rfl 0 (by decide) (hts _ (List.mem_of_getElem? (i := 1) rfl)) (fun _ h9 => h9) rfl (tyX12_ok 0 (by decide)) rfl rfl (Nat.le_of_ble_eq_true rfl) dX12_feed_2 (fun H locs hP hD hS => ?_)
  have hP : va_P D vwCl [(am 0, .inl (tm 0, 940, .inl (fun _ => 0))), (am 18, .inr (11, [.int 0, .ref (am 0), .int 0, .int u_3, .int u_4, .int u_5, .ref u_6, .ref u_7, .ref u_8, .ref u_9, .ref u_10, .int u_11, .int u_12, .int u_13, .int u_14, .int u_15, .int u_16, .long u_17, .int u_18, .int u_19, .int u_20, .ref u_21, .ref u_22, .int u_23, .int u_24, .int u_25, .int u_26, .ref u_27, .int u_28, .ref u_29, .int u_30, .int u_31, .ref u_32, .int u_33, .ref u_34, .ref u_35, .int u_36, .int u_37, .ref u_38, .int u_39, .int u_40, .int u_41, .ref u_42, .int u_43, .ref u_44, .int u_45, .int u_46, .int u_47, .int u_48, .int u_49, .ref u_50, .ref u_51, .ref u_52, .ref u_53]))] H := hP
  have hD : va_D A [(am 0, .inl (tm 0, 940, .inl (fun _ => 0))), (am 18, .inr (11, [.int 0, .ref (am 0), .int 0, .int u_3, .int u_4, .int u_5, .ref u_6, .ref u_7, .ref u_8, .ref u_9, .ref u_10, .int u_11, .int u_12, .int u_13, .int u_14, .int u_15, .int u_16, .long u_17, .int u_18, .int u_19, .int u_20, .ref u_21, .ref u_22, .int u_23, .int u_24, .int u_25, .int u_26, .ref u_27, .int u_28, .ref u_29, .int u_30, .int u_31, .ref u_32, .int u_33, .ref u_34, .ref u_35, .int u_36, .int u_37, .ref u_38, .int u_39, .int u_40, .int u_41, .ref u_42, .int u_43, .ref u_44, .int u_45, .int u_46, .int u_47, .int u_48, .int u_49, .ref u_50, .ref u_51, .ref u_52, .ref u_53]))] := hD
  refine lv_aload_n hx hb dX12_feed_5 rfl (lv_at hl 0 rfl) ?_
  refine va_get (D := D) (ci := 11) (v := .int 0) (C := RX12) (T := TX12) (N := 54) hx hb hts hiX12 hown hK hP 1 rfl rfl 2 (by decide) (hts _ (List.mem_of_getElem? (i := 2) rfl)) (fun _ h9 => h9) rfl dX12_feed_6 ?_
  refine lv_bipush (v := 20) hx hb dX12_feed_9 (by decide) ?_
  refine lv_iadd hx hb dX12_feed_11 ?_
  refine lv_topi (fun y_1 ey_1 => ?_)
  obtain rfl : y_1 = 20 := ey_1.trans (by decide)
  refine lv_sipush (v := 940) hx hb dX12_feed_12 (by decide) ?_
  refine lv_icmp_le (tgt := 20) hx hb dX12_feed_15 (by decide) (fun _ => ?_) (fun h9 => absurd (by decide) h9)
  refine lv_aload_n hx hb dX12_feed_20 rfl (lv_at hl 0 rfl) ?_
  refine lv_iload_n hx hb dX12_feed_21 rfl (lv_at hl 1 rfl) ?_
  have hc9 := (k_X12_four l D ad am tm p0 (fun _ => 0) 0 0 u_3 u_4 u_5 u_6 u_7 u_8 u_9 u_10 u_11 u_12 u_13 u_14 u_15 u_16 u_17 u_18 u_19 u_20 u_21 u_22 u_23 u_24 u_25 u_26 u_27 u_28 u_29 u_30 u_31 u_32 u_33 u_34 u_35 u_36 u_37 u_38 u_39 u_40 u_41 u_42 u_43 u_44 u_45 u_46 u_47 u_48 u_49 u_50 u_51 u_52 u_53 (by omega))
  refine z_callv (w0 := [(am 0, .inl (tm 0, 940, .inl (fun _ => 0))), (am 18, .inr (11, [.int 0, .ref (am 0), .int 0, .int u_3, .int u_4, .int u_5, .ref u_6, .ref u_7, .ref u_8, .ref u_9, .ref u_10, .int u_11, .int u_12, .int u_13, .int u_14, .int u_15, .int u_16, .long u_17, .int u_18, .int u_19, .int u_20, .ref u_21, .ref u_22, .int u_23, .int u_24, .int u_25, .int u_26, .ref u_27, .int u_28, .ref u_29, .int u_30, .int u_31, .ref u_32, .int u_33, .ref u_34, .ref u_35, .int u_36, .int u_37, .ref u_38, .int u_39, .int u_40, .int u_41, .ref u_42, .int u_43, .ref u_44, .int u_45, .int u_46, .int u_47, .int u_48, .int u_49, .ref u_50, .ref u_51, .ref u_52, .ref u_53]))]) (wr := []) (va_runV (As := [.int p0]) (rest := []) ⟨hx, hb, hml, hown, hts⟩ (hc9 _) (cwV 1 hts gX12_feed_X12_four rfl rfl rfl (by decide +kernel) ⟨Nat.le_of_ble_eq_true rfl, Nat.le_of_ble_eq_true rfl⟩) (z_preV hP hD hK hS hA hE hO [0, 1] [0] rfl (by decide +kernel) rfl 1 11 rfl rfl rfl) rfl rfl hl.1 rfl (lv_room (Nat.le_of_ble_eq_true rfl)) dX12_feed_22 ⟨Nat.le_of_ble_eq_true rfl, Nat.le_of_ble_eq_true rfl⟩) hP hD hK hS hA [0, 1] [] rfl rfl (by decide +kernel) (by decide +kernel) (fun u9 H locs hw hP hD hK hS => ?_)
  obtain ⟨f_2, rfl⟩ := hw
  have hP : va_P D vwCl [(am 0, .inl (tm 0, 940, .inl f_2)), (am 18, .inr (11, [.int 0, .ref (am 0), .int (nI ((((0 + 1) + 1) + 1) + 1)), .int u_3, .int u_4, .int u_5, .ref u_6, .ref u_7, .ref u_8, .ref u_9, .ref u_10, .int u_11, .int u_12, .int u_13, .int u_14, .int u_15, .int u_16, .long u_17, .int u_18, .int u_19, .int u_20, .ref u_21, .ref u_22, .int u_23, .int u_24, .int u_25, .int u_26, .ref u_27, .int u_28, .ref u_29, .int u_30, .int u_31, .ref u_32, .int u_33, .ref u_34, .ref u_35, .int u_36, .int u_37, .ref u_38, .int u_39, .int u_40, .int u_41, .ref u_42, .int u_43, .ref u_44, .int u_45, .int u_46, .int u_47, .int u_48, .int u_49, .ref u_50, .ref u_51, .ref u_52, .ref u_53]))] H := hP
  have hD : va_D A [(am 0, .inl (tm 0, 940, .inl f_2)), (am 18, .inr (11, [.int 0, .ref (am 0), .int (nI ((((0 + 1) + 1) + 1) + 1)), .int u_3, .int u_4, .int u_5, .ref u_6, .ref u_7, .ref u_8, .ref u_9, .ref u_10, .int u_11, .int u_12, .int u_13, .int u_14, .int u_15, .int u_16, .long u_17, .int u_18, .int u_19, .int u_20, .ref u_21, .ref u_22, .int u_23, .int u_24, .int u_25, .int u_26, .ref u_27, .int u_28, .ref u_29, .int u_30, .int u_31, .ref u_32, .int u_33, .ref u_34, .ref u_35, .int u_36, .int u_37, .ref u_38, .int u_39, .int u_40, .int u_41, .ref u_42, .int u_43, .ref u_44, .int u_45, .int u_46, .int u_47, .int u_48, .int u_49, .ref u_50, .ref u_51, .ref u_52, .ref u_53]))] := hD
  have hK : va_K D vwCl [(tm 0, .byte)] s := hK
  refine W.cs (cells' := 0) (slots' := 0) rfl rfl ?_
  refine lv_aload_n hx hb dX12_feed_25 rfl (lv_at hl 0 rfl) ?_
  refine lv_iload_n hx hb dX12_feed_26 rfl (lv_at hl 2 rfl) ?_
  have hc9 := (k_X12_four l D ad am tm p1 f_2 ((((0 + 1) + 1) + 1) + 1) 0 u_3 u_4 u_5 u_6 u_7 u_8 u_9 u_10 u_11 u_12 u_13 u_14 u_15 u_16 u_17 u_18 u_19 u_20 u_21 u_22 u_23 u_24 u_25 u_26 u_27 u_28 u_29 u_30 u_31 u_32 u_33 u_34 u_35 u_36 u_37 u_38 u_39 u_40 u_41 u_42 u_43 u_44 u_45 u_46 u_47 u_48 u_49 u_50 u_51 u_52 u_53 (by omega))
  refine z_callv (w0 := [(am 0, .inl (tm 0, 940, .inl f_2)), (am 18, .inr (11, [.int 0, .ref (am 0), .int (nI ((((0 + 1) + 1) + 1) + 1)), .int u_3, .int u_4, .int u_5, .ref u_6, .ref u_7, .ref u_8, .ref u_9, .ref u_10, .int u_11, .int u_12, .int u_13, .int u_14, .int u_15, .int u_16, .long u_17, .int u_18, .int u_19, .int u_20, .ref u_21, .ref u_22, .int u_23, .int u_24, .int u_25, .int u_26, .ref u_27, .int u_28, .ref u_29, .int u_30, .int u_31, .ref u_32, .int u_33, .ref u_34, .ref u_35, .int u_36, .int u_37, .ref u_38, .int u_39, .int u_40, .int u_41, .ref u_42, .int u_43, .ref u_44, .int u_45, .int u_46, .int u_47, .int u_48, .int u_49, .ref u_50, .ref u_51, .ref u_52, .ref u_53]))]) (wr := []) (va_runV (As := [.int p1]) (rest := []) ⟨hx, hb, hml, hown, hts⟩ (hc9 _) (cwV 1 hts gX12_feed_X12_four rfl rfl rfl (by decide +kernel) ⟨Nat.le_of_ble_eq_true rfl, Nat.le_of_ble_eq_true rfl⟩) (z_preV hP hD hK hS hA hE hO [0, 1] [0] rfl (by decide +kernel) rfl 1 11 rfl rfl rfl) rfl rfl hl.1 rfl (lv_room (Nat.le_of_ble_eq_true rfl)) dX12_feed_27 ⟨Nat.le_of_ble_eq_true rfl, Nat.le_of_ble_eq_true rfl⟩) hP hD hK hS hA [0, 1] [] rfl rfl (by decide +kernel) (by decide +kernel) (fun u9 H locs hw hP hD hK hS => ?_)
  obtain ⟨f_3, rfl⟩ := hw
  have hP : va_P D vwCl [(am 0, .inl (tm 0, 940, .inl f_3)), (am 18, .inr (11, [.int 0, .ref (am 0), .int (nI ((((((((0 + 1) + 1) + 1) + 1) + 1) + 1) + 1) + 1)), .int u_3, .int u_4, .int u_5, .ref u_6, .ref u_7, .ref u_8, .ref u_9, .ref u_10, .int u_11, .int u_12, .int u_13, .int u_14, .int u_15, .int u_16, .long u_17, .int u_18, .int u_19, .int u_20, .ref u_21, .ref u_22, .int u_23, .int u_24, .int u_25, .int u_26, .ref u_27, .int u_28, .ref u_29, .int u_30, .int u_31, .ref u_32, .int u_33, .ref u_34, .ref u_35, .int u_36, .int u_37, .ref u_38, .int u_39, .int u_40, .int u_41, .ref u_42, .int u_43, .ref u_44, .int u_45, .int u_46, .int u_47, .int u_48, .int u_49, .ref u_50, .ref u_51, .ref u_52, .ref u_53]))] H := hP
  have hD : va_D A [(am 0, .inl (tm 0, 940, .inl f_3)), (am 18, .inr (11, [.int 0, .ref (am 0), .int (nI ((((((((0 + 1) + 1) + 1) + 1) + 1) + 1) + 1) + 1)), .int u_3, .int u_4, .int u_5, .ref u_6, .ref u_7, .ref u_8, .ref u_9, .ref u_10, .int u_11, .int u_12, .int u_13, .int u_14, .int u_15, .int u_16, .long u_17, .int u_18, .int u_19, .int u_20, .ref u_21, .ref u_22, .int u_23, .int u_24, .int u_25, .int u_26, .ref u_27, .int u_28, .ref u_29, .int u_30, .int u_31, .ref u_32, .int u_33, .ref u_34, .ref u_35, .int u_36, .int u_37, .ref u_38, .int u_39, .int u_40, .int u_41, .ref u_42, .int u_43, .ref u_44, .int u_45, .int u_46, .int u_47, .int u_48, .int u_49, .ref u_50, .ref u_51, .ref u_52, .ref u_53]))] := hD
  have hK : va_K D vwCl [(tm 0, .byte)] s := hK
  refine W.cs (cells' := 0) (slots' := 0) rfl rfl ?_
  refine lv_aload_n hx hb dX12_feed_30 rfl (lv_at hl 0 rfl) ?_
  refine lv_iload_n hx hb dX12_feed_31 rfl (lv_at hl 3 rfl) ?_
  have hc9 := (k_X12_four l D ad am tm p2 f_3 ((((((((0 + 1) + 1) + 1) + 1) + 1) + 1) + 1) + 1) 0 u_3 u_4 u_5 u_6 u_7 u_8 u_9 u_10 u_11 u_12 u_13 u_14 u_15 u_16 u_17 u_18 u_19 u_20 u_21 u_22 u_23 u_24 u_25 u_26 u_27 u_28 u_29 u_30 u_31 u_32 u_33 u_34 u_35 u_36 u_37 u_38 u_39 u_40 u_41 u_42 u_43 u_44 u_45 u_46 u_47 u_48 u_49 u_50 u_51 u_52 u_53 (by omega))
  refine z_callv (w0 := [(am 0, .inl (tm 0, 940, .inl f_3)), (am 18, .inr (11, [.int 0, .ref (am 0), .int (nI ((((((((0 + 1) + 1) + 1) + 1) + 1) + 1) + 1) + 1)), .int u_3, .int u_4, .int u_5, .ref u_6, .ref u_7, .ref u_8, .ref u_9, .ref u_10, .int u_11, .int u_12, .int u_13, .int u_14, .int u_15, .int u_16, .long u_17, .int u_18, .int u_19, .int u_20, .ref u_21, .ref u_22, .int u_23, .int u_24, .int u_25, .int u_26, .ref u_27, .int u_28, .ref u_29, .int u_30, .int u_31, .ref u_32, .int u_33, .ref u_34, .ref u_35, .int u_36, .int u_37, .ref u_38, .int u_39, .int u_40, .int u_41, .ref u_42, .int u_43, .ref u_44, .int u_45, .int u_46, .int u_47, .int u_48, .int u_49, .ref u_50, .ref u_51, .ref u_52, .ref u_53]))]) (wr := []) (va_runV (As := [.int p2]) (rest := []) ⟨hx, hb, hml, hown, hts⟩ (hc9 _) (cwV 1 hts gX12_feed_X12_four rfl rfl rfl (by decide +kernel) ⟨Nat.le_of_ble_eq_true rfl, Nat.le_of_ble_eq_true rfl⟩) (z_preV hP hD hK hS hA hE hO [0, 1] [0] rfl (by decide +kernel) rfl 1 11 rfl rfl rfl) rfl rfl hl.1 rfl (lv_room (Nat.le_of_ble_eq_true rfl)) dX12_feed_32 ⟨Nat.le_of_ble_eq_true rfl, Nat.le_of_ble_eq_true rfl⟩) hP hD hK hS hA [0, 1] [] rfl rfl (by decide +kernel) (by decide +kernel) (fun u9 H locs hw hP hD hK hS => ?_)
  obtain ⟨f_4, rfl⟩ := hw
  have hP : va_P D vwCl [(am 0, .inl (tm 0, 940, .inl f_4)), (am 18, .inr (11, [.int 0, .ref (am 0), .int (nI ((((((((((((0 + 1) + 1) + 1) + 1) + 1) + 1) + 1) + 1) + 1) + 1) + 1) + 1)), .int u_3, .int u_4, .int u_5, .ref u_6, .ref u_7, .ref u_8, .ref u_9, .ref u_10, .int u_11, .int u_12, .int u_13, .int u_14, .int u_15, .int u_16, .long u_17, .int u_18, .int u_19, .int u_20, .ref u_21, .ref u_22, .int u_23, .int u_24, .int u_25, .int u_26, .ref u_27, .int u_28, .ref u_29, .int u_30, .int u_31, .ref u_32, .int u_33, .ref u_34, .ref u_35, .int u_36, .int u_37, .ref u_38, .int u_39, .int u_40, .int u_41, .ref u_42, .int u_43, .ref u_44, .int u_45, .int u_46, .int u_47, .int u_48, .int u_49, .ref u_50, .ref u_51, .ref u_52, .ref u_53]))] H := hP
  have hD : va_D A [(am 0, .inl (tm 0, 940, .inl f_4)), (am 18, .inr (11, [.int 0, .ref (am 0), .int (nI ((((((((((((0 + 1) + 1) + 1) + 1) + 1) + 1) + 1) + 1) + 1) + 1) + 1) + 1)), .int u_3, .int u_4, .int u_5, .ref u_6, .ref u_7, .ref u_8, .ref u_9, .ref u_10, .int u_11, .int u_12, .int u_13, .int u_14, .int u_15, .int u_16, .long u_17, .int u_18, .int u_19, .int u_20, .ref u_21, .ref u_22, .int u_23, .int u_24, .int u_25, .int u_26, .ref u_27, .int u_28, .ref u_29, .int u_30, .int u_31, .ref u_32, .int u_33, .ref u_34, .ref u_35, .int u_36, .int u_37, .ref u_38, .int u_39, .int u_40, .int u_41, .ref u_42, .int u_43, .ref u_44, .int u_45, .int u_46, .int u_47, .int u_48, .int u_49, .ref u_50, .ref u_51, .ref u_52, .ref u_53]))] := hD
  have hK : va_K D vwCl [(tm 0, .byte)] s := hK
  refine W.cs (cells' := 0) (slots' := 0) rfl rfl ?_
  refine lv_aload_n hx hb dX12_feed_35 rfl (lv_at hl 0 rfl) ?_
  refine lv_iload hx hb dX12_feed_36 (lv_at hl 4 rfl) ?_
  have hc9 := (k_X12_four l D ad am tm p3 f_4 ((((((((((((0 + 1) + 1) + 1) + 1) + 1) + 1) + 1) + 1) + 1) + 1) + 1) + 1) 0 u_3 u_4 u_5 u_6 u_7 u_8 u_9 u_10 u_11 u_12 u_13 u_14 u_15 u_16 u_17 u_18 u_19 u_20 u_21 u_22 u_23 u_24 u_25 u_26 u_27 u_28 u_29 u_30 u_31 u_32 u_33 u_34 u_35 u_36 u_37 u_38 u_39 u_40 u_41 u_42 u_43 u_44 u_45 u_46 u_47 u_48 u_49 u_50 u_51 u_52 u_53 (by omega))
  refine z_callv (w0 := [(am 0, .inl (tm 0, 940, .inl f_4)), (am 18, .inr (11, [.int 0, .ref (am 0), .int (nI ((((((((((((0 + 1) + 1) + 1) + 1) + 1) + 1) + 1) + 1) + 1) + 1) + 1) + 1)), .int u_3, .int u_4, .int u_5, .ref u_6, .ref u_7, .ref u_8, .ref u_9, .ref u_10, .int u_11, .int u_12, .int u_13, .int u_14, .int u_15, .int u_16, .long u_17, .int u_18, .int u_19, .int u_20, .ref u_21, .ref u_22, .int u_23, .int u_24, .int u_25, .int u_26, .ref u_27, .int u_28, .ref u_29, .int u_30, .int u_31, .ref u_32, .int u_33, .ref u_34, .ref u_35, .int u_36, .int u_37, .ref u_38, .int u_39, .int u_40, .int u_41, .ref u_42, .int u_43, .ref u_44, .int u_45, .int u_46, .int u_47, .int u_48, .int u_49, .ref u_50, .ref u_51, .ref u_52, .ref u_53]))]) (wr := []) (va_runV (As := [.int p3]) (rest := []) ⟨hx, hb, hml, hown, hts⟩ (hc9 _) (cwV 1 hts gX12_feed_X12_four rfl rfl rfl (by decide +kernel) ⟨Nat.le_of_ble_eq_true rfl, Nat.le_of_ble_eq_true rfl⟩) (z_preV hP hD hK hS hA hE hO [0, 1] [0] rfl (by decide +kernel) rfl 1 11 rfl rfl rfl) rfl rfl hl.1 rfl (lv_room (Nat.le_of_ble_eq_true rfl)) dX12_feed_38 ⟨Nat.le_of_ble_eq_true rfl, Nat.le_of_ble_eq_true rfl⟩) hP hD hK hS hA [0, 1] [] rfl rfl (by decide +kernel) (by decide +kernel) (fun u9 H locs hw hP hD hK hS => ?_)
  obtain ⟨f_5, rfl⟩ := hw
  have hP : va_P D vwCl [(am 0, .inl (tm 0, 940, .inl f_5)), (am 18, .inr (11, [.int 0, .ref (am 0), .int (nI ((((((((((((((((0 + 1) + 1) + 1) + 1) + 1) + 1) + 1) + 1) + 1) + 1) + 1) + 1) + 1) + 1) + 1) + 1)), .int u_3, .int u_4, .int u_5, .ref u_6, .ref u_7, .ref u_8, .ref u_9, .ref u_10, .int u_11, .int u_12, .int u_13, .int u_14, .int u_15, .int u_16, .long u_17, .int u_18, .int u_19, .int u_20, .ref u_21, .ref u_22, .int u_23, .int u_24, .int u_25, .int u_26, .ref u_27, .int u_28, .ref u_29, .int u_30, .int u_31, .ref u_32, .int u_33, .ref u_34, .ref u_35, .int u_36, .int u_37, .ref u_38, .int u_39, .int u_40, .int u_41, .ref u_42, .int u_43, .ref u_44, .int u_45, .int u_46, .int u_47, .int u_48, .int u_49, .ref u_50, .ref u_51, .ref u_52, .ref u_53]))] H := hP
  have hD : va_D A [(am 0, .inl (tm 0, 940, .inl f_5)), (am 18, .inr (11, [.int 0, .ref (am 0), .int (nI ((((((((((((((((0 + 1) + 1) + 1) + 1) + 1) + 1) + 1) + 1) + 1) + 1) + 1) + 1) + 1) + 1) + 1) + 1)), .int u_3, .int u_4, .int u_5, .ref u_6, .ref u_7, .ref u_8, .ref u_9, .ref u_10, .int u_11, .int u_12, .int u_13, .int u_14, .int u_15, .int u_16, .long u_17, .int u_18, .int u_19, .int u_20, .ref u_21, .ref u_22, .int u_23, .int u_24, .int u_25, .int u_26, .ref u_27, .int u_28, .ref u_29, .int u_30, .int u_31, .ref u_32, .int u_33, .ref u_34, .ref u_35, .int u_36, .int u_37, .ref u_38, .int u_39, .int u_40, .int u_41, .ref u_42, .int u_43, .ref u_44, .int u_45, .int u_46, .int u_47, .int u_48, .int u_49, .ref u_50, .ref u_51, .ref u_52, .ref u_53]))] := hD
  have hK : va_K D vwCl [(tm 0, .byte)] s := hK
  refine W.cs (cells' := 0) (slots' := 0) rfl rfl ?_
  refine lv_aload_n hx hb dX12_feed_41 rfl (lv_at hl 0 rfl) ?_
  refine lv_iload hx hb dX12_feed_42 (lv_at hl 5 rfl) ?_
  have hc9 := (k_X12_four l D ad am tm p4 f_5 ((((((((((((((((0 + 1) + 1) + 1) + 1) + 1) + 1) + 1) + 1) + 1) + 1) + 1) + 1) + 1) + 1) + 1) + 1) 0 u_3 u_4 u_5 u_6 u_7 u_8 u_9 u_10 u_11 u_12 u_13 u_14 u_15 u_16 u_17 u_18 u_19 u_20 u_21 u_22 u_23 u_24 u_25 u_26 u_27 u_28 u_29 u_30 u_31 u_32 u_33 u_34 u_35 u_36 u_37 u_38 u_39 u_40 u_41 u_42 u_43 u_44 u_45 u_46 u_47 u_48 u_49 u_50 u_51 u_52 u_53 (by omega))
  refine z_callv (w0 := [(am 0, .inl (tm 0, 940, .inl f_5)), (am 18, .inr (11, [.int 0, .ref (am 0), .int (nI ((((((((((((((((0 + 1) + 1) + 1) + 1) + 1) + 1) + 1) + 1) + 1) + 1) + 1) + 1) + 1) + 1) + 1) + 1)), .int u_3, .int u_4, .int u_5, .ref u_6, .ref u_7, .ref u_8, .ref u_9, .ref u_10, .int u_11, .int u_12, .int u_13, .int u_14, .int u_15, .int u_16, .long u_17, .int u_18, .int u_19, .int u_20, .ref u_21, .ref u_22, .int u_23, .int u_24, .int u_25, .int u_26, .ref u_27, .int u_28, .ref u_29, .int u_30, .int u_31, .ref u_32, .int u_33, .ref u_34, .ref u_35, .int u_36, .int u_37, .ref u_38, .int u_39, .int u_40, .int u_41, .ref u_42, .int u_43, .ref u_44, .int u_45, .int u_46, .int u_47, .int u_48, .int u_49, .ref u_50, .ref u_51, .ref u_52, .ref u_53]))]) (wr := []) (va_runV (As := [.int p4]) (rest := []) ⟨hx, hb, hml, hown, hts⟩ (hc9 _) (cwV 1 hts gX12_feed_X12_four rfl rfl rfl (by decide +kernel) ⟨Nat.le_of_ble_eq_true rfl, Nat.le_of_ble_eq_true rfl⟩) (z_preV hP hD hK hS hA hE hO [0, 1] [0] rfl (by decide +kernel) rfl 1 11 rfl rfl rfl) rfl rfl hl.1 rfl (lv_room (Nat.le_of_ble_eq_true rfl)) dX12_feed_44 ⟨Nat.le_of_ble_eq_true rfl, Nat.le_of_ble_eq_true rfl⟩) hP hD hK hS hA [0, 1] [] rfl rfl (by decide +kernel) (by decide +kernel) (fun u9 H locs hw hP hD hK hS => ?_)
  obtain ⟨f_6, rfl⟩ := hw
  have hP : va_P D vwCl [(am 0, .inl (tm 0, 940, .inl f_6)), (am 18, .inr (11, [.int 0, .ref (am 0), .int (nI ((((((((((((((((((((0 + 1) + 1) + 1) + 1) + 1) + 1) + 1) + 1) + 1) + 1) + 1) + 1) + 1) + 1) + 1) + 1) + 1) + 1) + 1) + 1)), .int u_3, .int u_4, .int u_5, .ref u_6, .ref u_7, .ref u_8, .ref u_9, .ref u_10, .int u_11, .int u_12, .int u_13, .int u_14, .int u_15, .int u_16, .long u_17, .int u_18, .int u_19, .int u_20, .ref u_21, .ref u_22, .int u_23, .int u_24, .int u_25, .int u_26, .ref u_27, .int u_28, .ref u_29, .int u_30, .int u_31, .ref u_32, .int u_33, .ref u_34, .ref u_35, .int u_36, .int u_37, .ref u_38, .int u_39, .int u_40, .int u_41, .ref u_42, .int u_43, .ref u_44, .int u_45, .int u_46, .int u_47, .int u_48, .int u_49, .ref u_50, .ref u_51, .ref u_52, .ref u_53]))] H := hP
  have hD : va_D A [(am 0, .inl (tm 0, 940, .inl f_6)), (am 18, .inr (11, [.int 0, .ref (am 0), .int (nI ((((((((((((((((((((0 + 1) + 1) + 1) + 1) + 1) + 1) + 1) + 1) + 1) + 1) + 1) + 1) + 1) + 1) + 1) + 1) + 1) + 1) + 1) + 1)), .int u_3, .int u_4, .int u_5, .ref u_6, .ref u_7, .ref u_8, .ref u_9, .ref u_10, .int u_11, .int u_12, .int u_13, .int u_14, .int u_15, .int u_16, .long u_17, .int u_18, .int u_19, .int u_20, .ref u_21, .ref u_22, .int u_23, .int u_24, .int u_25, .int u_26, .ref u_27, .int u_28, .ref u_29, .int u_30, .int u_31, .ref u_32, .int u_33, .ref u_34, .ref u_35, .int u_36, .int u_37, .ref u_38, .int u_39, .int u_40, .int u_41, .ref u_42, .int u_43, .ref u_44, .int u_45, .int u_46, .int u_47, .int u_48, .int u_49, .ref u_50, .ref u_51, .ref u_52, .ref u_53]))] := hD
  have hK : va_K D vwCl [(tm 0, .byte)] s := hK
  refine W.cs (cells' := 0) (slots' := 0) rfl rfl ?_
  refine lv_aload_n hx hb dX12_feed_47 rfl (lv_at hl 0 rfl) ?_
  refine va_get (D := D) (ci := 11) (v := .int (nI ((((((((((((((((((((0 + 1) + 1) + 1) + 1) + 1) + 1) + 1) + 1) + 1) + 1) + 1) + 1) + 1) + 1) + 1) + 1) + 1) + 1) + 1) + 1))) (C := RX12) (T := TX12) (N := 54) hx hb hts hiX12 hown hK hP 1 rfl rfl 2 (by decide) (hts _ (List.mem_of_getElem? (i := 2) rfl)) (fun _ h9 => h9) rfl dX12_feed_48 ?_
  refine W.widen (k := 0) (n := 0) (by decide) (by decide) ?_
  exact hret (nI ((((((((((((((((((((0 + 1) + 1) + 1) + 1) + 1) + 1) + 1) + 1) + 1) + 1) + 1) + 1) + 1) + 1) + 1) + 1) + 1) + 1) + 1) + 1)) ([], []) _ _ _ _ dX12_feed_51 rfl ⟨rfl, rfl⟩ (hP.sub [] rfl) (hK.sub [] rfl) (hD.sub [] (by decide +kernel) rfl) hS

set_option maxHeartbeats 8000000 in
set_option maxRecDepth 100000 in
theorem k_X12_fault (l : Launch) (D : va_G) (ad : Nat → Nat) (am : Nat → Nat) (u_1 : Nat) (u_2 : Int32) (u_3 : Int32) (u_4 : Int32) (u_5 : Int32) (u_6 : Nat) (u_7 : Nat) (u_8 : Nat) (u_9 : Nat) (u_10 : Nat) (u_11 : Int32) (u_12 : Int32) (u_13 : Int32) (u_14 : Int32) (u_16 : Int32) (u_17 : Int64) (u_18 : Int32) (u_19 : Int32) (u_20 : Int32) (u_21 : Nat) (u_22 : Nat) (u_23 : Int32) (u_24 : Int32) (u_25 : Int32) (u_26 : Int32) (u_27 : Nat) (u_28 : Int32) (u_29 : Nat) (u_30 : Int32) (u_31 : Int32) (u_32 : Nat) (u_33 : Int32) (u_34 : Nat) (u_35 : Nat) (u_36 : Int32) (u_37 : Int32) (u_38 : Nat) (u_39 : Int32) (u_40 : Int32) (u_41 : Int32) (u_42 : Nat) (u_43 : Int32) (u_44 : Nat) (u_45 : Int32) (u_46 : Int32) (u_47 : Int32) (u_48 : Int32) (u_49 : Int32) (u_50 : Nat) (u_51 : Nat) (u_52 : Nat) (u_53 : Nat)  : z_Mi l yX12_fault wsX12_fault { frames := 0, cells := 0, slots := 0, locals := 0 } D ad [.ref (am 18)] [(am 18, .inr (11, [.int 0, .ref u_1, .int u_2, .int u_3, .int u_4, .int u_5, .ref u_6, .ref u_7, .ref u_8, .ref u_9, .ref u_10, .int u_11, .int u_12, .int u_13, .int u_14, .int 0, .int u_16, .long u_17, .int u_18, .int u_19, .int u_20, .ref u_21, .ref u_22, .int u_23, .int u_24, .int u_25, .int u_26, .ref u_27, .int u_28, .ref u_29, .int u_30, .int u_31, .ref u_32, .int u_33, .ref u_34, .ref u_35, .int u_36, .int u_37, .ref u_38, .int u_39, .int u_40, .int u_41, .ref u_42, .int u_43, .ref u_44, .int u_45, .int u_46, .int u_47, .int u_48, .int u_49, .ref u_50, .ref u_51, .ref u_52, .ref u_53]))] [] 0 0 (fun r9 u9 => r9 = 0 ∧ u9 = ([], [])) := by
  refine z_ofI (cc := cX12_fault) (maxL := 1) (rt := .int) (by decide) rfl (Nat.le_of_ble_eq_true rfl) ?_
  intro p e s m below meth c Q A ls hx hb hml hown hts hin hK hP hD hA hE hO hS hl hret
  have hown : s.vm.findClass RX12 = some m.cls := hown
  have hiX12 : ∀ w ∈ wsX120, w ∈ wsX12_fault := fun _ h9 => List.mem_cons_of_mem _ (List.mem_append_right _ h9)
  have hl : lv_has ls 1 [(0, .ref (am 18))] := hl
  refine lv_aload_n hx hb dX12_fault_0 rfl (lv_at hl 0 rfl) ?_
  refine lv_iconst (v := 0) hx hb dX12_fault_1 (by decide) ?_
  refine va_put (D := D) (ci := 11) (v := .int 0) (ty := tyX12 0) (C := RX12) (T := TX12) (N := 54) hx hb hts hiX12 tyX12 tyX12_ok nmX12 hown hK hP hD hS 0 rfl rfl 0 (by decide) (hts _ (List.mem_of_getElem? (i := 1) rfl)) (fun _ h9 => h9) rfl (tyX12_ok 0 (by decide)) rfl rfl (Nat.le_of_ble_eq_true rfl) dX12_fault_2 (fun H locs hP hD hS => ?_)
  have hP : va_P D vwCl [(am 18, .inr (11, [.int 0, .ref u_1, .int u_2, .int u_3, .int u_4, .int u_5, .ref u_6, .ref u_7, .ref u_8, .ref u_9, .ref u_10, .int u_11, .int u_12, .int u_13, .int u_14, .int 0, .int u_16, .long u_17, .int u_18, .int u_19, .int u_20, .ref u_21, .ref u_22, .int u_23, .int u_24, .int u_25, .int u_26, .ref u_27, .int u_28, .ref u_29, .int u_30, .int u_31, .ref u_32, .int u_33, .ref u_34, .ref u_35, .int u_36, .int u_37, .ref u_38, .int u_39, .int u_40, .int u_41, .ref u_42, .int u_43, .ref u_44, .int u_45, .int u_46, .int u_47, .int u_48, .int u_49, .ref u_50, .ref u_51, .ref u_52, .ref u_53]))] H := hP
  have hD : va_D A [(am 18, .inr (11, [.int 0, .ref u_1, .int u_2, .int u_3, .int u_4, .int u_5, .ref u_6, .ref u_7, .ref u_8, .ref u_9, .ref u_10, .int u_11, .int u_12, .int u_13, .int u_14, .int 0, .int u_16, .long u_17, .int u_18, .int u_19, .int u_20, .ref u_21, .ref u_22, .int u_23, .int u_24, .int u_25, .int u_26, .ref u_27, .int u_28, .ref u_29, .int u_30, .int u_31, .ref u_32, .int u_33, .ref u_34, .ref u_35, .int u_36, .int u_37, .ref u_38, .int u_39, .int u_40, .int u_41, .ref u_42, .int u_43, .ref u_44, .int u_45, .int u_46, .int u_47, .int u_48, .int u_49, .ref u_50, .ref u_51, .ref u_52, .ref u_53]))] := hD
  refine lv_aload_n hx hb dX12_fault_5 rfl (lv_at hl 0 rfl) ?_
  refine va_get (D := D) (ci := 11) (v := .int 0) (C := RX12) (T := TX12) (N := 54) hx hb hts hiX12 hown hK hP 0 rfl rfl 15 (by decide) (hts _ (List.mem_of_getElem? (i := 2) rfl)) (fun _ h9 => h9) rfl dX12_fault_6 ?_
  refine W.widen (k := 0) (n := 0) (by decide) (by decide) ?_
  exact hret 0 ([], []) _ _ _ _ dX12_fault_9 rfl ⟨rfl, rfl⟩ (hP.sub [] rfl) (hK.sub [] rfl) (hD.sub [] (by decide +kernel) rfl) hS

set_option maxHeartbeats 8000000 in
set_option maxRecDepth 100000 in
theorem k_X12_undo (l : Launch) (D : va_G) (ad : Nat → Nat) (am : Nat → Nat) (u_1 : Nat) (u_2 : Int32) (u_3 : Int32) (u_4 : Int32) (u_5 : Int32) (u_6 : Nat) (u_7 : Nat) (u_8 : Nat) (u_9 : Nat) (u_10 : Nat) (u_11 : Int32) (u_12 : Int32) (u_13 : Int32) (u_14 : Int32) (u_15 : Int32) (u_16 : Int32) (u_17 : Int64) (u_18 : Int32) (u_19 : Int32) (u_20 : Int32) (u_21 : Nat) (u_22 : Nat) (u_24 : Int32) (u_25 : Int32) (u_26 : Int32) (u_27 : Nat) (u_28 : Int32) (u_29 : Nat) (u_30 : Int32) (u_31 : Int32) (u_32 : Nat) (u_33 : Int32) (u_34 : Nat) (u_35 : Nat) (u_36 : Int32) (u_37 : Int32) (u_38 : Nat) (u_39 : Int32) (u_40 : Int32) (u_41 : Int32) (u_42 : Nat) (u_43 : Int32) (u_44 : Nat) (u_45 : Int32) (u_46 : Int32) (u_47 : Int32) (u_48 : Int32) (u_49 : Int32) (u_50 : Nat) (u_51 : Nat) (u_52 : Nat) (u_53 : Nat)  : z_Mi l yX12_undo wsX12_undo { frames := 0, cells := 0, slots := 0, locals := 0 } D ad [.ref (am 18)] [(am 18, .inr (11, [.int 0, .ref u_1, .int u_2, .int u_3, .int u_4, .int u_5, .ref u_6, .ref u_7, .ref u_8, .ref u_9, .ref u_10, .int u_11, .int u_12, .int u_13, .int u_14, .int u_15, .int u_16, .long u_17, .int u_18, .int u_19, .int u_20, .ref u_21, .ref u_22, .int 0, .int u_24, .int u_25, .int u_26, .ref u_27, .int u_28, .ref u_29, .int u_30, .int u_31, .ref u_32, .int u_33, .ref u_34, .ref u_35, .int u_36, .int u_37, .ref u_38, .int u_39, .int u_40, .int u_41, .ref u_42, .int u_43, .ref u_44, .int u_45, .int u_46, .int u_47, .int u_48, .int u_49, .ref u_50, .ref u_51, .ref u_52, .ref u_53]))] [] 0 0 (fun r9 u9 => r9 = (-1) ∧ u9 = ([], [])) := by
  refine z_ofI (cc := cX12_undo) (maxL := 2) (rt := .int) (by decide) rfl (Nat.le_of_ble_eq_true rfl) ?_
  intro p e s m below meth c Q A ls hx hb hml hown hts hin hK hP hD hA hE hO hS hl hret
  have hown : s.vm.findClass RX12 = some m.cls := hown
  have hiX12 : ∀ w ∈ wsX120, w ∈ wsX12_undo := fun _ h9 => List.mem_cons_of_mem _ (List.mem_append_right _ h9)
  have hl : lv_has ls 2 [(0, .ref (am 18))] := hl
  refine lv_aload_n hx hb dX12_undo_0 rfl (lv_at hl 0 rfl) ?_
  refine lv_iconst (v := 0) hx hb dX12_undo_1 (by decide) ?_
  refine va_put (D := D) (ci := 11) (v := .int 0) (ty := tyX12 0) (C := RX12) (T := TX12) (N := 54) hx hb hts hiX12 tyX12 tyX12_ok nmX12 hown hK hP hD hS 0 rfl rfl 0 (by decide) (hts _ (List.mem_of_getElem? (i := 1) rfl)) (fun _ h9 => h9) rfl (tyX12_ok 0 (by decide)) rfl rfl (Nat.le_of_ble_eq_true rfl) dX12_undo_2 (fun H locs hP hD hS => ?_)
  have hP : va_P D vwCl [(am 18, .inr (11, [.int 0, .ref u_1, .int u_2, .int u_3, .int u_4, .int u_5, .ref u_6, .ref u_7, .ref u_8, .ref u_9, .ref u_10, .int u_11, .int u_12, .int u_13, .int u_14, .int u_15, .int u_16, .long u_17, .int u_18, .int u_19, .int u_20, .ref u_21, .ref u_22, .int 0, .int u_24, .int u_25, .int u_26, .ref u_27, .int u_28, .ref u_29, .int u_30, .int u_31, .ref u_32, .int u_33, .ref u_34, .ref u_35, .int u_36, .int u_37, .ref u_38, .int u_39, .int u_40, .int u_41, .ref u_42, .int u_43, .ref u_44, .int u_45, .int u_46, .int u_47, .int u_48, .int u_49, .ref u_50, .ref u_51, .ref u_52, .ref u_53]))] H := hP
  have hD : va_D A [(am 18, .inr (11, [.int 0, .ref u_1, .int u_2, .int u_3, .int u_4, .int u_5, .ref u_6, .ref u_7, .ref u_8, .ref u_9, .ref u_10, .int u_11, .int u_12, .int u_13, .int u_14, .int u_15, .int u_16, .long u_17, .int u_18, .int u_19, .int u_20, .ref u_21, .ref u_22, .int 0, .int u_24, .int u_25, .int u_26, .ref u_27, .int u_28, .ref u_29, .int u_30, .int u_31, .ref u_32, .int u_33, .ref u_34, .ref u_35, .int u_36, .int u_37, .ref u_38, .int u_39, .int u_40, .int u_41, .ref u_42, .int u_43, .ref u_44, .int u_45, .int u_46, .int u_47, .int u_48, .int u_49, .ref u_50, .ref u_51, .ref u_52, .ref u_53]))] := hD
  refine lv_aload_n hx hb dX12_undo_5 rfl (lv_at hl 0 rfl) ?_
  refine va_get (D := D) (ci := 11) (v := .int 0) (C := RX12) (T := TX12) (N := 54) hx hb hts hiX12 hown hK hP 0 rfl rfl 23 (by decide) (hts _ (List.mem_of_getElem? (i := 2) rfl)) (fun _ h9 => h9) rfl dX12_undo_6 ?_
  refine lv_if_ne (tgt := 14) hx hb dX12_undo_9 (by decide) (fun h9 => absurd (by decide) h9) (fun _ => ?_)
  refine lv_iconst (v := (-1)) hx hb dX12_undo_12 (by decide) ?_
  refine W.widen (k := 0) (n := 0) (by decide) (by decide) ?_
  exact hret (-1) ([], []) _ _ _ _ dX12_undo_13 rfl ⟨rfl, rfl⟩ (hP.sub [] rfl) (hK.sub [] rfl) (hD.sub [] (by decide +kernel) rfl) hS

set_option maxHeartbeats 8000000 in
set_option maxRecDepth 100000 in
theorem k_X12_meant (l : Launch) (D : va_G) (ad : Nat → Nat) (am : Nat → Nat) (tm : Nat → ClassId) (u_1 : Nat) (u_7 : Nat) (u_8 : Nat) (u_9 : Nat) (u_10 : Nat) (u_11 : Int32) (u_12 : Int32) (u_13 : Int32) (u_14 : Int32) (u_15 : Int32) (u_16 : Int32) (u_17 : Int64) (u_18 : Int32) (u_19 : Int32) (u_20 : Int32) (u_21 : Nat) (u_22 : Nat) (u_23 : Int32) (u_24 : Int32) (u_25 : Int32) (u_26 : Int32) (u_27 : Nat) (u_28 : Int32) (u_29 : Nat) (u_30 : Int32) (u_31 : Int32) (u_32 : Nat) (u_33 : Int32) (u_34 : Nat) (u_35 : Nat) (u_36 : Int32) (u_37 : Int32) (u_38 : Nat) (u_39 : Int32) (u_40 : Int32) (u_41 : Int32) (u_42 : Nat) (u_43 : Int32) (u_44 : Nat) (u_45 : Int32) (u_46 : Int32) (u_47 : Int32) (u_48 : Int32) (u_49 : Int32) (u_50 : Nat) (u_51 : Nat) (u_52 : Nat) (u_53 : Nat)  : z_Mi l yX12_meant wsX12_meant { frames := 1, cells := 0, slots := 0, locals := 22 } D ad [.ref (am 18)] [(am 1, .inl (tm 1, 283, .inl (upd (fun _ => 0) 4 2))), (am 18, .inr (11, [.int 0, .ref u_1, .int 0, .int 0, .int 0, .int 0, .ref (am 1), .ref u_7, .ref u_8, .ref u_9, .ref u_10, .int u_11, .int u_12, .int u_13, .int u_14, .int u_15, .int u_16, .long u_17, .int u_18, .int u_19, .int u_20, .ref u_21, .ref u_22, .int u_23, .int u_24, .int u_25, .int u_26, .ref u_27, .int u_28, .ref u_29, .int u_30, .int u_31, .ref u_32, .int u_33, .ref u_34, .ref u_35, .int u_36, .int u_37, .ref u_38, .int u_39, .int u_40, .int u_41, .ref u_42, .int u_43, .ref u_44, .int u_45, .int u_46, .int u_47, .int u_48, .int u_49, .ref u_50, .ref u_51, .ref u_52, .ref u_53]))] [(tm 1, .int)] 0 0 (fun r9 u9 => r9 = (-1) ∧ u9 = ([], [])) := by
  refine z_ofI (cc := cX12_meant) (maxL := 8) (rt := .int) (by decide) rfl (Nat.le_of_ble_eq_true rfl) ?_
  intro p e s m below meth c Q A ls hx hb hml hown hts hin hK hP hD hA hE hO hS hl hret
  have hown : s.vm.findClass RX12 = some m.cls := hown
  have hiX12 : ∀ w ∈ wsX120, w ∈ wsX12_meant := fun _ h9 => List.mem_cons_of_mem _ (List.mem_append_right _ h9)
  have hl : lv_has ls 8 [(0, .ref (am 18))] := hl
  refine lv_aload_n hx hb dX12_meant_0 rfl (lv_at hl 0 rfl) ?_
  refine lv_iconst (v := 0) hx hb dX12_meant_1 (by decide) ?_
  refine va_put (D := D) (ci := 11) (v := .int 0) (ty := tyX12 0) (C := RX12) (T := TX12) (N := 54) hx hb hts hiX12 tyX12 tyX12_ok nmX12 hown hK hP hD hS 1 rfl rfl 0 (by decide) (hts _ (List.mem_of_getElem? (i := 1) rfl)) (fun _ h9 => h9) rfl (tyX12_ok 0 (by decide)) rfl rfl (Nat.le_of_ble_eq_true rfl) dX12_meant_2 (fun H locs hP hD hS => ?_)
  have hP : va_P D vwCl [(am 1, .inl (tm 1, 283, .inl (upd (fun _ => 0) 4 2))), (am 18, .inr (11, [.int 0, .ref u_1, .int 0, .int 0, .int 0, .int 0, .ref (am 1), .ref u_7, .ref u_8, .ref u_9, .ref u_10, .int u_11, .int u_12, .int u_13, .int u_14, .int u_15, .int u_16, .long u_17, .int u_18, .int u_19, .int u_20, .ref u_21, .ref u_22, .int u_23, .int u_24, .int u_25, .int u_26, .ref u_27, .int u_28, .ref u_29, .int u_30, .int u_31, .ref u_32, .int u_33, .ref u_34, .ref u_35, .int u_36, .int u_37, .ref u_38, .int u_39, .int u_40, .int u_41, .ref u_42, .int u_43, .ref u_44, .int u_45, .int u_46, .int u_47, .int u_48, .int u_49, .ref u_50, .ref u_51, .ref u_52, .ref u_53]))] H := hP
  have hD : va_D A [(am 1, .inl (tm 1, 283, .inl (upd (fun _ => 0) 4 2))), (am 18, .inr (11, [.int 0, .ref u_1, .int 0, .int 0, .int 0, .int 0, .ref (am 1), .ref u_7, .ref u_8, .ref u_9, .ref u_10, .int u_11, .int u_12, .int u_13, .int u_14, .int u_15, .int u_16, .long u_17, .int u_18, .int u_19, .int u_20, .ref u_21, .ref u_22, .int u_23, .int u_24, .int u_25, .int u_26, .ref u_27, .int u_28, .ref u_29, .int u_30, .int u_31, .ref u_32, .int u_33, .ref u_34, .ref u_35, .int u_36, .int u_37, .ref u_38, .int u_39, .int u_40, .int u_41, .ref u_42, .int u_43, .ref u_44, .int u_45, .int u_46, .int u_47, .int u_48, .int u_49, .ref u_50, .ref u_51, .ref u_52, .ref u_53]))] := hD
  refine lv_aload_n hx hb dX12_meant_5 rfl (lv_at hl 0 rfl) ?_
  refine lv_sipush (v := 940) hx hb dX12_meant_6 (by decide) ?_
  have hc9 := (k_X12_taken l D ad am 940 0 u_1 (am 1) u_7 u_8 u_9 u_10 u_11 u_12 u_13 u_14 u_15 u_16 u_17 u_18 u_19 u_20 u_21 u_22 u_23 u_24 u_25 u_26 u_27 u_28 u_29 u_30 u_31 u_32 u_33 u_34 u_35 u_36 u_37 u_38 u_39 u_40 u_41 u_42 u_43 u_44 u_45 u_46 u_47 u_48 u_49 u_50 u_51 u_52 u_53 )
  refine z_callv (w0 := [(am 18, .inr (11, [.int 0, .ref u_1, .int 0, .int 0, .int 0, .int 0, .ref (am 1), .ref u_7, .ref u_8, .ref u_9, .ref u_10, .int u_11, .int u_12, .int u_13, .int u_14, .int u_15, .int u_16, .long u_17, .int u_18, .int u_19, .int u_20, .ref u_21, .ref u_22, .int u_23, .int u_24, .int u_25, .int u_26, .ref u_27, .int u_28, .ref u_29, .int u_30, .int u_31, .ref u_32, .int u_33, .ref u_34, .ref u_35, .int u_36, .int u_37, .ref u_38, .int u_39, .int u_40, .int u_41, .ref u_42, .int u_43, .ref u_44, .int u_45, .int u_46, .int u_47, .int u_48, .int u_49, .ref u_50, .ref u_51, .ref u_52, .ref u_53]))]) (wr := [(am 1, .inl (tm 1, 283, .inl (upd (fun _ => 0) 4 2)))]) (va_runV (As := [.int 940]) (rest := []) ⟨hx, hb, hml, hown, hts⟩ (hc9 _) (cwV 1 hts gX12_meant_X12_taken rfl rfl rfl (by decide +kernel) ⟨Nat.le_of_ble_eq_true rfl, Nat.le_of_ble_eq_true rfl⟩) (z_preV hP hD hK hS hA hE hO [1] [] rfl (by decide +kernel) rfl 1 11 rfl rfl rfl) rfl rfl hl.1 rfl (lv_room (Nat.le_of_ble_eq_true rfl)) dX12_meant_9 ⟨Nat.le_of_ble_eq_true rfl, Nat.le_of_ble_eq_true rfl⟩) hP hD hK hS hA [1] [0] rfl rfl (by decide +kernel) (by decide +kernel) (fun u9 H locs hw hP hD hK hS => ?_)
  obtain ⟨rfl⟩ := hw
  have hP : va_P D vwCl [(am 1, .inl (tm 1, 283, .inl (upd (fun _ => 0) 4 2))), (am 18, .inr (11, [.int 0, .ref u_1, .int 0, .int 0, .int 0, .int 940, .ref (am 1), .ref u_7, .ref u_8, .ref u_9, .ref u_10, .int u_11, .int u_12, .int u_13, .int u_14, .int u_15, .int u_16, .long u_17, .int u_18, .int u_19, .int u_20, .ref u_21, .ref u_22, .int u_23, .int u_24, .int u_25, .int u_26, .ref u_27, .int u_28, .ref u_29, .int u_30, .int u_31, .ref u_32, .int u_33, .ref u_34, .ref u_35, .int u_36, .int u_37, .ref u_38, .int u_39, .int u_40, .int u_41, .ref u_42, .int u_43, .ref u_44, .int u_45, .int u_46, .int u_47, .int u_48, .int u_49, .ref u_50, .ref u_51, .ref u_52, .ref u_53]))] H := hP
  have hD : va_D A [(am 1, .inl (tm 1, 283, .inl (upd (fun _ => 0) 4 2))), (am 18, .inr (11, [.int 0, .ref u_1, .int 0, .int 0, .int 0, .int 940, .ref (am 1), .ref u_7, .ref u_8, .ref u_9, .ref u_10, .int u_11, .int u_12, .int u_13, .int u_14, .int u_15, .int u_16, .long u_17, .int u_18, .int u_19, .int u_20, .ref u_21, .ref u_22, .int u_23, .int u_24, .int u_25, .int u_26, .ref u_27, .int u_28, .ref u_29, .int u_30, .int u_31, .ref u_32, .int u_33, .ref u_34, .ref u_35, .int u_36, .int u_37, .ref u_38, .int u_39, .int u_40, .int u_41, .ref u_42, .int u_43, .ref u_44, .int u_45, .int u_46, .int u_47, .int u_48, .int u_49, .ref u_50, .ref u_51, .ref u_52, .ref u_53]))] := hD
  have hK : va_K D vwCl [(tm 1, .int)] s := hK
  refine W.cs (cells' := 0) (slots' := 0) rfl rfl ?_
  refine lv_iconst (v := 1) hx hb dX12_meant_12 (by decide) ?_
  refine lv_aload_n hx hb dX12_meant_13 rfl (lv_at hl 0 rfl) ?_
  refine va_get (D := D) (ci := 11) (v := .ref (am 1)) (C := RX12) (T := TX12) (N := 54) hx hb hts hiX12 hown hK hP 1 rfl rfl 6 (by decide) (hts _ (List.mem_of_getElem? (i := 2) rfl)) (fun _ h9 => h9) rfl dX12_meant_14 ?_
  refine lv_iconst (v := 1) hx hb dX12_meant_17 (by decide) ?_
  refine va_iald hx hb hK hP 0 0 rfl rfl (show ¬ (_ ∨ _) by decide) dX12_meant_18 ?_
  refine W.eq (g2 := F0 m 19 ls (.int 0 :: [.int 1])) rfl ?_
  refine lv_ishl hx hb dX12_meant_19 ?_
  refine lv_topi (fun y_1 ey_1 => ?_)
  obtain rfl : y_1 = 1 := ey_1.trans (by decide)
  refine lv_iconst (v := 1) hx hb dX12_meant_20 (by decide) ?_
  refine lv_isub hx hb dX12_meant_21 ?_
  refine lv_topi (fun y_2 ey_2 => ?_)
  obtain rfl : y_2 = 0 := ey_2.trans (by decide)
  refine lv_istore_n (lv' := [(1, .int 0), (0, .ref (am 18))]) hx hb dX12_meant_22 rfl hl (by decide) rfl (fun ls hl => ?_)
  refine lv_aload_n hx hb dX12_meant_23 rfl (lv_at hl 1 rfl) ?_
  refine va_get (D := D) (ci := 11) (v := .int 0) (C := RX12) (T := TX12) (N := 54) hx hb hts hiX12 hown hK hP 1 rfl rfl 3 (by decide) (hts _ (List.mem_of_getElem? (i := 3) rfl)) (fun _ h9 => h9) rfl dX12_meant_24 ?_
  refine lv_iconst (v := 2) hx hb dX12_meant_27 (by decide) ?_
  refine lv_bipush (v := 16) hx hb dX12_meant_28 (by decide) ?_
  have hc9 := (k_X12_isIn_2_16 l D ad  )
  refine z_calli (w0 := []) (wr := [(am 1, .inl (tm 1, 283, .inl (upd (fun _ => 0) 4 2))), (am 18, .inr (11, [.int 0, .ref u_1, .int 0, .int 0, .int 0, .int 940, .ref (am 1), .ref u_7, .ref u_8, .ref u_9, .ref u_10, .int u_11, .int u_12, .int u_13, .int u_14, .int u_15, .int u_16, .long u_17, .int u_18, .int u_19, .int u_20, .ref u_21, .ref u_22, .int u_23, .int u_24, .int u_25, .int u_26, .ref u_27, .int u_28, .ref u_29, .int u_30, .int u_31, .ref u_32, .int u_33, .ref u_34, .ref u_35, .int u_36, .int u_37, .ref u_38, .int u_39, .int u_40, .int u_41, .ref u_42, .int u_43, .ref u_44, .int u_45, .int u_46, .int u_47, .int u_48, .int u_49, .ref u_50, .ref u_51, .ref u_52, .ref u_53]))]) (va_runS (As := [.int 0, .int 2, .int 16]) (rest := []) ⟨hx, hb, hml, hown, hts⟩ (hc9 _) (va_cwS 3 hts gX12_meant_X12_isIn rfl rfl rfl (by decide +kernel) ⟨Nat.le_of_ble_eq_true rfl, Nat.le_of_ble_eq_true rfl⟩) (z_preS hP hD hK hS hA hE hO [] [] rfl (by decide +kernel) rfl) rfl rfl hl.1 rfl (lv_room (Nat.le_of_ble_eq_true rfl)) dX12_meant_30 ⟨Nat.le_of_ble_eq_true rfl, Nat.le_of_ble_eq_true rfl⟩) hP hD hK hS hA [] [0, 1] rfl rfl (by decide +kernel) (by decide +kernel) (fun r9 u9 H locs hw hP hD hK hS => ?_)
  obtain ⟨er9, rfl⟩ := hw
  have hP : va_P D vwCl [(am 1, .inl (tm 1, 283, .inl (upd (fun _ => 0) 4 2))), (am 18, .inr (11, [.int 0, .ref u_1, .int 0, .int 0, .int 0, .int 940, .ref (am 1), .ref u_7, .ref u_8, .ref u_9, .ref u_10, .int u_11, .int u_12, .int u_13, .int u_14, .int u_15, .int u_16, .long u_17, .int u_18, .int u_19, .int u_20, .ref u_21, .ref u_22, .int u_23, .int u_24, .int u_25, .int u_26, .ref u_27, .int u_28, .ref u_29, .int u_30, .int u_31, .ref u_32, .int u_33, .ref u_34, .ref u_35, .int u_36, .int u_37, .ref u_38, .int u_39, .int u_40, .int u_41, .ref u_42, .int u_43, .ref u_44, .int u_45, .int u_46, .int u_47, .int u_48, .int u_49, .ref u_50, .ref u_51, .ref u_52, .ref u_53]))] H := hP
  have hD : va_D A [(am 1, .inl (tm 1, 283, .inl (upd (fun _ => 0) 4 2))), (am 18, .inr (11, [.int 0, .ref u_1, .int 0, .int 0, .int 0, .int 940, .ref (am 1), .ref u_7, .ref u_8, .ref u_9, .ref u_10, .int u_11, .int u_12, .int u_13, .int u_14, .int u_15, .int u_16, .long u_17, .int u_18, .int u_19, .int u_20, .ref u_21, .ref u_22, .int u_23, .int u_24, .int u_25, .int u_26, .ref u_27, .int u_28, .ref u_29, .int u_30, .int u_31, .ref u_32, .int u_33, .ref u_34, .ref u_35, .int u_36, .int u_37, .ref u_38, .int u_39, .int u_40, .int u_41, .ref u_42, .int u_43, .ref u_44, .int u_45, .int u_46, .int u_47, .int u_48, .int u_49, .ref u_50, .ref u_51, .ref u_52, .ref u_53]))] := hD
  have hK : va_K D vwCl [(tm 1, .int)] s := hK
  refine W.cs (cells' := 0) (slots' := 0) rfl rfl ?_
  obtain rfl := er9
  refine W.eq (g2 := F0 m 33 ls (.int 0 :: [])) rfl ?_
  refine lv_if_eq (tgt := 46) hx hb dX12_meant_33 (by decide) (fun _ => ?_) (fun h9 => absurd (by decide) h9)
  refine lv_iconst (v := (-1)) hx hb dX12_meant_46 (by decide) ?_
  refine W.widen (k := 0) (n := 0) (by decide) (by decide) ?_
  exact hret (-1) ([], []) _ _ _ _ dX12_meant_47 rfl ⟨rfl, rfl⟩ (hP.sub [] rfl) (hK.sub [] rfl) (hD.sub [] (by decide +kernel) rfl) hS

set_option maxHeartbeats 8000000 in
set_option maxRecDepth 100000 in
theorem k_X12_surely (l : Launch) (D : va_G) (ad : Nat → Nat) (am : Nat → Nat) (u_1 : Nat) (u_2 : Int32) (u_3 : Int32) (u_4 : Int32) (u_5 : Int32) (u_6 : Nat) (u_7 : Nat) (u_8 : Nat) (u_9 : Nat) (u_10 : Nat) (u_11 : Int32) (u_12 : Int32) (u_13 : Int32) (u_14 : Int32) (u_15 : Int32) (u_16 : Int32) (u_17 : Int64) (u_18 : Int32) (u_19 : Int32) (u_20 : Int32) (u_21 : Nat) (u_22 : Nat) (u_23 : Int32) (u_24 : Int32) (u_25 : Int32) (u_27 : Nat) (u_28 : Int32) (u_29 : Nat) (u_30 : Int32) (u_31 : Int32) (u_32 : Nat) (u_33 : Int32) (u_34 : Nat) (u_35 : Nat) (u_36 : Int32) (u_37 : Int32) (u_38 : Nat) (u_39 : Int32) (u_40 : Int32) (u_41 : Int32) (u_42 : Nat) (u_43 : Int32) (u_44 : Nat) (u_45 : Int32) (u_46 : Int32) (u_47 : Int32) (u_48 : Int32) (u_49 : Int32) (u_50 : Nat) (u_51 : Nat) (u_52 : Nat) (u_53 : Nat)  : z_Mi l yX12_surely wsX12_surely { frames := 0, cells := 0, slots := 0, locals := 0 } D ad [.ref (am 18)] [(am 18, .inr (11, [.int 0, .ref u_1, .int u_2, .int u_3, .int u_4, .int u_5, .ref u_6, .ref u_7, .ref u_8, .ref u_9, .ref u_10, .int u_11, .int u_12, .int u_13, .int u_14, .int u_15, .int u_16, .long u_17, .int u_18, .int u_19, .int u_20, .ref u_21, .ref u_22, .int u_23, .int u_24, .int u_25, .int 0, .ref u_27, .int u_28, .ref u_29, .int u_30, .int u_31, .ref u_32, .int u_33, .ref u_34, .ref u_35, .int u_36, .int u_37, .ref u_38, .int u_39, .int u_40, .int u_41, .ref u_42, .int u_43, .ref u_44, .int u_45, .int u_46, .int u_47, .int u_48, .int u_49, .ref u_50, .ref u_51, .ref u_52, .ref u_53]))] [] 0 0 (fun r9 u9 => r9 = (-1) ∧ u9 = ([], [])) := by
  refine z_ofI (cc := cX12_surely) (maxL := 1) (rt := .int) (by decide) rfl (Nat.le_of_ble_eq_true rfl) ?_
  intro p e s m below meth c Q A ls hx hb hml hown hts hin hK hP hD hA hE hO hS hl hret
  have hown : s.vm.findClass RX12 = some m.cls := hown
  have hiX12 : ∀ w ∈ wsX120, w ∈ wsX12_surely := fun _ h9 => List.mem_cons_of_mem _ (List.mem_append_right _ h9)
  have hl : lv_has ls 1 [(0, .ref (am 18))] := hl
  refine lv_aload_n hx hb dX12_surely_0 rfl (lv_at hl 0 rfl) ?_
  refine lv_iconst (v := 0) hx hb dX12_surely_1 (by decide) ?_
  refine va_put (D := D) (ci := 11) (v := .int 0) (ty := tyX12 0) (C := RX12) (T := TX12) (N := 54) hx hb hts hiX12 tyX12 tyX12_ok nmX12 hown hK hP hD hS 0 rfl rfl 0 (by decide) (hts _ (List.mem_of_getElem? (i := 1) rfl)) (fun _ h9 => h9) rfl (tyX12_ok 0 (by decide)) rfl rfl (Nat.le_of_ble_eq_true rfl) dX12_surely_2 (fun H locs hP hD hS => ?_)
  have hP : va_P D vwCl [(am 18, .inr (11, [.int 0, .ref u_1, .int u_2, .int u_3, .int u_4, .int u_5, .ref u_6, .ref u_7, .ref u_8, .ref u_9, .ref u_10, .int u_11, .int u_12, .int u_13, .int u_14, .int u_15, .int u_16, .long u_17, .int u_18, .int u_19, .int u_20, .ref u_21, .ref u_22, .int u_23, .int u_24, .int u_25, .int 0, .ref u_27, .int u_28, .ref u_29, .int u_30, .int u_31, .ref u_32, .int u_33, .ref u_34, .ref u_35, .int u_36, .int u_37, .ref u_38, .int u_39, .int u_40, .int u_41, .ref u_42, .int u_43, .ref u_44, .int u_45, .int u_46, .int u_47, .int u_48, .int u_49, .ref u_50, .ref u_51, .ref u_52, .ref u_53]))] H := hP
  have hD : va_D A [(am 18, .inr (11, [.int 0, .ref u_1, .int u_2, .int u_3, .int u_4, .int u_5, .ref u_6, .ref u_7, .ref u_8, .ref u_9, .ref u_10, .int u_11, .int u_12, .int u_13, .int u_14, .int u_15, .int u_16, .long u_17, .int u_18, .int u_19, .int u_20, .ref u_21, .ref u_22, .int u_23, .int u_24, .int u_25, .int 0, .ref u_27, .int u_28, .ref u_29, .int u_30, .int u_31, .ref u_32, .int u_33, .ref u_34, .ref u_35, .int u_36, .int u_37, .ref u_38, .int u_39, .int u_40, .int u_41, .ref u_42, .int u_43, .ref u_44, .int u_45, .int u_46, .int u_47, .int u_48, .int u_49, .ref u_50, .ref u_51, .ref u_52, .ref u_53]))] := hD
  refine lv_aload_n hx hb dX12_surely_5 rfl (lv_at hl 0 rfl) ?_
  refine va_get (D := D) (ci := 11) (v := .int 0) (C := RX12) (T := TX12) (N := 54) hx hb hts hiX12 hown hK hP 0 rfl rfl 26 (by decide) (hts _ (List.mem_of_getElem? (i := 2) rfl)) (fun _ h9 => h9) rfl dX12_surely_6 ?_
  refine lv_if_eq (tgt := 19) hx hb dX12_surely_9 (by decide) (fun _ => ?_) (fun h9 => absurd (by decide) h9)
  refine lv_iconst (v := (-1)) hx hb dX12_surely_19 (by decide) ?_
  refine W.widen (k := 0) (n := 0) (by decide) (by decide) ?_
  exact hret (-1) ([], []) _ _ _ _ dX12_surely_20 rfl ⟨rfl, rfl⟩ (hP.sub [] rfl) (hK.sub [] rfl) (hD.sub [] (by decide +kernel) rfl) hS

set_option maxHeartbeats 8000000 in
set_option maxRecDepth 100000 in
theorem k_X12_ask (l : Launch) (D : va_G) (ad : Nat → Nat) (am : Nat → Nat) (u_1 : Nat) (u_2 : Int32) (u_3 : Int32) (u_4 : Int32) (u_5 : Int32) (u_6 : Nat) (u_7 : Nat) (u_8 : Nat) (u_9 : Nat) (u_10 : Nat) (u_11 : Int32) (u_12 : Int32) (u_13 : Int32) (u_14 : Int32) (u_15 : Int32) (u_16 : Int32) (u_17 : Int64) (u_18 : Int32) (u_19 : Int32) (u_20 : Int32) (u_21 : Nat) (u_22 : Nat) (u_23 : Int32) (u_24 : Int32) (u_25 : Int32) (u_27 : Nat) (u_28 : Int32) (u_29 : Nat) (u_30 : Int32) (u_31 : Int32) (u_32 : Nat) (u_33 : Int32) (u_34 : Nat) (u_35 : Nat) (u_36 : Int32) (u_37 : Int32) (u_38 : Nat) (u_39 : Int32) (u_40 : Int32) (u_41 : Int32) (u_42 : Nat) (u_43 : Int32) (u_44 : Nat) (u_45 : Int32) (u_46 : Int32) (u_47 : Int32) (u_48 : Int32) (u_49 : Int32) (u_50 : Nat) (u_51 : Nat) (u_52 : Nat) (u_53 : Nat)  : z_Mi l yX12_ask wsX12_ask { frames := 0, cells := 0, slots := 0, locals := 0 } D ad [.ref (am 18)] [(am 18, .inr (11, [.int 0, .ref u_1, .int u_2, .int u_3, .int u_4, .int u_5, .ref u_6, .ref u_7, .ref u_8, .ref u_9, .ref u_10, .int u_11, .int u_12, .int u_13, .int u_14, .int u_15, .int u_16, .long u_17, .int u_18, .int u_19, .int u_20, .ref u_21, .ref u_22, .int u_23, .int u_24, .int u_25, .int 0, .ref u_27, .int u_28, .ref u_29, .int u_30, .int u_31, .ref u_32, .int u_33, .ref u_34, .ref u_35, .int u_36, .int u_37, .ref u_38, .int u_39, .int u_40, .int u_41, .ref u_42, .int u_43, .ref u_44, .int u_45, .int u_46, .int u_47, .int u_48, .int u_49, .ref u_50, .ref u_51, .ref u_52, .ref u_53]))] [] 0 0 (fun r9 u9 => r9 = (-1) ∧ u9 = ([], [])) := by
  refine z_ofI (cc := cX12_ask) (maxL := 1) (rt := .int) (by decide) rfl (Nat.le_of_ble_eq_true rfl) ?_
  intro p e s m below meth c Q A ls hx hb hml hown hts hin hK hP hD hA hE hO hS hl hret
  have hown : s.vm.findClass RX12 = some m.cls := hown
  have hiX12 : ∀ w ∈ wsX120, w ∈ wsX12_ask := fun _ h9 => List.mem_cons_of_mem _ (List.mem_append_right _ h9)
  have hl : lv_has ls 1 [(0, .ref (am 18))] := hl
  refine lv_aload_n hx hb dX12_ask_0 rfl (lv_at hl 0 rfl) ?_
  refine lv_iconst (v := 0) hx hb dX12_ask_1 (by decide) ?_
  refine va_put (D := D) (ci := 11) (v := .int 0) (ty := tyX12 0) (C := RX12) (T := TX12) (N := 54) hx hb hts hiX12 tyX12 tyX12_ok nmX12 hown hK hP hD hS 0 rfl rfl 0 (by decide) (hts _ (List.mem_of_getElem? (i := 1) rfl)) (fun _ h9 => h9) rfl (tyX12_ok 0 (by decide)) rfl rfl (Nat.le_of_ble_eq_true rfl) dX12_ask_2 (fun H locs hP hD hS => ?_)
  have hP : va_P D vwCl [(am 18, .inr (11, [.int 0, .ref u_1, .int u_2, .int u_3, .int u_4, .int u_5, .ref u_6, .ref u_7, .ref u_8, .ref u_9, .ref u_10, .int u_11, .int u_12, .int u_13, .int u_14, .int u_15, .int u_16, .long u_17, .int u_18, .int u_19, .int u_20, .ref u_21, .ref u_22, .int u_23, .int u_24, .int u_25, .int 0, .ref u_27, .int u_28, .ref u_29, .int u_30, .int u_31, .ref u_32, .int u_33, .ref u_34, .ref u_35, .int u_36, .int u_37, .ref u_38, .int u_39, .int u_40, .int u_41, .ref u_42, .int u_43, .ref u_44, .int u_45, .int u_46, .int u_47, .int u_48, .int u_49, .ref u_50, .ref u_51, .ref u_52, .ref u_53]))] H := hP
  have hD : va_D A [(am 18, .inr (11, [.int 0, .ref u_1, .int u_2, .int u_3, .int u_4, .int u_5, .ref u_6, .ref u_7, .ref u_8, .ref u_9, .ref u_10, .int u_11, .int u_12, .int u_13, .int u_14, .int u_15, .int u_16, .long u_17, .int u_18, .int u_19, .int u_20, .ref u_21, .ref u_22, .int u_23, .int u_24, .int u_25, .int 0, .ref u_27, .int u_28, .ref u_29, .int u_30, .int u_31, .ref u_32, .int u_33, .ref u_34, .ref u_35, .int u_36, .int u_37, .ref u_38, .int u_39, .int u_40, .int u_41, .ref u_42, .int u_43, .ref u_44, .int u_45, .int u_46, .int u_47, .int u_48, .int u_49, .ref u_50, .ref u_51, .ref u_52, .ref u_53]))] := hD
  refine lv_aload_n hx hb dX12_ask_5 rfl (lv_at hl 0 rfl) ?_
  refine va_get (D := D) (ci := 11) (v := .int 0) (C := RX12) (T := TX12) (N := 54) hx hb hts hiX12 hown hK hP 0 rfl rfl 26 (by decide) (hts _ (List.mem_of_getElem? (i := 2) rfl)) (fun _ h9 => h9) rfl dX12_ask_6 ?_
  refine lv_if_eq (tgt := 19) hx hb dX12_ask_9 (by decide) (fun _ => ?_) (fun h9 => absurd (by decide) h9)
  refine lv_iconst (v := (-1)) hx hb dX12_ask_19 (by decide) ?_
  refine W.widen (k := 0) (n := 0) (by decide) (by decide) ?_
  exact hret (-1) ([], []) _ _ _ _ dX12_ask_20 rfl ⟨rfl, rfl⟩ (hP.sub [] rfl) (hK.sub [] rfl) (hD.sub [] (by decide +kernel) rfl) hS

set_option maxHeartbeats 8000000 in
set_option maxRecDepth 100000 in
theorem k_X12_far (l : Launch) (D : va_G) (ad : Nat → Nat) (am : Nat → Nat) (u_1 : Nat) (u_6 : Nat) (u_7 : Nat) (u_8 : Nat) (u_9 : Nat) (u_10 : Nat) (u_11 : Int32) (u_12 : Int32) (u_13 : Int32) (u_14 : Int32) (u_15 : Int32) (u_16 : Int32) (u_17 : Int64) (u_18 : Int32) (u_19 : Int32) (u_20 : Int32) (u_21 : Nat) (u_22 : Nat) (u_23 : Int32) (u_24 : Int32) (u_25 : Int32) (u_26 : Int32) (u_27 : Nat) (u_28 : Int32) (u_29 : Nat) (u_30 : Int32) (u_31 : Int32) (u_32 : Nat) (u_33 : Int32) (u_34 : Nat) (u_35 : Nat) (u_36 : Int32) (u_37 : Int32) (u_38 : Nat) (u_39 : Int32) (u_40 : Int32) (u_41 : Int32) (u_42 : Nat) (u_43 : Int32) (u_44 : Nat) (u_45 : Int32) (u_46 : Int32) (u_47 : Int32) (u_48 : Int32) (u_49 : Int32) (u_50 : Nat) (u_51 : Nat) (u_52 : Nat) (u_53 : Nat)  : z_Mi l yX12_far wsX12_far { frames := 1, cells := 0, slots := 0, locals := 22 } D ad [.ref (am 18)] [(am 18, .inr (11, [.int 0, .ref u_1, .int 0, .int 0, .int 0, .int 0, .ref u_6, .ref u_7, .ref u_8, .ref u_9, .ref u_10, .int u_11, .int u_12, .int u_13, .int u_14, .int u_15, .int u_16, .long u_17, .int u_18, .int u_19, .int u_20, .ref u_21, .ref u_22, .int u_23, .int u_24, .int u_25, .int u_26, .ref u_27, .int u_28, .ref u_29, .int u_30, .int u_31, .ref u_32, .int u_33, .ref u_34, .ref u_35, .int u_36, .int u_37, .ref u_38, .int u_39, .int u_40, .int u_41, .ref u_42, .int u_43, .ref u_44, .int u_45, .int u_46, .int u_47, .int u_48, .int u_49, .ref u_50, .ref u_51, .ref u_52, .ref u_53]))] [] 0 0 (fun r9 u9 => r9 = (-1) ∧ u9 = ([], [])) := by
  refine z_ofI (cc := cX12_far) (maxL := 5) (rt := .int) (by decide) rfl (Nat.le_of_ble_eq_true rfl) ?_
  intro p e s m below meth c Q A ls hx hb hml hown hts hin hK hP hD hA hE hO hS hl hret
  have hown : s.vm.findClass RX12 = some m.cls := hown
  have hiX12 : ∀ w ∈ wsX120, w ∈ wsX12_far := fun _ h9 => List.mem_cons_of_mem _ (List.mem_append_right _ h9)
  have hl : lv_has ls 5 [(0, .ref (am 18))] := hl
  refine lv_aload_n hx hb dX12_far_0 rfl (lv_at hl 0 rfl) ?_
  refine lv_iconst (v := 0) hx hb dX12_far_1 (by decide) ?_
  refine va_put (D := D) (ci := 11) (v := .int 0) (ty := tyX12 0) (C := RX12) (T := TX12) (N := 54) hx hb hts hiX12 tyX12 tyX12_ok nmX12 hown hK hP hD hS 0 rfl rfl 0 (by decide) (hts _ (List.mem_of_getElem? (i := 1) rfl)) (fun _ h9 => h9) rfl (tyX12_ok 0 (by decide)) rfl rfl (Nat.le_of_ble_eq_true rfl) dX12_far_2 (fun H locs hP hD hS => ?_)
  have hP : va_P D vwCl [(am 18, .inr (11, [.int 0, .ref u_1, .int 0, .int 0, .int 0, .int 0, .ref u_6, .ref u_7, .ref u_8, .ref u_9, .ref u_10, .int u_11, .int u_12, .int u_13, .int u_14, .int u_15, .int u_16, .long u_17, .int u_18, .int u_19, .int u_20, .ref u_21, .ref u_22, .int u_23, .int u_24, .int u_25, .int u_26, .ref u_27, .int u_28, .ref u_29, .int u_30, .int u_31, .ref u_32, .int u_33, .ref u_34, .ref u_35, .int u_36, .int u_37, .ref u_38, .int u_39, .int u_40, .int u_41, .ref u_42, .int u_43, .ref u_44, .int u_45, .int u_46, .int u_47, .int u_48, .int u_49, .ref u_50, .ref u_51, .ref u_52, .ref u_53]))] H := hP
  have hD : va_D A [(am 18, .inr (11, [.int 0, .ref u_1, .int 0, .int 0, .int 0, .int 0, .ref u_6, .ref u_7, .ref u_8, .ref u_9, .ref u_10, .int u_11, .int u_12, .int u_13, .int u_14, .int u_15, .int u_16, .long u_17, .int u_18, .int u_19, .int u_20, .ref u_21, .ref u_22, .int u_23, .int u_24, .int u_25, .int u_26, .ref u_27, .int u_28, .ref u_29, .int u_30, .int u_31, .ref u_32, .int u_33, .ref u_34, .ref u_35, .int u_36, .int u_37, .ref u_38, .int u_39, .int u_40, .int u_41, .ref u_42, .int u_43, .ref u_44, .int u_45, .int u_46, .int u_47, .int u_48, .int u_49, .ref u_50, .ref u_51, .ref u_52, .ref u_53]))] := hD
  refine lv_aload_n hx hb dX12_far_5 rfl (lv_at hl 0 rfl) ?_
  refine lv_sipush (v := 940) hx hb dX12_far_6 (by decide) ?_
  have hc9 := (k_X12_taken l D ad am 940 0 u_1 u_6 u_7 u_8 u_9 u_10 u_11 u_12 u_13 u_14 u_15 u_16 u_17 u_18 u_19 u_20 u_21 u_22 u_23 u_24 u_25 u_26 u_27 u_28 u_29 u_30 u_31 u_32 u_33 u_34 u_35 u_36 u_37 u_38 u_39 u_40 u_41 u_42 u_43 u_44 u_45 u_46 u_47 u_48 u_49 u_50 u_51 u_52 u_53 )
  refine z_callv (w0 := [(am 18, .inr (11, [.int 0, .ref u_1, .int 0, .int 0, .int 0, .int 0, .ref u_6, .ref u_7, .ref u_8, .ref u_9, .ref u_10, .int u_11, .int u_12, .int u_13, .int u_14, .int u_15, .int u_16, .long u_17, .int u_18, .int u_19, .int u_20, .ref u_21, .ref u_22, .int u_23, .int u_24, .int u_25, .int u_26, .ref u_27, .int u_28, .ref u_29, .int u_30, .int u_31, .ref u_32, .int u_33, .ref u_34, .ref u_35, .int u_36, .int u_37, .ref u_38, .int u_39, .int u_40, .int u_41, .ref u_42, .int u_43, .ref u_44, .int u_45, .int u_46, .int u_47, .int u_48, .int u_49, .ref u_50, .ref u_51, .ref u_52, .ref u_53]))]) (wr := []) (va_runV (As := [.int 940]) (rest := []) ⟨hx, hb, hml, hown, hts⟩ (hc9 _) (cwV 1 hts gX12_far_X12_taken rfl rfl rfl (by decide +kernel) ⟨Nat.le_of_ble_eq_true rfl, Nat.le_of_ble_eq_true rfl⟩) (z_preV hP hD hK hS hA hE hO [0] [] rfl (by decide +kernel) rfl 0 11 rfl rfl rfl) rfl rfl hl.1 rfl (lv_room (Nat.le_of_ble_eq_true rfl)) dX12_far_9 ⟨Nat.le_of_ble_eq_true rfl, Nat.le_of_ble_eq_true rfl⟩) hP hD hK hS hA [0] [] rfl rfl (by decide +kernel) (by decide +kernel) (fun u9 H locs hw hP hD hK hS => ?_)
  obtain ⟨rfl⟩ := hw
  have hP : va_P D vwCl [(am 18, .inr (11, [.int 0, .ref u_1, .int 0, .int 0, .int 0, .int 940, .ref u_6, .ref u_7, .ref u_8, .ref u_9, .ref u_10, .int u_11, .int u_12, .int u_13, .int u_14, .int u_15, .int u_16, .long u_17, .int u_18, .int u_19, .int u_20, .ref u_21, .ref u_22, .int u_23, .int u_24, .int u_25, .int u_26, .ref u_27, .int u_28, .ref u_29, .int u_30, .int u_31, .ref u_32, .int u_33, .ref u_34, .ref u_35, .int u_36, .int u_37, .ref u_38, .int u_39, .int u_40, .int u_41, .ref u_42, .int u_43, .ref u_44, .int u_45, .int u_46, .int u_47, .int u_48, .int u_49, .ref u_50, .ref u_51, .ref u_52, .ref u_53]))] H := hP
  have hD : va_D A [(am 18, .inr (11, [.int 0, .ref u_1, .int 0, .int 0, .int 0, .int 940, .ref u_6, .ref u_7, .ref u_8, .ref u_9, .ref u_10, .int u_11, .int u_12, .int u_13, .int u_14, .int u_15, .int u_16, .long u_17, .int u_18, .int u_19, .int u_20, .ref u_21, .ref u_22, .int u_23, .int u_24, .int u_25, .int u_26, .ref u_27, .int u_28, .ref u_29, .int u_30, .int u_31, .ref u_32, .int u_33, .ref u_34, .ref u_35, .int u_36, .int u_37, .ref u_38, .int u_39, .int u_40, .int u_41, .ref u_42, .int u_43, .ref u_44, .int u_45, .int u_46, .int u_47, .int u_48, .int u_49, .ref u_50, .ref u_51, .ref u_52, .ref u_53]))] := hD
  have hK : va_K D vwCl [] s := hK
  refine W.cs (cells' := 0) (slots' := 0) rfl rfl ?_
  refine lv_aload_n hx hb dX12_far_12 rfl (lv_at hl 0 rfl) ?_
  refine va_get (D := D) (ci := 11) (v := .int 0) (C := RX12) (T := TX12) (N := 54) hx hb hts hiX12 hown hK hP 0 rfl rfl 3 (by decide) (hts _ (List.mem_of_getElem? (i := 2) rfl)) (fun _ h9 => h9) rfl dX12_far_13 ?_
  refine lv_iconst (v := 3) hx hb dX12_far_16 (by decide) ?_
  refine lv_bipush (v := 18) hx hb dX12_far_17 (by decide) ?_
  have hc9 := (k_X12_isIn_3_18 l D ad  )
  refine z_calli (w0 := []) (wr := [(am 18, .inr (11, [.int 0, .ref u_1, .int 0, .int 0, .int 0, .int 940, .ref u_6, .ref u_7, .ref u_8, .ref u_9, .ref u_10, .int u_11, .int u_12, .int u_13, .int u_14, .int u_15, .int u_16, .long u_17, .int u_18, .int u_19, .int u_20, .ref u_21, .ref u_22, .int u_23, .int u_24, .int u_25, .int u_26, .ref u_27, .int u_28, .ref u_29, .int u_30, .int u_31, .ref u_32, .int u_33, .ref u_34, .ref u_35, .int u_36, .int u_37, .ref u_38, .int u_39, .int u_40, .int u_41, .ref u_42, .int u_43, .ref u_44, .int u_45, .int u_46, .int u_47, .int u_48, .int u_49, .ref u_50, .ref u_51, .ref u_52, .ref u_53]))]) (va_runS (As := [.int 0, .int 3, .int 18]) (rest := []) ⟨hx, hb, hml, hown, hts⟩ (hc9 _) (va_cwS 3 hts gX12_far_X12_isIn rfl rfl rfl (by decide +kernel) ⟨Nat.le_of_ble_eq_true rfl, Nat.le_of_ble_eq_true rfl⟩) (z_preS hP hD hK hS hA hE hO [] [] rfl (by decide +kernel) rfl) rfl rfl hl.1 rfl (lv_room (Nat.le_of_ble_eq_true rfl)) dX12_far_19 ⟨Nat.le_of_ble_eq_true rfl, Nat.le_of_ble_eq_true rfl⟩) hP hD hK hS hA [] [0] rfl rfl (by decide +kernel) (by decide +kernel) (fun r9 u9 H locs hw hP hD hK hS => ?_)
  obtain ⟨er9, rfl⟩ := hw
  have hP : va_P D vwCl [(am 18, .inr (11, [.int 0, .ref u_1, .int 0, .int 0, .int 0, .int 940, .ref u_6, .ref u_7, .ref u_8, .ref u_9, .ref u_10, .int u_11, .int u_12, .int u_13, .int u_14, .int u_15, .int u_16, .long u_17, .int u_18, .int u_19, .int u_20, .ref u_21, .ref u_22, .int u_23, .int u_24, .int u_25, .int u_26, .ref u_27, .int u_28, .ref u_29, .int u_30, .int u_31, .ref u_32, .int u_33, .ref u_34, .ref u_35, .int u_36, .int u_37, .ref u_38, .int u_39, .int u_40, .int u_41, .ref u_42, .int u_43, .ref u_44, .int u_45, .int u_46, .int u_47, .int u_48, .int u_49, .ref u_50, .ref u_51, .ref u_52, .ref u_53]))] H := hP
  have hD : va_D A [(am 18, .inr (11, [.int 0, .ref u_1, .int 0, .int 0, .int 0, .int 940, .ref u_6, .ref u_7, .ref u_8, .ref u_9, .ref u_10, .int u_11, .int u_12, .int u_13, .int u_14, .int u_15, .int u_16, .long u_17, .int u_18, .int u_19, .int u_20, .ref u_21, .ref u_22, .int u_23, .int u_24, .int u_25, .int u_26, .ref u_27, .int u_28, .ref u_29, .int u_30, .int u_31, .ref u_32, .int u_33, .ref u_34, .ref u_35, .int u_36, .int u_37, .ref u_38, .int u_39, .int u_40, .int u_41, .ref u_42, .int u_43, .ref u_44, .int u_45, .int u_46, .int u_47, .int u_48, .int u_49, .ref u_50, .ref u_51, .ref u_52, .ref u_53]))] := hD
  have hK : va_K D vwCl [] s := hK
  refine W.cs (cells' := 0) (slots' := 0) rfl rfl ?_
  obtain rfl := er9
  refine W.eq (g2 := F0 m 22 ls (.int 0 :: [])) rfl ?_
  refine lv_if_eq (tgt := 34) hx hb dX12_far_22 (by decide) (fun _ => ?_) (fun h9 => absurd (by decide) h9)
  refine lv_iconst (v := (-1)) hx hb dX12_far_34 (by decide) ?_
  refine W.widen (k := 0) (n := 0) (by decide) (by decide) ?_
  exact hret (-1) ([], []) _ _ _ _ dX12_far_35 rfl ⟨rfl, rfl⟩ (hP.sub [] rfl) (hK.sub [] rfl) (hD.sub [] (by decide +kernel) rfl) hS

set_option maxHeartbeats 8000000 in
set_option maxRecDepth 100000 in
theorem k_X12_cover (l : Launch) (D : va_G) (ad : Nat → Nat) (am : Nat → Nat) (tm : Nat → ClassId) (u_1 : Nat) (u_2 : Int32) (u_3 : Int32) (u_4 : Int32) (u_5 : Int32) (u_7 : Nat) (u_8 : Nat) (u_9 : Nat) (u_10 : Nat) (u_11 : Int32) (u_12 : Int32) (u_13 : Int32) (u_14 : Int32) (u_15 : Int32) (u_16 : Int32) (u_17 : Int64) (u_18 : Int32) (u_19 : Int32) (u_20 : Int32) (u_21 : Nat) (u_22 : Nat) (u_23 : Int32) (u_24 : Int32) (u_25 : Int32) (u_26 : Int32) (u_27 : Nat) (u_28 : Int32) (u_32 : Nat) (u_33 : Int32) (u_34 : Nat) (u_35 : Nat) (u_36 : Int32) (u_37 : Int32) (u_38 : Nat) (u_39 : Int32) (u_40 : Int32) (u_41 : Int32) (u_42 : Nat) (u_43 : Int32) (u_44 : Nat) (u_45 : Int32) (u_46 : Int32) (u_47 : Int32) (u_48 : Int32) (u_49 : Int32) (u_50 : Nat) (u_51 : Nat) (u_52 : Nat) (u_53 : Nat)  : z_Mi l yX12_cover wsX12_cover { frames := 1, cells := 0, slots := 0, locals := 26 } D ad [.ref (am 18)] [(am 1, .inl (tm 1, 283, .inl (upd (fun _ => 0) 4 2))), (am 7, .inl (tm 7, 5, .inl (fun _ => 0))), (am 18, .inr (11, [.int 0, .ref u_1, .int u_2, .int u_3, .int u_4, .int u_5, .ref (am 1), .ref u_7, .ref u_8, .ref u_9, .ref u_10, .int u_11, .int u_12, .int u_13, .int u_14, .int u_15, .int u_16, .long u_17, .int u_18, .int u_19, .int u_20, .ref u_21, .ref u_22, .int u_23, .int u_24, .int u_25, .int u_26, .ref u_27, .int u_28, .ref (am 7), .int 0, .int 0, .ref u_32, .int u_33, .ref u_34, .ref u_35, .int u_36, .int u_37, .ref u_38, .int u_39, .int u_40, .int u_41, .ref u_42, .int u_43, .ref u_44, .int u_45, .int u_46, .int u_47, .int u_48, .int u_49, .ref u_50, .ref u_51, .ref u_52, .ref u_53]))] [(tm 1, .int), (tm 7, .int)] 0 0 (fun r9 u9 => r9 = 0 ∧ u9 = ([], [])) := by
  refine z_ofI (cc := cX12_cover) (maxL := 3) (rt := .int) (by decide) rfl (Nat.le_of_ble_eq_true rfl) ?_
  intro p e s m below meth c Q A ls hx hb hml hown hts hin hK hP hD hA hE hO hS hl hret
  have hown : s.vm.findClass RX12 = some m.cls := hown
  have hiX12 : ∀ w ∈ wsX120, w ∈ wsX12_cover := fun _ h9 => List.mem_cons_of_mem _ (List.mem_append_right _ h9)
  have hl : lv_has ls 3 [(0, .ref (am 18))] := hl
  refine lv_aload_n hx hb dX12_cover_0 rfl (lv_at hl 0 rfl) ?_
  refine lv_iconst (v := 0) hx hb dX12_cover_1 (by decide) ?_
  refine va_put (D := D) (ci := 11) (v := .int 0) (ty := tyX12 0) (C := RX12) (T := TX12) (N := 54) hx hb hts hiX12 tyX12 tyX12_ok nmX12 hown hK hP hD hS 2 rfl rfl 0 (by decide) (hts _ (List.mem_of_getElem? (i := 1) rfl)) (fun _ h9 => h9) rfl (tyX12_ok 0 (by decide)) rfl rfl (Nat.le_of_ble_eq_true rfl) dX12_cover_2 (fun H locs hP hD hS => ?_)
  have hP : va_P D vwCl [(am 1, .inl (tm 1, 283, .inl (upd (fun _ => 0) 4 2))), (am 7, .inl (tm 7, 5, .inl (fun _ => 0))), (am 18, .inr (11, [.int 0, .ref u_1, .int u_2, .int u_3, .int u_4, .int u_5, .ref (am 1), .ref u_7, .ref u_8, .ref u_9, .ref u_10, .int u_11, .int u_12, .int u_13, .int u_14, .int u_15, .int u_16, .long u_17, .int u_18, .int u_19, .int u_20, .ref u_21, .ref u_22, .int u_23, .int u_24, .int u_25, .int u_26, .ref u_27, .int u_28, .ref (am 7), .int 0, .int 0, .ref u_32, .int u_33, .ref u_34, .ref u_35, .int u_36, .int u_37, .ref u_38, .int u_39, .int u_40, .int u_41, .ref u_42, .int u_43, .ref u_44, .int u_45, .int u_46, .int u_47, .int u_48, .int u_49, .ref u_50, .ref u_51, .ref u_52, .ref u_53]))] H := hP
  have hD : va_D A [(am 1, .inl (tm 1, 283, .inl (upd (fun _ => 0) 4 2))), (am 7, .inl (tm 7, 5, .inl (fun _ => 0))), (am 18, .inr (11, [.int 0, .ref u_1, .int u_2, .int u_3, .int u_4, .int u_5, .ref (am 1), .ref u_7, .ref u_8, .ref u_9, .ref u_10, .int u_11, .int u_12, .int u_13, .int u_14, .int u_15, .int u_16, .long u_17, .int u_18, .int u_19, .int u_20, .ref u_21, .ref u_22, .int u_23, .int u_24, .int u_25, .int u_26, .ref u_27, .int u_28, .ref (am 7), .int 0, .int 0, .ref u_32, .int u_33, .ref u_34, .ref u_35, .int u_36, .int u_37, .ref u_38, .int u_39, .int u_40, .int u_41, .ref u_42, .int u_43, .ref u_44, .int u_45, .int u_46, .int u_47, .int u_48, .int u_49, .ref u_50, .ref u_51, .ref u_52, .ref u_53]))] := hD
  refine lv_iconst (v := 0) hx hb dX12_cover_5 (by decide) ?_
  refine lv_istore_n (lv' := [(1, .int 0), (0, .ref (am 18))]) hx hb dX12_cover_6 rfl hl (by decide) rfl (fun ls hl => ?_)
  refine lv_iload_n hx hb dX12_cover_7 rfl (lv_at hl 0 rfl) ?_
  refine lv_iconst (v := 5) hx hb dX12_cover_8 (by decide) ?_
  refine lv_icmp_ge (tgt := 43) hx hb dX12_cover_9 (by decide) (fun h9 => absurd h9 (by decide)) (fun _ => ?_)
  refine lv_aload_n hx hb dX12_cover_12 rfl (lv_at hl 1 rfl) ?_
  refine va_get (D := D) (ci := 11) (v := .ref (am 7)) (C := RX12) (T := TX12) (N := 54) hx hb hts hiX12 hown hK hP 2 rfl rfl 29 (by decide) (hts _ (List.mem_of_getElem? (i := 2) rfl)) (fun _ h9 => h9) rfl dX12_cover_13 ?_
  refine lv_iload_n hx hb dX12_cover_16 rfl (lv_at hl 0 rfl) ?_
  refine lv_iload_n hx hb dX12_cover_17 rfl (lv_at hl 0 rfl) ?_
  refine lv_aload_n hx hb dX12_cover_18 rfl (lv_at hl 1 rfl) ?_
  refine va_get (D := D) (ci := 11) (v := .ref (am 1)) (C := RX12) (T := TX12) (N := 54) hx hb hts hiX12 hown hK hP 2 rfl rfl 6 (by decide) (hts _ (List.mem_of_getElem? (i := 3) rfl)) (fun _ h9 => h9) rfl dX12_cover_19 ?_
  refine lv_iconst (v := 0) hx hb dX12_cover_22 (by decide) ?_
  refine va_iald hx hb hK hP 0 0 rfl rfl (show ¬ (_ ∨ _) by decide) dX12_cover_23 ?_
  refine W.eq (g2 := F0 m 24 ls (.int 0 :: [.int 0, .int 0, .ref (am 7)])) rfl ?_
  refine lv_icmp_ge (tgt := 35) hx hb dX12_cover_24 (by decide) (fun _ => ?_) (fun h9 => absurd (by decide) h9)
  refine lv_iconst (v := 0) hx hb dX12_cover_35 (by decide) ?_
  refine va_iast hx hb hK hP hD hS 1 1 rfl rfl (show ¬ (_ ∨ _) by decide) dX12_cover_36 (fun H locs hP hD hS => ?_)
  have hP : va_P D vwCl [(am 1, .inl (tm 1, 283, .inl (upd (fun _ => 0) 4 2))), (am 7, .inl (tm 7, 5, .inl (upd (fun _ => 0) 0 0))), (am 18, .inr (11, [.int 0, .ref u_1, .int u_2, .int u_3, .int u_4, .int u_5, .ref (am 1), .ref u_7, .ref u_8, .ref u_9, .ref u_10, .int u_11, .int u_12, .int u_13, .int u_14, .int u_15, .int u_16, .long u_17, .int u_18, .int u_19, .int u_20, .ref u_21, .ref u_22, .int u_23, .int u_24, .int u_25, .int u_26, .ref u_27, .int u_28, .ref (am 7), .int 0, .int 0, .ref u_32, .int u_33, .ref u_34, .ref u_35, .int u_36, .int u_37, .ref u_38, .int u_39, .int u_40, .int u_41, .ref u_42, .int u_43, .ref u_44, .int u_45, .int u_46, .int u_47, .int u_48, .int u_49, .ref u_50, .ref u_51, .ref u_52, .ref u_53]))] H := hP
  have hD : va_D A [(am 1, .inl (tm 1, 283, .inl (upd (fun _ => 0) 4 2))), (am 7, .inl (tm 7, 5, .inl (upd (fun _ => 0) 0 0))), (am 18, .inr (11, [.int 0, .ref u_1, .int u_2, .int u_3, .int u_4, .int u_5, .ref (am 1), .ref u_7, .ref u_8, .ref u_9, .ref u_10, .int u_11, .int u_12, .int u_13, .int u_14, .int u_15, .int u_16, .long u_17, .int u_18, .int u_19, .int u_20, .ref u_21, .ref u_22, .int u_23, .int u_24, .int u_25, .int u_26, .ref u_27, .int u_28, .ref (am 7), .int 0, .int 0, .ref u_32, .int u_33, .ref u_34, .ref u_35, .int u_36, .int u_37, .ref u_38, .int u_39, .int u_40, .int u_41, .ref u_42, .int u_43, .ref u_44, .int u_45, .int u_46, .int u_47, .int u_48, .int u_49, .ref u_50, .ref u_51, .ref u_52, .ref u_53]))] := hD
  refine lv_iinc (v := 1) (lv' := [(1, .int 1), (0, .ref (am 18))]) hx hb dX12_cover_37 hl (k := 0) rfl (by decide) (by decide) rfl (fun ls hl => ?_)
  refine lv_goto (tgt := 7) hx hb dX12_cover_40 (by decide) ?_
  refine lv_iload_n hx hb dX12_cover_7 rfl (lv_at hl 0 rfl) ?_
  refine lv_iconst (v := 5) hx hb dX12_cover_8 (by decide) ?_
  refine lv_icmp_ge (tgt := 43) hx hb dX12_cover_9 (by decide) (fun h9 => absurd h9 (by decide)) (fun _ => ?_)
  refine lv_aload_n hx hb dX12_cover_12 rfl (lv_at hl 1 rfl) ?_
  refine va_get (D := D) (ci := 11) (v := .ref (am 7)) (C := RX12) (T := TX12) (N := 54) hx hb hts hiX12 hown hK hP 2 rfl rfl 29 (by decide) (hts _ (List.mem_of_getElem? (i := 2) rfl)) (fun _ h9 => h9) rfl dX12_cover_13 ?_
  refine lv_iload_n hx hb dX12_cover_16 rfl (lv_at hl 0 rfl) ?_
  refine lv_iload_n hx hb dX12_cover_17 rfl (lv_at hl 0 rfl) ?_
  refine lv_aload_n hx hb dX12_cover_18 rfl (lv_at hl 1 rfl) ?_
  refine va_get (D := D) (ci := 11) (v := .ref (am 1)) (C := RX12) (T := TX12) (N := 54) hx hb hts hiX12 hown hK hP 2 rfl rfl 6 (by decide) (hts _ (List.mem_of_getElem? (i := 3) rfl)) (fun _ h9 => h9) rfl dX12_cover_19 ?_
  refine lv_iconst (v := 0) hx hb dX12_cover_22 (by decide) ?_
  refine va_iald hx hb hK hP 0 0 rfl rfl (show ¬ (_ ∨ _) by decide) dX12_cover_23 ?_
  refine W.eq (g2 := F0 m 24 ls (.int 0 :: [.int 1, .int 1, .ref (am 7)])) rfl ?_
  refine lv_icmp_ge (tgt := 35) hx hb dX12_cover_24 (by decide) (fun _ => ?_) (fun h9 => absurd (by decide) h9)
  refine lv_iconst (v := 0) hx hb dX12_cover_35 (by decide) ?_
  refine va_iast hx hb hK hP hD hS 1 1 rfl rfl (show ¬ (_ ∨ _) by decide) dX12_cover_36 (fun H locs hP hD hS => ?_)
  have hP : va_P D vwCl [(am 1, .inl (tm 1, 283, .inl (upd (fun _ => 0) 4 2))), (am 7, .inl (tm 7, 5, .inl (upd (upd (fun _ => 0) 0 0) 1 0))), (am 18, .inr (11, [.int 0, .ref u_1, .int u_2, .int u_3, .int u_4, .int u_5, .ref (am 1), .ref u_7, .ref u_8, .ref u_9, .ref u_10, .int u_11, .int u_12, .int u_13, .int u_14, .int u_15, .int u_16, .long u_17, .int u_18, .int u_19, .int u_20, .ref u_21, .ref u_22, .int u_23, .int u_24, .int u_25, .int u_26, .ref u_27, .int u_28, .ref (am 7), .int 0, .int 0, .ref u_32, .int u_33, .ref u_34, .ref u_35, .int u_36, .int u_37, .ref u_38, .int u_39, .int u_40, .int u_41, .ref u_42, .int u_43, .ref u_44, .int u_45, .int u_46, .int u_47, .int u_48, .int u_49, .ref u_50, .ref u_51, .ref u_52, .ref u_53]))] H := hP
  have hD : va_D A [(am 1, .inl (tm 1, 283, .inl (upd (fun _ => 0) 4 2))), (am 7, .inl (tm 7, 5, .inl (upd (upd (fun _ => 0) 0 0) 1 0))), (am 18, .inr (11, [.int 0, .ref u_1, .int u_2, .int u_3, .int u_4, .int u_5, .ref (am 1), .ref u_7, .ref u_8, .ref u_9, .ref u_10, .int u_11, .int u_12, .int u_13, .int u_14, .int u_15, .int u_16, .long u_17, .int u_18, .int u_19, .int u_20, .ref u_21, .ref u_22, .int u_23, .int u_24, .int u_25, .int u_26, .ref u_27, .int u_28, .ref (am 7), .int 0, .int 0, .ref u_32, .int u_33, .ref u_34, .ref u_35, .int u_36, .int u_37, .ref u_38, .int u_39, .int u_40, .int u_41, .ref u_42, .int u_43, .ref u_44, .int u_45, .int u_46, .int u_47, .int u_48, .int u_49, .ref u_50, .ref u_51, .ref u_52, .ref u_53]))] := hD
  refine lv_iinc (v := 2) (lv' := [(1, .int 2), (0, .ref (am 18))]) hx hb dX12_cover_37 hl (k := 0) rfl (by decide) (by decide) rfl (fun ls hl => ?_)
  refine lv_goto (tgt := 7) hx hb dX12_cover_40 (by decide) ?_
  refine lv_iload_n hx hb dX12_cover_7 rfl (lv_at hl 0 rfl) ?_
  refine lv_iconst (v := 5) hx hb dX12_cover_8 (by decide) ?_
  refine lv_icmp_ge (tgt := 43) hx hb dX12_cover_9 (by decide) (fun h9 => absurd h9 (by decide)) (fun _ => ?_)
  refine lv_aload_n hx hb dX12_cover_12 rfl (lv_at hl 1 rfl) ?_
  refine va_get (D := D) (ci := 11) (v := .ref (am 7)) (C := RX12) (T := TX12) (N := 54) hx hb hts hiX12 hown hK hP 2 rfl rfl 29 (by decide) (hts _ (List.mem_of_getElem? (i := 2) rfl)) (fun _ h9 => h9) rfl dX12_cover_13 ?_
  refine lv_iload_n hx hb dX12_cover_16 rfl (lv_at hl 0 rfl) ?_
  refine lv_iload_n hx hb dX12_cover_17 rfl (lv_at hl 0 rfl) ?_
  refine lv_aload_n hx hb dX12_cover_18 rfl (lv_at hl 1 rfl) ?_
  refine va_get (D := D) (ci := 11) (v := .ref (am 1)) (C := RX12) (T := TX12) (N := 54) hx hb hts hiX12 hown hK hP 2 rfl rfl 6 (by decide) (hts _ (List.mem_of_getElem? (i := 3) rfl)) (fun _ h9 => h9) rfl dX12_cover_19 ?_
  refine lv_iconst (v := 0) hx hb dX12_cover_22 (by decide) ?_
  refine va_iald hx hb hK hP 0 0 rfl rfl (show ¬ (_ ∨ _) by decide) dX12_cover_23 ?_
  refine W.eq (g2 := F0 m 24 ls (.int 0 :: [.int 2, .int 2, .ref (am 7)])) rfl ?_
  refine lv_icmp_ge (tgt := 35) hx hb dX12_cover_24 (by decide) (fun _ => ?_) (fun h9 => absurd (by decide) h9)
  refine lv_iconst (v := 0) hx hb dX12_cover_35 (by decide) ?_
  refine va_iast hx hb hK hP hD hS 1 1 rfl rfl (show ¬ (_ ∨ _) by decide) dX12_cover_36 (fun H locs hP hD hS => ?_)
  have hP : va_P D vwCl [(am 1, .inl (tm 1, 283, .inl (upd (fun _ => 0) 4 2))), (am 7, .inl (tm 7, 5, .inl (upd (upd (upd (fun _ => 0) 0 0) 1 0) 2 0))), (am 18, .inr (11, [.int 0, .ref u_1, .int u_2, .int u_3, .int u_4, .int u_5, .ref (am 1), .ref u_7, .ref u_8, .ref u_9, .ref u_10, .int u_11, .int u_12, .int u_13, .int u_14, .int u_15, .int u_16, .long u_17, .int u_18, .int u_19, .int u_20, .ref u_21, .ref u_22, .int u_23, .int u_24, .int u_25, .int u_26, .ref u_27, .int u_28, .ref (am 7), .int 0, .int 0, .ref u_32, .int u_33, .ref u_34, .ref u_35, .int u_36, .int u_37, .ref u_38, .int u_39, .int u_40, .int u_41, .ref u_42, .int u_43, .ref u_44, .int u_45, .int u_46, .int u_47, .int u_48, .int u_49, .ref u_50, .ref u_51, .ref u_52, .ref u_53]))] H := hP
  have hD : va_D A [(am 1, .inl (tm 1, 283, .inl (upd (fun _ => 0) 4 2))), (am 7, .inl (tm 7, 5, .inl (upd (upd (upd (fun _ => 0) 0 0) 1 0) 2 0))), (am 18, .inr (11, [.int 0, .ref u_1, .int u_2, .int u_3, .int u_4, .int u_5, .ref (am 1), .ref u_7, .ref u_8, .ref u_9, .ref u_10, .int u_11, .int u_12, .int u_13, .int u_14, .int u_15, .int u_16, .long u_17, .int u_18, .int u_19, .int u_20, .ref u_21, .ref u_22, .int u_23, .int u_24, .int u_25, .int u_26, .ref u_27, .int u_28, .ref (am 7), .int 0, .int 0, .ref u_32, .int u_33, .ref u_34, .ref u_35, .int u_36, .int u_37, .ref u_38, .int u_39, .int u_40, .int u_41, .ref u_42, .int u_43, .ref u_44, .int u_45, .int u_46, .int u_47, .int u_48, .int u_49, .ref u_50, .ref u_51, .ref u_52, .ref u_53]))] := hD
  refine lv_iinc (v := 3) (lv' := [(1, .int 3), (0, .ref (am 18))]) hx hb dX12_cover_37 hl (k := 0) rfl (by decide) (by decide) rfl (fun ls hl => ?_)
  refine lv_goto (tgt := 7) hx hb dX12_cover_40 (by decide) ?_
  refine lv_iload_n hx hb dX12_cover_7 rfl (lv_at hl 0 rfl) ?_
  refine lv_iconst (v := 5) hx hb dX12_cover_8 (by decide) ?_
  refine lv_icmp_ge (tgt := 43) hx hb dX12_cover_9 (by decide) (fun h9 => absurd h9 (by decide)) (fun _ => ?_)
  refine lv_aload_n hx hb dX12_cover_12 rfl (lv_at hl 1 rfl) ?_
  refine va_get (D := D) (ci := 11) (v := .ref (am 7)) (C := RX12) (T := TX12) (N := 54) hx hb hts hiX12 hown hK hP 2 rfl rfl 29 (by decide) (hts _ (List.mem_of_getElem? (i := 2) rfl)) (fun _ h9 => h9) rfl dX12_cover_13 ?_
  refine lv_iload_n hx hb dX12_cover_16 rfl (lv_at hl 0 rfl) ?_
  refine lv_iload_n hx hb dX12_cover_17 rfl (lv_at hl 0 rfl) ?_
  refine lv_aload_n hx hb dX12_cover_18 rfl (lv_at hl 1 rfl) ?_
  refine va_get (D := D) (ci := 11) (v := .ref (am 1)) (C := RX12) (T := TX12) (N := 54) hx hb hts hiX12 hown hK hP 2 rfl rfl 6 (by decide) (hts _ (List.mem_of_getElem? (i := 3) rfl)) (fun _ h9 => h9) rfl dX12_cover_19 ?_
  refine lv_iconst (v := 0) hx hb dX12_cover_22 (by decide) ?_
  refine va_iald hx hb hK hP 0 0 rfl rfl (show ¬ (_ ∨ _) by decide) dX12_cover_23 ?_
  refine W.eq (g2 := F0 m 24 ls (.int 0 :: [.int 3, .int 3, .ref (am 7)])) rfl ?_
  refine lv_icmp_ge (tgt := 35) hx hb dX12_cover_24 (by decide) (fun _ => ?_) (fun h9 => absurd (by decide) h9)
  refine lv_iconst (v := 0) hx hb dX12_cover_35 (by decide) ?_
  refine va_iast hx hb hK hP hD hS 1 1 rfl rfl (show ¬ (_ ∨ _) by decide) dX12_cover_36 (fun H locs hP hD hS => ?_)
  have hP : va_P D vwCl [(am 1, .inl (tm 1, 283, .inl (upd (fun _ => 0) 4 2))), (am 7, .inl (tm 7, 5, .inl (upd (upd (upd (upd (fun _ => 0) 0 0) 1 0) 2 0) 3 0))), (am 18, .inr (11, [.int 0, .ref u_1, .int u_2, .int u_3, .int u_4, .int u_5, .ref (am 1), .ref u_7, .ref u_8, .ref u_9, .ref u_10, .int u_11, .int u_12, .int u_13, .int u_14, .int u_15, .int u_16, .long u_17, .int u_18, .int u_19, .int u_20, .ref u_21, .ref u_22, .int u_23, .int u_24, .int u_25, .int u_26, .ref u_27, .int u_28, .ref (am 7), .int 0, .int 0, .ref u_32, .int u_33, .ref u_34, .ref u_35, .int u_36, .int u_37, .ref u_38, .int u_39, .int u_40, .int u_41, .ref u_42, .int u_43, .ref u_44, .int u_45, .int u_46, .int u_47, .int u_48, .int u_49, .ref u_50, .ref u_51, .ref u_52, .ref u_53]))] H := hP
  have hD : va_D A [(am 1, .inl (tm 1, 283, .inl (upd (fun _ => 0) 4 2))), (am 7, .inl (tm 7, 5, .inl (upd (upd (upd (upd (fun _ => 0) 0 0) 1 0) 2 0) 3 0))), (am 18, .inr (11, [.int 0, .ref u_1, .int u_2, .int u_3, .int u_4, .int u_5, .ref (am 1), .ref u_7, .ref u_8, .ref u_9, .ref u_10, .int u_11, .int u_12, .int u_13, .int u_14, .int u_15, .int u_16, .long u_17, .int u_18, .int u_19, .int u_20, .ref u_21, .ref u_22, .int u_23, .int u_24, .int u_25, .int u_26, .ref u_27, .int u_28, .ref (am 7), .int 0, .int 0, .ref u_32, .int u_33, .ref u_34, .ref u_35, .int u_36, .int u_37, .ref u_38, .int u_39, .int u_40, .int u_41, .ref u_42, .int u_43, .ref u_44, .int u_45, .int u_46, .int u_47, .int u_48, .int u_49, .ref u_50, .ref u_51, .ref u_52, .ref u_53]))] := hD
  refine lv_iinc (v := 4) (lv' := [(1, .int 4), (0, .ref (am 18))]) hx hb dX12_cover_37 hl (k := 0) rfl (by decide) (by decide) rfl (fun ls hl => ?_)
  refine lv_goto (tgt := 7) hx hb dX12_cover_40 (by decide) ?_
  refine lv_iload_n hx hb dX12_cover_7 rfl (lv_at hl 0 rfl) ?_
  refine lv_iconst (v := 5) hx hb dX12_cover_8 (by decide) ?_
  refine lv_icmp_ge (tgt := 43) hx hb dX12_cover_9 (by decide) (fun h9 => absurd h9 (by decide)) (fun _ => ?_)
  refine lv_aload_n hx hb dX12_cover_12 rfl (lv_at hl 1 rfl) ?_
  refine va_get (D := D) (ci := 11) (v := .ref (am 7)) (C := RX12) (T := TX12) (N := 54) hx hb hts hiX12 hown hK hP 2 rfl rfl 29 (by decide) (hts _ (List.mem_of_getElem? (i := 2) rfl)) (fun _ h9 => h9) rfl dX12_cover_13 ?_
  refine lv_iload_n hx hb dX12_cover_16 rfl (lv_at hl 0 rfl) ?_
  refine lv_iload_n hx hb dX12_cover_17 rfl (lv_at hl 0 rfl) ?_
  refine lv_aload_n hx hb dX12_cover_18 rfl (lv_at hl 1 rfl) ?_
  refine va_get (D := D) (ci := 11) (v := .ref (am 1)) (C := RX12) (T := TX12) (N := 54) hx hb hts hiX12 hown hK hP 2 rfl rfl 6 (by decide) (hts _ (List.mem_of_getElem? (i := 3) rfl)) (fun _ h9 => h9) rfl dX12_cover_19 ?_
  refine lv_iconst (v := 0) hx hb dX12_cover_22 (by decide) ?_
  refine va_iald hx hb hK hP 0 0 rfl rfl (show ¬ (_ ∨ _) by decide) dX12_cover_23 ?_
  refine W.eq (g2 := F0 m 24 ls (.int 0 :: [.int 4, .int 4, .ref (am 7)])) rfl ?_
  refine lv_icmp_ge (tgt := 35) hx hb dX12_cover_24 (by decide) (fun _ => ?_) (fun h9 => absurd (by decide) h9)
  refine lv_iconst (v := 0) hx hb dX12_cover_35 (by decide) ?_
  refine va_iast hx hb hK hP hD hS 1 1 rfl rfl (show ¬ (_ ∨ _) by decide) dX12_cover_36 (fun H locs hP hD hS => ?_)
  have hP : va_P D vwCl [(am 1, .inl (tm 1, 283, .inl (upd (fun _ => 0) 4 2))), (am 7, .inl (tm 7, 5, .inl (upd (upd (upd (upd (upd (fun _ => 0) 0 0) 1 0) 2 0) 3 0) 4 0))), (am 18, .inr (11, [.int 0, .ref u_1, .int u_2, .int u_3, .int u_4, .int u_5, .ref (am 1), .ref u_7, .ref u_8, .ref u_9, .ref u_10, .int u_11, .int u_12, .int u_13, .int u_14, .int u_15, .int u_16, .long u_17, .int u_18, .int u_19, .int u_20, .ref u_21, .ref u_22, .int u_23, .int u_24, .int u_25, .int u_26, .ref u_27, .int u_28, .ref (am 7), .int 0, .int 0, .ref u_32, .int u_33, .ref u_34, .ref u_35, .int u_36, .int u_37, .ref u_38, .int u_39, .int u_40, .int u_41, .ref u_42, .int u_43, .ref u_44, .int u_45, .int u_46, .int u_47, .int u_48, .int u_49, .ref u_50, .ref u_51, .ref u_52, .ref u_53]))] H := hP
  have hD : va_D A [(am 1, .inl (tm 1, 283, .inl (upd (fun _ => 0) 4 2))), (am 7, .inl (tm 7, 5, .inl (upd (upd (upd (upd (upd (fun _ => 0) 0 0) 1 0) 2 0) 3 0) 4 0))), (am 18, .inr (11, [.int 0, .ref u_1, .int u_2, .int u_3, .int u_4, .int u_5, .ref (am 1), .ref u_7, .ref u_8, .ref u_9, .ref u_10, .int u_11, .int u_12, .int u_13, .int u_14, .int u_15, .int u_16, .long u_17, .int u_18, .int u_19, .int u_20, .ref u_21, .ref u_22, .int u_23, .int u_24, .int u_25, .int u_26, .ref u_27, .int u_28, .ref (am 7), .int 0, .int 0, .ref u_32, .int u_33, .ref u_34, .ref u_35, .int u_36, .int u_37, .ref u_38, .int u_39, .int u_40, .int u_41, .ref u_42, .int u_43, .ref u_44, .int u_45, .int u_46, .int u_47, .int u_48, .int u_49, .ref u_50, .ref u_51, .ref u_52, .ref u_53]))] := hD
  refine lv_iinc (v := 5) (lv' := [(1, .int 5), (0, .ref (am 18))]) hx hb dX12_cover_37 hl (k := 0) rfl (by decide) (by decide) rfl (fun ls hl => ?_)
  refine lv_goto (tgt := 7) hx hb dX12_cover_40 (by decide) ?_
  refine lv_iload_n hx hb dX12_cover_7 rfl (lv_at hl 0 rfl) ?_
  refine lv_iconst (v := 5) hx hb dX12_cover_8 (by decide) ?_
  refine lv_icmp_ge (tgt := 43) hx hb dX12_cover_9 (by decide) (fun _ => ?_) (fun h9 => absurd (by decide) h9)
  refine lv_iconst (v := (-1)) hx hb dX12_cover_43 (by decide) ?_
  refine lv_istore_n (lv' := [(1, .int (-1)), (0, .ref (am 18))]) hx hb dX12_cover_44 rfl hl (by decide) rfl (fun ls hl => ?_)
  refine lv_iconst (v := 0) hx hb dX12_cover_45 (by decide) ?_
  refine lv_istore_n (lv' := [(2, .int 0), (1, .int (-1)), (0, .ref (am 18))]) hx hb dX12_cover_46 rfl hl (by decide) rfl (fun ls hl => ?_)
  refine lv_iload_n hx hb dX12_cover_47 rfl (lv_at hl 0 rfl) ?_
  refine lv_iconst (v := 1) hx hb dX12_cover_48 (by decide) ?_
  refine lv_aload_n hx hb dX12_cover_49 rfl (lv_at hl 2 rfl) ?_
  refine va_get (D := D) (ci := 11) (v := .ref (am 1)) (C := RX12) (T := TX12) (N := 54) hx hb hts hiX12 hown hK hP 2 rfl rfl 6 (by decide) (hts _ (List.mem_of_getElem? (i := 3) rfl)) (fun _ h9 => h9) rfl dX12_cover_50 ?_
  refine lv_iconst (v := 3) hx hb dX12_cover_53 (by decide) ?_
  refine va_iald hx hb hK hP 0 0 rfl rfl (show ¬ (_ ∨ _) by decide) dX12_cover_54 ?_
  refine W.eq (g2 := F0 m 55 ls (.int 0 :: [.int 1, .int 0])) rfl ?_
  refine lv_ishl hx hb dX12_cover_55 ?_
  refine lv_topi (fun y_1 ey_1 => ?_)
  obtain rfl : y_1 = 1 := ey_1.trans (by decide)
  refine lv_icmp_ge (tgt := 90) hx hb dX12_cover_56 (by decide) (fun h9 => absurd h9 (by decide)) (fun _ => ?_)
  refine lv_iload_n hx hb dX12_cover_59 rfl (lv_at hl 1 rfl) ?_
  refine lv_if_lt (tgt := 74) hx hb dX12_cover_60 (by decide) (fun _ => ?_) (fun h9 => absurd (by decide) h9)
  refine lv_aload_n hx hb dX12_cover_74 rfl (lv_at hl 2 rfl) ?_
  refine lv_iload_n hx hb dX12_cover_75 rfl (lv_at hl 0 rfl) ?_
  have hc9 := (k_X12_isCover l D ad am tm 0 u_1 u_2 u_3 u_4 u_5 u_7 u_8 u_9 u_10 u_11 u_12 u_13 u_14 u_15 u_16 u_17 u_18 u_19 u_20 u_21 u_22 u_23 u_24 u_25 u_26 u_27 u_28 (am 7) 0 0 u_32 u_33 u_34 u_35 u_36 u_37 u_38 u_39 u_40 u_41 u_42 u_43 u_44 u_45 u_46 u_47 u_48 u_49 u_50 u_51 u_52 u_53 )
  refine z_calli (w0 := [(am 1, .inl (tm 1, 283, .inl (upd (fun _ => 0) 4 2))), (am 18, .inr (11, [.int 0, .ref u_1, .int u_2, .int u_3, .int u_4, .int u_5, .ref (am 1), .ref u_7, .ref u_8, .ref u_9, .ref u_10, .int u_11, .int u_12, .int u_13, .int u_14, .int u_15, .int u_16, .long u_17, .int u_18, .int u_19, .int u_20, .ref u_21, .ref u_22, .int u_23, .int u_24, .int u_25, .int u_26, .ref u_27, .int u_28, .ref (am 7), .int 0, .int 0, .ref u_32, .int u_33, .ref u_34, .ref u_35, .int u_36, .int u_37, .ref u_38, .int u_39, .int u_40, .int u_41, .ref u_42, .int u_43, .ref u_44, .int u_45, .int u_46, .int u_47, .int u_48, .int u_49, .ref u_50, .ref u_51, .ref u_52, .ref u_53]))]) (wr := [(am 7, .inl (tm 7, 5, .inl (upd (upd (upd (upd (upd (fun _ => 0) 0 0) 1 0) 2 0) 3 0) 4 0)))]) (va_runV (As := [.int 0]) (rest := []) ⟨hx, hb, hml, hown, hts⟩ (hc9 _) (cwV 1 hts gX12_cover_X12_isCover rfl rfl rfl (by decide +kernel) ⟨Nat.le_of_ble_eq_true rfl, Nat.le_of_ble_eq_true rfl⟩) (z_preV hP hD hK hS hA hE hO [0, 2] [0] rfl (by decide +kernel) rfl 2 11 rfl rfl rfl) rfl rfl hl.1 rfl (lv_room (Nat.le_of_ble_eq_true rfl)) dX12_cover_76 ⟨Nat.le_of_ble_eq_true rfl, Nat.le_of_ble_eq_true rfl⟩) hP hD hK hS hA [0, 2] [1] rfl rfl (by decide +kernel) (by decide +kernel) (fun r9 u9 H locs hw hP hD hK hS => ?_)
  obtain ⟨er9, rfl⟩ := hw
  have hP : va_P D vwCl [(am 7, .inl (tm 7, 5, .inl (upd (upd (upd (upd (upd (fun _ => 0) 0 0) 1 0) 2 0) 3 0) 4 0))), (am 1, .inl (tm 1, 283, .inl (upd (fun _ => 0) 4 2))), (am 18, .inr (11, [.int 0, .ref u_1, .int u_2, .int u_3, .int u_4, .int u_5, .ref (am 1), .ref u_7, .ref u_8, .ref u_9, .ref u_10, .int u_11, .int u_12, .int u_13, .int u_14, .int u_15, .int u_16, .long u_17, .int u_18, .int u_19, .int u_20, .ref u_21, .ref u_22, .int u_23, .int u_24, .int u_25, .int u_26, .ref u_27, .int u_28, .ref (am 7), .int 0, .int 0, .ref u_32, .int u_33, .ref u_34, .ref u_35, .int u_36, .int u_37, .ref u_38, .int u_39, .int u_40, .int u_41, .ref u_42, .int u_43, .ref u_44, .int u_45, .int u_46, .int u_47, .int u_48, .int u_49, .ref u_50, .ref u_51, .ref u_52, .ref u_53]))] H := hP
  have hD : va_D A [(am 7, .inl (tm 7, 5, .inl (upd (upd (upd (upd (upd (fun _ => 0) 0 0) 1 0) 2 0) 3 0) 4 0))), (am 1, .inl (tm 1, 283, .inl (upd (fun _ => 0) 4 2))), (am 18, .inr (11, [.int 0, .ref u_1, .int u_2, .int u_3, .int u_4, .int u_5, .ref (am 1), .ref u_7, .ref u_8, .ref u_9, .ref u_10, .int u_11, .int u_12, .int u_13, .int u_14, .int u_15, .int u_16, .long u_17, .int u_18, .int u_19, .int u_20, .ref u_21, .ref u_22, .int u_23, .int u_24, .int u_25, .int u_26, .ref u_27, .int u_28, .ref (am 7), .int 0, .int 0, .ref u_32, .int u_33, .ref u_34, .ref u_35, .int u_36, .int u_37, .ref u_38, .int u_39, .int u_40, .int u_41, .ref u_42, .int u_43, .ref u_44, .int u_45, .int u_46, .int u_47, .int u_48, .int u_49, .ref u_50, .ref u_51, .ref u_52, .ref u_53]))] := hD
  have hK : va_K D vwCl [(tm 1, .int), (tm 7, .int)] s := hK
  refine W.cs (cells' := 0) (slots' := 0) rfl rfl ?_
  obtain rfl := er9
  refine W.eq (g2 := F0 m 79 ls (.int 1 :: [])) rfl ?_
  refine lv_if_eq (tgt := 84) hx hb dX12_cover_79 (by decide) (fun h9 => absurd h9 (by decide)) (fun _ => ?_)
  refine lv_iload_n hx hb dX12_cover_82 rfl (lv_at hl 0 rfl) ?_
  refine lv_istore_n (lv' := [(1, .int 0), (2, .int 0), (0, .ref (am 18))]) hx hb dX12_cover_83 rfl hl (by decide) rfl (fun ls hl => ?_)
  refine lv_iinc (v := 1) (lv' := [(2, .int 1), (1, .int 0), (0, .ref (am 18))]) hx hb dX12_cover_84 hl (k := 1) rfl (by decide) (by decide) rfl (fun ls hl => ?_)
  refine lv_goto (tgt := 47) hx hb dX12_cover_87 (by decide) ?_
  refine lv_iload_n hx hb dX12_cover_47 rfl (lv_at hl 0 rfl) ?_
  refine lv_iconst (v := 1) hx hb dX12_cover_48 (by decide) ?_
  refine lv_aload_n hx hb dX12_cover_49 rfl (lv_at hl 2 rfl) ?_
  refine va_get (D := D) (ci := 11) (v := .ref (am 1)) (C := RX12) (T := TX12) (N := 54) hx hb hts hiX12 hown hK hP 2 rfl rfl 6 (by decide) (hts _ (List.mem_of_getElem? (i := 3) rfl)) (fun _ h9 => h9) rfl dX12_cover_50 ?_
  refine lv_iconst (v := 3) hx hb dX12_cover_53 (by decide) ?_
  refine va_iald hx hb hK hP 1 0 rfl rfl (show ¬ (_ ∨ _) by decide) dX12_cover_54 ?_
  refine W.eq (g2 := F0 m 55 ls (.int 0 :: [.int 1, .int 1])) rfl ?_
  refine lv_ishl hx hb dX12_cover_55 ?_
  refine lv_topi (fun y_2 ey_2 => ?_)
  obtain rfl : y_2 = 1 := ey_2.trans (by decide)
  refine lv_icmp_ge (tgt := 90) hx hb dX12_cover_56 (by decide) (fun _ => ?_) (fun h9 => absurd (by decide) h9)
  refine lv_iload_n hx hb dX12_cover_90 rfl (lv_at hl 1 rfl) ?_
  refine lv_if_ge (tgt := 96) hx hb dX12_cover_91 (by decide) (fun _ => ?_) (fun h9 => absurd (by decide) h9)
  refine lv_aload_n hx hb dX12_cover_96 rfl (lv_at hl 2 rfl) ?_
  refine lv_iconst (v := 1) hx hb dX12_cover_97 (by decide) ?_
  refine va_put (D := D) (ci := 11) (v := .int 1) (ty := tyX12 31) (C := RX12) (T := TX12) (N := 54) hx hb hts hiX12 tyX12 tyX12_ok nmX12 hown hK hP hD hS 2 rfl rfl 31 (by decide) (hts _ (List.mem_of_getElem? (i := 4) rfl)) (fun _ h9 => h9) rfl (tyX12_ok 31 (by decide)) (by decide) (by decide) (Nat.le_of_ble_eq_true rfl) dX12_cover_98 (fun H locs hP hD hS => ?_)
  have hP : va_P D vwCl [(am 7, .inl (tm 7, 5, .inl (upd (upd (upd (upd (upd (fun _ => 0) 0 0) 1 0) 2 0) 3 0) 4 0))), (am 1, .inl (tm 1, 283, .inl (upd (fun _ => 0) 4 2))), (am 18, .inr (11, [.int 0, .ref u_1, .int u_2, .int u_3, .int u_4, .int u_5, .ref (am 1), .ref u_7, .ref u_8, .ref u_9, .ref u_10, .int u_11, .int u_12, .int u_13, .int u_14, .int u_15, .int u_16, .long u_17, .int u_18, .int u_19, .int u_20, .ref u_21, .ref u_22, .int u_23, .int u_24, .int u_25, .int u_26, .ref u_27, .int u_28, .ref (am 7), .int 0, .int 1, .ref u_32, .int u_33, .ref u_34, .ref u_35, .int u_36, .int u_37, .ref u_38, .int u_39, .int u_40, .int u_41, .ref u_42, .int u_43, .ref u_44, .int u_45, .int u_46, .int u_47, .int u_48, .int u_49, .ref u_50, .ref u_51, .ref u_52, .ref u_53]))] H := hP
  have hD : va_D A [(am 7, .inl (tm 7, 5, .inl (upd (upd (upd (upd (upd (fun _ => 0) 0 0) 1 0) 2 0) 3 0) 4 0))), (am 1, .inl (tm 1, 283, .inl (upd (fun _ => 0) 4 2))), (am 18, .inr (11, [.int 0, .ref u_1, .int u_2, .int u_3, .int u_4, .int u_5, .ref (am 1), .ref u_7, .ref u_8, .ref u_9, .ref u_10, .int u_11, .int u_12, .int u_13, .int u_14, .int u_15, .int u_16, .long u_17, .int u_18, .int u_19, .int u_20, .ref u_21, .ref u_22, .int u_23, .int u_24, .int u_25, .int u_26, .ref u_27, .int u_28, .ref (am 7), .int 0, .int 1, .ref u_32, .int u_33, .ref u_34, .ref u_35, .int u_36, .int u_37, .ref u_38, .int u_39, .int u_40, .int u_41, .ref u_42, .int u_43, .ref u_44, .int u_45, .int u_46, .int u_47, .int u_48, .int u_49, .ref u_50, .ref u_51, .ref u_52, .ref u_53]))] := hD
  refine lv_aload_n hx hb dX12_cover_101 rfl (lv_at hl 2 rfl) ?_
  refine lv_iload_n hx hb dX12_cover_102 rfl (lv_at hl 1 rfl) ?_
  refine va_put (D := D) (ci := 11) (v := .int 0) (ty := tyX12 30) (C := RX12) (T := TX12) (N := 54) hx hb hts hiX12 tyX12 tyX12_ok nmX12 hown hK hP hD hS 2 rfl rfl 30 (by decide) (hts _ (List.mem_of_getElem? (i := 5) rfl)) (fun _ h9 => h9) rfl (tyX12_ok 30 (by decide)) rfl rfl (Nat.le_of_ble_eq_true rfl) dX12_cover_103 (fun H locs hP hD hS => ?_)
  have hP : va_P D vwCl [(am 7, .inl (tm 7, 5, .inl (upd (upd (upd (upd (upd (fun _ => 0) 0 0) 1 0) 2 0) 3 0) 4 0))), (am 1, .inl (tm 1, 283, .inl (upd (fun _ => 0) 4 2))), (am 18, .inr (11, [.int 0, .ref u_1, .int u_2, .int u_3, .int u_4, .int u_5, .ref (am 1), .ref u_7, .ref u_8, .ref u_9, .ref u_10, .int u_11, .int u_12, .int u_13, .int u_14, .int u_15, .int u_16, .long u_17, .int u_18, .int u_19, .int u_20, .ref u_21, .ref u_22, .int u_23, .int u_24, .int u_25, .int u_26, .ref u_27, .int u_28, .ref (am 7), .int 0, .int 1, .ref u_32, .int u_33, .ref u_34, .ref u_35, .int u_36, .int u_37, .ref u_38, .int u_39, .int u_40, .int u_41, .ref u_42, .int u_43, .ref u_44, .int u_45, .int u_46, .int u_47, .int u_48, .int u_49, .ref u_50, .ref u_51, .ref u_52, .ref u_53]))] H := hP
  have hD : va_D A [(am 7, .inl (tm 7, 5, .inl (upd (upd (upd (upd (upd (fun _ => 0) 0 0) 1 0) 2 0) 3 0) 4 0))), (am 1, .inl (tm 1, 283, .inl (upd (fun _ => 0) 4 2))), (am 18, .inr (11, [.int 0, .ref u_1, .int u_2, .int u_3, .int u_4, .int u_5, .ref (am 1), .ref u_7, .ref u_8, .ref u_9, .ref u_10, .int u_11, .int u_12, .int u_13, .int u_14, .int u_15, .int u_16, .long u_17, .int u_18, .int u_19, .int u_20, .ref u_21, .ref u_22, .int u_23, .int u_24, .int u_25, .int u_26, .ref u_27, .int u_28, .ref (am 7), .int 0, .int 1, .ref u_32, .int u_33, .ref u_34, .ref u_35, .int u_36, .int u_37, .ref u_38, .int u_39, .int u_40, .int u_41, .ref u_42, .int u_43, .ref u_44, .int u_45, .int u_46, .int u_47, .int u_48, .int u_49, .ref u_50, .ref u_51, .ref u_52, .ref u_53]))] := hD
  refine lv_iload_n hx hb dX12_cover_106 rfl (lv_at hl 1 rfl) ?_
  have hc9 := (k_X12_bits l D ad  )
  refine z_calli (w0 := []) (wr := [(am 7, .inl (tm 7, 5, .inl (upd (upd (upd (upd (upd (fun _ => 0) 0 0) 1 0) 2 0) 3 0) 4 0))), (am 1, .inl (tm 1, 283, .inl (upd (fun _ => 0) 4 2))), (am 18, .inr (11, [.int 0, .ref u_1, .int u_2, .int u_3, .int u_4, .int u_5, .ref (am 1), .ref u_7, .ref u_8, .ref u_9, .ref u_10, .int u_11, .int u_12, .int u_13, .int u_14, .int u_15, .int u_16, .long u_17, .int u_18, .int u_19, .int u_20, .ref u_21, .ref u_22, .int u_23, .int u_24, .int u_25, .int u_26, .ref u_27, .int u_28, .ref (am 7), .int 0, .int 1, .ref u_32, .int u_33, .ref u_34, .ref u_35, .int u_36, .int u_37, .ref u_38, .int u_39, .int u_40, .int u_41, .ref u_42, .int u_43, .ref u_44, .int u_45, .int u_46, .int u_47, .int u_48, .int u_49, .ref u_50, .ref u_51, .ref u_52, .ref u_53]))]) (va_runS (As := [.int 0]) (rest := []) ⟨hx, hb, hml, hown, hts⟩ (hc9 _) (va_cwS 1 hts gX12_cover_X12_bits rfl rfl rfl (by decide +kernel) ⟨Nat.le_of_ble_eq_true rfl, Nat.le_of_ble_eq_true rfl⟩) (z_preS hP hD hK hS hA hE hO [] [] rfl (by decide +kernel) rfl) rfl rfl hl.1 rfl (lv_room (Nat.le_of_ble_eq_true rfl)) dX12_cover_107 ⟨Nat.le_of_ble_eq_true rfl, Nat.le_of_ble_eq_true rfl⟩) hP hD hK hS hA [] [0, 1, 2] rfl rfl (by decide +kernel) (by decide +kernel) (fun r9 u9 H locs hw hP hD hK hS => ?_)
  obtain ⟨er9, rfl⟩ := hw
  have hP : va_P D vwCl [(am 7, .inl (tm 7, 5, .inl (upd (upd (upd (upd (upd (fun _ => 0) 0 0) 1 0) 2 0) 3 0) 4 0))), (am 1, .inl (tm 1, 283, .inl (upd (fun _ => 0) 4 2))), (am 18, .inr (11, [.int 0, .ref u_1, .int u_2, .int u_3, .int u_4, .int u_5, .ref (am 1), .ref u_7, .ref u_8, .ref u_9, .ref u_10, .int u_11, .int u_12, .int u_13, .int u_14, .int u_15, .int u_16, .long u_17, .int u_18, .int u_19, .int u_20, .ref u_21, .ref u_22, .int u_23, .int u_24, .int u_25, .int u_26, .ref u_27, .int u_28, .ref (am 7), .int 0, .int 1, .ref u_32, .int u_33, .ref u_34, .ref u_35, .int u_36, .int u_37, .ref u_38, .int u_39, .int u_40, .int u_41, .ref u_42, .int u_43, .ref u_44, .int u_45, .int u_46, .int u_47, .int u_48, .int u_49, .ref u_50, .ref u_51, .ref u_52, .ref u_53]))] H := hP
  have hD : va_D A [(am 7, .inl (tm 7, 5, .inl (upd (upd (upd (upd (upd (fun _ => 0) 0 0) 1 0) 2 0) 3 0) 4 0))), (am 1, .inl (tm 1, 283, .inl (upd (fun _ => 0) 4 2))), (am 18, .inr (11, [.int 0, .ref u_1, .int u_2, .int u_3, .int u_4, .int u_5, .ref (am 1), .ref u_7, .ref u_8, .ref u_9, .ref u_10, .int u_11, .int u_12, .int u_13, .int u_14, .int u_15, .int u_16, .long u_17, .int u_18, .int u_19, .int u_20, .ref u_21, .ref u_22, .int u_23, .int u_24, .int u_25, .int u_26, .ref u_27, .int u_28, .ref (am 7), .int 0, .int 1, .ref u_32, .int u_33, .ref u_34, .ref u_35, .int u_36, .int u_37, .ref u_38, .int u_39, .int u_40, .int u_41, .ref u_42, .int u_43, .ref u_44, .int u_45, .int u_46, .int u_47, .int u_48, .int u_49, .ref u_50, .ref u_51, .ref u_52, .ref u_53]))] := hD
  have hK : va_K D vwCl [(tm 1, .int), (tm 7, .int)] s := hK
  refine W.cs (cells' := 0) (slots' := 0) rfl rfl ?_
  obtain rfl := er9
  refine W.eq (g2 := F0 m 110 ls (.int 0 :: [])) rfl ?_
  refine W.widen (k := 0) (n := 0) (by decide) (by decide) ?_
  exact hret 0 ([], []) _ _ _ _ dX12_cover_110 rfl ⟨rfl, rfl⟩ (hP.sub [] rfl) (hK.sub [] rfl) (hD.sub [] (by decide +kernel) rfl) hS

set_option maxHeartbeats 8000000 in
set_option maxRecDepth 100000 in
theorem k_X12_covering (l : Launch) (D : va_G) (ad : Nat → Nat) (am : Nat → Nat) (u_1 : Nat) (u_2 : Int32) (u_3 : Int32) (u_4 : Int32) (u_5 : Int32) (u_6 : Nat) (u_7 : Nat) (u_8 : Nat) (u_9 : Nat) (u_10 : Nat) (u_11 : Int32) (u_12 : Int32) (u_13 : Int32) (u_14 : Int32) (u_15 : Int32) (u_16 : Int32) (u_17 : Int64) (u_18 : Int32) (u_19 : Int32) (u_20 : Int32) (u_21 : Nat) (u_22 : Nat) (u_23 : Int32) (u_24 : Int32) (u_25 : Int32) (u_26 : Int32) (u_27 : Nat) (u_28 : Int32) (u_29 : Nat) (u_30 : Int32) (u_32 : Nat) (u_33 : Int32) (u_34 : Nat) (u_35 : Nat) (u_36 : Int32) (u_37 : Int32) (u_38 : Nat) (u_39 : Int32) (u_40 : Int32) (u_41 : Int32) (u_42 : Nat) (u_43 : Int32) (u_44 : Nat) (u_45 : Int32) (u_46 : Int32) (u_47 : Int32) (u_48 : Int32) (u_49 : Int32) (u_50 : Nat) (u_51 : Nat) (u_52 : Nat) (u_53 : Nat)  : z_Mi l yX12_covering wsX12_covering { frames := 0, cells := 0, slots := 0, locals := 0 } D ad [.ref (am 18)] [(am 18, .inr (11, [.int 0, .ref u_1, .int u_2, .int u_3, .int u_4, .int u_5, .ref u_6, .ref u_7, .ref u_8, .ref u_9, .ref u_10, .int u_11, .int u_12, .int u_13, .int u_14, .int u_15, .int u_16, .long u_17, .int u_18, .int u_19, .int u_20, .ref u_21, .ref u_22, .int u_23, .int u_24, .int u_25, .int u_26, .ref u_27, .int u_28, .ref u_29, .int u_30, .int 0, .ref u_32, .int u_33, .ref u_34, .ref u_35, .int u_36, .int u_37, .ref u_38, .int u_39, .int u_40, .int u_41, .ref u_42, .int u_43, .ref u_44, .int u_45, .int u_46, .int u_47, .int u_48, .int u_49, .ref u_50, .ref u_51, .ref u_52, .ref u_53]))] [] 0 0 (fun r9 u9 => r9 = (-1) ∧ u9 = ([], [])) := by
  refine z_ofI (cc := cX12_covering) (maxL := 1) (rt := .int) (by decide) rfl (Nat.le_of_ble_eq_true rfl) ?_
  intro p e s m below meth c Q A ls hx hb hml hown hts hin hK hP hD hA hE hO hS hl hret
  have hown : s.vm.findClass RX12 = some m.cls := hown
  have hiX12 : ∀ w ∈ wsX120, w ∈ wsX12_covering := fun _ h9 => List.mem_cons_of_mem _ (List.mem_append_right _ h9)
  have hl : lv_has ls 1 [(0, .ref (am 18))] := hl
  refine lv_aload_n hx hb dX12_covering_0 rfl (lv_at hl 0 rfl) ?_
  refine lv_iconst (v := 0) hx hb dX12_covering_1 (by decide) ?_
  refine va_put (D := D) (ci := 11) (v := .int 0) (ty := tyX12 0) (C := RX12) (T := TX12) (N := 54) hx hb hts hiX12 tyX12 tyX12_ok nmX12 hown hK hP hD hS 0 rfl rfl 0 (by decide) (hts _ (List.mem_of_getElem? (i := 1) rfl)) (fun _ h9 => h9) rfl (tyX12_ok 0 (by decide)) rfl rfl (Nat.le_of_ble_eq_true rfl) dX12_covering_2 (fun H locs hP hD hS => ?_)
  have hP : va_P D vwCl [(am 18, .inr (11, [.int 0, .ref u_1, .int u_2, .int u_3, .int u_4, .int u_5, .ref u_6, .ref u_7, .ref u_8, .ref u_9, .ref u_10, .int u_11, .int u_12, .int u_13, .int u_14, .int u_15, .int u_16, .long u_17, .int u_18, .int u_19, .int u_20, .ref u_21, .ref u_22, .int u_23, .int u_24, .int u_25, .int u_26, .ref u_27, .int u_28, .ref u_29, .int u_30, .int 0, .ref u_32, .int u_33, .ref u_34, .ref u_35, .int u_36, .int u_37, .ref u_38, .int u_39, .int u_40, .int u_41, .ref u_42, .int u_43, .ref u_44, .int u_45, .int u_46, .int u_47, .int u_48, .int u_49, .ref u_50, .ref u_51, .ref u_52, .ref u_53]))] H := hP
  have hD : va_D A [(am 18, .inr (11, [.int 0, .ref u_1, .int u_2, .int u_3, .int u_4, .int u_5, .ref u_6, .ref u_7, .ref u_8, .ref u_9, .ref u_10, .int u_11, .int u_12, .int u_13, .int u_14, .int u_15, .int u_16, .long u_17, .int u_18, .int u_19, .int u_20, .ref u_21, .ref u_22, .int u_23, .int u_24, .int u_25, .int u_26, .ref u_27, .int u_28, .ref u_29, .int u_30, .int 0, .ref u_32, .int u_33, .ref u_34, .ref u_35, .int u_36, .int u_37, .ref u_38, .int u_39, .int u_40, .int u_41, .ref u_42, .int u_43, .ref u_44, .int u_45, .int u_46, .int u_47, .int u_48, .int u_49, .ref u_50, .ref u_51, .ref u_52, .ref u_53]))] := hD
  refine lv_aload_n hx hb dX12_covering_5 rfl (lv_at hl 0 rfl) ?_
  refine va_get (D := D) (ci := 11) (v := .int 0) (C := RX12) (T := TX12) (N := 54) hx hb hts hiX12 hown hK hP 0 rfl rfl 31 (by decide) (hts _ (List.mem_of_getElem? (i := 2) rfl)) (fun _ h9 => h9) rfl dX12_covering_6 ?_
  refine lv_if_eq (tgt := 19) hx hb dX12_covering_9 (by decide) (fun _ => ?_) (fun h9 => absurd (by decide) h9)
  refine lv_iconst (v := (-1)) hx hb dX12_covering_19 (by decide) ?_
  refine W.widen (k := 0) (n := 0) (by decide) (by decide) ?_
  exact hret (-1) ([], []) _ _ _ _ dX12_covering_20 rfl ⟨rfl, rfl⟩ (hP.sub [] rfl) (hK.sub [] rfl) (hD.sub [] (by decide +kernel) rfl) hS

set_option maxHeartbeats 8000000 in
set_option maxRecDepth 100000 in
theorem k_X12_hiding (l : Launch) (D : va_G) (ad : Nat → Nat) (am : Nat → Nat) (tm : Nat → ClassId) (u_1 : Nat) (u_2 : Int32) (u_3 : Int32) (u_4 : Int32) (u_5 : Int32) (u_7 : Nat) (u_8 : Nat) (u_9 : Nat) (u_10 : Nat) (u_11 : Int32) (u_12 : Int32) (u_13 : Int32) (u_14 : Int32) (u_15 : Int32) (u_16 : Int32) (u_17 : Int64) (u_18 : Int32) (u_19 : Int32) (u_20 : Int32) (u_21 : Nat) (u_23 : Int32) (u_24 : Int32) (u_25 : Int32) (u_26 : Int32) (u_27 : Nat) (u_28 : Int32) (u_29 : Nat) (u_30 : Int32) (u_31 : Int32) (u_32 : Nat) (u_34 : Nat) (u_35 : Nat) (u_36 : Int32) (u_37 : Int32) (u_38 : Nat) (u_39 : Int32) (u_40 : Int32) (u_41 : Int32) (u_42 : Nat) (u_43 : Int32) (u_44 : Nat) (u_45 : Int32) (u_46 : Int32) (u_47 : Int32) (u_48 : Int32) (u_49 : Int32) (u_50 : Nat) (u_51 : Nat) (u_52 : Nat) (u_53 : Nat)  : z_Mi l yX12_hiding wsX12_hiding { frames := 1, cells := 0, slots := 0, locals := 21 } D ad [.ref (am 18)] [(am 1, .inl (tm 1, 283, .inl (upd (fun _ => 0) 4 2))), (am 5, .inl (tm 5, 35, .inl (fun _ => 0))), (am 18, .inr (11, [.int 0, .ref u_1, .int u_2, .int u_3, .int u_4, .int u_5, .ref (am 1), .ref u_7, .ref u_8, .ref u_9, .ref u_10, .int u_11, .int u_12, .int u_13, .int u_14, .int u_15, .int u_16, .long u_17, .int u_18, .int u_19, .int u_20, .ref u_21, .ref (am 5), .int u_23, .int u_24, .int u_25, .int u_26, .ref u_27, .int u_28, .ref u_29, .int u_30, .int u_31, .ref u_32, .int (-1), .ref u_34, .ref u_35, .int u_36, .int u_37, .ref u_38, .int u_39, .int u_40, .int u_41, .ref u_42, .int u_43, .ref u_44, .int u_45, .int u_46, .int u_47, .int u_48, .int u_49, .ref u_50, .ref u_51, .ref u_52, .ref u_53]))] [(tm 1, .int), (tm 5, .int)] 0 0 (fun r9 u9 => r9 = 1 ∧ u9 = ([], [])) := by
  refine z_ofI (cc := cX12_hiding) (maxL := 4) (rt := .int) (by decide) rfl (Nat.le_of_ble_eq_true rfl) ?_
  intro p e s m below meth c Q A ls hx hb hml hown hts hin hK hP hD hA hE hO hS hl hret
  have hown : s.vm.findClass RX12 = some m.cls := hown
  have hiX12 : ∀ w ∈ wsX120, w ∈ wsX12_hiding := fun _ h9 => List.mem_cons_of_mem _ (List.mem_append_right _ h9)
  have hl : lv_has ls 4 [(0, .ref (am 18))] := hl
  refine lv_aload_n hx hb dX12_hiding_0 rfl (lv_at hl 0 rfl) ?_
  refine lv_iconst (v := 0) hx hb dX12_hiding_1 (by decide) ?_
  refine va_put (D := D) (ci := 11) (v := .int 0) (ty := tyX12 0) (C := RX12) (T := TX12) (N := 54) hx hb hts hiX12 tyX12 tyX12_ok nmX12 hown hK hP hD hS 2 rfl rfl 0 (by decide) (hts _ (List.mem_of_getElem? (i := 1) rfl)) (fun _ h9 => h9) rfl (tyX12_ok 0 (by decide)) rfl rfl (Nat.le_of_ble_eq_true rfl) dX12_hiding_2 (fun H locs hP hD hS => ?_)
  have hP : va_P D vwCl [(am 1, .inl (tm 1, 283, .inl (upd (fun _ => 0) 4 2))), (am 5, .inl (tm 5, 35, .inl (fun _ => 0))), (am 18, .inr (11, [.int 0, .ref u_1, .int u_2, .int u_3, .int u_4, .int u_5, .ref (am 1), .ref u_7, .ref u_8, .ref u_9, .ref u_10, .int u_11, .int u_12, .int u_13, .int u_14, .int u_15, .int u_16, .long u_17, .int u_18, .int u_19, .int u_20, .ref u_21, .ref (am 5), .int u_23, .int u_24, .int u_25, .int u_26, .ref u_27, .int u_28, .ref u_29, .int u_30, .int u_31, .ref u_32, .int (-1), .ref u_34, .ref u_35, .int u_36, .int u_37, .ref u_38, .int u_39, .int u_40, .int u_41, .ref u_42, .int u_43, .ref u_44, .int u_45, .int u_46, .int u_47, .int u_48, .int u_49, .ref u_50, .ref u_51, .ref u_52, .ref u_53]))] H := hP
  have hD : va_D A [(am 1, .inl (tm 1, 283, .inl (upd (fun _ => 0) 4 2))), (am 5, .inl (tm 5, 35, .inl (fun _ => 0))), (am 18, .inr (11, [.int 0, .ref u_1, .int u_2, .int u_3, .int u_4, .int u_5, .ref (am 1), .ref u_7, .ref u_8, .ref u_9, .ref u_10, .int u_11, .int u_12, .int u_13, .int u_14, .int u_15, .int u_16, .long u_17, .int u_18, .int u_19, .int u_20, .ref u_21, .ref (am 5), .int u_23, .int u_24, .int u_25, .int u_26, .ref u_27, .int u_28, .ref u_29, .int u_30, .int u_31, .ref u_32, .int (-1), .ref u_34, .ref u_35, .int u_36, .int u_37, .ref u_38, .int u_39, .int u_40, .int u_41, .ref u_42, .int u_43, .ref u_44, .int u_45, .int u_46, .int u_47, .int u_48, .int u_49, .ref u_50, .ref u_51, .ref u_52, .ref u_53]))] := hD
  refine lv_aload_n hx hb dX12_hiding_5 rfl (lv_at hl 0 rfl) ?_
  have hc9 := (k_X12_tries l D ad am tm 0 u_1 u_2 u_3 u_4 u_5 u_7 u_8 u_9 u_10 u_11 u_12 u_13 u_14 u_15 u_16 u_17 u_18 u_19 u_20 u_21 u_23 u_24 u_25 u_26 u_27 u_28 u_29 u_30 u_31 u_32 (-1) u_34 u_35 u_36 u_37 u_38 u_39 u_40 u_41 u_42 u_43 u_44 u_45 u_46 u_47 u_48 u_49 u_50 u_51 u_52 u_53 )
  refine z_callv (w0 := [(am 1, .inl (tm 1, 283, .inl (upd (fun _ => 0) 4 2))), (am 5, .inl (tm 5, 35, .inl (fun _ => 0))), (am 18, .inr (11, [.int 0, .ref u_1, .int u_2, .int u_3, .int u_4, .int u_5, .ref (am 1), .ref u_7, .ref u_8, .ref u_9, .ref u_10, .int u_11, .int u_12, .int u_13, .int u_14, .int u_15, .int u_16, .long u_17, .int u_18, .int u_19, .int u_20, .ref u_21, .ref (am 5), .int u_23, .int u_24, .int u_25, .int u_26, .ref u_27, .int u_28, .ref u_29, .int u_30, .int u_31, .ref u_32, .int (-1), .ref u_34, .ref u_35, .int u_36, .int u_37, .ref u_38, .int u_39, .int u_40, .int u_41, .ref u_42, .int u_43, .ref u_44, .int u_45, .int u_46, .int u_47, .int u_48, .int u_49, .ref u_50, .ref u_51, .ref u_52, .ref u_53]))]) (wr := []) (va_runV (As := []) (rest := []) ⟨hx, hb, hml, hown, hts⟩ (hc9 _) (cwV 0 hts gX12_hiding_X12_tries rfl rfl rfl (by decide +kernel) ⟨Nat.le_of_ble_eq_true rfl, Nat.le_of_ble_eq_true rfl⟩) (z_preV hP hD hK hS hA hE hO [0, 1, 2] [0, 1] rfl (by decide +kernel) rfl 2 11 rfl rfl rfl) rfl rfl hl.1 rfl (lv_room (Nat.le_of_ble_eq_true rfl)) dX12_hiding_6 ⟨Nat.le_of_ble_eq_true rfl, Nat.le_of_ble_eq_true rfl⟩) hP hD hK hS hA [0, 1, 2] [] rfl rfl (by decide +kernel) (by decide +kernel) (fun u9 H locs hw hP hD hK hS => ?_)
  obtain ⟨g1_1, rfl⟩ := hw
  have hP : va_P D vwCl [(am 1, .inl (tm 1, 283, .inl (upd (fun _ => 0) 4 2))), (am 5, .inl (tm 5, 35, .inl g1_1)), (am 18, .inr (11, [.int 0, .ref u_1, .int u_2, .int u_3, .int u_4, .int u_5, .ref (am 1), .ref u_7, .ref u_8, .ref u_9, .ref u_10, .int u_11, .int u_12, .int u_13, .int u_14, .int u_15, .int u_16, .long u_17, .int u_18, .int u_19, .int u_20, .ref u_21, .ref (am 5), .int u_23, .int u_24, .int u_25, .int u_26, .ref u_27, .int u_28, .ref u_29, .int u_30, .int u_31, .ref u_32, .int (-1), .ref u_34, .ref u_35, .int u_36, .int u_37, .ref u_38, .int u_39, .int u_40, .int u_41, .ref u_42, .int u_43, .ref u_44, .int u_45, .int u_46, .int u_47, .int u_48, .int u_49, .ref u_50, .ref u_51, .ref u_52, .ref u_53]))] H := hP
  have hD : va_D A [(am 1, .inl (tm 1, 283, .inl (upd (fun _ => 0) 4 2))), (am 5, .inl (tm 5, 35, .inl g1_1)), (am 18, .inr (11, [.int 0, .ref u_1, .int u_2, .int u_3, .int u_4, .int u_5, .ref (am 1), .ref u_7, .ref u_8, .ref u_9, .ref u_10, .int u_11, .int u_12, .int u_13, .int u_14, .int u_15, .int u_16, .long u_17, .int u_18, .int u_19, .int u_20, .ref u_21, .ref (am 5), .int u_23, .int u_24, .int u_25, .int u_26, .ref u_27, .int u_28, .ref u_29, .int u_30, .int u_31, .ref u_32, .int (-1), .ref u_34, .ref u_35, .int u_36, .int u_37, .ref u_38, .int u_39, .int u_40, .int u_41, .ref u_42, .int u_43, .ref u_44, .int u_45, .int u_46, .int u_47, .int u_48, .int u_49, .ref u_50, .ref u_51, .ref u_52, .ref u_53]))] := hD
  have hK : va_K D vwCl [(tm 1, .int), (tm 5, .int)] s := hK
  refine W.cs (cells' := 0) (slots' := 0) rfl rfl ?_
  refine lv_iconst (v := 0) hx hb dX12_hiding_9 (by decide) ?_
  refine lv_istore_n (lv' := [(1, .int 0), (0, .ref (am 18))]) hx hb dX12_hiding_10 rfl hl (by decide) rfl (fun ls hl => ?_)
  refine lv_iconst (v := 1) hx hb dX12_hiding_11 (by decide) ?_
  refine lv_istore_n (lv' := [(2, .int 1), (1, .int 0), (0, .ref (am 18))]) hx hb dX12_hiding_12 rfl hl (by decide) rfl (fun ls hl => ?_)
  refine lv_iload_n hx hb dX12_hiding_13 rfl (lv_at hl 0 rfl) ?_
  refine lv_if_eq (tgt := 59) hx hb dX12_hiding_14 (by decide) (fun h9 => absurd h9 (by decide)) (fun _ => ?_)
  refine lv_iload_n hx hb dX12_hiding_17 rfl (lv_at hl 1 rfl) ?_
  refine lv_bipush (v := 10) hx hb dX12_hiding_18 (by decide) ?_
  refine lv_icmp_ge (tgt := 59) hx hb dX12_hiding_20 (by decide) (fun h9 => absurd h9 (by decide)) (fun _ => ?_)
  refine lv_iconst (v := 0) hx hb dX12_hiding_23 (by decide) ?_
  refine lv_istore_n (lv' := [(2, .int 0), (1, .int 0), (0, .ref (am 18))]) hx hb dX12_hiding_24 rfl hl (by decide) rfl (fun ls hl => ?_)
  refine lv_iconst (v := 0) hx hb dX12_hiding_25 (by decide) ?_
  refine lv_istore_n (lv' := [(3, .int 0), (2, .int 0), (1, .int 0), (0, .ref (am 18))]) hx hb dX12_hiding_26 rfl hl (by decide) rfl (fun ls hl => ?_)
  refine lv_iload_n hx hb dX12_hiding_27 rfl (lv_at hl 0 rfl) ?_
  refine lv_aload_n hx hb dX12_hiding_28 rfl (lv_at hl 3 rfl) ?_
  refine va_get (D := D) (ci := 11) (v := .ref (am 1)) (C := RX12) (T := TX12) (N := 54) hx hb hts hiX12 hown hK hP 2 rfl rfl 6 (by decide) (hts _ (List.mem_of_getElem? (i := 2) rfl)) (fun _ h9 => h9) rfl dX12_hiding_29 ?_
  refine lv_iconst (v := 1) hx hb dX12_hiding_32 (by decide) ?_
  refine va_iald hx hb hK hP 0 0 rfl rfl (show ¬ (_ ∨ _) by decide) dX12_hiding_33 ?_
  refine W.eq (g2 := F0 m 34 ls (.int 0 :: [.int 0])) rfl ?_
  refine lv_icmp_ge (tgt := 53) hx hb dX12_hiding_34 (by decide) (fun _ => ?_) (fun h9 => absurd (by decide) h9)
  refine lv_iinc (v := 1) (lv' := [(1, .int 1), (3, .int 0), (2, .int 0), (0, .ref (am 18))]) hx hb dX12_hiding_53 hl (k := 2) rfl (by decide) (by decide) rfl (fun ls hl => ?_)
  refine lv_goto (tgt := 13) hx hb dX12_hiding_56 (by decide) ?_
  refine lv_iload_n hx hb dX12_hiding_13 rfl (lv_at hl 2 rfl) ?_
  refine lv_if_eq (tgt := 59) hx hb dX12_hiding_14 (by decide) (fun _ => ?_) (fun h9 => absurd (by decide) h9)
  refine lv_aload_n hx hb dX12_hiding_59 rfl (lv_at hl 3 rfl) ?_
  refine lv_aload_n hx hb dX12_hiding_60 rfl (lv_at hl 3 rfl) ?_
  refine va_get (D := D) (ci := 11) (v := .ref (am 1)) (C := RX12) (T := TX12) (N := 54) hx hb hts hiX12 hown hK hP 2 rfl rfl 6 (by decide) (hts _ (List.mem_of_getElem? (i := 2) rfl)) (fun _ h9 => h9) rfl dX12_hiding_61 ?_
  refine lv_iconst (v := 1) hx hb dX12_hiding_64 (by decide) ?_
  refine va_iald hx hb hK hP 0 0 rfl rfl (show ¬ (_ ∨ _) by decide) dX12_hiding_65 ?_
  refine W.eq (g2 := F0 m 66 ls (.int 0 :: [.ref (am 18)])) rfl ?_
  refine va_put (D := D) (ci := 11) (v := .int 0) (ty := tyX12 33) (C := RX12) (T := TX12) (N := 54) hx hb hts hiX12 tyX12 tyX12_ok nmX12 hown hK hP hD hS 2 rfl rfl 33 (by decide) (hts _ (List.mem_of_getElem? (i := 3) rfl)) (fun _ h9 => h9) rfl (tyX12_ok 33 (by decide)) rfl rfl (Nat.le_of_ble_eq_true rfl) dX12_hiding_66 (fun H locs hP hD hS => ?_)
  have hP : va_P D vwCl [(am 1, .inl (tm 1, 283, .inl (upd (fun _ => 0) 4 2))), (am 5, .inl (tm 5, 35, .inl g1_1)), (am 18, .inr (11, [.int 0, .ref u_1, .int u_2, .int u_3, .int u_4, .int u_5, .ref (am 1), .ref u_7, .ref u_8, .ref u_9, .ref u_10, .int u_11, .int u_12, .int u_13, .int u_14, .int u_15, .int u_16, .long u_17, .int u_18, .int u_19, .int u_20, .ref u_21, .ref (am 5), .int u_23, .int u_24, .int u_25, .int u_26, .ref u_27, .int u_28, .ref u_29, .int u_30, .int u_31, .ref u_32, .int 0, .ref u_34, .ref u_35, .int u_36, .int u_37, .ref u_38, .int u_39, .int u_40, .int u_41, .ref u_42, .int u_43, .ref u_44, .int u_45, .int u_46, .int u_47, .int u_48, .int u_49, .ref u_50, .ref u_51, .ref u_52, .ref u_53]))] H := hP
  have hD : va_D A [(am 1, .inl (tm 1, 283, .inl (upd (fun _ => 0) 4 2))), (am 5, .inl (tm 5, 35, .inl g1_1)), (am 18, .inr (11, [.int 0, .ref u_1, .int u_2, .int u_3, .int u_4, .int u_5, .ref (am 1), .ref u_7, .ref u_8, .ref u_9, .ref u_10, .int u_11, .int u_12, .int u_13, .int u_14, .int u_15, .int u_16, .long u_17, .int u_18, .int u_19, .int u_20, .ref u_21, .ref (am 5), .int u_23, .int u_24, .int u_25, .int u_26, .ref u_27, .int u_28, .ref u_29, .int u_30, .int u_31, .ref u_32, .int 0, .ref u_34, .ref u_35, .int u_36, .int u_37, .ref u_38, .int u_39, .int u_40, .int u_41, .ref u_42, .int u_43, .ref u_44, .int u_45, .int u_46, .int u_47, .int u_48, .int u_49, .ref u_50, .ref u_51, .ref u_52, .ref u_53]))] := hD
  refine lv_iconst (v := 0) hx hb dX12_hiding_69 (by decide) ?_
  refine lv_istore_n (lv' := [(3, .int 0), (1, .int 1), (2, .int 0), (0, .ref (am 18))]) hx hb dX12_hiding_70 rfl hl (by decide) rfl (fun ls hl => ?_)
  refine lv_iload_n hx hb dX12_hiding_71 rfl (lv_at hl 0 rfl) ?_
  refine lv_aload_n hx hb dX12_hiding_72 rfl (lv_at hl 3 rfl) ?_
  refine va_get (D := D) (ci := 11) (v := .int 0) (C := RX12) (T := TX12) (N := 54) hx hb hts hiX12 hown hK hP 2 rfl rfl 33 (by decide) (hts _ (List.mem_of_getElem? (i := 3) rfl)) (fun _ h9 => h9) rfl dX12_hiding_73 ?_
  refine lv_icmp_ge (tgt := 100) hx hb dX12_hiding_76 (by decide) (fun _ => ?_) (fun h9 => absurd (by decide) h9)
  refine lv_aload_n hx hb dX12_hiding_100 rfl (lv_at hl 3 rfl) ?_
  have hc9 := (k_X12_back l D ad am tm (upd (fun _ => 0) 4 2) g1_1 0 u_1 u_2 u_3 u_4 u_5 u_7 u_8 u_9 u_10 u_11 u_12 u_13 u_14 u_15 u_16 u_17 u_18 u_19 u_20 u_21 u_23 u_24 u_25 u_26 u_27 u_28 u_29 u_30 u_31 u_32 0 u_34 u_35 u_36 u_37 u_38 u_39 u_40 u_41 u_42 u_43 u_44 u_45 u_46 u_47 u_48 u_49 u_50 u_51 u_52 u_53 )
  refine z_callv (w0 := [(am 1, .inl (tm 1, 283, .inl (upd (fun _ => 0) 4 2))), (am 5, .inl (tm 5, 35, .inl g1_1)), (am 18, .inr (11, [.int 0, .ref u_1, .int u_2, .int u_3, .int u_4, .int u_5, .ref (am 1), .ref u_7, .ref u_8, .ref u_9, .ref u_10, .int u_11, .int u_12, .int u_13, .int u_14, .int u_15, .int u_16, .long u_17, .int u_18, .int u_19, .int u_20, .ref u_21, .ref (am 5), .int u_23, .int u_24, .int u_25, .int u_26, .ref u_27, .int u_28, .ref u_29, .int u_30, .int u_31, .ref u_32, .int 0, .ref u_34, .ref u_35, .int u_36, .int u_37, .ref u_38, .int u_39, .int u_40, .int u_41, .ref u_42, .int u_43, .ref u_44, .int u_45, .int u_46, .int u_47, .int u_48, .int u_49, .ref u_50, .ref u_51, .ref u_52, .ref u_53]))]) (wr := []) (va_runV (As := []) (rest := []) ⟨hx, hb, hml, hown, hts⟩ (hc9 _) (cwV 0 hts gX12_hiding_X12_back rfl rfl rfl (by decide +kernel) ⟨Nat.le_of_ble_eq_true rfl, Nat.le_of_ble_eq_true rfl⟩) (z_preV hP hD hK hS hA hE hO [0, 1, 2] [0, 1] rfl (by decide +kernel) rfl 2 11 rfl rfl rfl) rfl rfl hl.1 rfl (lv_room (Nat.le_of_ble_eq_true rfl)) dX12_hiding_101 ⟨Nat.le_of_ble_eq_true rfl, Nat.le_of_ble_eq_true rfl⟩) hP hD hK hS hA [0, 1, 2] [] rfl rfl (by decide +kernel) (by decide +kernel) (fun u9 H locs hw hP hD hK hS => ?_)
  obtain ⟨g1_2, rfl⟩ := hw
  have hP : va_P D vwCl [(am 1, .inl (tm 1, 283, .inl g1_2)), (am 5, .inl (tm 5, 35, .inl g1_1)), (am 18, .inr (11, [.int 0, .ref u_1, .int u_2, .int u_3, .int u_4, .int u_5, .ref (am 1), .ref u_7, .ref u_8, .ref u_9, .ref u_10, .int u_11, .int u_12, .int u_13, .int u_14, .int u_15, .int u_16, .long u_17, .int u_18, .int u_19, .int u_20, .ref u_21, .ref (am 5), .int u_23, .int u_24, .int u_25, .int u_26, .ref u_27, .int u_28, .ref u_29, .int u_30, .int u_31, .ref u_32, .int 0, .ref u_34, .ref u_35, .int u_36, .int u_37, .ref u_38, .int u_39, .int u_40, .int u_41, .ref u_42, .int u_43, .ref u_44, .int u_45, .int u_46, .int u_47, .int u_48, .int u_49, .ref u_50, .ref u_51, .ref u_52, .ref u_53]))] H := hP
  have hD : va_D A [(am 1, .inl (tm 1, 283, .inl g1_2)), (am 5, .inl (tm 5, 35, .inl g1_1)), (am 18, .inr (11, [.int 0, .ref u_1, .int u_2, .int u_3, .int u_4, .int u_5, .ref (am 1), .ref u_7, .ref u_8, .ref u_9, .ref u_10, .int u_11, .int u_12, .int u_13, .int u_14, .int u_15, .int u_16, .long u_17, .int u_18, .int u_19, .int u_20, .ref u_21, .ref (am 5), .int u_23, .int u_24, .int u_25, .int u_26, .ref u_27, .int u_28, .ref u_29, .int u_30, .int u_31, .ref u_32, .int 0, .ref u_34, .ref u_35, .int u_36, .int u_37, .ref u_38, .int u_39, .int u_40, .int u_41, .ref u_42, .int u_43, .ref u_44, .int u_45, .int u_46, .int u_47, .int u_48, .int u_49, .ref u_50, .ref u_51, .ref u_52, .ref u_53]))] := hD
  have hK : va_K D vwCl [(tm 1, .int), (tm 5, .int)] s := hK
  refine W.cs (cells' := 0) (slots' := 0) rfl rfl ?_
  refine lv_iload_n hx hb dX12_hiding_104 rfl (lv_at hl 1 rfl) ?_
  refine W.widen (k := 0) (n := 0) (by decide) (by decide) ?_
  exact hret 1 ([], []) _ _ _ _ dX12_hiding_105 rfl ⟨rfl, rfl⟩ (hP.sub [] rfl) (hK.sub [] rfl) (hD.sub [] (by decide +kernel) rfl) hS

set_option maxHeartbeats 8000000 in
set_option maxRecDepth 100000 in
theorem k_X12_turn (l : Launch) (D : va_G) (ad : Nat → Nat) (am : Nat → Nat) (u_1 : Nat) (u_2 : Int32) (u_3 : Int32) (u_4 : Int32) (u_5 : Int32) (u_6 : Nat) (u_7 : Nat) (u_8 : Nat) (u_9 : Nat) (u_10 : Nat) (u_11 : Int32) (u_12 : Int32) (u_13 : Int32) (u_14 : Int32) (u_15 : Int32) (u_16 : Int32) (u_17 : Int64) (u_18 : Int32) (u_19 : Int32) (u_20 : Int32) (u_21 : Nat) (u_22 : Nat) (u_23 : Int32) (u_24 : Int32) (u_25 : Int32) (u_26 : Int32) (u_27 : Nat) (u_28 : Int32) (u_29 : Nat) (u_30 : Int32) (u_31 : Int32) (u_32 : Nat) (u_33 : Int32) (u_34 : Nat) (u_35 : Nat) (u_36 : Int32) (u_38 : Nat) (u_39 : Int32) (u_40 : Int32) (u_41 : Int32) (u_42 : Nat) (u_43 : Int32) (u_44 : Nat) (u_45 : Int32) (u_46 : Int32) (u_47 : Int32) (u_48 : Int32) (u_49 : Int32) (u_50 : Nat) (u_51 : Nat) (u_52 : Nat) (u_53 : Nat)  : z_Mi l yX12_turn wsX12_turn { frames := 0, cells := 0, slots := 0, locals := 0 } D ad [.ref (am 18)] [(am 18, .inr (11, [.int 0, .ref u_1, .int u_2, .int u_3, .int u_4, .int u_5, .ref u_6, .ref u_7, .ref u_8, .ref u_9, .ref u_10, .int u_11, .int u_12, .int u_13, .int u_14, .int u_15, .int u_16, .long u_17, .int u_18, .int u_19, .int u_20, .ref u_21, .ref u_22, .int u_23, .int u_24, .int u_25, .int u_26, .ref u_27, .int u_28, .ref u_29, .int u_30, .int u_31, .ref u_32, .int u_33, .ref u_34, .ref u_35, .int u_36, .int 0, .ref u_38, .int u_39, .int u_40, .int u_41, .ref u_42, .int u_43, .ref u_44, .int u_45, .int u_46, .int u_47, .int u_48, .int u_49, .ref u_50, .ref u_51, .ref u_52, .ref u_53]))] [] 0 0 (fun r9 u9 => r9 = (-1) ∧ u9 = ([], [])) := by
  refine z_ofI (cc := cX12_turn) (maxL := 1) (rt := .int) (by decide) rfl (Nat.le_of_ble_eq_true rfl) ?_
  intro p e s m below meth c Q A ls hx hb hml hown hts hin hK hP hD hA hE hO hS hl hret
  have hown : s.vm.findClass RX12 = some m.cls := hown
  have hiX12 : ∀ w ∈ wsX120, w ∈ wsX12_turn := fun _ h9 => List.mem_cons_of_mem _ (List.mem_append_right _ h9)
  have hl : lv_has ls 1 [(0, .ref (am 18))] := hl
  refine lv_aload_n hx hb dX12_turn_0 rfl (lv_at hl 0 rfl) ?_
  refine lv_iconst (v := 0) hx hb dX12_turn_1 (by decide) ?_
  refine va_put (D := D) (ci := 11) (v := .int 0) (ty := tyX12 0) (C := RX12) (T := TX12) (N := 54) hx hb hts hiX12 tyX12 tyX12_ok nmX12 hown hK hP hD hS 0 rfl rfl 0 (by decide) (hts _ (List.mem_of_getElem? (i := 1) rfl)) (fun _ h9 => h9) rfl (tyX12_ok 0 (by decide)) rfl rfl (Nat.le_of_ble_eq_true rfl) dX12_turn_2 (fun H locs hP hD hS => ?_)
  have hP : va_P D vwCl [(am 18, .inr (11, [.int 0, .ref u_1, .int u_2, .int u_3, .int u_4, .int u_5, .ref u_6, .ref u_7, .ref u_8, .ref u_9, .ref u_10, .int u_11, .int u_12, .int u_13, .int u_14, .int u_15, .int u_16, .long u_17, .int u_18, .int u_19, .int u_20, .ref u_21, .ref u_22, .int u_23, .int u_24, .int u_25, .int u_26, .ref u_27, .int u_28, .ref u_29, .int u_30, .int u_31, .ref u_32, .int u_33, .ref u_34, .ref u_35, .int u_36, .int 0, .ref u_38, .int u_39, .int u_40, .int u_41, .ref u_42, .int u_43, .ref u_44, .int u_45, .int u_46, .int u_47, .int u_48, .int u_49, .ref u_50, .ref u_51, .ref u_52, .ref u_53]))] H := hP
  have hD : va_D A [(am 18, .inr (11, [.int 0, .ref u_1, .int u_2, .int u_3, .int u_4, .int u_5, .ref u_6, .ref u_7, .ref u_8, .ref u_9, .ref u_10, .int u_11, .int u_12, .int u_13, .int u_14, .int u_15, .int u_16, .long u_17, .int u_18, .int u_19, .int u_20, .ref u_21, .ref u_22, .int u_23, .int u_24, .int u_25, .int u_26, .ref u_27, .int u_28, .ref u_29, .int u_30, .int u_31, .ref u_32, .int u_33, .ref u_34, .ref u_35, .int u_36, .int 0, .ref u_38, .int u_39, .int u_40, .int u_41, .ref u_42, .int u_43, .ref u_44, .int u_45, .int u_46, .int u_47, .int u_48, .int u_49, .ref u_50, .ref u_51, .ref u_52, .ref u_53]))] := hD
  refine lv_aload_n hx hb dX12_turn_5 rfl (lv_at hl 0 rfl) ?_
  refine va_get (D := D) (ci := 11) (v := .int 0) (C := RX12) (T := TX12) (N := 54) hx hb hts hiX12 hown hK hP 0 rfl rfl 37 (by decide) (hts _ (List.mem_of_getElem? (i := 2) rfl)) (fun _ h9 => h9) rfl dX12_turn_6 ?_
  refine lv_if_eq (tgt := 19) hx hb dX12_turn_9 (by decide) (fun _ => ?_) (fun h9 => absurd (by decide) h9)
  refine lv_iconst (v := (-1)) hx hb dX12_turn_19 (by decide) ?_
  refine W.widen (k := 0) (n := 0) (by decide) (by decide) ?_
  exact hret (-1) ([], []) _ _ _ _ dX12_turn_20 rfl ⟨rfl, rfl⟩ (hP.sub [] rfl) (hK.sub [] rfl) (hD.sub [] (by decide +kernel) rfl) hS

set_option maxHeartbeats 8000000 in
set_option maxRecDepth 100000 in
theorem k_X12_sentence (l : Launch) (D : va_G) (ad : Nat → Nat) (am : Nat → Nat) (u_1 : Nat) (u_6 : Nat) (u_7 : Nat) (u_8 : Nat) (u_9 : Nat) (u_10 : Nat) (u_14 : Int32) (u_17 : Int64) (u_18 : Int32) (u_19 : Int32) (u_20 : Int32) (u_21 : Nat) (u_22 : Nat) (u_23 : Int32) (u_24 : Int32) (u_25 : Int32) (u_26 : Int32) (u_27 : Nat) (u_28 : Int32) (u_29 : Nat) (u_30 : Int32) (u_31 : Int32) (u_32 : Nat) (u_33 : Int32) (u_34 : Nat) (u_35 : Nat) (u_36 : Int32) (u_37 : Int32) (u_38 : Nat) (u_39 : Int32) (u_40 : Int32) (u_41 : Int32) (u_42 : Nat) (u_43 : Int32) (u_44 : Nat) (u_50 : Nat) (u_51 : Nat) (u_52 : Nat) (u_53 : Nat)  : z_Mi l yX12_sentence wsX12_sentence { frames := 3, cells := 0, slots := 0, locals := 66 } D ad [.ref (am 18)] [(am 18, .inr (11, [.int 0, .ref u_1, .int 0, .int 0, .int 0, .int 0, .ref u_6, .ref u_7, .ref u_8, .ref u_9, .ref u_10, .int 0, .int 0, .int 0, .int u_14, .int 0, .int 0, .long u_17, .int u_18, .int u_19, .int u_20, .ref u_21, .ref u_22, .int u_23, .int u_24, .int u_25, .int u_26, .ref u_27, .int u_28, .ref u_29, .int u_30, .int u_31, .ref u_32, .int u_33, .ref u_34, .ref u_35, .int u_36, .int u_37, .ref u_38, .int u_39, .int u_40, .int u_41, .ref u_42, .int u_43, .ref u_44, .int 0, .int 0, .int 0, .int 0, .int 0, .ref u_50, .ref u_51, .ref u_52, .ref u_53]))] [] 0 0 (fun r9 u9 => r9 = (-1) ∧ u9 = ([], [])) := by
  refine z_ofI (cc := cX12_sentence) (maxL := 3) (rt := .int) (by decide) rfl (Nat.le_of_ble_eq_true rfl) ?_
  intro p e s m below meth c Q A ls hx hb hml hown hts hin hK hP hD hA hE hO hS hl hret
  have hown : s.vm.findClass RX12 = some m.cls := hown
  have hiX12 : ∀ w ∈ wsX120, w ∈ wsX12_sentence := fun _ h9 => List.mem_cons_of_mem _ (List.mem_append_right _ h9)
  have hl : lv_has ls 3 [(0, .ref (am 18))] := hl
  refine lv_aload_n hx hb dX12_sentence_0 rfl (lv_at hl 0 rfl) ?_
  refine lv_iconst (v := 0) hx hb dX12_sentence_1 (by decide) ?_
  refine va_put (D := D) (ci := 11) (v := .int 0) (ty := tyX12 0) (C := RX12) (T := TX12) (N := 54) hx hb hts hiX12 tyX12 tyX12_ok nmX12 hown hK hP hD hS 0 rfl rfl 0 (by decide) (hts _ (List.mem_of_getElem? (i := 1) rfl)) (fun _ h9 => h9) rfl (tyX12_ok 0 (by decide)) rfl rfl (Nat.le_of_ble_eq_true rfl) dX12_sentence_2 (fun H locs hP hD hS => ?_)
  have hP : va_P D vwCl [(am 18, .inr (11, [.int 0, .ref u_1, .int 0, .int 0, .int 0, .int 0, .ref u_6, .ref u_7, .ref u_8, .ref u_9, .ref u_10, .int 0, .int 0, .int 0, .int u_14, .int 0, .int 0, .long u_17, .int u_18, .int u_19, .int u_20, .ref u_21, .ref u_22, .int u_23, .int u_24, .int u_25, .int u_26, .ref u_27, .int u_28, .ref u_29, .int u_30, .int u_31, .ref u_32, .int u_33, .ref u_34, .ref u_35, .int u_36, .int u_37, .ref u_38, .int u_39, .int u_40, .int u_41, .ref u_42, .int u_43, .ref u_44, .int 0, .int 0, .int 0, .int 0, .int 0, .ref u_50, .ref u_51, .ref u_52, .ref u_53]))] H := hP
  have hD : va_D A [(am 18, .inr (11, [.int 0, .ref u_1, .int 0, .int 0, .int 0, .int 0, .ref u_6, .ref u_7, .ref u_8, .ref u_9, .ref u_10, .int 0, .int 0, .int 0, .int u_14, .int 0, .int 0, .long u_17, .int u_18, .int u_19, .int u_20, .ref u_21, .ref u_22, .int u_23, .int u_24, .int u_25, .int u_26, .ref u_27, .int u_28, .ref u_29, .int u_30, .int u_31, .ref u_32, .int u_33, .ref u_34, .ref u_35, .int u_36, .int u_37, .ref u_38, .int u_39, .int u_40, .int u_41, .ref u_42, .int u_43, .ref u_44, .int 0, .int 0, .int 0, .int 0, .int 0, .ref u_50, .ref u_51, .ref u_52, .ref u_53]))] := hD
  refine lv_aload_n hx hb dX12_sentence_5 rfl (lv_at hl 0 rfl) ?_
  refine lv_sipush (v := 200) hx hb dX12_sentence_6 (by decide) ?_
  have hc9 := (k_X12_taken l D ad am 200 0 u_1 u_6 u_7 u_8 u_9 u_10 0 0 0 u_14 0 0 u_17 u_18 u_19 u_20 u_21 u_22 u_23 u_24 u_25 u_26 u_27 u_28 u_29 u_30 u_31 u_32 u_33 u_34 u_35 u_36 u_37 u_38 u_39 u_40 u_41 u_42 u_43 u_44 0 0 0 0 0 u_50 u_51 u_52 u_53 )
  refine z_callv (w0 := [(am 18, .inr (11, [.int 0, .ref u_1, .int 0, .int 0, .int 0, .int 0, .ref u_6, .ref u_7, .ref u_8, .ref u_9, .ref u_10, .int 0, .int 0, .int 0, .int u_14, .int 0, .int 0, .long u_17, .int u_18, .int u_19, .int u_20, .ref u_21, .ref u_22, .int u_23, .int u_24, .int u_25, .int u_26, .ref u_27, .int u_28, .ref u_29, .int u_30, .int u_31, .ref u_32, .int u_33, .ref u_34, .ref u_35, .int u_36, .int u_37, .ref u_38, .int u_39, .int u_40, .int u_41, .ref u_42, .int u_43, .ref u_44, .int 0, .int 0, .int 0, .int 0, .int 0, .ref u_50, .ref u_51, .ref u_52, .ref u_53]))]) (wr := []) (va_runV (As := [.int 200]) (rest := []) ⟨hx, hb, hml, hown, hts⟩ (hc9 _) (cwV 1 hts gX12_sentence_X12_taken rfl rfl rfl (by decide +kernel) ⟨Nat.le_of_ble_eq_true rfl, Nat.le_of_ble_eq_true rfl⟩) (z_preV hP hD hK hS hA hE hO [0] [] rfl (by decide +kernel) rfl 0 11 rfl rfl rfl) rfl rfl hl.1 rfl (lv_room (Nat.le_of_ble_eq_true rfl)) dX12_sentence_9 ⟨Nat.le_of_ble_eq_true rfl, Nat.le_of_ble_eq_true rfl⟩) hP hD hK hS hA [0] [] rfl rfl (by decide +kernel) (by decide +kernel) (fun u9 H locs hw hP hD hK hS => ?_)
  obtain ⟨rfl⟩ := hw
  have hP : va_P D vwCl [(am 18, .inr (11, [.int 0, .ref u_1, .int 0, .int 0, .int 0, .int 200, .ref u_6, .ref u_7, .ref u_8, .ref u_9, .ref u_10, .int 0, .int 0, .int 0, .int u_14, .int 0, .int 0, .long u_17, .int u_18, .int u_19, .int u_20, .ref u_21, .ref u_22, .int u_23, .int u_24, .int u_25, .int u_26, .ref u_27, .int u_28, .ref u_29, .int u_30, .int u_31, .ref u_32, .int u_33, .ref u_34, .ref u_35, .int u_36, .int u_37, .ref u_38, .int u_39, .int u_40, .int u_41, .ref u_42, .int u_43, .ref u_44, .int 0, .int 0, .int 0, .int 0, .int 0, .ref u_50, .ref u_51, .ref u_52, .ref u_53]))] H := hP
  have hD : va_D A [(am 18, .inr (11, [.int 0, .ref u_1, .int 0, .int 0, .int 0, .int 200, .ref u_6, .ref u_7, .ref u_8, .ref u_9, .ref u_10, .int 0, .int 0, .int 0, .int u_14, .int 0, .int 0, .long u_17, .int u_18, .int u_19, .int u_20, .ref u_21, .ref u_22, .int u_23, .int u_24, .int u_25, .int u_26, .ref u_27, .int u_28, .ref u_29, .int u_30, .int u_31, .ref u_32, .int u_33, .ref u_34, .ref u_35, .int u_36, .int u_37, .ref u_38, .int u_39, .int u_40, .int u_41, .ref u_42, .int u_43, .ref u_44, .int 0, .int 0, .int 0, .int 0, .int 0, .ref u_50, .ref u_51, .ref u_52, .ref u_53]))] := hD
  have hK : va_K D vwCl [] s := hK
  refine W.cs (cells' := 0) (slots' := 0) rfl rfl ?_
  refine lv_aload_n hx hb dX12_sentence_12 rfl (lv_at hl 0 rfl) ?_
  refine lv_iconst (v := 0) hx hb dX12_sentence_13 (by decide) ?_
  refine va_put (D := D) (ci := 11) (v := .int 0) (ty := tyX12 15) (C := RX12) (T := TX12) (N := 54) hx hb hts hiX12 tyX12 tyX12_ok nmX12 hown hK hP hD hS 0 rfl rfl 15 (by decide) (hts _ (List.mem_of_getElem? (i := 2) rfl)) (fun _ h9 => h9) rfl (tyX12_ok 15 (by decide)) rfl rfl (Nat.le_of_ble_eq_true rfl) dX12_sentence_14 (fun H locs hP hD hS => ?_)
  have hP : va_P D vwCl [(am 18, .inr (11, [.int 0, .ref u_1, .int 0, .int 0, .int 0, .int 200, .ref u_6, .ref u_7, .ref u_8, .ref u_9, .ref u_10, .int 0, .int 0, .int 0, .int u_14, .int 0, .int 0, .long u_17, .int u_18, .int u_19, .int u_20, .ref u_21, .ref u_22, .int u_23, .int u_24, .int u_25, .int u_26, .ref u_27, .int u_28, .ref u_29, .int u_30, .int u_31, .ref u_32, .int u_33, .ref u_34, .ref u_35, .int u_36, .int u_37, .ref u_38, .int u_39, .int u_40, .int u_41, .ref u_42, .int u_43, .ref u_44, .int 0, .int 0, .int 0, .int 0, .int 0, .ref u_50, .ref u_51, .ref u_52, .ref u_53]))] H := hP
  have hD : va_D A [(am 18, .inr (11, [.int 0, .ref u_1, .int 0, .int 0, .int 0, .int 200, .ref u_6, .ref u_7, .ref u_8, .ref u_9, .ref u_10, .int 0, .int 0, .int 0, .int u_14, .int 0, .int 0, .long u_17, .int u_18, .int u_19, .int u_20, .ref u_21, .ref u_22, .int u_23, .int u_24, .int u_25, .int u_26, .ref u_27, .int u_28, .ref u_29, .int u_30, .int u_31, .ref u_32, .int u_33, .ref u_34, .ref u_35, .int u_36, .int u_37, .ref u_38, .int u_39, .int u_40, .int u_41, .ref u_42, .int u_43, .ref u_44, .int 0, .int 0, .int 0, .int 0, .int 0, .ref u_50, .ref u_51, .ref u_52, .ref u_53]))] := hD
  refine lv_aload_n hx hb dX12_sentence_17 rfl (lv_at hl 0 rfl) ?_
  refine lv_iconst (v := 0) hx hb dX12_sentence_18 (by decide) ?_
  refine va_put (D := D) (ci := 11) (v := .int 0) (ty := tyX12 45) (C := RX12) (T := TX12) (N := 54) hx hb hts hiX12 tyX12 tyX12_ok nmX12 hown hK hP hD hS 0 rfl rfl 45 (by decide) (hts _ (List.mem_of_getElem? (i := 3) rfl)) (fun _ h9 => h9) rfl (tyX12_ok 45 (by decide)) rfl rfl (Nat.le_of_ble_eq_true rfl) dX12_sentence_19 (fun H locs hP hD hS => ?_)
  have hP : va_P D vwCl [(am 18, .inr (11, [.int 0, .ref u_1, .int 0, .int 0, .int 0, .int 200, .ref u_6, .ref u_7, .ref u_8, .ref u_9, .ref u_10, .int 0, .int 0, .int 0, .int u_14, .int 0, .int 0, .long u_17, .int u_18, .int u_19, .int u_20, .ref u_21, .ref u_22, .int u_23, .int u_24, .int u_25, .int u_26, .ref u_27, .int u_28, .ref u_29, .int u_30, .int u_31, .ref u_32, .int u_33, .ref u_34, .ref u_35, .int u_36, .int u_37, .ref u_38, .int u_39, .int u_40, .int u_41, .ref u_42, .int u_43, .ref u_44, .int 0, .int 0, .int 0, .int 0, .int 0, .ref u_50, .ref u_51, .ref u_52, .ref u_53]))] H := hP
  have hD : va_D A [(am 18, .inr (11, [.int 0, .ref u_1, .int 0, .int 0, .int 0, .int 200, .ref u_6, .ref u_7, .ref u_8, .ref u_9, .ref u_10, .int 0, .int 0, .int 0, .int u_14, .int 0, .int 0, .long u_17, .int u_18, .int u_19, .int u_20, .ref u_21, .ref u_22, .int u_23, .int u_24, .int u_25, .int u_26, .ref u_27, .int u_28, .ref u_29, .int u_30, .int u_31, .ref u_32, .int u_33, .ref u_34, .ref u_35, .int u_36, .int u_37, .ref u_38, .int u_39, .int u_40, .int u_41, .ref u_42, .int u_43, .ref u_44, .int 0, .int 0, .int 0, .int 0, .int 0, .ref u_50, .ref u_51, .ref u_52, .ref u_53]))] := hD
  refine lv_aload_n hx hb dX12_sentence_22 rfl (lv_at hl 0 rfl) ?_
  refine lv_iconst (v := 0) hx hb dX12_sentence_23 (by decide) ?_
  refine va_put (D := D) (ci := 11) (v := .int 0) (ty := tyX12 46) (C := RX12) (T := TX12) (N := 54) hx hb hts hiX12 tyX12 tyX12_ok nmX12 hown hK hP hD hS 0 rfl rfl 46 (by decide) (hts _ (List.mem_of_getElem? (i := 4) rfl)) (fun _ h9 => h9) rfl (tyX12_ok 46 (by decide)) rfl rfl (Nat.le_of_ble_eq_true rfl) dX12_sentence_24 (fun H locs hP hD hS => ?_)
  have hP : va_P D vwCl [(am 18, .inr (11, [.int 0, .ref u_1, .int 0, .int 0, .int 0, .int 200, .ref u_6, .ref u_7, .ref u_8, .ref u_9, .ref u_10, .int 0, .int 0, .int 0, .int u_14, .int 0, .int 0, .long u_17, .int u_18, .int u_19, .int u_20, .ref u_21, .ref u_22, .int u_23, .int u_24, .int u_25, .int u_26, .ref u_27, .int u_28, .ref u_29, .int u_30, .int u_31, .ref u_32, .int u_33, .ref u_34, .ref u_35, .int u_36, .int u_37, .ref u_38, .int u_39, .int u_40, .int u_41, .ref u_42, .int u_43, .ref u_44, .int 0, .int 0, .int 0, .int 0, .int 0, .ref u_50, .ref u_51, .ref u_52, .ref u_53]))] H := hP
  have hD : va_D A [(am 18, .inr (11, [.int 0, .ref u_1, .int 0, .int 0, .int 0, .int 200, .ref u_6, .ref u_7, .ref u_8, .ref u_9, .ref u_10, .int 0, .int 0, .int 0, .int u_14, .int 0, .int 0, .long u_17, .int u_18, .int u_19, .int u_20, .ref u_21, .ref u_22, .int u_23, .int u_24, .int u_25, .int u_26, .ref u_27, .int u_28, .ref u_29, .int u_30, .int u_31, .ref u_32, .int u_33, .ref u_34, .ref u_35, .int u_36, .int u_37, .ref u_38, .int u_39, .int u_40, .int u_41, .ref u_42, .int u_43, .ref u_44, .int 0, .int 0, .int 0, .int 0, .int 0, .ref u_50, .ref u_51, .ref u_52, .ref u_53]))] := hD
  refine lv_aload_n hx hb dX12_sentence_27 rfl (lv_at hl 0 rfl) ?_
  refine lv_iconst (v := 0) hx hb dX12_sentence_28 (by decide) ?_
  refine va_put (D := D) (ci := 11) (v := .int 0) (ty := tyX12 47) (C := RX12) (T := TX12) (N := 54) hx hb hts hiX12 tyX12 tyX12_ok nmX12 hown hK hP hD hS 0 rfl rfl 47 (by decide) (hts _ (List.mem_of_getElem? (i := 5) rfl)) (fun _ h9 => h9) rfl (tyX12_ok 47 (by decide)) rfl rfl (Nat.le_of_ble_eq_true rfl) dX12_sentence_29 (fun H locs hP hD hS => ?_)
  have hP : va_P D vwCl [(am 18, .inr (11, [.int 0, .ref u_1, .int 0, .int 0, .int 0, .int 200, .ref u_6, .ref u_7, .ref u_8, .ref u_9, .ref u_10, .int 0, .int 0, .int 0, .int u_14, .int 0, .int 0, .long u_17, .int u_18, .int u_19, .int u_20, .ref u_21, .ref u_22, .int u_23, .int u_24, .int u_25, .int u_26, .ref u_27, .int u_28, .ref u_29, .int u_30, .int u_31, .ref u_32, .int u_33, .ref u_34, .ref u_35, .int u_36, .int u_37, .ref u_38, .int u_39, .int u_40, .int u_41, .ref u_42, .int u_43, .ref u_44, .int 0, .int 0, .int 0, .int 0, .int 0, .ref u_50, .ref u_51, .ref u_52, .ref u_53]))] H := hP
  have hD : va_D A [(am 18, .inr (11, [.int 0, .ref u_1, .int 0, .int 0, .int 0, .int 200, .ref u_6, .ref u_7, .ref u_8, .ref u_9, .ref u_10, .int 0, .int 0, .int 0, .int u_14, .int 0, .int 0, .long u_17, .int u_18, .int u_19, .int u_20, .ref u_21, .ref u_22, .int u_23, .int u_24, .int u_25, .int u_26, .ref u_27, .int u_28, .ref u_29, .int u_30, .int u_31, .ref u_32, .int u_33, .ref u_34, .ref u_35, .int u_36, .int u_37, .ref u_38, .int u_39, .int u_40, .int u_41, .ref u_42, .int u_43, .ref u_44, .int 0, .int 0, .int 0, .int 0, .int 0, .ref u_50, .ref u_51, .ref u_52, .ref u_53]))] := hD
  refine lv_aload_n hx hb dX12_sentence_32 rfl (lv_at hl 0 rfl) ?_
  refine lv_iconst (v := 1) hx hb dX12_sentence_33 (by decide) ?_
  refine va_put (D := D) (ci := 11) (v := .int 1) (ty := tyX12 48) (C := RX12) (T := TX12) (N := 54) hx hb hts hiX12 tyX12 tyX12_ok nmX12 hown hK hP hD hS 0 rfl rfl 48 (by decide) (hts _ (List.mem_of_getElem? (i := 6) rfl)) (fun _ h9 => h9) rfl (tyX12_ok 48 (by decide)) rfl rfl (Nat.le_of_ble_eq_true rfl) dX12_sentence_34 (fun H locs hP hD hS => ?_)
  have hP : va_P D vwCl [(am 18, .inr (11, [.int 0, .ref u_1, .int 0, .int 0, .int 0, .int 200, .ref u_6, .ref u_7, .ref u_8, .ref u_9, .ref u_10, .int 0, .int 0, .int 0, .int u_14, .int 0, .int 0, .long u_17, .int u_18, .int u_19, .int u_20, .ref u_21, .ref u_22, .int u_23, .int u_24, .int u_25, .int u_26, .ref u_27, .int u_28, .ref u_29, .int u_30, .int u_31, .ref u_32, .int u_33, .ref u_34, .ref u_35, .int u_36, .int u_37, .ref u_38, .int u_39, .int u_40, .int u_41, .ref u_42, .int u_43, .ref u_44, .int 0, .int 0, .int 0, .int 1, .int 0, .ref u_50, .ref u_51, .ref u_52, .ref u_53]))] H := hP
  have hD : va_D A [(am 18, .inr (11, [.int 0, .ref u_1, .int 0, .int 0, .int 0, .int 200, .ref u_6, .ref u_7, .ref u_8, .ref u_9, .ref u_10, .int 0, .int 0, .int 0, .int u_14, .int 0, .int 0, .long u_17, .int u_18, .int u_19, .int u_20, .ref u_21, .ref u_22, .int u_23, .int u_24, .int u_25, .int u_26, .ref u_27, .int u_28, .ref u_29, .int u_30, .int u_31, .ref u_32, .int u_33, .ref u_34, .ref u_35, .int u_36, .int u_37, .ref u_38, .int u_39, .int u_40, .int u_41, .ref u_42, .int u_43, .ref u_44, .int 0, .int 0, .int 0, .int 1, .int 0, .ref u_50, .ref u_51, .ref u_52, .ref u_53]))] := hD
  refine lv_aload_n hx hb dX12_sentence_37 rfl (lv_at hl 0 rfl) ?_
  refine lv_iconst (v := 0) hx hb dX12_sentence_38 (by decide) ?_
  refine va_put (D := D) (ci := 11) (v := .int 0) (ty := tyX12 49) (C := RX12) (T := TX12) (N := 54) hx hb hts hiX12 tyX12 tyX12_ok nmX12 hown hK hP hD hS 0 rfl rfl 49 (by decide) (hts _ (List.mem_of_getElem? (i := 7) rfl)) (fun _ h9 => h9) rfl (tyX12_ok 49 (by decide)) (by decide) (by decide) (Nat.le_of_ble_eq_true rfl) dX12_sentence_39 (fun H locs hP hD hS => ?_)
  have hP : va_P D vwCl [(am 18, .inr (11, [.int 0, .ref u_1, .int 0, .int 0, .int 0, .int 200, .ref u_6, .ref u_7, .ref u_8, .ref u_9, .ref u_10, .int 0, .int 0, .int 0, .int u_14, .int 0, .int 0, .long u_17, .int u_18, .int u_19, .int u_20, .ref u_21, .ref u_22, .int u_23, .int u_24, .int u_25, .int u_26, .ref u_27, .int u_28, .ref u_29, .int u_30, .int u_31, .ref u_32, .int u_33, .ref u_34, .ref u_35, .int u_36, .int u_37, .ref u_38, .int u_39, .int u_40, .int u_41, .ref u_42, .int u_43, .ref u_44, .int 0, .int 0, .int 0, .int 1, .int 0, .ref u_50, .ref u_51, .ref u_52, .ref u_53]))] H := hP
  have hD : va_D A [(am 18, .inr (11, [.int 0, .ref u_1, .int 0, .int 0, .int 0, .int 200, .ref u_6, .ref u_7, .ref u_8, .ref u_9, .ref u_10, .int 0, .int 0, .int 0, .int u_14, .int 0, .int 0, .long u_17, .int u_18, .int u_19, .int u_20, .ref u_21, .ref u_22, .int u_23, .int u_24, .int u_25, .int u_26, .ref u_27, .int u_28, .ref u_29, .int u_30, .int u_31, .ref u_32, .int u_33, .ref u_34, .ref u_35, .int u_36, .int u_37, .ref u_38, .int u_39, .int u_40, .int u_41, .ref u_42, .int u_43, .ref u_44, .int 0, .int 0, .int 0, .int 1, .int 0, .ref u_50, .ref u_51, .ref u_52, .ref u_53]))] := hD
  refine lv_aload_n hx hb dX12_sentence_42 rfl (lv_at hl 0 rfl) ?_
  have hc9 := (k_X12_step200 l D ad am 0 u_1 0 u_6 u_7 u_8 u_9 u_10 u_14 0 0 u_17 u_18 u_19 u_20 u_21 u_22 u_23 u_24 u_25 u_26 u_27 u_28 u_29 u_30 u_31 u_32 u_33 u_34 u_35 u_36 u_37 u_38 u_39 u_40 u_41 u_42 u_43 u_44 0 0 0 1 0 u_50 u_51 u_52 u_53 )
  refine z_callv (w0 := [(am 18, .inr (11, [.int 0, .ref u_1, .int 0, .int 0, .int 0, .int 200, .ref u_6, .ref u_7, .ref u_8, .ref u_9, .ref u_10, .int 0, .int 0, .int 0, .int u_14, .int 0, .int 0, .long u_17, .int u_18, .int u_19, .int u_20, .ref u_21, .ref u_22, .int u_23, .int u_24, .int u_25, .int u_26, .ref u_27, .int u_28, .ref u_29, .int u_30, .int u_31, .ref u_32, .int u_33, .ref u_34, .ref u_35, .int u_36, .int u_37, .ref u_38, .int u_39, .int u_40, .int u_41, .ref u_42, .int u_43, .ref u_44, .int 0, .int 0, .int 0, .int 1, .int 0, .ref u_50, .ref u_51, .ref u_52, .ref u_53]))]) (wr := []) (va_runV (As := []) (rest := []) ⟨hx, hb, hml, hown, hts⟩ (hc9 _) (cwV 0 hts gX12_sentence_X12_step rfl rfl rfl (by decide +kernel) ⟨Nat.le_of_ble_eq_true rfl, Nat.le_of_ble_eq_true rfl⟩) (z_preV hP hD hK hS hA hE hO [0] [] rfl (by decide +kernel) rfl 0 11 rfl rfl rfl) rfl rfl hl.1 rfl (lv_room (Nat.le_of_ble_eq_true rfl)) dX12_sentence_43 ⟨Nat.le_of_ble_eq_true rfl, Nat.le_of_ble_eq_true rfl⟩) hP hD hK hS hA [0] [] rfl rfl (by decide +kernel) (by decide +kernel) (fun u9 H locs hw hP hD hK hS => ?_)
  obtain ⟨rfl⟩ := hw
  have hP : va_P D vwCl [(am 18, .inr (11, [.int 0, .ref u_1, .int 0, .int 0, .int 0, .int 200, .ref u_6, .ref u_7, .ref u_8, .ref u_9, .ref u_10, .int 0, .int 0, .int 0, .int u_14, .int 0, .int 0, .long u_17, .int u_18, .int u_19, .int u_20, .ref u_21, .ref u_22, .int u_23, .int u_24, .int u_25, .int u_26, .ref u_27, .int u_28, .ref u_29, .int u_30, .int u_31, .ref u_32, .int u_33, .ref u_34, .ref u_35, .int u_36, .int u_37, .ref u_38, .int u_39, .int u_40, .int u_41, .ref u_42, .int u_43, .ref u_44, .int 0, .int 0, .int 0, .int 1, .int 0, .ref u_50, .ref u_51, .ref u_52, .ref u_53]))] H := hP
  have hD : va_D A [(am 18, .inr (11, [.int 0, .ref u_1, .int 0, .int 0, .int 0, .int 200, .ref u_6, .ref u_7, .ref u_8, .ref u_9, .ref u_10, .int 0, .int 0, .int 0, .int u_14, .int 0, .int 0, .long u_17, .int u_18, .int u_19, .int u_20, .ref u_21, .ref u_22, .int u_23, .int u_24, .int u_25, .int u_26, .ref u_27, .int u_28, .ref u_29, .int u_30, .int u_31, .ref u_32, .int u_33, .ref u_34, .ref u_35, .int u_36, .int u_37, .ref u_38, .int u_39, .int u_40, .int u_41, .ref u_42, .int u_43, .ref u_44, .int 0, .int 0, .int 0, .int 1, .int 0, .ref u_50, .ref u_51, .ref u_52, .ref u_53]))] := hD
  have hK : va_K D vwCl [] s := hK
  refine W.cs (cells' := 0) (slots' := 0) rfl rfl ?_
  refine lv_iconst (v := 1) hx hb dX12_sentence_46 (by decide) ?_
  refine lv_istore_n (lv' := [(1, .int 1), (0, .ref (am 18))]) hx hb dX12_sentence_47 rfl hl (by decide) rfl (fun ls hl => ?_)
  refine lv_iload_n hx hb dX12_sentence_48 rfl (lv_at hl 0 rfl) ?_
  refine lv_if_eq (tgt := 132) hx hb dX12_sentence_49 (by decide) (fun h9 => absurd h9 (by decide)) (fun _ => ?_)
  refine lv_aload_n hx hb dX12_sentence_52 rfl (lv_at hl 1 rfl) ?_
  refine va_get (D := D) (ci := 11) (v := .int 0) (C := RX12) (T := TX12) (N := 54) hx hb hts hiX12 hown hK hP 0 rfl rfl 49 (by decide) (hts _ (List.mem_of_getElem? (i := 7) rfl)) (fun _ h9 => h9) rfl dX12_sentence_53 ?_
  refine lv_if_eq (tgt := 101) hx hb dX12_sentence_56 (by decide) (fun _ => ?_) (fun h9 => absurd (by decide) h9)
  refine lv_aload_n hx hb dX12_sentence_101 rfl (lv_at hl 1 rfl) ?_
  refine va_get (D := D) (ci := 11) (v := .int 0) (C := RX12) (T := TX12) (N := 54) hx hb hts hiX12 hown hK hP 0 rfl rfl 49 (by decide) (hts _ (List.mem_of_getElem? (i := 7) rfl)) (fun _ h9 => h9) rfl dX12_sentence_102 ?_
  refine lv_if_eq (tgt := 118) hx hb dX12_sentence_105 (by decide) (fun _ => ?_) (fun h9 => absurd (by decide) h9)
  refine lv_aload_n hx hb dX12_sentence_118 rfl (lv_at hl 1 rfl) ?_
  have hc9 := (k_X12_operand l D ad am 0 u_1 0 0 0 200 u_6 u_7 u_8 u_9 u_10 0 u_14 u_17 u_18 u_19 u_20 u_21 u_22 u_23 u_24 u_25 u_26 u_27 u_28 u_29 u_30 u_31 u_32 u_33 u_34 u_35 u_36 u_37 u_38 u_39 u_40 u_41 u_42 u_43 u_44 0 0 0 1 0 u_50 u_51 u_52 u_53 )
  refine z_calli (w0 := [(am 18, .inr (11, [.int 0, .ref u_1, .int 0, .int 0, .int 0, .int 200, .ref u_6, .ref u_7, .ref u_8, .ref u_9, .ref u_10, .int 0, .int 0, .int 0, .int u_14, .int 0, .int 0, .long u_17, .int u_18, .int u_19, .int u_20, .ref u_21, .ref u_22, .int u_23, .int u_24, .int u_25, .int u_26, .ref u_27, .int u_28, .ref u_29, .int u_30, .int u_31, .ref u_32, .int u_33, .ref u_34, .ref u_35, .int u_36, .int u_37, .ref u_38, .int u_39, .int u_40, .int u_41, .ref u_42, .int u_43, .ref u_44, .int 0, .int 0, .int 0, .int 1, .int 0, .ref u_50, .ref u_51, .ref u_52, .ref u_53]))]) (wr := []) (va_runV (As := []) (rest := []) ⟨hx, hb, hml, hown, hts⟩ (hc9 _) (cwV 0 hts gX12_sentence_X12_operand rfl rfl rfl (by decide +kernel) ⟨Nat.le_of_ble_eq_true rfl, Nat.le_of_ble_eq_true rfl⟩) (z_preV hP hD hK hS hA hE hO [0] [] rfl (by decide +kernel) rfl 0 11 rfl rfl rfl) rfl rfl hl.1 rfl (lv_room (Nat.le_of_ble_eq_true rfl)) dX12_sentence_119 ⟨Nat.le_of_ble_eq_true rfl, Nat.le_of_ble_eq_true rfl⟩) hP hD hK hS hA [0] [] rfl rfl (by decide +kernel) (by decide +kernel) (fun r9 u9 H locs hw hP hD hK hS => ?_)
  obtain ⟨er9, rfl⟩ := hw
  have hP : va_P D vwCl [(am 18, .inr (11, [.int 0, .ref u_1, .int 0, .int 0, .int 0, .int 200, .ref u_6, .ref u_7, .ref u_8, .ref u_9, .ref u_10, .int 0, .int 0, .int 0, .int u_14, .int 1, .int 0, .long u_17, .int u_18, .int u_19, .int u_20, .ref u_21, .ref u_22, .int u_23, .int u_24, .int u_25, .int u_26, .ref u_27, .int u_28, .ref u_29, .int u_30, .int u_31, .ref u_32, .int u_33, .ref u_34, .ref u_35, .int u_36, .int u_37, .ref u_38, .int u_39, .int u_40, .int u_41, .ref u_42, .int u_43, .ref u_44, .int 0, .int 0, .int 0, .int 1, .int 0, .ref u_50, .ref u_51, .ref u_52, .ref u_53]))] H := hP
  have hD : va_D A [(am 18, .inr (11, [.int 0, .ref u_1, .int 0, .int 0, .int 0, .int 200, .ref u_6, .ref u_7, .ref u_8, .ref u_9, .ref u_10, .int 0, .int 0, .int 0, .int u_14, .int 1, .int 0, .long u_17, .int u_18, .int u_19, .int u_20, .ref u_21, .ref u_22, .int u_23, .int u_24, .int u_25, .int u_26, .ref u_27, .int u_28, .ref u_29, .int u_30, .int u_31, .ref u_32, .int u_33, .ref u_34, .ref u_35, .int u_36, .int u_37, .ref u_38, .int u_39, .int u_40, .int u_41, .ref u_42, .int u_43, .ref u_44, .int 0, .int 0, .int 0, .int 1, .int 0, .ref u_50, .ref u_51, .ref u_52, .ref u_53]))] := hD
  have hK : va_K D vwCl [] s := hK
  refine W.cs (cells' := 0) (slots' := 0) rfl rfl ?_
  obtain rfl := er9
  refine W.eq (g2 := F0 m 122 ls (.int 0 :: [])) rfl ?_
  refine lv_if_ne (tgt := 48) hx hb dX12_sentence_122 (by decide) (fun h9 => absurd (by decide) h9) (fun _ => ?_)
  refine lv_iconst (v := (-1)) hx hb dX12_sentence_125 (by decide) ?_
  refine lv_aload_n hx hb dX12_sentence_126 rfl (lv_at hl 1 rfl) ?_
  refine va_get (D := D) (ci := 11) (v := .int 0) (C := RX12) (T := TX12) (N := 54) hx hb hts hiX12 hown hK hP 0 rfl rfl 16 (by decide) (hts _ (List.mem_of_getElem? (i := 9) rfl)) (fun _ h9 => h9) rfl dX12_sentence_127 ?_
  refine lv_isub hx hb dX12_sentence_130 ?_
  refine lv_topi (fun y_1 ey_1 => ?_)
  obtain rfl : y_1 = (-1) := ey_1.trans (by decide)
  refine W.widen (k := 0) (n := 0) (by decide) (by decide) ?_
  exact hret (-1) ([], []) _ _ _ _ dX12_sentence_131 rfl ⟨rfl, rfl⟩ (hP.sub [] rfl) (hK.sub [] rfl) (hD.sub [] (by decide +kernel) rfl) hS

set_option maxHeartbeats 8000000 in
set_option maxRecDepth 100000 in
theorem k_X12_end (l : Launch) (D : va_G) (ad : Nat → Nat) (am : Nat → Nat) (p0 : Int32) (u_1 : Nat) (u_3 : Int32) (u_4 : Int32) (u_5 : Int32) (u_6 : Nat) (u_7 : Nat) (u_8 : Nat) (u_9 : Nat) (u_10 : Nat) (u_11 : Int32) (u_12 : Int32) (u_13 : Int32) (u_14 : Int32) (u_15 : Int32) (u_16 : Int32) (u_17 : Int64) (u_18 : Int32) (u_19 : Int32) (u_20 : Int32) (u_21 : Nat) (u_22 : Nat) (u_23 : Int32) (u_24 : Int32) (u_25 : Int32) (u_26 : Int32) (u_27 : Nat) (u_28 : Int32) (u_29 : Nat) (u_30 : Int32) (u_31 : Int32) (u_32 : Nat) (u_33 : Int32) (u_34 : Nat) (u_35 : Nat) (u_36 : Int32) (u_37 : Int32) (u_38 : Nat) (u_39 : Int32) (u_40 : Int32) (u_41 : Int32) (u_42 : Nat) (u_43 : Int32) (u_44 : Nat) (u_45 : Int32) (u_46 : Int32) (u_47 : Int32) (u_48 : Int32) (u_49 : Int32) (u_50 : Nat) (u_51 : Nat) (u_52 : Nat) (u_53 : Nat)  : z_Mi l yX12_end wsX12_end { frames := 0, cells := 0, slots := 0, locals := 0 } D ad [.ref (am 18), .int p0] [(am 18, .inr (11, [.int 0, .ref u_1, .int 0, .int u_3, .int u_4, .int u_5, .ref u_6, .ref u_7, .ref u_8, .ref u_9, .ref u_10, .int u_11, .int u_12, .int u_13, .int u_14, .int u_15, .int u_16, .long u_17, .int u_18, .int u_19, .int u_20, .ref u_21, .ref u_22, .int u_23, .int u_24, .int u_25, .int u_26, .ref u_27, .int u_28, .ref u_29, .int u_30, .int u_31, .ref u_32, .int u_33, .ref u_34, .ref u_35, .int u_36, .int u_37, .ref u_38, .int u_39, .int u_40, .int u_41, .ref u_42, .int u_43, .ref u_44, .int u_45, .int u_46, .int u_47, .int u_48, .int u_49, .ref u_50, .ref u_51, .ref u_52, .ref u_53]))] [] 0 0 (fun r9 u9 => r9 = s_X12_end p0 ∧ u9 = ([], [])) := by
  refine z_ofI (cc := cX12_end) (maxL := 2) (rt := .boolean) (by decide) rfl (Nat.le_of_ble_eq_true rfl) ?_
  intro p e s m below meth c Q A ls hx hb hml hown hts hin hK hP hD hA hE hO hS hl hret
  have hown : s.vm.findClass RX12 = some m.cls := hown
  have hiX12 : ∀ w ∈ wsX120, w ∈ wsX12_end := fun _ h9 => List.mem_cons_of_mem _ (List.mem_append_right _ h9)
  have hl : lv_has ls 2 [(0, .ref (am 18)), (1, .int p0)] := hl
  refine lv_aload_n hx hb dX12_end_0 rfl (lv_at hl 0 rfl) ?_
  refine lv_iconst (v := 0) hx hb dX12_end_1 (by decide) ?_
  refine va_put (D := D) (ci := 11) (v := .int 0) (ty := tyX12 0) (C := RX12) (T := TX12) (N := 54) hx hb hts hiX12 tyX12 tyX12_ok nmX12 hown hK hP hD hS 0 rfl rfl 0 (by decide) (hts _ (List.mem_of_getElem? (i := 1) rfl)) (fun _ h9 => h9) rfl (tyX12_ok 0 (by decide)) rfl rfl (Nat.le_of_ble_eq_true rfl) dX12_end_2 (fun H locs hP hD hS => ?_)
  have hP : va_P D vwCl [(am 18, .inr (11, [.int 0, .ref u_1, .int 0, .int u_3, .int u_4, .int u_5, .ref u_6, .ref u_7, .ref u_8, .ref u_9, .ref u_10, .int u_11, .int u_12, .int u_13, .int u_14, .int u_15, .int u_16, .long u_17, .int u_18, .int u_19, .int u_20, .ref u_21, .ref u_22, .int u_23, .int u_24, .int u_25, .int u_26, .ref u_27, .int u_28, .ref u_29, .int u_30, .int u_31, .ref u_32, .int u_33, .ref u_34, .ref u_35, .int u_36, .int u_37, .ref u_38, .int u_39, .int u_40, .int u_41, .ref u_42, .int u_43, .ref u_44, .int u_45, .int u_46, .int u_47, .int u_48, .int u_49, .ref u_50, .ref u_51, .ref u_52, .ref u_53]))] H := hP
  have hD : va_D A [(am 18, .inr (11, [.int 0, .ref u_1, .int 0, .int u_3, .int u_4, .int u_5, .ref u_6, .ref u_7, .ref u_8, .ref u_9, .ref u_10, .int u_11, .int u_12, .int u_13, .int u_14, .int u_15, .int u_16, .long u_17, .int u_18, .int u_19, .int u_20, .ref u_21, .ref u_22, .int u_23, .int u_24, .int u_25, .int u_26, .ref u_27, .int u_28, .ref u_29, .int u_30, .int u_31, .ref u_32, .int u_33, .ref u_34, .ref u_35, .int u_36, .int u_37, .ref u_38, .int u_39, .int u_40, .int u_41, .ref u_42, .int u_43, .ref u_44, .int u_45, .int u_46, .int u_47, .int u_48, .int u_49, .ref u_50, .ref u_51, .ref u_52, .ref u_53]))] := hD
  refine lv_iload_n hx hb dX12_end_5 rfl (lv_at hl 1 rfl) ?_
  refine lv_if_lt (tgt := 17) hx hb dX12_end_6 (by decide) (fun c_1 => ?_) (fun c_1 => ?_)
  · refine lv_iconst (v := 0) hx hb dX12_end_17 (by decide) ?_
    refine W.widen (k := 0) (n := 0) (by decide) (by decide) ?_
    exact hret 0 ([], []) _ _ _ _ dX12_end_18 (by decide) ⟨by unfold s_X12_end; rw [if_pos c_1], rfl⟩ (hP.sub [] rfl) (hK.sub [] rfl) (hD.sub [] (by decide +kernel) rfl) hS
  · refine lv_iload_n hx hb dX12_end_9 rfl (lv_at hl 1 rfl) ?_
    refine lv_aload_n hx hb dX12_end_10 rfl (lv_at hl 0 rfl) ?_
    refine va_get (D := D) (ci := 11) (v := .int 0) (C := RX12) (T := TX12) (N := 54) hx hb hts hiX12 hown hK hP 0 rfl rfl 2 (by decide) (hts _ (List.mem_of_getElem? (i := 2) rfl)) (fun _ h9 => h9) rfl dX12_end_11 ?_
    refine lv_icmp_le (tgt := 19) hx hb dX12_end_14 (by decide) (fun c_2 => ?_) (fun c_2 => ?_)
    · refine lv_aload_n hx hb dX12_end_19 rfl (lv_at hl 0 rfl) ?_
      refine lv_iload_n hx hb dX12_end_20 rfl (lv_at hl 1 rfl) ?_
      refine va_put (D := D) (ci := 11) (v := .int p0) (ty := tyX12 2) (C := RX12) (T := TX12) (N := 54) hx hb hts hiX12 tyX12 tyX12_ok nmX12 hown hK hP hD hS 0 rfl rfl 2 (by decide) (hts _ (List.mem_of_getElem? (i := 2) rfl)) (fun _ h9 => h9) rfl (tyX12_ok 2 (by decide)) rfl rfl (Nat.le_of_ble_eq_true rfl) dX12_end_21 (fun H locs hP hD hS => ?_)
      have hP : va_P D vwCl [(am 18, .inr (11, [.int 0, .ref u_1, .int p0, .int u_3, .int u_4, .int u_5, .ref u_6, .ref u_7, .ref u_8, .ref u_9, .ref u_10, .int u_11, .int u_12, .int u_13, .int u_14, .int u_15, .int u_16, .long u_17, .int u_18, .int u_19, .int u_20, .ref u_21, .ref u_22, .int u_23, .int u_24, .int u_25, .int u_26, .ref u_27, .int u_28, .ref u_29, .int u_30, .int u_31, .ref u_32, .int u_33, .ref u_34, .ref u_35, .int u_36, .int u_37, .ref u_38, .int u_39, .int u_40, .int u_41, .ref u_42, .int u_43, .ref u_44, .int u_45, .int u_46, .int u_47, .int u_48, .int u_49, .ref u_50, .ref u_51, .ref u_52, .ref u_53]))] H := hP
      have hD : va_D A [(am 18, .inr (11, [.int 0, .ref u_1, .int p0, .int u_3, .int u_4, .int u_5, .ref u_6, .ref u_7, .ref u_8, .ref u_9, .ref u_10, .int u_11, .int u_12, .int u_13, .int u_14, .int u_15, .int u_16, .long u_17, .int u_18, .int u_19, .int u_20, .ref u_21, .ref u_22, .int u_23, .int u_24, .int u_25, .int u_26, .ref u_27, .int u_28, .ref u_29, .int u_30, .int u_31, .ref u_32, .int u_33, .ref u_34, .ref u_35, .int u_36, .int u_37, .ref u_38, .int u_39, .int u_40, .int u_41, .ref u_42, .int u_43, .ref u_44, .int u_45, .int u_46, .int u_47, .int u_48, .int u_49, .ref u_50, .ref u_51, .ref u_52, .ref u_53]))] := hD
      refine lv_iconst (v := 1) hx hb dX12_end_24 (by decide) ?_
      refine W.widen (k := 0) (n := 0) (by decide) (by decide) ?_
      exact hret 1 ([], []) _ _ _ _ dX12_end_25 (by decide) ⟨by unfold s_X12_end; rw [if_neg c_1, if_pos c_2], rfl⟩ (hP.sub [] rfl) (hK.sub [] rfl) (hD.sub [] (by decide +kernel) rfl) hS
    · refine lv_iconst (v := 0) hx hb dX12_end_17 (by decide) ?_
      refine W.widen (k := 0) (n := 0) (by decide) (by decide) ?_
      exact hret 0 ([], []) _ _ _ _ dX12_end_18 (by decide) ⟨by unfold s_X12_end; rw [if_neg c_1, if_neg c_2], rfl⟩ (hP.sub [] rfl) (hK.sub [] rfl) (hD.sub [] (by decide +kernel) rfl) hS

set_option maxHeartbeats 8000000 in
set_option maxRecDepth 100000 in
theorem k_X12_place (l : Launch) (D : va_G) (ad : Nat → Nat) (am : Nat → Nat) (tm : Nat → ClassId) (p0 : Int32) (p1 : Int32) (u_1 : Nat) (u_2 : Int32) (u_3 : Int32) (u_4 : Int32) (u_5 : Int32) (u_7 : Nat) (u_8 : Nat) (u_9 : Nat) (u_10 : Nat) (u_11 : Int32) (u_12 : Int32) (u_13 : Int32) (u_14 : Int32) (u_15 : Int32) (u_16 : Int32) (u_17 : Int64) (u_18 : Int32) (u_19 : Int32) (u_20 : Int32) (u_21 : Nat) (u_22 : Nat) (u_23 : Int32) (u_24 : Int32) (u_25 : Int32) (u_26 : Int32) (u_27 : Nat) (u_28 : Int32) (u_29 : Nat) (u_30 : Int32) (u_31 : Int32) (u_32 : Nat) (u_33 : Int32) (u_34 : Nat) (u_35 : Nat) (u_36 : Int32) (u_37 : Int32) (u_38 : Nat) (u_39 : Int32) (u_40 : Int32) (u_41 : Int32) (u_42 : Nat) (u_43 : Int32) (u_44 : Nat) (u_45 : Int32) (u_46 : Int32) (u_47 : Int32) (u_48 : Int32) (u_49 : Int32) (u_50 : Nat) (u_51 : Nat) (u_52 : Nat) (u_53 : Nat)  : z_Mi l yX12_place wsX12_place { frames := 2, cells := 0, slots := 0, locals := 43 } D ad [.ref (am 18), .int p0, .int p1] [(am 1, .inl (tm 1, 283, .inl (upd (fun _ => 0) 4 2))), (am 18, .inr (11, [.int 0, .ref u_1, .int u_2, .int u_3, .int u_4, .int u_5, .ref (am 1), .ref u_7, .ref u_8, .ref u_9, .ref u_10, .int u_11, .int u_12, .int u_13, .int u_14, .int u_15, .int u_16, .long u_17, .int u_18, .int u_19, .int u_20, .ref u_21, .ref u_22, .int u_23, .int u_24, .int u_25, .int u_26, .ref u_27, .int u_28, .ref u_29, .int u_30, .int u_31, .ref u_32, .int u_33, .ref u_34, .ref u_35, .int u_36, .int u_37, .ref u_38, .int u_39, .int u_40, .int u_41, .ref u_42, .int u_43, .ref u_44, .int u_45, .int u_46, .int u_47, .int u_48, .int u_49, .ref u_50, .ref u_51, .ref u_52, .ref u_53]))] [(tm 1, .int)] 0 0 (fun r9 u9 => r9 = (-1) ∧ u9 = ([], [])) := by
  refine z_ofI (cc := cX12_place) (maxL := 3) (rt := .int) (by decide) rfl (Nat.le_of_ble_eq_true rfl) ?_
  intro p e s m below meth c Q A ls hx hb hml hown hts hin hK hP hD hA hE hO hS hl hret
  have hown : s.vm.findClass RX12 = some m.cls := hown
  have hiX12 : ∀ w ∈ wsX120, w ∈ wsX12_place := fun _ h9 => List.mem_cons_of_mem _ (List.mem_append_right _ h9)
  have hl : lv_has ls 3 [(0, .ref (am 18)), (1, .int p0), (2, .int p1)] := hl
  refine lv_aload_n hx hb dX12_place_0 rfl (lv_at hl 0 rfl) ?_
  refine lv_iconst (v := 0) hx hb dX12_place_1 (by decide) ?_
  refine va_put (D := D) (ci := 11) (v := .int 0) (ty := tyX12 0) (C := RX12) (T := TX12) (N := 54) hx hb hts hiX12 tyX12 tyX12_ok nmX12 hown hK hP hD hS 1 rfl rfl 0 (by decide) (hts _ (List.mem_of_getElem? (i := 1) rfl)) (fun _ h9 => h9) rfl (tyX12_ok 0 (by decide)) rfl rfl (Nat.le_of_ble_eq_true rfl) dX12_place_2 (fun H locs hP hD hS => ?_)
  have hP : va_P D vwCl [(am 1, .inl (tm 1, 283, .inl (upd (fun _ => 0) 4 2))), (am 18, .inr (11, [.int 0, .ref u_1, .int u_2, .int u_3, .int u_4, .int u_5, .ref (am 1), .ref u_7, .ref u_8, .ref u_9, .ref u_10, .int u_11, .int u_12, .int u_13, .int u_14, .int u_15, .int u_16, .long u_17, .int u_18, .int u_19, .int u_20, .ref u_21, .ref u_22, .int u_23, .int u_24, .int u_25, .int u_26, .ref u_27, .int u_28, .ref u_29, .int u_30, .int u_31, .ref u_32, .int u_33, .ref u_34, .ref u_35, .int u_36, .int u_37, .ref u_38, .int u_39, .int u_40, .int u_41, .ref u_42, .int u_43, .ref u_44, .int u_45, .int u_46, .int u_47, .int u_48, .int u_49, .ref u_50, .ref u_51, .ref u_52, .ref u_53]))] H := hP
  have hD : va_D A [(am 1, .inl (tm 1, 283, .inl (upd (fun _ => 0) 4 2))), (am 18, .inr (11, [.int 0, .ref u_1, .int u_2, .int u_3, .int u_4, .int u_5, .ref (am 1), .ref u_7, .ref u_8, .ref u_9, .ref u_10, .int u_11, .int u_12, .int u_13, .int u_14, .int u_15, .int u_16, .long u_17, .int u_18, .int u_19, .int u_20, .ref u_21, .ref u_22, .int u_23, .int u_24, .int u_25, .int u_26, .ref u_27, .int u_28, .ref u_29, .int u_30, .int u_31, .ref u_32, .int u_33, .ref u_34, .ref u_35, .int u_36, .int u_37, .ref u_38, .int u_39, .int u_40, .int u_41, .ref u_42, .int u_43, .ref u_44, .int u_45, .int u_46, .int u_47, .int u_48, .int u_49, .ref u_50, .ref u_51, .ref u_52, .ref u_53]))] := hD
  refine lv_aload_n hx hb dX12_place_5 rfl (lv_at hl 0 rfl) ?_
  refine lv_iload_n hx hb dX12_place_6 rfl (lv_at hl 1 rfl) ?_
  have hc9 := (k_X12_isPlace l D ad am tm p0 0 u_1 u_2 u_3 u_4 u_5 u_7 u_8 u_9 u_10 u_11 u_12 u_13 u_14 u_15 u_16 u_17 u_18 u_19 u_20 u_21 u_22 u_23 u_24 u_25 u_26 u_27 u_28 u_29 u_30 u_31 u_32 u_33 u_34 u_35 u_36 u_37 u_38 u_39 u_40 u_41 u_42 u_43 u_44 u_45 u_46 u_47 u_48 u_49 u_50 u_51 u_52 u_53 )
  refine z_calli (w0 := [(am 1, .inl (tm 1, 283, .inl (upd (fun _ => 0) 4 2))), (am 18, .inr (11, [.int 0, .ref u_1, .int u_2, .int u_3, .int u_4, .int u_5, .ref (am 1), .ref u_7, .ref u_8, .ref u_9, .ref u_10, .int u_11, .int u_12, .int u_13, .int u_14, .int u_15, .int u_16, .long u_17, .int u_18, .int u_19, .int u_20, .ref u_21, .ref u_22, .int u_23, .int u_24, .int u_25, .int u_26, .ref u_27, .int u_28, .ref u_29, .int u_30, .int u_31, .ref u_32, .int u_33, .ref u_34, .ref u_35, .int u_36, .int u_37, .ref u_38, .int u_39, .int u_40, .int u_41, .ref u_42, .int u_43, .ref u_44, .int u_45, .int u_46, .int u_47, .int u_48, .int u_49, .ref u_50, .ref u_51, .ref u_52, .ref u_53]))]) (wr := []) (va_runV (As := [.int p0]) (rest := []) ⟨hx, hb, hml, hown, hts⟩ (hc9 _) (cwV 1 hts gX12_place_X12_isPlace rfl rfl rfl (by decide +kernel) ⟨Nat.le_of_ble_eq_true rfl, Nat.le_of_ble_eq_true rfl⟩) (z_preV hP hD hK hS hA hE hO [0, 1] [0] rfl (by decide +kernel) rfl 1 11 rfl rfl rfl) rfl rfl hl.1 rfl (lv_room (Nat.le_of_ble_eq_true rfl)) dX12_place_7 ⟨Nat.le_of_ble_eq_true rfl, Nat.le_of_ble_eq_true rfl⟩) hP hD hK hS hA [0, 1] [] rfl rfl (by decide +kernel) (by decide +kernel) (fun r9 u9 H locs hw hP hD hK hS => ?_)
  obtain ⟨er9, rfl⟩ := hw
  have hP : va_P D vwCl [(am 1, .inl (tm 1, 283, .inl (upd (fun _ => 0) 4 2))), (am 18, .inr (11, [.int 0, .ref u_1, .int u_2, .int u_3, .int u_4, .int u_5, .ref (am 1), .ref u_7, .ref u_8, .ref u_9, .ref u_10, .int u_11, .int u_12, .int u_13, .int u_14, .int u_15, .int u_16, .long u_17, .int u_18, .int u_19, .int u_20, .ref u_21, .ref u_22, .int u_23, .int u_24, .int u_25, .int u_26, .ref u_27, .int u_28, .ref u_29, .int u_30, .int u_31, .ref u_32, .int u_33, .ref u_34, .ref u_35, .int u_36, .int u_37, .ref u_38, .int u_39, .int u_40, .int u_41, .ref u_42, .int u_43, .ref u_44, .int u_45, .int u_46, .int u_47, .int u_48, .int u_49, .ref u_50, .ref u_51, .ref u_52, .ref u_53]))] H := hP
  have hD : va_D A [(am 1, .inl (tm 1, 283, .inl (upd (fun _ => 0) 4 2))), (am 18, .inr (11, [.int 0, .ref u_1, .int u_2, .int u_3, .int u_4, .int u_5, .ref (am 1), .ref u_7, .ref u_8, .ref u_9, .ref u_10, .int u_11, .int u_12, .int u_13, .int u_14, .int u_15, .int u_16, .long u_17, .int u_18, .int u_19, .int u_20, .ref u_21, .ref u_22, .int u_23, .int u_24, .int u_25, .int u_26, .ref u_27, .int u_28, .ref u_29, .int u_30, .int u_31, .ref u_32, .int u_33, .ref u_34, .ref u_35, .int u_36, .int u_37, .ref u_38, .int u_39, .int u_40, .int u_41, .ref u_42, .int u_43, .ref u_44, .int u_45, .int u_46, .int u_47, .int u_48, .int u_49, .ref u_50, .ref u_51, .ref u_52, .ref u_53]))] := hD
  have hK : va_K D vwCl [(tm 1, .int)] s := hK
  refine W.cs (cells' := 0) (slots' := 0) rfl rfl ?_
  obtain rfl := er9
  refine W.eq (g2 := F0 m 10 ls (.int 0 :: [])) rfl ?_
  refine lv_if_ne (tgt := 15) hx hb dX12_place_10 (by decide) (fun h9 => absurd (by decide) h9) (fun _ => ?_)
  refine lv_iconst (v := (-1)) hx hb dX12_place_13 (by decide) ?_
  refine W.widen (k := 0) (n := 0) (by decide) (by decide) ?_
  exact hret (-1) ([], []) _ _ _ _ dX12_place_14 rfl ⟨rfl, rfl⟩ (hP.sub [] rfl) (hK.sub [] rfl) (hD.sub [] (by decide +kernel) rfl) hS

set_option maxHeartbeats 8000000 in
set_option maxRecDepth 100000 in
theorem k_X12_now (l : Launch) (D : va_G) (ad : Nat → Nat) (am : Nat → Nat) (tm : Nat → ClassId) (p0 : Int32) (u_1 : Nat) (u_2 : Int32) (u_3 : Int32) (u_4 : Int32) (u_5 : Int32) (u_7 : Nat) (u_8 : Nat) (u_9 : Nat) (u_10 : Nat) (u_11 : Int32) (u_12 : Int32) (u_13 : Int32) (u_14 : Int32) (u_15 : Int32) (u_16 : Int32) (u_17 : Int64) (u_18 : Int32) (u_19 : Int32) (u_20 : Int32) (u_21 : Nat) (u_22 : Nat) (u_23 : Int32) (u_24 : Int32) (u_25 : Int32) (u_26 : Int32) (u_27 : Nat) (u_28 : Int32) (u_29 : Nat) (u_30 : Int32) (u_31 : Int32) (u_32 : Nat) (u_33 : Int32) (u_34 : Nat) (u_35 : Nat) (u_36 : Int32) (u_37 : Int32) (u_38 : Nat) (u_39 : Int32) (u_40 : Int32) (u_41 : Int32) (u_42 : Nat) (u_43 : Int32) (u_44 : Nat) (u_45 : Int32) (u_46 : Int32) (u_47 : Int32) (u_48 : Int32) (u_49 : Int32) (u_50 : Nat) (u_51 : Nat) (u_52 : Nat) (u_53 : Nat)  : z_Mi l yX12_now wsX12_now { frames := 1, cells := 0, slots := 0, locals := 22 } D ad [.ref (am 18), .int p0] [(am 1, .inl (tm 1, 283, .inl (upd (fun _ => 0) 4 2))), (am 18, .inr (11, [.int 0, .ref u_1, .int u_2, .int u_3, .int u_4, .int u_5, .ref (am 1), .ref u_7, .ref u_8, .ref u_9, .ref u_10, .int u_11, .int u_12, .int u_13, .int u_14, .int u_15, .int u_16, .long u_17, .int u_18, .int u_19, .int u_20, .ref u_21, .ref u_22, .int u_23, .int u_24, .int u_25, .int u_26, .ref u_27, .int u_28, .ref u_29, .int u_30, .int u_31, .ref u_32, .int u_33, .ref u_34, .ref u_35, .int u_36, .int u_37, .ref u_38, .int u_39, .int u_40, .int u_41, .ref u_42, .int u_43, .ref u_44, .int u_45, .int u_46, .int u_47, .int u_48, .int u_49, .ref u_50, .ref u_51, .ref u_52, .ref u_53]))] [(tm 1, .int)] 0 0 (fun r9 u9 => r9 = s_X12_now p0 ∧ u9 = ([], [])) := by
  refine z_ofI (cc := cX12_now) (maxL := 6) (rt := .int) (by decide) rfl (Nat.le_of_ble_eq_true rfl) ?_
  intro p e s m below meth c Q A ls hx hb hml hown hts hin hK hP hD hA hE hO hS hl hret
  have hown : s.vm.findClass RX12 = some m.cls := hown
  have hiX12 : ∀ w ∈ wsX120, w ∈ wsX12_now := fun _ h9 => List.mem_cons_of_mem _ (List.mem_append_right _ h9)
  have hl : lv_has ls 6 [(0, .ref (am 18)), (1, .int p0)] := hl
  refine lv_aload_n hx hb dX12_now_0 rfl (lv_at hl 0 rfl) ?_
  refine lv_iconst (v := 0) hx hb dX12_now_1 (by decide) ?_
  refine va_put (D := D) (ci := 11) (v := .int 0) (ty := tyX12 0) (C := RX12) (T := TX12) (N := 54) hx hb hts hiX12 tyX12 tyX12_ok nmX12 hown hK hP hD hS 1 rfl rfl 0 (by decide) (hts _ (List.mem_of_getElem? (i := 1) rfl)) (fun _ h9 => h9) rfl (tyX12_ok 0 (by decide)) rfl rfl (Nat.le_of_ble_eq_true rfl) dX12_now_2 (fun H locs hP hD hS => ?_)
  have hP : va_P D vwCl [(am 1, .inl (tm 1, 283, .inl (upd (fun _ => 0) 4 2))), (am 18, .inr (11, [.int 0, .ref u_1, .int u_2, .int u_3, .int u_4, .int u_5, .ref (am 1), .ref u_7, .ref u_8, .ref u_9, .ref u_10, .int u_11, .int u_12, .int u_13, .int u_14, .int u_15, .int u_16, .long u_17, .int u_18, .int u_19, .int u_20, .ref u_21, .ref u_22, .int u_23, .int u_24, .int u_25, .int u_26, .ref u_27, .int u_28, .ref u_29, .int u_30, .int u_31, .ref u_32, .int u_33, .ref u_34, .ref u_35, .int u_36, .int u_37, .ref u_38, .int u_39, .int u_40, .int u_41, .ref u_42, .int u_43, .ref u_44, .int u_45, .int u_46, .int u_47, .int u_48, .int u_49, .ref u_50, .ref u_51, .ref u_52, .ref u_53]))] H := hP
  have hD : va_D A [(am 1, .inl (tm 1, 283, .inl (upd (fun _ => 0) 4 2))), (am 18, .inr (11, [.int 0, .ref u_1, .int u_2, .int u_3, .int u_4, .int u_5, .ref (am 1), .ref u_7, .ref u_8, .ref u_9, .ref u_10, .int u_11, .int u_12, .int u_13, .int u_14, .int u_15, .int u_16, .long u_17, .int u_18, .int u_19, .int u_20, .ref u_21, .ref u_22, .int u_23, .int u_24, .int u_25, .int u_26, .ref u_27, .int u_28, .ref u_29, .int u_30, .int u_31, .ref u_32, .int u_33, .ref u_34, .ref u_35, .int u_36, .int u_37, .ref u_38, .int u_39, .int u_40, .int u_41, .ref u_42, .int u_43, .ref u_44, .int u_45, .int u_46, .int u_47, .int u_48, .int u_49, .ref u_50, .ref u_51, .ref u_52, .ref u_53]))] := hD
  refine lv_iconst (v := 0) hx hb dX12_now_5 (by decide) ?_
  refine lv_istore_n (lv' := [(2, .int 0), (0, .ref (am 18)), (1, .int p0)]) hx hb dX12_now_6 rfl hl (by decide) rfl (fun ls hl => ?_)
  refine lv_iconst (v := 0) hx hb dX12_now_7 (by decide) ?_
  refine lv_istore_n (lv' := [(3, .int 0), (2, .int 0), (0, .ref (am 18)), (1, .int p0)]) hx hb dX12_now_8 rfl hl (by decide) rfl (fun ls hl => ?_)
  refine lv_iconst (v := 0) hx hb dX12_now_9 (by decide) ?_
  refine lv_istore (lv' := [(4, .int 0), (3, .int 0), (2, .int 0), (0, .ref (am 18)), (1, .int p0)]) hx hb dX12_now_10 hl (by decide) rfl (fun ls hl => ?_)
  refine lv_iconst (v := 0) hx hb dX12_now_12 (by decide) ?_
  refine lv_istore (lv' := [(5, .int 0), (4, .int 0), (3, .int 0), (2, .int 0), (0, .ref (am 18)), (1, .int p0)]) hx hb dX12_now_13 hl (by decide) rfl (fun ls hl => ?_)
  refine lv_iload hx hb dX12_now_15 (lv_at hl 0 rfl) ?_
  refine lv_aload_n hx hb dX12_now_17 rfl (lv_at hl 4 rfl) ?_
  refine va_get (D := D) (ci := 11) (v := .ref (am 1)) (C := RX12) (T := TX12) (N := 54) hx hb hts hiX12 hown hK hP 1 rfl rfl 6 (by decide) (hts _ (List.mem_of_getElem? (i := 2) rfl)) (fun _ h9 => h9) rfl dX12_now_18 ?_
  refine lv_iconst (v := 3) hx hb dX12_now_21 (by decide) ?_
  refine va_iald hx hb hK hP 0 0 rfl rfl (show ¬ (_ ∨ _) by decide) dX12_now_22 ?_
  refine W.eq (g2 := F0 m 23 ls (.int 0 :: [.int 0])) rfl ?_
  refine lv_icmp_ge (tgt := 56) hx hb dX12_now_23 (by decide) (fun _ => ?_) (fun h9 => absurd (by decide) h9)
  refine lv_iconst (v := 0) hx hb dX12_now_56 (by decide) ?_
  refine lv_istore (lv' := [(5, .int 0), (4, .int 0), (3, .int 0), (2, .int 0), (0, .ref (am 18)), (1, .int p0)]) hx hb dX12_now_57 hl (by decide) rfl (fun ls hl => ?_)
  refine lv_iload hx hb dX12_now_59 (lv_at hl 0 rfl) ?_
  refine lv_aload_n hx hb dX12_now_61 rfl (lv_at hl 4 rfl) ?_
  refine va_get (D := D) (ci := 11) (v := .ref (am 1)) (C := RX12) (T := TX12) (N := 54) hx hb hts hiX12 hown hK hP 1 rfl rfl 6 (by decide) (hts _ (List.mem_of_getElem? (i := 2) rfl)) (fun _ h9 => h9) rfl dX12_now_62 ?_
  refine lv_iconst (v := 1) hx hb dX12_now_65 (by decide) ?_
  refine va_iald hx hb hK hP 0 0 rfl rfl (show ¬ (_ ∨ _) by decide) dX12_now_66 ?_
  refine W.eq (g2 := F0 m 67 ls (.int 0 :: [.int 0])) rfl ?_
  refine lv_icmp_ge (tgt := 107) hx hb dX12_now_67 (by decide) (fun _ => ?_) (fun h9 => absurd (by decide) h9)
  refine lv_iload_n hx hb dX12_now_107 rfl (lv_at hl 5 rfl) ?_
  by_cases c_1 : p0 = 0
  · refine lv_tableIn (tgt := 156) hx hb dX12_now_108 (by rw [c_1]; decide) (by rw [c_1]; decide) (by rw [c_1]; rfl) (by decide) ?_
    refine lv_aload_n hx hb dX12_now_156 rfl (lv_at hl 4 rfl) ?_
    refine va_get (D := D) (ci := 11) (v := .ref (am 1)) (C := RX12) (T := TX12) (N := 54) hx hb hts hiX12 hown hK hP 1 rfl rfl 6 (by decide) (hts _ (List.mem_of_getElem? (i := 2) rfl)) (fun _ h9 => h9) rfl dX12_now_157 ?_
    refine lv_bipush (v := 67) hx hb dX12_now_160 (by decide) ?_
    refine va_iald hx hb hK hP 0 0 rfl rfl (show ¬ (_ ∨ _) by decide) dX12_now_162 ?_
    refine W.eq (g2 := F0 m 163 ls (.int 0 :: [])) rfl ?_
    refine W.widen (k := 0) (n := 0) (by decide) (by decide) ?_
    exact hret 0 ([], []) _ _ _ _ dX12_now_163 rfl ⟨by unfold s_X12_now; rw [if_pos c_1], rfl⟩ (hP.sub [] rfl) (hK.sub [] rfl) (hD.sub [] (by decide +kernel) rfl) hS
  · skip
    by_cases c_2 : p0 = 1
    · refine lv_tableIn (tgt := 164) hx hb dX12_now_108 (by rw [c_2]; decide) (by rw [c_2]; decide) (by rw [c_2]; rfl) (by decide) ?_
      refine lv_aload_n hx hb dX12_now_164 rfl (lv_at hl 4 rfl) ?_
      have hc9 := (k_X12_openSet l D ad am tm 0 u_1 u_2 u_3 u_4 u_5 u_7 u_8 u_9 u_10 u_11 u_12 u_13 u_14 u_15 u_16 u_17 u_18 u_19 u_20 u_21 u_22 u_23 u_24 u_25 u_26 u_27 u_28 u_29 u_30 u_31 u_32 u_33 u_34 u_35 u_36 u_37 u_38 u_39 u_40 u_41 u_42 u_43 u_44 u_45 u_46 u_47 u_48 u_49 u_50 u_51 u_52 u_53 )
      refine z_calli (w0 := [(am 1, .inl (tm 1, 283, .inl (upd (fun _ => 0) 4 2))), (am 18, .inr (11, [.int 0, .ref u_1, .int u_2, .int u_3, .int u_4, .int u_5, .ref (am 1), .ref u_7, .ref u_8, .ref u_9, .ref u_10, .int u_11, .int u_12, .int u_13, .int u_14, .int u_15, .int u_16, .long u_17, .int u_18, .int u_19, .int u_20, .ref u_21, .ref u_22, .int u_23, .int u_24, .int u_25, .int u_26, .ref u_27, .int u_28, .ref u_29, .int u_30, .int u_31, .ref u_32, .int u_33, .ref u_34, .ref u_35, .int u_36, .int u_37, .ref u_38, .int u_39, .int u_40, .int u_41, .ref u_42, .int u_43, .ref u_44, .int u_45, .int u_46, .int u_47, .int u_48, .int u_49, .ref u_50, .ref u_51, .ref u_52, .ref u_53]))]) (wr := []) (va_runV (As := []) (rest := []) ⟨hx, hb, hml, hown, hts⟩ (hc9 _) (cwV 0 hts gX12_now_X12_openSet rfl rfl rfl (by decide +kernel) ⟨Nat.le_of_ble_eq_true rfl, Nat.le_of_ble_eq_true rfl⟩) (z_preV hP hD hK hS hA hE hO [0, 1] [0] rfl (by decide +kernel) rfl 1 11 rfl rfl rfl) rfl rfl hl.1 rfl (lv_room (Nat.le_of_ble_eq_true rfl)) dX12_now_165 ⟨Nat.le_of_ble_eq_true rfl, Nat.le_of_ble_eq_true rfl⟩) hP hD hK hS hA [0, 1] [] rfl rfl (by decide +kernel) (by decide +kernel) (fun r9 u9 H locs hw hP hD hK hS => ?_)
      obtain ⟨er9, rfl⟩ := hw
      have hP : va_P D vwCl [(am 1, .inl (tm 1, 283, .inl (upd (fun _ => 0) 4 2))), (am 18, .inr (11, [.int 0, .ref u_1, .int u_2, .int u_3, .int u_4, .int u_5, .ref (am 1), .ref u_7, .ref u_8, .ref u_9, .ref u_10, .int u_11, .int u_12, .int u_13, .int u_14, .int u_15, .int u_16, .long u_17, .int u_18, .int u_19, .int u_20, .ref u_21, .ref u_22, .int u_23, .int u_24, .int u_25, .int u_26, .ref u_27, .int u_28, .ref u_29, .int u_30, .int u_31, .ref u_32, .int u_33, .ref u_34, .ref u_35, .int u_36, .int u_37, .ref u_38, .int u_39, .int u_40, .int u_41, .ref u_42, .int u_43, .ref u_44, .int u_45, .int u_46, .int u_47, .int u_48, .int u_49, .ref u_50, .ref u_51, .ref u_52, .ref u_53]))] H := hP
      have hD : va_D A [(am 1, .inl (tm 1, 283, .inl (upd (fun _ => 0) 4 2))), (am 18, .inr (11, [.int 0, .ref u_1, .int u_2, .int u_3, .int u_4, .int u_5, .ref (am 1), .ref u_7, .ref u_8, .ref u_9, .ref u_10, .int u_11, .int u_12, .int u_13, .int u_14, .int u_15, .int u_16, .long u_17, .int u_18, .int u_19, .int u_20, .ref u_21, .ref u_22, .int u_23, .int u_24, .int u_25, .int u_26, .ref u_27, .int u_28, .ref u_29, .int u_30, .int u_31, .ref u_32, .int u_33, .ref u_34, .ref u_35, .int u_36, .int u_37, .ref u_38, .int u_39, .int u_40, .int u_41, .ref u_42, .int u_43, .ref u_44, .int u_45, .int u_46, .int u_47, .int u_48, .int u_49, .ref u_50, .ref u_51, .ref u_52, .ref u_53]))] := hD
      have hK : va_K D vwCl [(tm 1, .int)] s := hK
      refine W.cs (cells' := 0) (slots' := 0) rfl rfl ?_
      obtain rfl := er9
      refine W.eq (g2 := F0 m 168 ls (.int 0 :: [])) rfl ?_
      refine W.widen (k := 0) (n := 0) (by decide) (by decide) ?_
      exact hret 0 ([], []) _ _ _ _ dX12_now_168 rfl ⟨by unfold s_X12_now; rw [if_neg c_1, if_pos c_2], rfl⟩ (hP.sub [] rfl) (hK.sub [] rfl) (hD.sub [] (by decide +kernel) rfl) hS
    · skip
      by_cases c_3 : p0 = 2
      · refine lv_tableIn (tgt := 169) hx hb dX12_now_108 (by rw [c_3]; decide) (by rw [c_3]; decide) (by rw [c_3]; rfl) (by decide) ?_
        refine lv_iload_n hx hb dX12_now_169 rfl (lv_at hl 3 rfl) ?_
        refine W.widen (k := 0) (n := 0) (by decide) (by decide) ?_
        exact hret 0 ([], []) _ _ _ _ dX12_now_170 rfl ⟨by unfold s_X12_now; rw [if_neg c_1, if_neg c_2, if_pos c_3], rfl⟩ (hP.sub [] rfl) (hK.sub [] rfl) (hD.sub [] (by decide +kernel) rfl) hS
      · skip
        by_cases c_4 : p0 = 3
        · refine lv_tableIn (tgt := 171) hx hb dX12_now_108 (by rw [c_4]; decide) (by rw [c_4]; decide) (by rw [c_4]; rfl) (by decide) ?_
          refine lv_iload_n hx hb dX12_now_171 rfl (lv_at hl 2 rfl) ?_
          refine W.widen (k := 0) (n := 0) (by decide) (by decide) ?_
          exact hret 0 ([], []) _ _ _ _ dX12_now_172 rfl ⟨by unfold s_X12_now; rw [if_neg c_1, if_neg c_2, if_neg c_3, if_pos c_4], rfl⟩ (hP.sub [] rfl) (hK.sub [] rfl) (hD.sub [] (by decide +kernel) rfl) hS
        · skip
          by_cases c_5 : p0 = 4
          · refine lv_tableIn (tgt := 173) hx hb dX12_now_108 (by rw [c_5]; decide) (by rw [c_5]; decide) (by rw [c_5]; rfl) (by decide) ?_
            refine lv_iload hx hb dX12_now_173 (lv_at hl 1 rfl) ?_
            refine W.widen (k := 0) (n := 0) (by decide) (by decide) ?_
            exact hret 0 ([], []) _ _ _ _ dX12_now_175 rfl ⟨by unfold s_X12_now; rw [if_neg c_1, if_neg c_2, if_neg c_3, if_neg c_4, if_pos c_5], rfl⟩ (hP.sub [] rfl) (hK.sub [] rfl) (hD.sub [] (by decide +kernel) rfl) hS
          · skip
            by_cases c_6 : p0 = 5
            · refine lv_tableIn (tgt := 176) hx hb dX12_now_108 (by rw [c_6]; decide) (by rw [c_6]; decide) (by rw [c_6]; rfl) (by decide) ?_
              refine lv_aload_n hx hb dX12_now_176 rfl (lv_at hl 4 rfl) ?_
              refine va_get (D := D) (ci := 11) (v := .ref (am 1)) (C := RX12) (T := TX12) (N := 54) hx hb hts hiX12 hown hK hP 1 rfl rfl 6 (by decide) (hts _ (List.mem_of_getElem? (i := 2) rfl)) (fun _ h9 => h9) rfl dX12_now_177 ?_
              refine lv_bipush (v := 101) hx hb dX12_now_180 (by decide) ?_
              refine va_iald hx hb hK hP 0 0 rfl rfl (show ¬ (_ ∨ _) by decide) dX12_now_182 ?_
              refine W.eq (g2 := F0 m 183 ls (.int 0 :: [])) rfl ?_
              have hc9 := (k_X12_bits l D ad  )
              refine z_calli (w0 := []) (wr := [(am 1, .inl (tm 1, 283, .inl (upd (fun _ => 0) 4 2))), (am 18, .inr (11, [.int 0, .ref u_1, .int u_2, .int u_3, .int u_4, .int u_5, .ref (am 1), .ref u_7, .ref u_8, .ref u_9, .ref u_10, .int u_11, .int u_12, .int u_13, .int u_14, .int u_15, .int u_16, .long u_17, .int u_18, .int u_19, .int u_20, .ref u_21, .ref u_22, .int u_23, .int u_24, .int u_25, .int u_26, .ref u_27, .int u_28, .ref u_29, .int u_30, .int u_31, .ref u_32, .int u_33, .ref u_34, .ref u_35, .int u_36, .int u_37, .ref u_38, .int u_39, .int u_40, .int u_41, .ref u_42, .int u_43, .ref u_44, .int u_45, .int u_46, .int u_47, .int u_48, .int u_49, .ref u_50, .ref u_51, .ref u_52, .ref u_53]))]) (va_runS (As := [.int 0]) (rest := []) ⟨hx, hb, hml, hown, hts⟩ (hc9 _) (va_cwS 1 hts gX12_now_X12_bits rfl rfl rfl (by decide +kernel) ⟨Nat.le_of_ble_eq_true rfl, Nat.le_of_ble_eq_true rfl⟩) (z_preS hP hD hK hS hA hE hO [] [] rfl (by decide +kernel) rfl) rfl rfl hl.1 rfl (lv_room (Nat.le_of_ble_eq_true rfl)) dX12_now_183 ⟨Nat.le_of_ble_eq_true rfl, Nat.le_of_ble_eq_true rfl⟩) hP hD hK hS hA [] [0, 1] rfl rfl (by decide +kernel) (by decide +kernel) (fun r9 u9 H locs hw hP hD hK hS => ?_)
              obtain ⟨er9, rfl⟩ := hw
              have hP : va_P D vwCl [(am 1, .inl (tm 1, 283, .inl (upd (fun _ => 0) 4 2))), (am 18, .inr (11, [.int 0, .ref u_1, .int u_2, .int u_3, .int u_4, .int u_5, .ref (am 1), .ref u_7, .ref u_8, .ref u_9, .ref u_10, .int u_11, .int u_12, .int u_13, .int u_14, .int u_15, .int u_16, .long u_17, .int u_18, .int u_19, .int u_20, .ref u_21, .ref u_22, .int u_23, .int u_24, .int u_25, .int u_26, .ref u_27, .int u_28, .ref u_29, .int u_30, .int u_31, .ref u_32, .int u_33, .ref u_34, .ref u_35, .int u_36, .int u_37, .ref u_38, .int u_39, .int u_40, .int u_41, .ref u_42, .int u_43, .ref u_44, .int u_45, .int u_46, .int u_47, .int u_48, .int u_49, .ref u_50, .ref u_51, .ref u_52, .ref u_53]))] H := hP
              have hD : va_D A [(am 1, .inl (tm 1, 283, .inl (upd (fun _ => 0) 4 2))), (am 18, .inr (11, [.int 0, .ref u_1, .int u_2, .int u_3, .int u_4, .int u_5, .ref (am 1), .ref u_7, .ref u_8, .ref u_9, .ref u_10, .int u_11, .int u_12, .int u_13, .int u_14, .int u_15, .int u_16, .long u_17, .int u_18, .int u_19, .int u_20, .ref u_21, .ref u_22, .int u_23, .int u_24, .int u_25, .int u_26, .ref u_27, .int u_28, .ref u_29, .int u_30, .int u_31, .ref u_32, .int u_33, .ref u_34, .ref u_35, .int u_36, .int u_37, .ref u_38, .int u_39, .int u_40, .int u_41, .ref u_42, .int u_43, .ref u_44, .int u_45, .int u_46, .int u_47, .int u_48, .int u_49, .ref u_50, .ref u_51, .ref u_52, .ref u_53]))] := hD
              have hK : va_K D vwCl [(tm 1, .int)] s := hK
              refine W.cs (cells' := 0) (slots' := 0) rfl rfl ?_
              obtain rfl := er9
              refine W.eq (g2 := F0 m 186 ls (.int 0 :: [])) rfl ?_
              refine W.widen (k := 0) (n := 0) (by decide) (by decide) ?_
              exact hret 0 ([], []) _ _ _ _ dX12_now_186 rfl ⟨by unfold s_X12_now; rw [if_neg c_1, if_neg c_2, if_neg c_3, if_neg c_4, if_neg c_5, if_pos c_6], rfl⟩ (hP.sub [] rfl) (hK.sub [] rfl) (hD.sub [] (by decide +kernel) rfl) hS
            · skip
              by_cases c_7 : p0 = 6
              · refine lv_tableIn (tgt := 187) hx hb dX12_now_108 (by rw [c_7]; decide) (by rw [c_7]; decide) (by rw [c_7]; rfl) (by decide) ?_
                refine lv_aload_n hx hb dX12_now_187 rfl (lv_at hl 4 rfl) ?_
                have hc9 := (k_X12_weptByAll l D ad am tm (upd (fun _ => 0) 4 2) 0 u_1 u_2 u_3 u_4 u_5 u_7 u_8 u_9 u_10 u_11 u_12 u_13 u_14 u_15 u_16 u_17 u_18 u_19 u_20 u_21 u_22 u_23 u_24 u_25 u_26 u_27 u_28 u_29 u_30 u_31 u_32 u_33 u_34 u_35 u_36 u_37 u_38 u_39 u_40 u_41 u_42 u_43 u_44 u_45 u_46 u_47 u_48 u_49 u_50 u_51 u_52 u_53 (rfl))
                refine z_calli (w0 := [(am 1, .inl (tm 1, 283, .inl (upd (fun _ => 0) 4 2))), (am 18, .inr (11, [.int 0, .ref u_1, .int u_2, .int u_3, .int u_4, .int u_5, .ref (am 1), .ref u_7, .ref u_8, .ref u_9, .ref u_10, .int u_11, .int u_12, .int u_13, .int u_14, .int u_15, .int u_16, .long u_17, .int u_18, .int u_19, .int u_20, .ref u_21, .ref u_22, .int u_23, .int u_24, .int u_25, .int u_26, .ref u_27, .int u_28, .ref u_29, .int u_30, .int u_31, .ref u_32, .int u_33, .ref u_34, .ref u_35, .int u_36, .int u_37, .ref u_38, .int u_39, .int u_40, .int u_41, .ref u_42, .int u_43, .ref u_44, .int u_45, .int u_46, .int u_47, .int u_48, .int u_49, .ref u_50, .ref u_51, .ref u_52, .ref u_53]))]) (wr := []) (va_runV (As := []) (rest := []) ⟨hx, hb, hml, hown, hts⟩ (hc9 _) (cwV 0 hts gX12_now_X12_weptByAll rfl rfl rfl (by decide +kernel) ⟨Nat.le_of_ble_eq_true rfl, Nat.le_of_ble_eq_true rfl⟩) (z_preV hP hD hK hS hA hE hO [0, 1] [0] rfl (by decide +kernel) rfl 1 11 rfl rfl rfl) rfl rfl hl.1 rfl (lv_room (Nat.le_of_ble_eq_true rfl)) dX12_now_188 ⟨Nat.le_of_ble_eq_true rfl, Nat.le_of_ble_eq_true rfl⟩) hP hD hK hS hA [0, 1] [] rfl rfl (by decide +kernel) (by decide +kernel) (fun r9 u9 H locs hw hP hD hK hS => ?_)
                obtain ⟨er9, rfl⟩ := hw
                have hP : va_P D vwCl [(am 1, .inl (tm 1, 283, .inl (upd (fun _ => 0) 4 2))), (am 18, .inr (11, [.int 0, .ref u_1, .int u_2, .int u_3, .int u_4, .int u_5, .ref (am 1), .ref u_7, .ref u_8, .ref u_9, .ref u_10, .int u_11, .int u_12, .int u_13, .int u_14, .int u_15, .int u_16, .long u_17, .int u_18, .int u_19, .int u_20, .ref u_21, .ref u_22, .int u_23, .int u_24, .int u_25, .int u_26, .ref u_27, .int u_28, .ref u_29, .int u_30, .int u_31, .ref u_32, .int u_33, .ref u_34, .ref u_35, .int u_36, .int u_37, .ref u_38, .int u_39, .int u_40, .int u_41, .ref u_42, .int u_43, .ref u_44, .int u_45, .int u_46, .int u_47, .int u_48, .int u_49, .ref u_50, .ref u_51, .ref u_52, .ref u_53]))] H := hP
                have hD : va_D A [(am 1, .inl (tm 1, 283, .inl (upd (fun _ => 0) 4 2))), (am 18, .inr (11, [.int 0, .ref u_1, .int u_2, .int u_3, .int u_4, .int u_5, .ref (am 1), .ref u_7, .ref u_8, .ref u_9, .ref u_10, .int u_11, .int u_12, .int u_13, .int u_14, .int u_15, .int u_16, .long u_17, .int u_18, .int u_19, .int u_20, .ref u_21, .ref u_22, .int u_23, .int u_24, .int u_25, .int u_26, .ref u_27, .int u_28, .ref u_29, .int u_30, .int u_31, .ref u_32, .int u_33, .ref u_34, .ref u_35, .int u_36, .int u_37, .ref u_38, .int u_39, .int u_40, .int u_41, .ref u_42, .int u_43, .ref u_44, .int u_45, .int u_46, .int u_47, .int u_48, .int u_49, .ref u_50, .ref u_51, .ref u_52, .ref u_53]))] := hD
                have hK : va_K D vwCl [(tm 1, .int)] s := hK
                refine W.cs (cells' := 0) (slots' := 0) rfl rfl ?_
                obtain rfl := er9
                refine W.eq (g2 := F0 m 191 ls (.int 0 :: [])) rfl ?_
                refine W.widen (k := 0) (n := 0) (by decide) (by decide) ?_
                exact hret 0 ([], []) _ _ _ _ dX12_now_191 rfl ⟨by unfold s_X12_now; rw [if_neg c_1, if_neg c_2, if_neg c_3, if_neg c_4, if_neg c_5, if_neg c_6, if_pos c_7], rfl⟩ (hP.sub [] rfl) (hK.sub [] rfl) (hD.sub [] (by decide +kernel) rfl) hS
              · skip
                by_cases c_8 : p0 = 7
                · refine lv_tableIn (tgt := 192) hx hb dX12_now_108 (by rw [c_8]; decide) (by rw [c_8]; decide) (by rw [c_8]; rfl) (by decide) ?_
                  refine lv_aload_n hx hb dX12_now_192 rfl (lv_at hl 4 rfl) ?_
                  refine va_get (D := D) (ci := 11) (v := .ref (am 1)) (C := RX12) (T := TX12) (N := 54) hx hb hts hiX12 hown hK hP 1 rfl rfl 6 (by decide) (hts _ (List.mem_of_getElem? (i := 2) rfl)) (fun _ h9 => h9) rfl dX12_now_193 ?_
                  refine lv_bipush (v := 68) hx hb dX12_now_196 (by decide) ?_
                  refine va_iald hx hb hK hP 0 0 rfl rfl (show ¬ (_ ∨ _) by decide) dX12_now_198 ?_
                  refine W.eq (g2 := F0 m 199 ls (.int 0 :: [])) rfl ?_
                  refine W.widen (k := 0) (n := 0) (by decide) (by decide) ?_
                  exact hret 0 ([], []) _ _ _ _ dX12_now_199 rfl ⟨by unfold s_X12_now; rw [if_neg c_1, if_neg c_2, if_neg c_3, if_neg c_4, if_neg c_5, if_neg c_6, if_neg c_7, if_pos c_8], rfl⟩ (hP.sub [] rfl) (hK.sub [] rfl) (hD.sub [] (by decide +kernel) rfl) hS
                · skip
                  refine lv_tableOut (tgt := 200) hx hb dX12_now_108 (z_sw (M := 7) (n := 7) (by decide) (fun j hj e9 => by rcases (show j = 0 ∨ j = 1 ∨ j = 2 ∨ j = 3 ∨ j = 4 ∨ j = 5 ∨ j = 6 ∨ j = 7 by omega) with rfl | rfl | rfl | rfl | rfl | rfl | rfl | rfl <;> first | exact c_1 e9 | exact c_2 e9 | exact c_3 e9 | exact c_4 e9 | exact c_5 e9 | exact c_6 e9 | exact c_7 e9 | exact c_8 e9)) (by decide) ?_
                  refine lv_iconst (v := (-1)) hx hb dX12_now_200 (by decide) ?_
                  refine W.widen (k := 0) (n := 0) (by decide) (by decide) ?_
                  exact hret (-1) ([], []) _ _ _ _ dX12_now_201 rfl ⟨by unfold s_X12_now; rw [if_neg c_1, if_neg c_2, if_neg c_3, if_neg c_4, if_neg c_5, if_neg c_6, if_neg c_7, if_neg c_8], rfl⟩ (hP.sub [] rfl) (hK.sub [] rfl) (hD.sub [] (by decide +kernel) rfl) hS

set_option maxHeartbeats 8000000 in
set_option maxRecDepth 100000 in
theorem k_X12_go (l : Launch) (D : va_G) (ad : Nat → Nat) (am : Nat → Nat) (tm : Nat → ClassId) (p0 : Int32) (p1 : Int32) (u_1 : Nat) (u_2 : Int32) (u_3 : Int32) (u_4 : Int32) (u_5 : Int32) (u_7 : Nat) (u_8 : Nat) (u_9 : Nat) (u_10 : Nat) (u_11 : Int32) (u_12 : Int32) (u_13 : Int32) (u_14 : Int32) (u_15 : Int32) (u_16 : Int32) (u_17 : Int64) (u_18 : Int32) (u_19 : Int32) (u_20 : Int32) (u_21 : Nat) (u_22 : Nat) (u_23 : Int32) (u_24 : Int32) (u_25 : Int32) (u_26 : Int32) (u_27 : Nat) (u_28 : Int32) (u_29 : Nat) (u_30 : Int32) (u_31 : Int32) (u_32 : Nat) (u_33 : Int32) (u_34 : Nat) (u_35 : Nat) (u_36 : Int32) (u_37 : Int32) (u_38 : Nat) (u_39 : Int32) (u_40 : Int32) (u_41 : Int32) (u_42 : Nat) (u_43 : Int32) (u_44 : Nat) (u_45 : Int32) (u_46 : Int32) (u_47 : Int32) (u_48 : Int32) (u_49 : Int32) (u_50 : Nat) (u_51 : Nat) (u_52 : Nat) (u_53 : Nat)  : z_Mi l yX12_go wsX12_go { frames := 2, cells := 0, slots := 0, locals := 43 } D ad [.ref (am 18), .int p0, .int p1] [(am 1, .inl (tm 1, 283, .inl (upd (fun _ => 0) 4 2))), (am 18, .inr (11, [.int 0, .ref u_1, .int u_2, .int u_3, .int u_4, .int u_5, .ref (am 1), .ref u_7, .ref u_8, .ref u_9, .ref u_10, .int u_11, .int u_12, .int u_13, .int u_14, .int u_15, .int u_16, .long u_17, .int u_18, .int u_19, .int u_20, .ref u_21, .ref u_22, .int u_23, .int u_24, .int u_25, .int u_26, .ref u_27, .int u_28, .ref u_29, .int u_30, .int u_31, .ref u_32, .int u_33, .ref u_34, .ref u_35, .int u_36, .int u_37, .ref u_38, .int u_39, .int u_40, .int u_41, .ref u_42, .int u_43, .ref u_44, .int u_45, .int u_46, .int u_47, .int u_48, .int u_49, .ref u_50, .ref u_51, .ref u_52, .ref u_53]))] [(tm 1, .int)] 0 0 (fun r9 u9 => r9 = (-1) ∧ u9 = ([], [])) := by
  refine z_ofI (cc := cX12_go) (maxL := 3) (rt := .int) (by decide) rfl (Nat.le_of_ble_eq_true rfl) ?_
  intro p e s m below meth c Q A ls hx hb hml hown hts hin hK hP hD hA hE hO hS hl hret
  have hown : s.vm.findClass RX12 = some m.cls := hown
  have hiX12 : ∀ w ∈ wsX120, w ∈ wsX12_go := fun _ h9 => List.mem_cons_of_mem _ (List.mem_append_right _ h9)
  have hl : lv_has ls 3 [(0, .ref (am 18)), (1, .int p0), (2, .int p1)] := hl
  refine lv_aload_n hx hb dX12_go_0 rfl (lv_at hl 0 rfl) ?_
  refine lv_iconst (v := 0) hx hb dX12_go_1 (by decide) ?_
  refine va_put (D := D) (ci := 11) (v := .int 0) (ty := tyX12 0) (C := RX12) (T := TX12) (N := 54) hx hb hts hiX12 tyX12 tyX12_ok nmX12 hown hK hP hD hS 1 rfl rfl 0 (by decide) (hts _ (List.mem_of_getElem? (i := 1) rfl)) (fun _ h9 => h9) rfl (tyX12_ok 0 (by decide)) rfl rfl (Nat.le_of_ble_eq_true rfl) dX12_go_2 (fun H locs hP hD hS => ?_)
  have hP : va_P D vwCl [(am 1, .inl (tm 1, 283, .inl (upd (fun _ => 0) 4 2))), (am 18, .inr (11, [.int 0, .ref u_1, .int u_2, .int u_3, .int u_4, .int u_5, .ref (am 1), .ref u_7, .ref u_8, .ref u_9, .ref u_10, .int u_11, .int u_12, .int u_13, .int u_14, .int u_15, .int u_16, .long u_17, .int u_18, .int u_19, .int u_20, .ref u_21, .ref u_22, .int u_23, .int u_24, .int u_25, .int u_26, .ref u_27, .int u_28, .ref u_29, .int u_30, .int u_31, .ref u_32, .int u_33, .ref u_34, .ref u_35, .int u_36, .int u_37, .ref u_38, .int u_39, .int u_40, .int u_41, .ref u_42, .int u_43, .ref u_44, .int u_45, .int u_46, .int u_47, .int u_48, .int u_49, .ref u_50, .ref u_51, .ref u_52, .ref u_53]))] H := hP
  have hD : va_D A [(am 1, .inl (tm 1, 283, .inl (upd (fun _ => 0) 4 2))), (am 18, .inr (11, [.int 0, .ref u_1, .int u_2, .int u_3, .int u_4, .int u_5, .ref (am 1), .ref u_7, .ref u_8, .ref u_9, .ref u_10, .int u_11, .int u_12, .int u_13, .int u_14, .int u_15, .int u_16, .long u_17, .int u_18, .int u_19, .int u_20, .ref u_21, .ref u_22, .int u_23, .int u_24, .int u_25, .int u_26, .ref u_27, .int u_28, .ref u_29, .int u_30, .int u_31, .ref u_32, .int u_33, .ref u_34, .ref u_35, .int u_36, .int u_37, .ref u_38, .int u_39, .int u_40, .int u_41, .ref u_42, .int u_43, .ref u_44, .int u_45, .int u_46, .int u_47, .int u_48, .int u_49, .ref u_50, .ref u_51, .ref u_52, .ref u_53]))] := hD
  refine lv_aload_n hx hb dX12_go_5 rfl (lv_at hl 0 rfl) ?_
  refine lv_iload_n hx hb dX12_go_6 rfl (lv_at hl 1 rfl) ?_
  have hc9 := (k_X12_isPerson l D ad am tm p0 0 u_1 u_2 u_3 u_4 u_5 u_7 u_8 u_9 u_10 u_11 u_12 u_13 u_14 u_15 u_16 u_17 u_18 u_19 u_20 u_21 u_22 u_23 u_24 u_25 u_26 u_27 u_28 u_29 u_30 u_31 u_32 u_33 u_34 u_35 u_36 u_37 u_38 u_39 u_40 u_41 u_42 u_43 u_44 u_45 u_46 u_47 u_48 u_49 u_50 u_51 u_52 u_53 )
  refine z_calli (w0 := [(am 1, .inl (tm 1, 283, .inl (upd (fun _ => 0) 4 2))), (am 18, .inr (11, [.int 0, .ref u_1, .int u_2, .int u_3, .int u_4, .int u_5, .ref (am 1), .ref u_7, .ref u_8, .ref u_9, .ref u_10, .int u_11, .int u_12, .int u_13, .int u_14, .int u_15, .int u_16, .long u_17, .int u_18, .int u_19, .int u_20, .ref u_21, .ref u_22, .int u_23, .int u_24, .int u_25, .int u_26, .ref u_27, .int u_28, .ref u_29, .int u_30, .int u_31, .ref u_32, .int u_33, .ref u_34, .ref u_35, .int u_36, .int u_37, .ref u_38, .int u_39, .int u_40, .int u_41, .ref u_42, .int u_43, .ref u_44, .int u_45, .int u_46, .int u_47, .int u_48, .int u_49, .ref u_50, .ref u_51, .ref u_52, .ref u_53]))]) (wr := []) (va_runV (As := [.int p0]) (rest := []) ⟨hx, hb, hml, hown, hts⟩ (hc9 _) (cwV 1 hts gX12_go_X12_isPerson rfl rfl rfl (by decide +kernel) ⟨Nat.le_of_ble_eq_true rfl, Nat.le_of_ble_eq_true rfl⟩) (z_preV hP hD hK hS hA hE hO [0, 1] [0] rfl (by decide +kernel) rfl 1 11 rfl rfl rfl) rfl rfl hl.1 rfl (lv_room (Nat.le_of_ble_eq_true rfl)) dX12_go_7 ⟨Nat.le_of_ble_eq_true rfl, Nat.le_of_ble_eq_true rfl⟩) hP hD hK hS hA [0, 1] [] rfl rfl (by decide +kernel) (by decide +kernel) (fun r9 u9 H locs hw hP hD hK hS => ?_)
  obtain ⟨er9, rfl⟩ := hw
  have hP : va_P D vwCl [(am 1, .inl (tm 1, 283, .inl (upd (fun _ => 0) 4 2))), (am 18, .inr (11, [.int 0, .ref u_1, .int u_2, .int u_3, .int u_4, .int u_5, .ref (am 1), .ref u_7, .ref u_8, .ref u_9, .ref u_10, .int u_11, .int u_12, .int u_13, .int u_14, .int u_15, .int u_16, .long u_17, .int u_18, .int u_19, .int u_20, .ref u_21, .ref u_22, .int u_23, .int u_24, .int u_25, .int u_26, .ref u_27, .int u_28, .ref u_29, .int u_30, .int u_31, .ref u_32, .int u_33, .ref u_34, .ref u_35, .int u_36, .int u_37, .ref u_38, .int u_39, .int u_40, .int u_41, .ref u_42, .int u_43, .ref u_44, .int u_45, .int u_46, .int u_47, .int u_48, .int u_49, .ref u_50, .ref u_51, .ref u_52, .ref u_53]))] H := hP
  have hD : va_D A [(am 1, .inl (tm 1, 283, .inl (upd (fun _ => 0) 4 2))), (am 18, .inr (11, [.int 0, .ref u_1, .int u_2, .int u_3, .int u_4, .int u_5, .ref (am 1), .ref u_7, .ref u_8, .ref u_9, .ref u_10, .int u_11, .int u_12, .int u_13, .int u_14, .int u_15, .int u_16, .long u_17, .int u_18, .int u_19, .int u_20, .ref u_21, .ref u_22, .int u_23, .int u_24, .int u_25, .int u_26, .ref u_27, .int u_28, .ref u_29, .int u_30, .int u_31, .ref u_32, .int u_33, .ref u_34, .ref u_35, .int u_36, .int u_37, .ref u_38, .int u_39, .int u_40, .int u_41, .ref u_42, .int u_43, .ref u_44, .int u_45, .int u_46, .int u_47, .int u_48, .int u_49, .ref u_50, .ref u_51, .ref u_52, .ref u_53]))] := hD
  have hK : va_K D vwCl [(tm 1, .int)] s := hK
  refine W.cs (cells' := 0) (slots' := 0) rfl rfl ?_
  obtain rfl := er9
  refine W.eq (g2 := F0 m 10 ls (.int 0 :: [])) rfl ?_
  refine lv_if_eq (tgt := 21) hx hb dX12_go_10 (by decide) (fun _ => ?_) (fun h9 => absurd (by decide) h9)
  refine lv_iconst (v := (-1)) hx hb dX12_go_21 (by decide) ?_
  refine W.widen (k := 0) (n := 0) (by decide) (by decide) ?_
  exact hret (-1) ([], []) _ _ _ _ dX12_go_22 rfl ⟨rfl, rfl⟩ (hP.sub [] rfl) (hK.sub [] rfl) (hD.sub [] (by decide +kernel) rfl) hS

set_option maxHeartbeats 8000000 in
set_option maxRecDepth 100000 in
theorem k_X12_take (l : Launch) (D : va_G) (ad : Nat → Nat) (am : Nat → Nat) (tm : Nat → ClassId) (p0 : Int32) (p1 : Int32) (u_1 : Nat) (u_2 : Int32) (u_3 : Int32) (u_4 : Int32) (u_5 : Int32) (u_7 : Nat) (u_8 : Nat) (u_9 : Nat) (u_10 : Nat) (u_11 : Int32) (u_12 : Int32) (u_13 : Int32) (u_14 : Int32) (u_15 : Int32) (u_16 : Int32) (u_17 : Int64) (u_18 : Int32) (u_19 : Int32) (u_20 : Int32) (u_21 : Nat) (u_22 : Nat) (u_23 : Int32) (u_24 : Int32) (u_25 : Int32) (u_26 : Int32) (u_27 : Nat) (u_28 : Int32) (u_29 : Nat) (u_30 : Int32) (u_31 : Int32) (u_32 : Nat) (u_33 : Int32) (u_34 : Nat) (u_35 : Nat) (u_36 : Int32) (u_37 : Int32) (u_38 : Nat) (u_39 : Int32) (u_40 : Int32) (u_41 : Int32) (u_42 : Nat) (u_43 : Int32) (u_44 : Nat) (u_45 : Int32) (u_46 : Int32) (u_47 : Int32) (u_48 : Int32) (u_49 : Int32) (u_50 : Nat) (u_51 : Nat) (u_52 : Nat) (u_53 : Nat)  : z_Mi l yX12_take wsX12_take { frames := 2, cells := 0, slots := 0, locals := 43 } D ad [.ref (am 18), .int p0, .int p1] [(am 1, .inl (tm 1, 283, .inl (upd (fun _ => 0) 4 2))), (am 18, .inr (11, [.int 0, .ref u_1, .int u_2, .int u_3, .int u_4, .int u_5, .ref (am 1), .ref u_7, .ref u_8, .ref u_9, .ref u_10, .int u_11, .int u_12, .int u_13, .int u_14, .int u_15, .int u_16, .long u_17, .int u_18, .int u_19, .int u_20, .ref u_21, .ref u_22, .int u_23, .int u_24, .int u_25, .int u_26, .ref u_27, .int u_28, .ref u_29, .int u_30, .int u_31, .ref u_32, .int u_33, .ref u_34, .ref u_35, .int u_36, .int u_37, .ref u_38, .int u_39, .int u_40, .int u_41, .ref u_42, .int u_43, .ref u_44, .int u_45, .int u_46, .int u_47, .int u_48, .int u_49, .ref u_50, .ref u_51, .ref u_52, .ref u_53]))] [(tm 1, .int)] 0 0 (fun r9 u9 => r9 = (-1) ∧ u9 = ([], [])) := by
  refine z_ofI (cc := cX12_take) (maxL := 4) (rt := .int) (by decide) rfl (Nat.le_of_ble_eq_true rfl) ?_
  intro p e s m below meth c Q A ls hx hb hml hown hts hin hK hP hD hA hE hO hS hl hret
  have hown : s.vm.findClass RX12 = some m.cls := hown
  have hiX12 : ∀ w ∈ wsX120, w ∈ wsX12_take := fun _ h9 => List.mem_cons_of_mem _ (List.mem_append_right _ h9)
  have hl : lv_has ls 4 [(0, .ref (am 18)), (1, .int p0), (2, .int p1)] := hl
  refine lv_aload_n hx hb dX12_take_0 rfl (lv_at hl 0 rfl) ?_
  refine lv_iconst (v := 0) hx hb dX12_take_1 (by decide) ?_
  refine va_put (D := D) (ci := 11) (v := .int 0) (ty := tyX12 0) (C := RX12) (T := TX12) (N := 54) hx hb hts hiX12 tyX12 tyX12_ok nmX12 hown hK hP hD hS 1 rfl rfl 0 (by decide) (hts _ (List.mem_of_getElem? (i := 1) rfl)) (fun _ h9 => h9) rfl (tyX12_ok 0 (by decide)) rfl rfl (Nat.le_of_ble_eq_true rfl) dX12_take_2 (fun H locs hP hD hS => ?_)
  have hP : va_P D vwCl [(am 1, .inl (tm 1, 283, .inl (upd (fun _ => 0) 4 2))), (am 18, .inr (11, [.int 0, .ref u_1, .int u_2, .int u_3, .int u_4, .int u_5, .ref (am 1), .ref u_7, .ref u_8, .ref u_9, .ref u_10, .int u_11, .int u_12, .int u_13, .int u_14, .int u_15, .int u_16, .long u_17, .int u_18, .int u_19, .int u_20, .ref u_21, .ref u_22, .int u_23, .int u_24, .int u_25, .int u_26, .ref u_27, .int u_28, .ref u_29, .int u_30, .int u_31, .ref u_32, .int u_33, .ref u_34, .ref u_35, .int u_36, .int u_37, .ref u_38, .int u_39, .int u_40, .int u_41, .ref u_42, .int u_43, .ref u_44, .int u_45, .int u_46, .int u_47, .int u_48, .int u_49, .ref u_50, .ref u_51, .ref u_52, .ref u_53]))] H := hP
  have hD : va_D A [(am 1, .inl (tm 1, 283, .inl (upd (fun _ => 0) 4 2))), (am 18, .inr (11, [.int 0, .ref u_1, .int u_2, .int u_3, .int u_4, .int u_5, .ref (am 1), .ref u_7, .ref u_8, .ref u_9, .ref u_10, .int u_11, .int u_12, .int u_13, .int u_14, .int u_15, .int u_16, .long u_17, .int u_18, .int u_19, .int u_20, .ref u_21, .ref u_22, .int u_23, .int u_24, .int u_25, .int u_26, .ref u_27, .int u_28, .ref u_29, .int u_30, .int u_31, .ref u_32, .int u_33, .ref u_34, .ref u_35, .int u_36, .int u_37, .ref u_38, .int u_39, .int u_40, .int u_41, .ref u_42, .int u_43, .ref u_44, .int u_45, .int u_46, .int u_47, .int u_48, .int u_49, .ref u_50, .ref u_51, .ref u_52, .ref u_53]))] := hD
  refine lv_aload_n hx hb dX12_take_5 rfl (lv_at hl 0 rfl) ?_
  refine lv_iload_n hx hb dX12_take_6 rfl (lv_at hl 1 rfl) ?_
  have hc9 := (k_X12_isPerson l D ad am tm p0 0 u_1 u_2 u_3 u_4 u_5 u_7 u_8 u_9 u_10 u_11 u_12 u_13 u_14 u_15 u_16 u_17 u_18 u_19 u_20 u_21 u_22 u_23 u_24 u_25 u_26 u_27 u_28 u_29 u_30 u_31 u_32 u_33 u_34 u_35 u_36 u_37 u_38 u_39 u_40 u_41 u_42 u_43 u_44 u_45 u_46 u_47 u_48 u_49 u_50 u_51 u_52 u_53 )
  refine z_calli (w0 := [(am 1, .inl (tm 1, 283, .inl (upd (fun _ => 0) 4 2))), (am 18, .inr (11, [.int 0, .ref u_1, .int u_2, .int u_3, .int u_4, .int u_5, .ref (am 1), .ref u_7, .ref u_8, .ref u_9, .ref u_10, .int u_11, .int u_12, .int u_13, .int u_14, .int u_15, .int u_16, .long u_17, .int u_18, .int u_19, .int u_20, .ref u_21, .ref u_22, .int u_23, .int u_24, .int u_25, .int u_26, .ref u_27, .int u_28, .ref u_29, .int u_30, .int u_31, .ref u_32, .int u_33, .ref u_34, .ref u_35, .int u_36, .int u_37, .ref u_38, .int u_39, .int u_40, .int u_41, .ref u_42, .int u_43, .ref u_44, .int u_45, .int u_46, .int u_47, .int u_48, .int u_49, .ref u_50, .ref u_51, .ref u_52, .ref u_53]))]) (wr := []) (va_runV (As := [.int p0]) (rest := []) ⟨hx, hb, hml, hown, hts⟩ (hc9 _) (cwV 1 hts gX12_take_X12_isPerson rfl rfl rfl (by decide +kernel) ⟨Nat.le_of_ble_eq_true rfl, Nat.le_of_ble_eq_true rfl⟩) (z_preV hP hD hK hS hA hE hO [0, 1] [0] rfl (by decide +kernel) rfl 1 11 rfl rfl rfl) rfl rfl hl.1 rfl (lv_room (Nat.le_of_ble_eq_true rfl)) dX12_take_7 ⟨Nat.le_of_ble_eq_true rfl, Nat.le_of_ble_eq_true rfl⟩) hP hD hK hS hA [0, 1] [] rfl rfl (by decide +kernel) (by decide +kernel) (fun r9 u9 H locs hw hP hD hK hS => ?_)
  obtain ⟨er9, rfl⟩ := hw
  have hP : va_P D vwCl [(am 1, .inl (tm 1, 283, .inl (upd (fun _ => 0) 4 2))), (am 18, .inr (11, [.int 0, .ref u_1, .int u_2, .int u_3, .int u_4, .int u_5, .ref (am 1), .ref u_7, .ref u_8, .ref u_9, .ref u_10, .int u_11, .int u_12, .int u_13, .int u_14, .int u_15, .int u_16, .long u_17, .int u_18, .int u_19, .int u_20, .ref u_21, .ref u_22, .int u_23, .int u_24, .int u_25, .int u_26, .ref u_27, .int u_28, .ref u_29, .int u_30, .int u_31, .ref u_32, .int u_33, .ref u_34, .ref u_35, .int u_36, .int u_37, .ref u_38, .int u_39, .int u_40, .int u_41, .ref u_42, .int u_43, .ref u_44, .int u_45, .int u_46, .int u_47, .int u_48, .int u_49, .ref u_50, .ref u_51, .ref u_52, .ref u_53]))] H := hP
  have hD : va_D A [(am 1, .inl (tm 1, 283, .inl (upd (fun _ => 0) 4 2))), (am 18, .inr (11, [.int 0, .ref u_1, .int u_2, .int u_3, .int u_4, .int u_5, .ref (am 1), .ref u_7, .ref u_8, .ref u_9, .ref u_10, .int u_11, .int u_12, .int u_13, .int u_14, .int u_15, .int u_16, .long u_17, .int u_18, .int u_19, .int u_20, .ref u_21, .ref u_22, .int u_23, .int u_24, .int u_25, .int u_26, .ref u_27, .int u_28, .ref u_29, .int u_30, .int u_31, .ref u_32, .int u_33, .ref u_34, .ref u_35, .int u_36, .int u_37, .ref u_38, .int u_39, .int u_40, .int u_41, .ref u_42, .int u_43, .ref u_44, .int u_45, .int u_46, .int u_47, .int u_48, .int u_49, .ref u_50, .ref u_51, .ref u_52, .ref u_53]))] := hD
  have hK : va_K D vwCl [(tm 1, .int)] s := hK
  refine W.cs (cells' := 0) (slots' := 0) rfl rfl ?_
  obtain rfl := er9
  refine W.eq (g2 := F0 m 10 ls (.int 0 :: [])) rfl ?_
  refine lv_if_eq (tgt := 21) hx hb dX12_take_10 (by decide) (fun _ => ?_) (fun h9 => absurd (by decide) h9)
  refine lv_iconst (v := (-1)) hx hb dX12_take_21 (by decide) ?_
  refine W.widen (k := 0) (n := 0) (by decide) (by decide) ?_
  exact hret (-1) ([], []) _ _ _ _ dX12_take_22 rfl ⟨rfl, rfl⟩ (hP.sub [] rfl) (hK.sub [] rfl) (hD.sub [] (by decide +kernel) rfl) hS

set_option maxHeartbeats 8000000 in
set_option maxRecDepth 100000 in
theorem k_X12_leave (l : Launch) (D : va_G) (ad : Nat → Nat) (am : Nat → Nat) (tm : Nat → ClassId) (p0 : Int32) (p1 : Int32) (u_1 : Nat) (u_2 : Int32) (u_3 : Int32) (u_4 : Int32) (u_5 : Int32) (u_7 : Nat) (u_8 : Nat) (u_9 : Nat) (u_10 : Nat) (u_11 : Int32) (u_12 : Int32) (u_13 : Int32) (u_14 : Int32) (u_15 : Int32) (u_16 : Int32) (u_17 : Int64) (u_18 : Int32) (u_19 : Int32) (u_20 : Int32) (u_21 : Nat) (u_22 : Nat) (u_23 : Int32) (u_24 : Int32) (u_25 : Int32) (u_26 : Int32) (u_27 : Nat) (u_28 : Int32) (u_29 : Nat) (u_30 : Int32) (u_31 : Int32) (u_32 : Nat) (u_33 : Int32) (u_34 : Nat) (u_35 : Nat) (u_36 : Int32) (u_37 : Int32) (u_38 : Nat) (u_39 : Int32) (u_40 : Int32) (u_41 : Int32) (u_42 : Nat) (u_43 : Int32) (u_44 : Nat) (u_45 : Int32) (u_46 : Int32) (u_47 : Int32) (u_48 : Int32) (u_49 : Int32) (u_50 : Nat) (u_51 : Nat) (u_52 : Nat) (u_53 : Nat)  : z_Mi l yX12_leave wsX12_leave { frames := 2, cells := 0, slots := 0, locals := 43 } D ad [.ref (am 18), .int p0, .int p1] [(am 1, .inl (tm 1, 283, .inl (upd (fun _ => 0) 4 2))), (am 18, .inr (11, [.int 0, .ref u_1, .int u_2, .int u_3, .int u_4, .int u_5, .ref (am 1), .ref u_7, .ref u_8, .ref u_9, .ref u_10, .int u_11, .int u_12, .int u_13, .int u_14, .int u_15, .int u_16, .long u_17, .int u_18, .int u_19, .int u_20, .ref u_21, .ref u_22, .int u_23, .int u_24, .int u_25, .int u_26, .ref u_27, .int u_28, .ref u_29, .int u_30, .int u_31, .ref u_32, .int u_33, .ref u_34, .ref u_35, .int u_36, .int u_37, .ref u_38, .int u_39, .int u_40, .int u_41, .ref u_42, .int u_43, .ref u_44, .int u_45, .int u_46, .int u_47, .int u_48, .int u_49, .ref u_50, .ref u_51, .ref u_52, .ref u_53]))] [(tm 1, .int)] 0 0 (fun r9 u9 => r9 = (-1) ∧ u9 = ([], [])) := by
  refine z_ofI (cc := cX12_leave) (maxL := 3) (rt := .int) (by decide) rfl (Nat.le_of_ble_eq_true rfl) ?_
  intro p e s m below meth c Q A ls hx hb hml hown hts hin hK hP hD hA hE hO hS hl hret
  have hown : s.vm.findClass RX12 = some m.cls := hown
  have hiX12 : ∀ w ∈ wsX120, w ∈ wsX12_leave := fun _ h9 => List.mem_cons_of_mem _ (List.mem_append_right _ h9)
  have hl : lv_has ls 3 [(0, .ref (am 18)), (1, .int p0), (2, .int p1)] := hl
  refine lv_aload_n hx hb dX12_leave_0 rfl (lv_at hl 0 rfl) ?_
  refine lv_iconst (v := 0) hx hb dX12_leave_1 (by decide) ?_
  refine va_put (D := D) (ci := 11) (v := .int 0) (ty := tyX12 0) (C := RX12) (T := TX12) (N := 54) hx hb hts hiX12 tyX12 tyX12_ok nmX12 hown hK hP hD hS 1 rfl rfl 0 (by decide) (hts _ (List.mem_of_getElem? (i := 1) rfl)) (fun _ h9 => h9) rfl (tyX12_ok 0 (by decide)) rfl rfl (Nat.le_of_ble_eq_true rfl) dX12_leave_2 (fun H locs hP hD hS => ?_)
  have hP : va_P D vwCl [(am 1, .inl (tm 1, 283, .inl (upd (fun _ => 0) 4 2))), (am 18, .inr (11, [.int 0, .ref u_1, .int u_2, .int u_3, .int u_4, .int u_5, .ref (am 1), .ref u_7, .ref u_8, .ref u_9, .ref u_10, .int u_11, .int u_12, .int u_13, .int u_14, .int u_15, .int u_16, .long u_17, .int u_18, .int u_19, .int u_20, .ref u_21, .ref u_22, .int u_23, .int u_24, .int u_25, .int u_26, .ref u_27, .int u_28, .ref u_29, .int u_30, .int u_31, .ref u_32, .int u_33, .ref u_34, .ref u_35, .int u_36, .int u_37, .ref u_38, .int u_39, .int u_40, .int u_41, .ref u_42, .int u_43, .ref u_44, .int u_45, .int u_46, .int u_47, .int u_48, .int u_49, .ref u_50, .ref u_51, .ref u_52, .ref u_53]))] H := hP
  have hD : va_D A [(am 1, .inl (tm 1, 283, .inl (upd (fun _ => 0) 4 2))), (am 18, .inr (11, [.int 0, .ref u_1, .int u_2, .int u_3, .int u_4, .int u_5, .ref (am 1), .ref u_7, .ref u_8, .ref u_9, .ref u_10, .int u_11, .int u_12, .int u_13, .int u_14, .int u_15, .int u_16, .long u_17, .int u_18, .int u_19, .int u_20, .ref u_21, .ref u_22, .int u_23, .int u_24, .int u_25, .int u_26, .ref u_27, .int u_28, .ref u_29, .int u_30, .int u_31, .ref u_32, .int u_33, .ref u_34, .ref u_35, .int u_36, .int u_37, .ref u_38, .int u_39, .int u_40, .int u_41, .ref u_42, .int u_43, .ref u_44, .int u_45, .int u_46, .int u_47, .int u_48, .int u_49, .ref u_50, .ref u_51, .ref u_52, .ref u_53]))] := hD
  refine lv_aload_n hx hb dX12_leave_5 rfl (lv_at hl 0 rfl) ?_
  refine lv_iload_n hx hb dX12_leave_6 rfl (lv_at hl 1 rfl) ?_
  have hc9 := (k_X12_isPerson l D ad am tm p0 0 u_1 u_2 u_3 u_4 u_5 u_7 u_8 u_9 u_10 u_11 u_12 u_13 u_14 u_15 u_16 u_17 u_18 u_19 u_20 u_21 u_22 u_23 u_24 u_25 u_26 u_27 u_28 u_29 u_30 u_31 u_32 u_33 u_34 u_35 u_36 u_37 u_38 u_39 u_40 u_41 u_42 u_43 u_44 u_45 u_46 u_47 u_48 u_49 u_50 u_51 u_52 u_53 )
  refine z_calli (w0 := [(am 1, .inl (tm 1, 283, .inl (upd (fun _ => 0) 4 2))), (am 18, .inr (11, [.int 0, .ref u_1, .int u_2, .int u_3, .int u_4, .int u_5, .ref (am 1), .ref u_7, .ref u_8, .ref u_9, .ref u_10, .int u_11, .int u_12, .int u_13, .int u_14, .int u_15, .int u_16, .long u_17, .int u_18, .int u_19, .int u_20, .ref u_21, .ref u_22, .int u_23, .int u_24, .int u_25, .int u_26, .ref u_27, .int u_28, .ref u_29, .int u_30, .int u_31, .ref u_32, .int u_33, .ref u_34, .ref u_35, .int u_36, .int u_37, .ref u_38, .int u_39, .int u_40, .int u_41, .ref u_42, .int u_43, .ref u_44, .int u_45, .int u_46, .int u_47, .int u_48, .int u_49, .ref u_50, .ref u_51, .ref u_52, .ref u_53]))]) (wr := []) (va_runV (As := [.int p0]) (rest := []) ⟨hx, hb, hml, hown, hts⟩ (hc9 _) (cwV 1 hts gX12_leave_X12_isPerson rfl rfl rfl (by decide +kernel) ⟨Nat.le_of_ble_eq_true rfl, Nat.le_of_ble_eq_true rfl⟩) (z_preV hP hD hK hS hA hE hO [0, 1] [0] rfl (by decide +kernel) rfl 1 11 rfl rfl rfl) rfl rfl hl.1 rfl (lv_room (Nat.le_of_ble_eq_true rfl)) dX12_leave_7 ⟨Nat.le_of_ble_eq_true rfl, Nat.le_of_ble_eq_true rfl⟩) hP hD hK hS hA [0, 1] [] rfl rfl (by decide +kernel) (by decide +kernel) (fun r9 u9 H locs hw hP hD hK hS => ?_)
  obtain ⟨er9, rfl⟩ := hw
  have hP : va_P D vwCl [(am 1, .inl (tm 1, 283, .inl (upd (fun _ => 0) 4 2))), (am 18, .inr (11, [.int 0, .ref u_1, .int u_2, .int u_3, .int u_4, .int u_5, .ref (am 1), .ref u_7, .ref u_8, .ref u_9, .ref u_10, .int u_11, .int u_12, .int u_13, .int u_14, .int u_15, .int u_16, .long u_17, .int u_18, .int u_19, .int u_20, .ref u_21, .ref u_22, .int u_23, .int u_24, .int u_25, .int u_26, .ref u_27, .int u_28, .ref u_29, .int u_30, .int u_31, .ref u_32, .int u_33, .ref u_34, .ref u_35, .int u_36, .int u_37, .ref u_38, .int u_39, .int u_40, .int u_41, .ref u_42, .int u_43, .ref u_44, .int u_45, .int u_46, .int u_47, .int u_48, .int u_49, .ref u_50, .ref u_51, .ref u_52, .ref u_53]))] H := hP
  have hD : va_D A [(am 1, .inl (tm 1, 283, .inl (upd (fun _ => 0) 4 2))), (am 18, .inr (11, [.int 0, .ref u_1, .int u_2, .int u_3, .int u_4, .int u_5, .ref (am 1), .ref u_7, .ref u_8, .ref u_9, .ref u_10, .int u_11, .int u_12, .int u_13, .int u_14, .int u_15, .int u_16, .long u_17, .int u_18, .int u_19, .int u_20, .ref u_21, .ref u_22, .int u_23, .int u_24, .int u_25, .int u_26, .ref u_27, .int u_28, .ref u_29, .int u_30, .int u_31, .ref u_32, .int u_33, .ref u_34, .ref u_35, .int u_36, .int u_37, .ref u_38, .int u_39, .int u_40, .int u_41, .ref u_42, .int u_43, .ref u_44, .int u_45, .int u_46, .int u_47, .int u_48, .int u_49, .ref u_50, .ref u_51, .ref u_52, .ref u_53]))] := hD
  have hK : va_K D vwCl [(tm 1, .int)] s := hK
  refine W.cs (cells' := 0) (slots' := 0) rfl rfl ?_
  obtain rfl := er9
  refine W.eq (g2 := F0 m 10 ls (.int 0 :: [])) rfl ?_
  refine lv_if_eq (tgt := 21) hx hb dX12_leave_10 (by decide) (fun _ => ?_) (fun h9 => absurd (by decide) h9)
  refine lv_iconst (v := (-1)) hx hb dX12_leave_21 (by decide) ?_
  refine W.widen (k := 0) (n := 0) (by decide) (by decide) ?_
  exact hret (-1) ([], []) _ _ _ _ dX12_leave_22 rfl ⟨rfl, rfl⟩ (hP.sub [] rfl) (hK.sub [] rfl) (hD.sub [] (by decide +kernel) rfl) hS

set_option maxHeartbeats 8000000 in
set_option maxRecDepth 100000 in
theorem k_X12_funeral (l : Launch) (D : va_G) (ad : Nat → Nat) (am : Nat → Nat) (tm : Nat → ClassId) (p0 : Int32) (u_1 : Nat) (u_2 : Int32) (u_3 : Int32) (u_4 : Int32) (u_5 : Int32) (u_7 : Nat) (u_8 : Nat) (u_9 : Nat) (u_10 : Nat) (u_11 : Int32) (u_12 : Int32) (u_13 : Int32) (u_14 : Int32) (u_15 : Int32) (u_16 : Int32) (u_17 : Int64) (u_18 : Int32) (u_19 : Int32) (u_20 : Int32) (u_21 : Nat) (u_22 : Nat) (u_23 : Int32) (u_24 : Int32) (u_25 : Int32) (u_26 : Int32) (u_27 : Nat) (u_28 : Int32) (u_29 : Nat) (u_30 : Int32) (u_31 : Int32) (u_32 : Nat) (u_33 : Int32) (u_34 : Nat) (u_35 : Nat) (u_36 : Int32) (u_37 : Int32) (u_38 : Nat) (u_39 : Int32) (u_40 : Int32) (u_41 : Int32) (u_42 : Nat) (u_43 : Int32) (u_44 : Nat) (u_45 : Int32) (u_46 : Int32) (u_47 : Int32) (u_48 : Int32) (u_49 : Int32) (u_50 : Nat) (u_51 : Nat) (u_52 : Nat) (u_53 : Nat)  : z_Mi l yX12_funeral wsX12_funeral { frames := 2, cells := 0, slots := 0, locals := 43 } D ad [.ref (am 18), .int p0] [(am 1, .inl (tm 1, 283, .inl (upd (fun _ => 0) 4 2))), (am 18, .inr (11, [.int 0, .ref u_1, .int u_2, .int u_3, .int u_4, .int u_5, .ref (am 1), .ref u_7, .ref u_8, .ref u_9, .ref u_10, .int u_11, .int u_12, .int u_13, .int u_14, .int u_15, .int u_16, .long u_17, .int u_18, .int u_19, .int u_20, .ref u_21, .ref u_22, .int u_23, .int u_24, .int u_25, .int u_26, .ref u_27, .int u_28, .ref u_29, .int u_30, .int u_31, .ref u_32, .int u_33, .ref u_34, .ref u_35, .int u_36, .int u_37, .ref u_38, .int u_39, .int u_40, .int u_41, .ref u_42, .int u_43, .ref u_44, .int u_45, .int u_46, .int u_47, .int u_48, .int u_49, .ref u_50, .ref u_51, .ref u_52, .ref u_53]))] [(tm 1, .int)] 0 0 (fun r9 u9 => r9 = (-1) ∧ u9 = ([], [])) := by
  refine z_ofI (cc := cX12_funeral) (maxL := 2) (rt := .int) (by decide) rfl (Nat.le_of_ble_eq_true rfl) ?_
  intro p e s m below meth c Q A ls hx hb hml hown hts hin hK hP hD hA hE hO hS hl hret
  have hown : s.vm.findClass RX12 = some m.cls := hown
  have hiX12 : ∀ w ∈ wsX120, w ∈ wsX12_funeral := fun _ h9 => List.mem_cons_of_mem _ (List.mem_append_right _ h9)
  have hl : lv_has ls 2 [(0, .ref (am 18)), (1, .int p0)] := hl
  refine lv_aload_n hx hb dX12_funeral_0 rfl (lv_at hl 0 rfl) ?_
  refine lv_iconst (v := 0) hx hb dX12_funeral_1 (by decide) ?_
  refine va_put (D := D) (ci := 11) (v := .int 0) (ty := tyX12 0) (C := RX12) (T := TX12) (N := 54) hx hb hts hiX12 tyX12 tyX12_ok nmX12 hown hK hP hD hS 1 rfl rfl 0 (by decide) (hts _ (List.mem_of_getElem? (i := 1) rfl)) (fun _ h9 => h9) rfl (tyX12_ok 0 (by decide)) rfl rfl (Nat.le_of_ble_eq_true rfl) dX12_funeral_2 (fun H locs hP hD hS => ?_)
  have hP : va_P D vwCl [(am 1, .inl (tm 1, 283, .inl (upd (fun _ => 0) 4 2))), (am 18, .inr (11, [.int 0, .ref u_1, .int u_2, .int u_3, .int u_4, .int u_5, .ref (am 1), .ref u_7, .ref u_8, .ref u_9, .ref u_10, .int u_11, .int u_12, .int u_13, .int u_14, .int u_15, .int u_16, .long u_17, .int u_18, .int u_19, .int u_20, .ref u_21, .ref u_22, .int u_23, .int u_24, .int u_25, .int u_26, .ref u_27, .int u_28, .ref u_29, .int u_30, .int u_31, .ref u_32, .int u_33, .ref u_34, .ref u_35, .int u_36, .int u_37, .ref u_38, .int u_39, .int u_40, .int u_41, .ref u_42, .int u_43, .ref u_44, .int u_45, .int u_46, .int u_47, .int u_48, .int u_49, .ref u_50, .ref u_51, .ref u_52, .ref u_53]))] H := hP
  have hD : va_D A [(am 1, .inl (tm 1, 283, .inl (upd (fun _ => 0) 4 2))), (am 18, .inr (11, [.int 0, .ref u_1, .int u_2, .int u_3, .int u_4, .int u_5, .ref (am 1), .ref u_7, .ref u_8, .ref u_9, .ref u_10, .int u_11, .int u_12, .int u_13, .int u_14, .int u_15, .int u_16, .long u_17, .int u_18, .int u_19, .int u_20, .ref u_21, .ref u_22, .int u_23, .int u_24, .int u_25, .int u_26, .ref u_27, .int u_28, .ref u_29, .int u_30, .int u_31, .ref u_32, .int u_33, .ref u_34, .ref u_35, .int u_36, .int u_37, .ref u_38, .int u_39, .int u_40, .int u_41, .ref u_42, .int u_43, .ref u_44, .int u_45, .int u_46, .int u_47, .int u_48, .int u_49, .ref u_50, .ref u_51, .ref u_52, .ref u_53]))] := hD
  refine lv_aload_n hx hb dX12_funeral_5 rfl (lv_at hl 0 rfl) ?_
  refine lv_iload_n hx hb dX12_funeral_6 rfl (lv_at hl 1 rfl) ?_
  have hc9 := (k_X12_isPlace l D ad am tm p0 0 u_1 u_2 u_3 u_4 u_5 u_7 u_8 u_9 u_10 u_11 u_12 u_13 u_14 u_15 u_16 u_17 u_18 u_19 u_20 u_21 u_22 u_23 u_24 u_25 u_26 u_27 u_28 u_29 u_30 u_31 u_32 u_33 u_34 u_35 u_36 u_37 u_38 u_39 u_40 u_41 u_42 u_43 u_44 u_45 u_46 u_47 u_48 u_49 u_50 u_51 u_52 u_53 )
  refine z_calli (w0 := [(am 1, .inl (tm 1, 283, .inl (upd (fun _ => 0) 4 2))), (am 18, .inr (11, [.int 0, .ref u_1, .int u_2, .int u_3, .int u_4, .int u_5, .ref (am 1), .ref u_7, .ref u_8, .ref u_9, .ref u_10, .int u_11, .int u_12, .int u_13, .int u_14, .int u_15, .int u_16, .long u_17, .int u_18, .int u_19, .int u_20, .ref u_21, .ref u_22, .int u_23, .int u_24, .int u_25, .int u_26, .ref u_27, .int u_28, .ref u_29, .int u_30, .int u_31, .ref u_32, .int u_33, .ref u_34, .ref u_35, .int u_36, .int u_37, .ref u_38, .int u_39, .int u_40, .int u_41, .ref u_42, .int u_43, .ref u_44, .int u_45, .int u_46, .int u_47, .int u_48, .int u_49, .ref u_50, .ref u_51, .ref u_52, .ref u_53]))]) (wr := []) (va_runV (As := [.int p0]) (rest := []) ⟨hx, hb, hml, hown, hts⟩ (hc9 _) (cwV 1 hts gX12_funeral_X12_isPlace rfl rfl rfl (by decide +kernel) ⟨Nat.le_of_ble_eq_true rfl, Nat.le_of_ble_eq_true rfl⟩) (z_preV hP hD hK hS hA hE hO [0, 1] [0] rfl (by decide +kernel) rfl 1 11 rfl rfl rfl) rfl rfl hl.1 rfl (lv_room (Nat.le_of_ble_eq_true rfl)) dX12_funeral_7 ⟨Nat.le_of_ble_eq_true rfl, Nat.le_of_ble_eq_true rfl⟩) hP hD hK hS hA [0, 1] [] rfl rfl (by decide +kernel) (by decide +kernel) (fun r9 u9 H locs hw hP hD hK hS => ?_)
  obtain ⟨er9, rfl⟩ := hw
  have hP : va_P D vwCl [(am 1, .inl (tm 1, 283, .inl (upd (fun _ => 0) 4 2))), (am 18, .inr (11, [.int 0, .ref u_1, .int u_2, .int u_3, .int u_4, .int u_5, .ref (am 1), .ref u_7, .ref u_8, .ref u_9, .ref u_10, .int u_11, .int u_12, .int u_13, .int u_14, .int u_15, .int u_16, .long u_17, .int u_18, .int u_19, .int u_20, .ref u_21, .ref u_22, .int u_23, .int u_24, .int u_25, .int u_26, .ref u_27, .int u_28, .ref u_29, .int u_30, .int u_31, .ref u_32, .int u_33, .ref u_34, .ref u_35, .int u_36, .int u_37, .ref u_38, .int u_39, .int u_40, .int u_41, .ref u_42, .int u_43, .ref u_44, .int u_45, .int u_46, .int u_47, .int u_48, .int u_49, .ref u_50, .ref u_51, .ref u_52, .ref u_53]))] H := hP
  have hD : va_D A [(am 1, .inl (tm 1, 283, .inl (upd (fun _ => 0) 4 2))), (am 18, .inr (11, [.int 0, .ref u_1, .int u_2, .int u_3, .int u_4, .int u_5, .ref (am 1), .ref u_7, .ref u_8, .ref u_9, .ref u_10, .int u_11, .int u_12, .int u_13, .int u_14, .int u_15, .int u_16, .long u_17, .int u_18, .int u_19, .int u_20, .ref u_21, .ref u_22, .int u_23, .int u_24, .int u_25, .int u_26, .ref u_27, .int u_28, .ref u_29, .int u_30, .int u_31, .ref u_32, .int u_33, .ref u_34, .ref u_35, .int u_36, .int u_37, .ref u_38, .int u_39, .int u_40, .int u_41, .ref u_42, .int u_43, .ref u_44, .int u_45, .int u_46, .int u_47, .int u_48, .int u_49, .ref u_50, .ref u_51, .ref u_52, .ref u_53]))] := hD
  have hK : va_K D vwCl [(tm 1, .int)] s := hK
  refine W.cs (cells' := 0) (slots' := 0) rfl rfl ?_
  obtain rfl := er9
  refine W.eq (g2 := F0 m 10 ls (.int 0 :: [])) rfl ?_
  refine lv_if_ne (tgt := 15) hx hb dX12_funeral_10 (by decide) (fun h9 => absurd (by decide) h9) (fun _ => ?_)
  refine lv_iconst (v := (-1)) hx hb dX12_funeral_13 (by decide) ?_
  refine W.widen (k := 0) (n := 0) (by decide) (by decide) ?_
  exact hret (-1) ([], []) _ _ _ _ dX12_funeral_14 rfl ⟨rfl, rfl⟩ (hP.sub [] rfl) (hK.sub [] rfl) (hD.sub [] (by decide +kernel) rfl) hS

set_option maxHeartbeats 8000000 in
set_option maxRecDepth 100000 in
theorem k_X12_drawn (l : Launch) (D : va_G) (ad : Nat → Nat) (am : Nat → Nat) (tm : Nat → ClassId) (p0 : Int32) (p1 : Int32) (u_1 : Nat) (u_2 : Int32) (u_3 : Int32) (u_4 : Int32) (u_5 : Int32) (u_7 : Nat) (u_8 : Nat) (u_9 : Nat) (u_10 : Nat) (u_11 : Int32) (u_12 : Int32) (u_13 : Int32) (u_14 : Int32) (u_15 : Int32) (u_16 : Int32) (u_17 : Int64) (u_18 : Int32) (u_19 : Int32) (u_20 : Int32) (u_21 : Nat) (u_22 : Nat) (u_23 : Int32) (u_24 : Int32) (u_25 : Int32) (u_26 : Int32) (u_27 : Nat) (u_28 : Int32) (u_29 : Nat) (u_30 : Int32) (u_31 : Int32) (u_32 : Nat) (u_33 : Int32) (u_34 : Nat) (u_35 : Nat) (u_36 : Int32) (u_37 : Int32) (u_38 : Nat) (u_39 : Int32) (u_40 : Int32) (u_41 : Int32) (u_42 : Nat) (u_43 : Int32) (u_44 : Nat) (u_45 : Int32) (u_46 : Int32) (u_47 : Int32) (u_48 : Int32) (u_49 : Int32) (u_50 : Nat) (u_51 : Nat) (u_52 : Nat) (u_53 : Nat)  : z_Mi l yX12_drawn wsX12_drawn { frames := 1, cells := 0, slots := 0, locals := 22 } D ad [.ref (am 18), .int p0, .int p1] [(am 1, .inl (tm 1, 283, .inl (upd (fun _ => 0) 4 2))), (am 18, .inr (11, [.int 0, .ref u_1, .int u_2, .int u_3, .int u_4, .int u_5, .ref (am 1), .ref u_7, .ref u_8, .ref u_9, .ref u_10, .int u_11, .int u_12, .int u_13, .int u_14, .int u_15, .int u_16, .long u_17, .int u_18, .int u_19, .int u_20, .ref u_21, .ref u_22, .int u_23, .int u_24, .int u_25, .int u_26, .ref u_27, .int u_28, .ref u_29, .int u_30, .int u_31, .ref u_32, .int u_33, .ref u_34, .ref u_35, .int u_36, .int u_37, .ref u_38, .int u_39, .int u_40, .int u_41, .ref u_42, .int u_43, .ref u_44, .int u_45, .int u_46, .int u_47, .int u_48, .int u_49, .ref u_50, .ref u_51, .ref u_52, .ref u_53]))] [(tm 1, .int)] 0 0 (fun r9 u9 => r9 = (-1) ∧ u9 = ([], [])) := by
  refine z_ofI (cc := cX12_drawn) (maxL := 3) (rt := .int) (by decide) rfl (Nat.le_of_ble_eq_true rfl) ?_
  intro p e s m below meth c Q A ls hx hb hml hown hts hin hK hP hD hA hE hO hS hl hret
  have hown : s.vm.findClass RX12 = some m.cls := hown
  have hiX12 : ∀ w ∈ wsX120, w ∈ wsX12_drawn := fun _ h9 => List.mem_cons_of_mem _ (List.mem_append_right _ h9)
  have hl : lv_has ls 3 [(0, .ref (am 18)), (1, .int p0), (2, .int p1)] := hl
  refine lv_aload_n hx hb dX12_drawn_0 rfl (lv_at hl 0 rfl) ?_
  refine lv_iconst (v := 0) hx hb dX12_drawn_1 (by decide) ?_
  refine va_put (D := D) (ci := 11) (v := .int 0) (ty := tyX12 0) (C := RX12) (T := TX12) (N := 54) hx hb hts hiX12 tyX12 tyX12_ok nmX12 hown hK hP hD hS 1 rfl rfl 0 (by decide) (hts _ (List.mem_of_getElem? (i := 1) rfl)) (fun _ h9 => h9) rfl (tyX12_ok 0 (by decide)) rfl rfl (Nat.le_of_ble_eq_true rfl) dX12_drawn_2 (fun H locs hP hD hS => ?_)
  have hP : va_P D vwCl [(am 1, .inl (tm 1, 283, .inl (upd (fun _ => 0) 4 2))), (am 18, .inr (11, [.int 0, .ref u_1, .int u_2, .int u_3, .int u_4, .int u_5, .ref (am 1), .ref u_7, .ref u_8, .ref u_9, .ref u_10, .int u_11, .int u_12, .int u_13, .int u_14, .int u_15, .int u_16, .long u_17, .int u_18, .int u_19, .int u_20, .ref u_21, .ref u_22, .int u_23, .int u_24, .int u_25, .int u_26, .ref u_27, .int u_28, .ref u_29, .int u_30, .int u_31, .ref u_32, .int u_33, .ref u_34, .ref u_35, .int u_36, .int u_37, .ref u_38, .int u_39, .int u_40, .int u_41, .ref u_42, .int u_43, .ref u_44, .int u_45, .int u_46, .int u_47, .int u_48, .int u_49, .ref u_50, .ref u_51, .ref u_52, .ref u_53]))] H := hP
  have hD : va_D A [(am 1, .inl (tm 1, 283, .inl (upd (fun _ => 0) 4 2))), (am 18, .inr (11, [.int 0, .ref u_1, .int u_2, .int u_3, .int u_4, .int u_5, .ref (am 1), .ref u_7, .ref u_8, .ref u_9, .ref u_10, .int u_11, .int u_12, .int u_13, .int u_14, .int u_15, .int u_16, .long u_17, .int u_18, .int u_19, .int u_20, .ref u_21, .ref u_22, .int u_23, .int u_24, .int u_25, .int u_26, .ref u_27, .int u_28, .ref u_29, .int u_30, .int u_31, .ref u_32, .int u_33, .ref u_34, .ref u_35, .int u_36, .int u_37, .ref u_38, .int u_39, .int u_40, .int u_41, .ref u_42, .int u_43, .ref u_44, .int u_45, .int u_46, .int u_47, .int u_48, .int u_49, .ref u_50, .ref u_51, .ref u_52, .ref u_53]))] := hD
  refine lv_iload_n hx hb dX12_drawn_5 rfl (lv_at hl 1 rfl) ?_
  refine lv_iconst (v := 1) hx hb dX12_drawn_6 (by decide) ?_
  refine lv_bipush (v := 60) hx hb dX12_drawn_7 (by decide) ?_
  have hc9 := (k_X12_isIn l D ad p0 1 60 )
  refine z_calli (w0 := []) (wr := [(am 1, .inl (tm 1, 283, .inl (upd (fun _ => 0) 4 2))), (am 18, .inr (11, [.int 0, .ref u_1, .int u_2, .int u_3, .int u_4, .int u_5, .ref (am 1), .ref u_7, .ref u_8, .ref u_9, .ref u_10, .int u_11, .int u_12, .int u_13, .int u_14, .int u_15, .int u_16, .long u_17, .int u_18, .int u_19, .int u_20, .ref u_21, .ref u_22, .int u_23, .int u_24, .int u_25, .int u_26, .ref u_27, .int u_28, .ref u_29, .int u_30, .int u_31, .ref u_32, .int u_33, .ref u_34, .ref u_35, .int u_36, .int u_37, .ref u_38, .int u_39, .int u_40, .int u_41, .ref u_42, .int u_43, .ref u_44, .int u_45, .int u_46, .int u_47, .int u_48, .int u_49, .ref u_50, .ref u_51, .ref u_52, .ref u_53]))]) (va_runS (As := [.int p0, .int 1, .int 60]) (rest := []) ⟨hx, hb, hml, hown, hts⟩ (hc9 _) (va_cwS 3 hts gX12_drawn_X12_isIn rfl rfl rfl (by decide +kernel) ⟨Nat.le_of_ble_eq_true rfl, Nat.le_of_ble_eq_true rfl⟩) (z_preS hP hD hK hS hA hE hO [] [] rfl (by decide +kernel) rfl) rfl rfl hl.1 rfl (lv_room (Nat.le_of_ble_eq_true rfl)) dX12_drawn_9 ⟨Nat.le_of_ble_eq_true rfl, Nat.le_of_ble_eq_true rfl⟩) hP hD hK hS hA [] [0, 1] rfl rfl (by decide +kernel) (by decide +kernel) (fun r9 u9 H locs hw hP hD hK hS => ?_)
  obtain ⟨er9, rfl⟩ := hw
  have hP : va_P D vwCl [(am 1, .inl (tm 1, 283, .inl (upd (fun _ => 0) 4 2))), (am 18, .inr (11, [.int 0, .ref u_1, .int u_2, .int u_3, .int u_4, .int u_5, .ref (am 1), .ref u_7, .ref u_8, .ref u_9, .ref u_10, .int u_11, .int u_12, .int u_13, .int u_14, .int u_15, .int u_16, .long u_17, .int u_18, .int u_19, .int u_20, .ref u_21, .ref u_22, .int u_23, .int u_24, .int u_25, .int u_26, .ref u_27, .int u_28, .ref u_29, .int u_30, .int u_31, .ref u_32, .int u_33, .ref u_34, .ref u_35, .int u_36, .int u_37, .ref u_38, .int u_39, .int u_40, .int u_41, .ref u_42, .int u_43, .ref u_44, .int u_45, .int u_46, .int u_47, .int u_48, .int u_49, .ref u_50, .ref u_51, .ref u_52, .ref u_53]))] H := hP
  have hD : va_D A [(am 1, .inl (tm 1, 283, .inl (upd (fun _ => 0) 4 2))), (am 18, .inr (11, [.int 0, .ref u_1, .int u_2, .int u_3, .int u_4, .int u_5, .ref (am 1), .ref u_7, .ref u_8, .ref u_9, .ref u_10, .int u_11, .int u_12, .int u_13, .int u_14, .int u_15, .int u_16, .long u_17, .int u_18, .int u_19, .int u_20, .ref u_21, .ref u_22, .int u_23, .int u_24, .int u_25, .int u_26, .ref u_27, .int u_28, .ref u_29, .int u_30, .int u_31, .ref u_32, .int u_33, .ref u_34, .ref u_35, .int u_36, .int u_37, .ref u_38, .int u_39, .int u_40, .int u_41, .ref u_42, .int u_43, .ref u_44, .int u_45, .int u_46, .int u_47, .int u_48, .int u_49, .ref u_50, .ref u_51, .ref u_52, .ref u_53]))] := hD
  have hK : va_K D vwCl [(tm 1, .int)] s := hK
  refine W.cs (cells' := 0) (slots' := 0) rfl rfl ?_
  obtain rfl := er9
  refine W.eq (g2 := F0 m 12 ls (.int (s_X12_isIn p0 1 60) :: [])) rfl ?_
  refine lv_if_eq (tgt := 24) hx hb dX12_drawn_12 (by decide) (fun c_1 => ?_) (fun c_1 => ?_)
  · refine lv_iconst (v := (-1)) hx hb dX12_drawn_24 (by decide) ?_
    refine W.widen (k := 0) (n := 0) (by decide) (by decide) ?_
    exact hret (-1) ([], []) _ _ _ _ dX12_drawn_25 rfl ⟨rfl, rfl⟩ (hP.sub [] rfl) (hK.sub [] rfl) (hD.sub [] (by decide +kernel) rfl) hS
  · refine lv_aload_n hx hb dX12_drawn_15 rfl (lv_at hl 0 rfl) ?_
    refine va_get (D := D) (ci := 11) (v := .ref (am 1)) (C := RX12) (T := TX12) (N := 54) hx hb hts hiX12 hown hK hP 1 rfl rfl 6 (by decide) (hts _ (List.mem_of_getElem? (i := 2) rfl)) (fun _ h9 => h9) rfl dX12_drawn_16 ?_
    refine lv_iconst (v := 1) hx hb dX12_drawn_19 (by decide) ?_
    refine va_iald hx hb hK hP 0 0 rfl rfl (show ¬ (_ ∨ _) by decide) dX12_drawn_20 ?_
    refine W.eq (g2 := F0 m 21 ls (.int 0 :: [])) rfl ?_
    refine lv_if_ne (tgt := 26) hx hb dX12_drawn_21 (by decide) (fun h9 => absurd (by decide) h9) (fun _ => ?_)
    refine lv_iconst (v := (-1)) hx hb dX12_drawn_24 (by decide) ?_
    refine W.widen (k := 0) (n := 0) (by decide) (by decide) ?_
    exact hret (-1) ([], []) _ _ _ _ dX12_drawn_25 rfl ⟨rfl, rfl⟩ (hP.sub [] rfl) (hK.sub [] rfl) (hD.sub [] (by decide +kernel) rfl) hS

set_option maxHeartbeats 8000000 in
set_option maxRecDepth 100000 in
theorem k_X12_next (l : Launch) (D : va_G) (ad : Nat → Nat) (am : Nat → Nat) (tm : Nat → ClassId) (p0 : Int32) (u_1 : Nat) (u_2 : Int32) (u_3 : Int32) (u_4 : Int32) (u_5 : Int32) (u_7 : Nat) (u_8 : Nat) (u_9 : Nat) (u_10 : Nat) (u_11 : Int32) (u_12 : Int32) (u_13 : Int32) (u_14 : Int32) (u_15 : Int32) (u_16 : Int32) (u_17 : Int64) (u_18 : Int32) (u_19 : Int32) (u_20 : Int32) (u_21 : Nat) (u_22 : Nat) (u_23 : Int32) (u_24 : Int32) (u_25 : Int32) (u_26 : Int32) (u_27 : Nat) (u_28 : Int32) (u_29 : Nat) (u_30 : Int32) (u_31 : Int32) (u_32 : Nat) (u_33 : Int32) (u_34 : Nat) (u_35 : Nat) (u_36 : Int32) (u_37 : Int32) (u_38 : Nat) (u_39 : Int32) (u_40 : Int32) (u_41 : Int32) (u_42 : Nat) (u_43 : Int32) (u_44 : Nat) (u_45 : Int32) (u_46 : Int32) (u_47 : Int32) (u_48 : Int32) (u_49 : Int32) (u_50 : Nat) (u_51 : Nat) (u_52 : Nat) (u_53 : Nat)  : z_Mi l yX12_next wsX12_next { frames := 2, cells := 0, slots := 0, locals := 43 } D ad [.ref (am 18), .int p0] [(am 1, .inl (tm 1, 283, .inl (upd (fun _ => 0) 4 2))), (am 18, .inr (11, [.int 0, .ref u_1, .int u_2, .int u_3, .int u_4, .int u_5, .ref (am 1), .ref u_7, .ref u_8, .ref u_9, .ref u_10, .int u_11, .int u_12, .int u_13, .int u_14, .int u_15, .int u_16, .long u_17, .int u_18, .int u_19, .int u_20, .ref u_21, .ref u_22, .int u_23, .int u_24, .int u_25, .int u_26, .ref u_27, .int u_28, .ref u_29, .int u_30, .int u_31, .ref u_32, .int u_33, .ref u_34, .ref u_35, .int u_36, .int u_37, .ref u_38, .int u_39, .int u_40, .int u_41, .ref u_42, .int u_43, .ref u_44, .int u_45, .int u_46, .int u_47, .int u_48, .int u_49, .ref u_50, .ref u_51, .ref u_52, .ref u_53]))] [(tm 1, .int)] 0 0 (fun r9 u9 => r9 = (-1) ∧ u9 = ([], [])) := by
  refine z_ofI (cc := cX12_next) (maxL := 2) (rt := .int) (by decide) rfl (Nat.le_of_ble_eq_true rfl) ?_
  intro p e s m below meth c Q A ls hx hb hml hown hts hin hK hP hD hA hE hO hS hl hret
  have hown : s.vm.findClass RX12 = some m.cls := hown
  have hiX12 : ∀ w ∈ wsX120, w ∈ wsX12_next := fun _ h9 => List.mem_cons_of_mem _ (List.mem_append_right _ h9)
  have hl : lv_has ls 2 [(0, .ref (am 18)), (1, .int p0)] := hl
  refine lv_aload_n hx hb dX12_next_0 rfl (lv_at hl 0 rfl) ?_
  refine lv_iconst (v := 0) hx hb dX12_next_1 (by decide) ?_
  refine va_put (D := D) (ci := 11) (v := .int 0) (ty := tyX12 0) (C := RX12) (T := TX12) (N := 54) hx hb hts hiX12 tyX12 tyX12_ok nmX12 hown hK hP hD hS 1 rfl rfl 0 (by decide) (hts _ (List.mem_of_getElem? (i := 1) rfl)) (fun _ h9 => h9) rfl (tyX12_ok 0 (by decide)) rfl rfl (Nat.le_of_ble_eq_true rfl) dX12_next_2 (fun H locs hP hD hS => ?_)
  have hP : va_P D vwCl [(am 1, .inl (tm 1, 283, .inl (upd (fun _ => 0) 4 2))), (am 18, .inr (11, [.int 0, .ref u_1, .int u_2, .int u_3, .int u_4, .int u_5, .ref (am 1), .ref u_7, .ref u_8, .ref u_9, .ref u_10, .int u_11, .int u_12, .int u_13, .int u_14, .int u_15, .int u_16, .long u_17, .int u_18, .int u_19, .int u_20, .ref u_21, .ref u_22, .int u_23, .int u_24, .int u_25, .int u_26, .ref u_27, .int u_28, .ref u_29, .int u_30, .int u_31, .ref u_32, .int u_33, .ref u_34, .ref u_35, .int u_36, .int u_37, .ref u_38, .int u_39, .int u_40, .int u_41, .ref u_42, .int u_43, .ref u_44, .int u_45, .int u_46, .int u_47, .int u_48, .int u_49, .ref u_50, .ref u_51, .ref u_52, .ref u_53]))] H := hP
  have hD : va_D A [(am 1, .inl (tm 1, 283, .inl (upd (fun _ => 0) 4 2))), (am 18, .inr (11, [.int 0, .ref u_1, .int u_2, .int u_3, .int u_4, .int u_5, .ref (am 1), .ref u_7, .ref u_8, .ref u_9, .ref u_10, .int u_11, .int u_12, .int u_13, .int u_14, .int u_15, .int u_16, .long u_17, .int u_18, .int u_19, .int u_20, .ref u_21, .ref u_22, .int u_23, .int u_24, .int u_25, .int u_26, .ref u_27, .int u_28, .ref u_29, .int u_30, .int u_31, .ref u_32, .int u_33, .ref u_34, .ref u_35, .int u_36, .int u_37, .ref u_38, .int u_39, .int u_40, .int u_41, .ref u_42, .int u_43, .ref u_44, .int u_45, .int u_46, .int u_47, .int u_48, .int u_49, .ref u_50, .ref u_51, .ref u_52, .ref u_53]))] := hD
  refine lv_aload_n hx hb dX12_next_5 rfl (lv_at hl 0 rfl) ?_
  refine lv_iload_n hx hb dX12_next_6 rfl (lv_at hl 1 rfl) ?_
  have hc9 := (k_X12_isPerson l D ad am tm p0 0 u_1 u_2 u_3 u_4 u_5 u_7 u_8 u_9 u_10 u_11 u_12 u_13 u_14 u_15 u_16 u_17 u_18 u_19 u_20 u_21 u_22 u_23 u_24 u_25 u_26 u_27 u_28 u_29 u_30 u_31 u_32 u_33 u_34 u_35 u_36 u_37 u_38 u_39 u_40 u_41 u_42 u_43 u_44 u_45 u_46 u_47 u_48 u_49 u_50 u_51 u_52 u_53 )
  refine z_calli (w0 := [(am 1, .inl (tm 1, 283, .inl (upd (fun _ => 0) 4 2))), (am 18, .inr (11, [.int 0, .ref u_1, .int u_2, .int u_3, .int u_4, .int u_5, .ref (am 1), .ref u_7, .ref u_8, .ref u_9, .ref u_10, .int u_11, .int u_12, .int u_13, .int u_14, .int u_15, .int u_16, .long u_17, .int u_18, .int u_19, .int u_20, .ref u_21, .ref u_22, .int u_23, .int u_24, .int u_25, .int u_26, .ref u_27, .int u_28, .ref u_29, .int u_30, .int u_31, .ref u_32, .int u_33, .ref u_34, .ref u_35, .int u_36, .int u_37, .ref u_38, .int u_39, .int u_40, .int u_41, .ref u_42, .int u_43, .ref u_44, .int u_45, .int u_46, .int u_47, .int u_48, .int u_49, .ref u_50, .ref u_51, .ref u_52, .ref u_53]))]) (wr := []) (va_runV (As := [.int p0]) (rest := []) ⟨hx, hb, hml, hown, hts⟩ (hc9 _) (cwV 1 hts gX12_next_X12_isPerson rfl rfl rfl (by decide +kernel) ⟨Nat.le_of_ble_eq_true rfl, Nat.le_of_ble_eq_true rfl⟩) (z_preV hP hD hK hS hA hE hO [0, 1] [0] rfl (by decide +kernel) rfl 1 11 rfl rfl rfl) rfl rfl hl.1 rfl (lv_room (Nat.le_of_ble_eq_true rfl)) dX12_next_7 ⟨Nat.le_of_ble_eq_true rfl, Nat.le_of_ble_eq_true rfl⟩) hP hD hK hS hA [0, 1] [] rfl rfl (by decide +kernel) (by decide +kernel) (fun r9 u9 H locs hw hP hD hK hS => ?_)
  obtain ⟨er9, rfl⟩ := hw
  have hP : va_P D vwCl [(am 1, .inl (tm 1, 283, .inl (upd (fun _ => 0) 4 2))), (am 18, .inr (11, [.int 0, .ref u_1, .int u_2, .int u_3, .int u_4, .int u_5, .ref (am 1), .ref u_7, .ref u_8, .ref u_9, .ref u_10, .int u_11, .int u_12, .int u_13, .int u_14, .int u_15, .int u_16, .long u_17, .int u_18, .int u_19, .int u_20, .ref u_21, .ref u_22, .int u_23, .int u_24, .int u_25, .int u_26, .ref u_27, .int u_28, .ref u_29, .int u_30, .int u_31, .ref u_32, .int u_33, .ref u_34, .ref u_35, .int u_36, .int u_37, .ref u_38, .int u_39, .int u_40, .int u_41, .ref u_42, .int u_43, .ref u_44, .int u_45, .int u_46, .int u_47, .int u_48, .int u_49, .ref u_50, .ref u_51, .ref u_52, .ref u_53]))] H := hP
  have hD : va_D A [(am 1, .inl (tm 1, 283, .inl (upd (fun _ => 0) 4 2))), (am 18, .inr (11, [.int 0, .ref u_1, .int u_2, .int u_3, .int u_4, .int u_5, .ref (am 1), .ref u_7, .ref u_8, .ref u_9, .ref u_10, .int u_11, .int u_12, .int u_13, .int u_14, .int u_15, .int u_16, .long u_17, .int u_18, .int u_19, .int u_20, .ref u_21, .ref u_22, .int u_23, .int u_24, .int u_25, .int u_26, .ref u_27, .int u_28, .ref u_29, .int u_30, .int u_31, .ref u_32, .int u_33, .ref u_34, .ref u_35, .int u_36, .int u_37, .ref u_38, .int u_39, .int u_40, .int u_41, .ref u_42, .int u_43, .ref u_44, .int u_45, .int u_46, .int u_47, .int u_48, .int u_49, .ref u_50, .ref u_51, .ref u_52, .ref u_53]))] := hD
  have hK : va_K D vwCl [(tm 1, .int)] s := hK
  refine W.cs (cells' := 0) (slots' := 0) rfl rfl ?_
  obtain rfl := er9
  refine W.eq (g2 := F0 m 10 ls (.int 0 :: [])) rfl ?_
  refine lv_if_eq (tgt := 39) hx hb dX12_next_10 (by decide) (fun _ => ?_) (fun h9 => absurd (by decide) h9)
  refine lv_iconst (v := (-1)) hx hb dX12_next_39 (by decide) ?_
  refine W.widen (k := 0) (n := 0) (by decide) (by decide) ?_
  exact hret (-1) ([], []) _ _ _ _ dX12_next_40 rfl ⟨rfl, rfl⟩ (hP.sub [] rfl) (hK.sub [] rfl) (hD.sub [] (by decide +kernel) rfl) hS

set_option maxHeartbeats 8000000 in
set_option maxRecDepth 100000 in
theorem k_X12_sorry (l : Launch) (D : va_G) (ad : Nat → Nat) (am : Nat → Nat) (tm : Nat → ClassId) (p0 : Int32) (u_1 : Nat) (u_2 : Int32) (u_3 : Int32) (u_4 : Int32) (u_5 : Int32) (u_7 : Nat) (u_8 : Nat) (u_9 : Nat) (u_10 : Nat) (u_11 : Int32) (u_12 : Int32) (u_13 : Int32) (u_14 : Int32) (u_15 : Int32) (u_16 : Int32) (u_17 : Int64) (u_18 : Int32) (u_19 : Int32) (u_20 : Int32) (u_21 : Nat) (u_22 : Nat) (u_23 : Int32) (u_24 : Int32) (u_25 : Int32) (u_26 : Int32) (u_27 : Nat) (u_28 : Int32) (u_29 : Nat) (u_30 : Int32) (u_31 : Int32) (u_32 : Nat) (u_33 : Int32) (u_34 : Nat) (u_35 : Nat) (u_36 : Int32) (u_37 : Int32) (u_38 : Nat) (u_39 : Int32) (u_40 : Int32) (u_41 : Int32) (u_42 : Nat) (u_43 : Int32) (u_44 : Nat) (u_45 : Int32) (u_46 : Int32) (u_47 : Int32) (u_48 : Int32) (u_49 : Int32) (u_50 : Nat) (u_51 : Nat) (u_52 : Nat) (u_53 : Nat)  : z_Mi l yX12_sorry wsX12_sorry { frames := 1, cells := 0, slots := 0, locals := 22 } D ad [.ref (am 18), .int p0] [(am 1, .inl (tm 1, 283, .inl (upd (fun _ => 0) 4 2))), (am 18, .inr (11, [.int 0, .ref u_1, .int u_2, .int u_3, .int u_4, .int u_5, .ref (am 1), .ref u_7, .ref u_8, .ref u_9, .ref u_10, .int u_11, .int u_12, .int u_13, .int u_14, .int u_15, .int u_16, .long u_17, .int u_18, .int u_19, .int u_20, .ref u_21, .ref u_22, .int u_23, .int u_24, .int u_25, .int u_26, .ref u_27, .int u_28, .ref u_29, .int u_30, .int u_31, .ref u_32, .int u_33, .ref u_34, .ref u_35, .int u_36, .int u_37, .ref u_38, .int u_39, .int u_40, .int u_41, .ref u_42, .int u_43, .ref u_44, .int u_45, .int u_46, .int u_47, .int u_48, .int u_49, .ref u_50, .ref u_51, .ref u_52, .ref u_53]))] [(tm 1, .int)] 0 0 (fun r9 u9 => r9 = s_X12_sorry p0 ∧ u9 = ([], [])) := by
  refine z_ofI (cc := cX12_sorry) (maxL := 4) (rt := .int) (by decide) rfl (Nat.le_of_ble_eq_true rfl) ?_
  intro p e s m below meth c Q A ls hx hb hml hown hts hin hK hP hD hA hE hO hS hl hret
  have hown : s.vm.findClass RX12 = some m.cls := hown
  have hiX12 : ∀ w ∈ wsX120, w ∈ wsX12_sorry := fun _ h9 => List.mem_cons_of_mem _ (List.mem_append_right _ h9)
  have hl : lv_has ls 4 [(0, .ref (am 18)), (1, .int p0)] := hl
  refine lv_aload_n hx hb dX12_sorry_0 rfl (lv_at hl 0 rfl) ?_
  refine lv_iconst (v := 0) hx hb dX12_sorry_1 (by decide) ?_
  refine va_put (D := D) (ci := 11) (v := .int 0) (ty := tyX12 0) (C := RX12) (T := TX12) (N := 54) hx hb hts hiX12 tyX12 tyX12_ok nmX12 hown hK hP hD hS 1 rfl rfl 0 (by decide) (hts _ (List.mem_of_getElem? (i := 1) rfl)) (fun _ h9 => h9) rfl (tyX12_ok 0 (by decide)) rfl rfl (Nat.le_of_ble_eq_true rfl) dX12_sorry_2 (fun H locs hP hD hS => ?_)
  have hP : va_P D vwCl [(am 1, .inl (tm 1, 283, .inl (upd (fun _ => 0) 4 2))), (am 18, .inr (11, [.int 0, .ref u_1, .int u_2, .int u_3, .int u_4, .int u_5, .ref (am 1), .ref u_7, .ref u_8, .ref u_9, .ref u_10, .int u_11, .int u_12, .int u_13, .int u_14, .int u_15, .int u_16, .long u_17, .int u_18, .int u_19, .int u_20, .ref u_21, .ref u_22, .int u_23, .int u_24, .int u_25, .int u_26, .ref u_27, .int u_28, .ref u_29, .int u_30, .int u_31, .ref u_32, .int u_33, .ref u_34, .ref u_35, .int u_36, .int u_37, .ref u_38, .int u_39, .int u_40, .int u_41, .ref u_42, .int u_43, .ref u_44, .int u_45, .int u_46, .int u_47, .int u_48, .int u_49, .ref u_50, .ref u_51, .ref u_52, .ref u_53]))] H := hP
  have hD : va_D A [(am 1, .inl (tm 1, 283, .inl (upd (fun _ => 0) 4 2))), (am 18, .inr (11, [.int 0, .ref u_1, .int u_2, .int u_3, .int u_4, .int u_5, .ref (am 1), .ref u_7, .ref u_8, .ref u_9, .ref u_10, .int u_11, .int u_12, .int u_13, .int u_14, .int u_15, .int u_16, .long u_17, .int u_18, .int u_19, .int u_20, .ref u_21, .ref u_22, .int u_23, .int u_24, .int u_25, .int u_26, .ref u_27, .int u_28, .ref u_29, .int u_30, .int u_31, .ref u_32, .int u_33, .ref u_34, .ref u_35, .int u_36, .int u_37, .ref u_38, .int u_39, .int u_40, .int u_41, .ref u_42, .int u_43, .ref u_44, .int u_45, .int u_46, .int u_47, .int u_48, .int u_49, .ref u_50, .ref u_51, .ref u_52, .ref u_53]))] := hD
  refine lv_iload_n hx hb dX12_sorry_5 rfl (lv_at hl 1 rfl) ?_
  refine lv_iconst (v := 1) hx hb dX12_sorry_6 (by decide) ?_
  refine lv_sipush (v := 199) hx hb dX12_sorry_7 (by decide) ?_
  have hc9 := (k_X12_isIn l D ad p0 1 199 )
  refine z_calli (w0 := []) (wr := [(am 1, .inl (tm 1, 283, .inl (upd (fun _ => 0) 4 2))), (am 18, .inr (11, [.int 0, .ref u_1, .int u_2, .int u_3, .int u_4, .int u_5, .ref (am 1), .ref u_7, .ref u_8, .ref u_9, .ref u_10, .int u_11, .int u_12, .int u_13, .int u_14, .int u_15, .int u_16, .long u_17, .int u_18, .int u_19, .int u_20, .ref u_21, .ref u_22, .int u_23, .int u_24, .int u_25, .int u_26, .ref u_27, .int u_28, .ref u_29, .int u_30, .int u_31, .ref u_32, .int u_33, .ref u_34, .ref u_35, .int u_36, .int u_37, .ref u_38, .int u_39, .int u_40, .int u_41, .ref u_42, .int u_43, .ref u_44, .int u_45, .int u_46, .int u_47, .int u_48, .int u_49, .ref u_50, .ref u_51, .ref u_52, .ref u_53]))]) (va_runS (As := [.int p0, .int 1, .int 199]) (rest := []) ⟨hx, hb, hml, hown, hts⟩ (hc9 _) (va_cwS 3 hts gX12_sorry_X12_isIn rfl rfl rfl (by decide +kernel) ⟨Nat.le_of_ble_eq_true rfl, Nat.le_of_ble_eq_true rfl⟩) (z_preS hP hD hK hS hA hE hO [] [] rfl (by decide +kernel) rfl) rfl rfl hl.1 rfl (lv_room (Nat.le_of_ble_eq_true rfl)) dX12_sorry_10 ⟨Nat.le_of_ble_eq_true rfl, Nat.le_of_ble_eq_true rfl⟩) hP hD hK hS hA [] [0, 1] rfl rfl (by decide +kernel) (by decide +kernel) (fun r9 u9 H locs hw hP hD hK hS => ?_)
  obtain ⟨er9, rfl⟩ := hw
  have hP : va_P D vwCl [(am 1, .inl (tm 1, 283, .inl (upd (fun _ => 0) 4 2))), (am 18, .inr (11, [.int 0, .ref u_1, .int u_2, .int u_3, .int u_4, .int u_5, .ref (am 1), .ref u_7, .ref u_8, .ref u_9, .ref u_10, .int u_11, .int u_12, .int u_13, .int u_14, .int u_15, .int u_16, .long u_17, .int u_18, .int u_19, .int u_20, .ref u_21, .ref u_22, .int u_23, .int u_24, .int u_25, .int u_26, .ref u_27, .int u_28, .ref u_29, .int u_30, .int u_31, .ref u_32, .int u_33, .ref u_34, .ref u_35, .int u_36, .int u_37, .ref u_38, .int u_39, .int u_40, .int u_41, .ref u_42, .int u_43, .ref u_44, .int u_45, .int u_46, .int u_47, .int u_48, .int u_49, .ref u_50, .ref u_51, .ref u_52, .ref u_53]))] H := hP
  have hD : va_D A [(am 1, .inl (tm 1, 283, .inl (upd (fun _ => 0) 4 2))), (am 18, .inr (11, [.int 0, .ref u_1, .int u_2, .int u_3, .int u_4, .int u_5, .ref (am 1), .ref u_7, .ref u_8, .ref u_9, .ref u_10, .int u_11, .int u_12, .int u_13, .int u_14, .int u_15, .int u_16, .long u_17, .int u_18, .int u_19, .int u_20, .ref u_21, .ref u_22, .int u_23, .int u_24, .int u_25, .int u_26, .ref u_27, .int u_28, .ref u_29, .int u_30, .int u_31, .ref u_32, .int u_33, .ref u_34, .ref u_35, .int u_36, .int u_37, .ref u_38, .int u_39, .int u_40, .int u_41, .ref u_42, .int u_43, .ref u_44, .int u_45, .int u_46, .int u_47, .int u_48, .int u_49, .ref u_50, .ref u_51, .ref u_52, .ref u_53]))] := hD
  have hK : va_K D vwCl [(tm 1, .int)] s := hK
  refine W.cs (cells' := 0) (slots' := 0) rfl rfl ?_
  obtain rfl := er9
  refine W.eq (g2 := F0 m 13 ls (.int (s_X12_isIn p0 1 199) :: [])) rfl ?_
  refine lv_if_ne (tgt := 18) hx hb dX12_sorry_13 (by decide) (fun c_1 => ?_) (fun c_1 => ?_)
  · refine lv_iconst (v := 0) hx hb dX12_sorry_18 (by decide) ?_
    refine lv_istore_n (lv' := [(2, .int 0), (0, .ref (am 18)), (1, .int p0)]) hx hb dX12_sorry_19 rfl hl (by decide) rfl (fun ls hl => ?_)
    refine lv_iconst (v := 0) hx hb dX12_sorry_20 (by decide) ?_
    refine lv_istore_n (lv' := [(3, .int 0), (2, .int 0), (0, .ref (am 18)), (1, .int p0)]) hx hb dX12_sorry_21 rfl hl (by decide) rfl (fun ls hl => ?_)
    refine lv_iload_n hx hb dX12_sorry_22 rfl (lv_at hl 0 rfl) ?_
    refine lv_aload_n hx hb dX12_sorry_23 rfl (lv_at hl 2 rfl) ?_
    refine va_get (D := D) (ci := 11) (v := .ref (am 1)) (C := RX12) (T := TX12) (N := 54) hx hb hts hiX12 hown hK hP 1 rfl rfl 6 (by decide) (hts _ (List.mem_of_getElem? (i := 2) rfl)) (fun _ h9 => h9) rfl dX12_sorry_24 ?_
    refine lv_iconst (v := 1) hx hb dX12_sorry_27 (by decide) ?_
    refine va_iald hx hb hK hP 0 0 rfl rfl (show ¬ (_ ∨ _) by decide) dX12_sorry_28 ?_
    refine W.eq (g2 := F0 m 29 ls (.int 0 :: [.int 0])) rfl ?_
    refine lv_icmp_ge (tgt := 57) hx hb dX12_sorry_29 (by decide) (fun _ => ?_) (fun h9 => absurd (by decide) h9)
    refine lv_iload_n hx hb dX12_sorry_57 rfl (lv_at hl 1 rfl) ?_
    refine W.widen (k := 0) (n := 0) (by decide) (by decide) ?_
    exact hret 0 ([], []) _ _ _ _ dX12_sorry_58 rfl ⟨by unfold s_X12_sorry; rw [if_neg c_1], rfl⟩ (hP.sub [] rfl) (hK.sub [] rfl) (hD.sub [] (by decide +kernel) rfl) hS
  · refine lv_iconst (v := (-1)) hx hb dX12_sorry_16 (by decide) ?_
    refine W.widen (k := 0) (n := 0) (by decide) (by decide) ?_
    exact hret (-1) ([], []) _ _ _ _ dX12_sorry_17 rfl ⟨by unfold s_X12_sorry; rw [if_pos c_1], rfl⟩ (hP.sub [] rfl) (hK.sub [] rfl) (hD.sub [] (by decide +kernel) rfl) hS

set_option maxHeartbeats 8000000 in
set_option maxRecDepth 100000 in
theorem k_X12_odds (l : Launch) (D : va_G) (ad : Nat → Nat) (am : Nat → Nat) (tm : Nat → ClassId) (p0 : Int32) (p1 : Int32) (p2 : Int32) (u_1 : Nat) (u_2 : Int32) (u_3 : Int32) (u_4 : Int32) (u_5 : Int32) (u_7 : Nat) (u_8 : Nat) (u_9 : Nat) (u_10 : Nat) (u_11 : Int32) (u_12 : Int32) (u_13 : Int32) (u_14 : Int32) (u_15 : Int32) (u_16 : Int32) (u_17 : Int64) (u_18 : Int32) (u_19 : Int32) (u_20 : Int32) (u_21 : Nat) (u_22 : Nat) (u_23 : Int32) (u_24 : Int32) (u_25 : Int32) (u_26 : Int32) (u_27 : Nat) (u_28 : Int32) (u_29 : Nat) (u_30 : Int32) (u_31 : Int32) (u_32 : Nat) (u_33 : Int32) (u_34 : Nat) (u_35 : Nat) (u_36 : Int32) (u_37 : Int32) (u_38 : Nat) (u_39 : Int32) (u_40 : Int32) (u_41 : Int32) (u_42 : Nat) (u_43 : Int32) (u_44 : Nat) (u_45 : Int32) (u_46 : Int32) (u_47 : Int32) (u_48 : Int32) (u_49 : Int32) (u_50 : Nat) (u_51 : Nat) (u_52 : Nat) (u_53 : Nat)  : z_Mi l yX12_odds wsX12_odds { frames := 2, cells := 0, slots := 0, locals := 43 } D ad [.ref (am 18), .int p0, .int p1, .int p2] [(am 1, .inl (tm 1, 283, .inl (upd (fun _ => 0) 4 2))), (am 18, .inr (11, [.int 0, .ref u_1, .int u_2, .int u_3, .int u_4, .int u_5, .ref (am 1), .ref u_7, .ref u_8, .ref u_9, .ref u_10, .int u_11, .int u_12, .int u_13, .int u_14, .int u_15, .int u_16, .long u_17, .int u_18, .int u_19, .int u_20, .ref u_21, .ref u_22, .int u_23, .int u_24, .int u_25, .int u_26, .ref u_27, .int u_28, .ref u_29, .int u_30, .int u_31, .ref u_32, .int u_33, .ref u_34, .ref u_35, .int u_36, .int u_37, .ref u_38, .int u_39, .int u_40, .int u_41, .ref u_42, .int u_43, .ref u_44, .int u_45, .int u_46, .int u_47, .int u_48, .int u_49, .ref u_50, .ref u_51, .ref u_52, .ref u_53]))] [(tm 1, .int)] 0 0 (fun r9 u9 => r9 = (-1) ∧ u9 = ([], [])) := by
  refine z_ofI (cc := cX12_odds) (maxL := 7) (rt := .int) (by decide) rfl (Nat.le_of_ble_eq_true rfl) ?_
  intro p e s m below meth c Q A ls hx hb hml hown hts hin hK hP hD hA hE hO hS hl hret
  have hown : s.vm.findClass RX12 = some m.cls := hown
  have hiX12 : ∀ w ∈ wsX120, w ∈ wsX12_odds := fun _ h9 => List.mem_cons_of_mem _ (List.mem_append_right _ h9)
  have hl : lv_has ls 7 [(0, .ref (am 18)), (1, .int p0), (2, .int p1), (3, .int p2)] := hl
  refine lv_aload_n hx hb dX12_odds_0 rfl (lv_at hl 0 rfl) ?_
  refine lv_iconst (v := 0) hx hb dX12_odds_1 (by decide) ?_
  refine va_put (D := D) (ci := 11) (v := .int 0) (ty := tyX12 0) (C := RX12) (T := TX12) (N := 54) hx hb hts hiX12 tyX12 tyX12_ok nmX12 hown hK hP hD hS 1 rfl rfl 0 (by decide) (hts _ (List.mem_of_getElem? (i := 1) rfl)) (fun _ h9 => h9) rfl (tyX12_ok 0 (by decide)) rfl rfl (Nat.le_of_ble_eq_true rfl) dX12_odds_2 (fun H locs hP hD hS => ?_)
  have hP : va_P D vwCl [(am 1, .inl (tm 1, 283, .inl (upd (fun _ => 0) 4 2))), (am 18, .inr (11, [.int 0, .ref u_1, .int u_2, .int u_3, .int u_4, .int u_5, .ref (am 1), .ref u_7, .ref u_8, .ref u_9, .ref u_10, .int u_11, .int u_12, .int u_13, .int u_14, .int u_15, .int u_16, .long u_17, .int u_18, .int u_19, .int u_20, .ref u_21, .ref u_22, .int u_23, .int u_24, .int u_25, .int u_26, .ref u_27, .int u_28, .ref u_29, .int u_30, .int u_31, .ref u_32, .int u_33, .ref u_34, .ref u_35, .int u_36, .int u_37, .ref u_38, .int u_39, .int u_40, .int u_41, .ref u_42, .int u_43, .ref u_44, .int u_45, .int u_46, .int u_47, .int u_48, .int u_49, .ref u_50, .ref u_51, .ref u_52, .ref u_53]))] H := hP
  have hD : va_D A [(am 1, .inl (tm 1, 283, .inl (upd (fun _ => 0) 4 2))), (am 18, .inr (11, [.int 0, .ref u_1, .int u_2, .int u_3, .int u_4, .int u_5, .ref (am 1), .ref u_7, .ref u_8, .ref u_9, .ref u_10, .int u_11, .int u_12, .int u_13, .int u_14, .int u_15, .int u_16, .long u_17, .int u_18, .int u_19, .int u_20, .ref u_21, .ref u_22, .int u_23, .int u_24, .int u_25, .int u_26, .ref u_27, .int u_28, .ref u_29, .int u_30, .int u_31, .ref u_32, .int u_33, .ref u_34, .ref u_35, .int u_36, .int u_37, .ref u_38, .int u_39, .int u_40, .int u_41, .ref u_42, .int u_43, .ref u_44, .int u_45, .int u_46, .int u_47, .int u_48, .int u_49, .ref u_50, .ref u_51, .ref u_52, .ref u_53]))] := hD
  refine lv_aload_n hx hb dX12_odds_5 rfl (lv_at hl 0 rfl) ?_
  refine lv_iload_n hx hb dX12_odds_6 rfl (lv_at hl 1 rfl) ?_
  have hc9 := (k_X12_isPerson l D ad am tm p0 0 u_1 u_2 u_3 u_4 u_5 u_7 u_8 u_9 u_10 u_11 u_12 u_13 u_14 u_15 u_16 u_17 u_18 u_19 u_20 u_21 u_22 u_23 u_24 u_25 u_26 u_27 u_28 u_29 u_30 u_31 u_32 u_33 u_34 u_35 u_36 u_37 u_38 u_39 u_40 u_41 u_42 u_43 u_44 u_45 u_46 u_47 u_48 u_49 u_50 u_51 u_52 u_53 )
  refine z_calli (w0 := [(am 1, .inl (tm 1, 283, .inl (upd (fun _ => 0) 4 2))), (am 18, .inr (11, [.int 0, .ref u_1, .int u_2, .int u_3, .int u_4, .int u_5, .ref (am 1), .ref u_7, .ref u_8, .ref u_9, .ref u_10, .int u_11, .int u_12, .int u_13, .int u_14, .int u_15, .int u_16, .long u_17, .int u_18, .int u_19, .int u_20, .ref u_21, .ref u_22, .int u_23, .int u_24, .int u_25, .int u_26, .ref u_27, .int u_28, .ref u_29, .int u_30, .int u_31, .ref u_32, .int u_33, .ref u_34, .ref u_35, .int u_36, .int u_37, .ref u_38, .int u_39, .int u_40, .int u_41, .ref u_42, .int u_43, .ref u_44, .int u_45, .int u_46, .int u_47, .int u_48, .int u_49, .ref u_50, .ref u_51, .ref u_52, .ref u_53]))]) (wr := []) (va_runV (As := [.int p0]) (rest := []) ⟨hx, hb, hml, hown, hts⟩ (hc9 _) (cwV 1 hts gX12_odds_X12_isPerson rfl rfl rfl (by decide +kernel) ⟨Nat.le_of_ble_eq_true rfl, Nat.le_of_ble_eq_true rfl⟩) (z_preV hP hD hK hS hA hE hO [0, 1] [0] rfl (by decide +kernel) rfl 1 11 rfl rfl rfl) rfl rfl hl.1 rfl (lv_room (Nat.le_of_ble_eq_true rfl)) dX12_odds_7 ⟨Nat.le_of_ble_eq_true rfl, Nat.le_of_ble_eq_true rfl⟩) hP hD hK hS hA [0, 1] [] rfl rfl (by decide +kernel) (by decide +kernel) (fun r9 u9 H locs hw hP hD hK hS => ?_)
  obtain ⟨er9, rfl⟩ := hw
  have hP : va_P D vwCl [(am 1, .inl (tm 1, 283, .inl (upd (fun _ => 0) 4 2))), (am 18, .inr (11, [.int 0, .ref u_1, .int u_2, .int u_3, .int u_4, .int u_5, .ref (am 1), .ref u_7, .ref u_8, .ref u_9, .ref u_10, .int u_11, .int u_12, .int u_13, .int u_14, .int u_15, .int u_16, .long u_17, .int u_18, .int u_19, .int u_20, .ref u_21, .ref u_22, .int u_23, .int u_24, .int u_25, .int u_26, .ref u_27, .int u_28, .ref u_29, .int u_30, .int u_31, .ref u_32, .int u_33, .ref u_34, .ref u_35, .int u_36, .int u_37, .ref u_38, .int u_39, .int u_40, .int u_41, .ref u_42, .int u_43, .ref u_44, .int u_45, .int u_46, .int u_47, .int u_48, .int u_49, .ref u_50, .ref u_51, .ref u_52, .ref u_53]))] H := hP
  have hD : va_D A [(am 1, .inl (tm 1, 283, .inl (upd (fun _ => 0) 4 2))), (am 18, .inr (11, [.int 0, .ref u_1, .int u_2, .int u_3, .int u_4, .int u_5, .ref (am 1), .ref u_7, .ref u_8, .ref u_9, .ref u_10, .int u_11, .int u_12, .int u_13, .int u_14, .int u_15, .int u_16, .long u_17, .int u_18, .int u_19, .int u_20, .ref u_21, .ref u_22, .int u_23, .int u_24, .int u_25, .int u_26, .ref u_27, .int u_28, .ref u_29, .int u_30, .int u_31, .ref u_32, .int u_33, .ref u_34, .ref u_35, .int u_36, .int u_37, .ref u_38, .int u_39, .int u_40, .int u_41, .ref u_42, .int u_43, .ref u_44, .int u_45, .int u_46, .int u_47, .int u_48, .int u_49, .ref u_50, .ref u_51, .ref u_52, .ref u_53]))] := hD
  have hK : va_K D vwCl [(tm 1, .int)] s := hK
  refine W.cs (cells' := 0) (slots' := 0) rfl rfl ?_
  obtain rfl := er9
  refine W.eq (g2 := F0 m 10 ls (.int 0 :: [])) rfl ?_
  refine lv_if_eq (tgt := 23) hx hb dX12_odds_10 (by decide) (fun _ => ?_) (fun h9 => absurd (by decide) h9)
  refine lv_iconst (v := (-1)) hx hb dX12_odds_23 (by decide) ?_
  refine W.widen (k := 0) (n := 0) (by decide) (by decide) ?_
  exact hret (-1) ([], []) _ _ _ _ dX12_odds_24 rfl ⟨rfl, rfl⟩ (hP.sub [] rfl) (hK.sub [] rfl) (hD.sub [] (by decide +kernel) rfl) hS

set_option maxHeartbeats 8000000 in
set_option maxRecDepth 100000 in
theorem k_X12_toldOf (l : Launch) (D : va_G) (ad : Nat → Nat) (am : Nat → Nat) (tm : Nat → ClassId) (p0 : Int32) (p1 : Int32) (u_1 : Nat) (u_2 : Int32) (u_3 : Int32) (u_4 : Int32) (u_5 : Int32) (u_7 : Nat) (u_8 : Nat) (u_9 : Nat) (u_10 : Nat) (u_11 : Int32) (u_12 : Int32) (u_13 : Int32) (u_14 : Int32) (u_15 : Int32) (u_16 : Int32) (u_17 : Int64) (u_18 : Int32) (u_19 : Int32) (u_20 : Int32) (u_21 : Nat) (u_22 : Nat) (u_23 : Int32) (u_24 : Int32) (u_25 : Int32) (u_26 : Int32) (u_27 : Nat) (u_28 : Int32) (u_29 : Nat) (u_30 : Int32) (u_31 : Int32) (u_32 : Nat) (u_33 : Int32) (u_34 : Nat) (u_35 : Nat) (u_36 : Int32) (u_37 : Int32) (u_38 : Nat) (u_39 : Int32) (u_40 : Int32) (u_41 : Int32) (u_42 : Nat) (u_43 : Int32) (u_44 : Nat) (u_45 : Int32) (u_46 : Int32) (u_47 : Int32) (u_48 : Int32) (u_49 : Int32) (u_50 : Nat) (u_51 : Nat) (u_52 : Nat) (u_53 : Nat)  : z_Mi l yX12_toldOf wsX12_toldOf { frames := 2, cells := 0, slots := 0, locals := 43 } D ad [.ref (am 18), .int p0, .int p1] [(am 1, .inl (tm 1, 283, .inl (upd (fun _ => 0) 4 2))), (am 18, .inr (11, [.int 0, .ref u_1, .int u_2, .int u_3, .int u_4, .int u_5, .ref (am 1), .ref u_7, .ref u_8, .ref u_9, .ref u_10, .int u_11, .int u_12, .int u_13, .int u_14, .int u_15, .int u_16, .long u_17, .int u_18, .int u_19, .int u_20, .ref u_21, .ref u_22, .int u_23, .int u_24, .int u_25, .int u_26, .ref u_27, .int u_28, .ref u_29, .int u_30, .int u_31, .ref u_32, .int u_33, .ref u_34, .ref u_35, .int u_36, .int u_37, .ref u_38, .int u_39, .int u_40, .int u_41, .ref u_42, .int u_43, .ref u_44, .int u_45, .int u_46, .int u_47, .int u_48, .int u_49, .ref u_50, .ref u_51, .ref u_52, .ref u_53]))] [(tm 1, .int)] 0 0 (fun r9 u9 => r9 = (-1) ∧ u9 = ([], [])) := by
  refine z_ofI (cc := cX12_toldOf) (maxL := 8) (rt := .int) (by decide) rfl (Nat.le_of_ble_eq_true rfl) ?_
  intro p e s m below meth c Q A ls hx hb hml hown hts hin hK hP hD hA hE hO hS hl hret
  have hown : s.vm.findClass RX12 = some m.cls := hown
  have hiX12 : ∀ w ∈ wsX120, w ∈ wsX12_toldOf := fun _ h9 => List.mem_cons_of_mem _ (List.mem_append_right _ h9)
  have hl : lv_has ls 8 [(0, .ref (am 18)), (1, .int p0), (2, .int p1)] := hl
  refine lv_aload_n hx hb dX12_toldOf_0 rfl (lv_at hl 0 rfl) ?_
  refine lv_iconst (v := 0) hx hb dX12_toldOf_1 (by decide) ?_
  refine va_put (D := D) (ci := 11) (v := .int 0) (ty := tyX12 0) (C := RX12) (T := TX12) (N := 54) hx hb hts hiX12 tyX12 tyX12_ok nmX12 hown hK hP hD hS 1 rfl rfl 0 (by decide) (hts _ (List.mem_of_getElem? (i := 1) rfl)) (fun _ h9 => h9) rfl (tyX12_ok 0 (by decide)) rfl rfl (Nat.le_of_ble_eq_true rfl) dX12_toldOf_2 (fun H locs hP hD hS => ?_)
  have hP : va_P D vwCl [(am 1, .inl (tm 1, 283, .inl (upd (fun _ => 0) 4 2))), (am 18, .inr (11, [.int 0, .ref u_1, .int u_2, .int u_3, .int u_4, .int u_5, .ref (am 1), .ref u_7, .ref u_8, .ref u_9, .ref u_10, .int u_11, .int u_12, .int u_13, .int u_14, .int u_15, .int u_16, .long u_17, .int u_18, .int u_19, .int u_20, .ref u_21, .ref u_22, .int u_23, .int u_24, .int u_25, .int u_26, .ref u_27, .int u_28, .ref u_29, .int u_30, .int u_31, .ref u_32, .int u_33, .ref u_34, .ref u_35, .int u_36, .int u_37, .ref u_38, .int u_39, .int u_40, .int u_41, .ref u_42, .int u_43, .ref u_44, .int u_45, .int u_46, .int u_47, .int u_48, .int u_49, .ref u_50, .ref u_51, .ref u_52, .ref u_53]))] H := hP
  have hD : va_D A [(am 1, .inl (tm 1, 283, .inl (upd (fun _ => 0) 4 2))), (am 18, .inr (11, [.int 0, .ref u_1, .int u_2, .int u_3, .int u_4, .int u_5, .ref (am 1), .ref u_7, .ref u_8, .ref u_9, .ref u_10, .int u_11, .int u_12, .int u_13, .int u_14, .int u_15, .int u_16, .long u_17, .int u_18, .int u_19, .int u_20, .ref u_21, .ref u_22, .int u_23, .int u_24, .int u_25, .int u_26, .ref u_27, .int u_28, .ref u_29, .int u_30, .int u_31, .ref u_32, .int u_33, .ref u_34, .ref u_35, .int u_36, .int u_37, .ref u_38, .int u_39, .int u_40, .int u_41, .ref u_42, .int u_43, .ref u_44, .int u_45, .int u_46, .int u_47, .int u_48, .int u_49, .ref u_50, .ref u_51, .ref u_52, .ref u_53]))] := hD
  refine lv_aload_n hx hb dX12_toldOf_5 rfl (lv_at hl 0 rfl) ?_
  refine lv_iload_n hx hb dX12_toldOf_6 rfl (lv_at hl 1 rfl) ?_
  have hc9 := (k_X12_isUmbrella l D ad am tm p0 0 u_1 u_2 u_3 u_4 u_5 u_7 u_8 u_9 u_10 u_11 u_12 u_13 u_14 u_15 u_16 u_17 u_18 u_19 u_20 u_21 u_22 u_23 u_24 u_25 u_26 u_27 u_28 u_29 u_30 u_31 u_32 u_33 u_34 u_35 u_36 u_37 u_38 u_39 u_40 u_41 u_42 u_43 u_44 u_45 u_46 u_47 u_48 u_49 u_50 u_51 u_52 u_53 )
  refine z_calli (w0 := [(am 1, .inl (tm 1, 283, .inl (upd (fun _ => 0) 4 2))), (am 18, .inr (11, [.int 0, .ref u_1, .int u_2, .int u_3, .int u_4, .int u_5, .ref (am 1), .ref u_7, .ref u_8, .ref u_9, .ref u_10, .int u_11, .int u_12, .int u_13, .int u_14, .int u_15, .int u_16, .long u_17, .int u_18, .int u_19, .int u_20, .ref u_21, .ref u_22, .int u_23, .int u_24, .int u_25, .int u_26, .ref u_27, .int u_28, .ref u_29, .int u_30, .int u_31, .ref u_32, .int u_33, .ref u_34, .ref u_35, .int u_36, .int u_37, .ref u_38, .int u_39, .int u_40, .int u_41, .ref u_42, .int u_43, .ref u_44, .int u_45, .int u_46, .int u_47, .int u_48, .int u_49, .ref u_50, .ref u_51, .ref u_52, .ref u_53]))]) (wr := []) (va_runV (As := [.int p0]) (rest := []) ⟨hx, hb, hml, hown, hts⟩ (hc9 _) (cwV 1 hts gX12_toldOf_X12_isUmbrella rfl rfl rfl (by decide +kernel) ⟨Nat.le_of_ble_eq_true rfl, Nat.le_of_ble_eq_true rfl⟩) (z_preV hP hD hK hS hA hE hO [0, 1] [0] rfl (by decide +kernel) rfl 1 11 rfl rfl rfl) rfl rfl hl.1 rfl (lv_room (Nat.le_of_ble_eq_true rfl)) dX12_toldOf_7 ⟨Nat.le_of_ble_eq_true rfl, Nat.le_of_ble_eq_true rfl⟩) hP hD hK hS hA [0, 1] [] rfl rfl (by decide +kernel) (by decide +kernel) (fun r9 u9 H locs hw hP hD hK hS => ?_)
  obtain ⟨er9, rfl⟩ := hw
  have hP : va_P D vwCl [(am 1, .inl (tm 1, 283, .inl (upd (fun _ => 0) 4 2))), (am 18, .inr (11, [.int 0, .ref u_1, .int u_2, .int u_3, .int u_4, .int u_5, .ref (am 1), .ref u_7, .ref u_8, .ref u_9, .ref u_10, .int u_11, .int u_12, .int u_13, .int u_14, .int u_15, .int u_16, .long u_17, .int u_18, .int u_19, .int u_20, .ref u_21, .ref u_22, .int u_23, .int u_24, .int u_25, .int u_26, .ref u_27, .int u_28, .ref u_29, .int u_30, .int u_31, .ref u_32, .int u_33, .ref u_34, .ref u_35, .int u_36, .int u_37, .ref u_38, .int u_39, .int u_40, .int u_41, .ref u_42, .int u_43, .ref u_44, .int u_45, .int u_46, .int u_47, .int u_48, .int u_49, .ref u_50, .ref u_51, .ref u_52, .ref u_53]))] H := hP
  have hD : va_D A [(am 1, .inl (tm 1, 283, .inl (upd (fun _ => 0) 4 2))), (am 18, .inr (11, [.int 0, .ref u_1, .int u_2, .int u_3, .int u_4, .int u_5, .ref (am 1), .ref u_7, .ref u_8, .ref u_9, .ref u_10, .int u_11, .int u_12, .int u_13, .int u_14, .int u_15, .int u_16, .long u_17, .int u_18, .int u_19, .int u_20, .ref u_21, .ref u_22, .int u_23, .int u_24, .int u_25, .int u_26, .ref u_27, .int u_28, .ref u_29, .int u_30, .int u_31, .ref u_32, .int u_33, .ref u_34, .ref u_35, .int u_36, .int u_37, .ref u_38, .int u_39, .int u_40, .int u_41, .ref u_42, .int u_43, .ref u_44, .int u_45, .int u_46, .int u_47, .int u_48, .int u_49, .ref u_50, .ref u_51, .ref u_52, .ref u_53]))] := hD
  have hK : va_K D vwCl [(tm 1, .int)] s := hK
  refine W.cs (cells' := 0) (slots' := 0) rfl rfl ?_
  obtain rfl := er9
  refine W.eq (g2 := F0 m 10 ls (.int 0 :: [])) rfl ?_
  refine lv_if_eq (tgt := 37) hx hb dX12_toldOf_10 (by decide) (fun _ => ?_) (fun h9 => absurd (by decide) h9)
  refine lv_iconst (v := (-1)) hx hb dX12_toldOf_37 (by decide) ?_
  refine W.widen (k := 0) (n := 0) (by decide) (by decide) ?_
  exact hret (-1) ([], []) _ _ _ _ dX12_toldOf_38 rfl ⟨rfl, rfl⟩ (hP.sub [] rfl) (hK.sub [] rfl) (hD.sub [] (by decide +kernel) rfl) hS

set_option maxHeartbeats 8000000 in
set_option maxRecDepth 100000 in
theorem k_X12_turns (l : Launch) (D : va_G) (ad : Nat → Nat) (am : Nat → Nat) (tm : Nat → ClassId) (p0 : Int32) (p1 : Int32) (p2 : Int32) (u_1 : Nat) (u_2 : Int32) (u_3 : Int32) (u_4 : Int32) (u_5 : Int32) (u_7 : Nat) (u_8 : Nat) (u_9 : Nat) (u_10 : Nat) (u_11 : Int32) (u_12 : Int32) (u_13 : Int32) (u_14 : Int32) (u_15 : Int32) (u_16 : Int32) (u_17 : Int64) (u_18 : Int32) (u_19 : Int32) (u_20 : Int32) (u_21 : Nat) (u_22 : Nat) (u_23 : Int32) (u_24 : Int32) (u_25 : Int32) (u_26 : Int32) (u_27 : Nat) (u_28 : Int32) (u_29 : Nat) (u_30 : Int32) (u_31 : Int32) (u_32 : Nat) (u_33 : Int32) (u_34 : Nat) (u_35 : Nat) (u_36 : Int32) (u_37 : Int32) (u_38 : Nat) (u_39 : Int32) (u_40 : Int32) (u_41 : Int32) (u_42 : Nat) (u_43 : Int32) (u_44 : Nat) (u_45 : Int32) (u_46 : Int32) (u_47 : Int32) (u_48 : Int32) (u_49 : Int32) (u_50 : Nat) (u_51 : Nat) (u_52 : Nat) (u_53 : Nat)  : z_Mi l yX12_turns wsX12_turns { frames := 2, cells := 0, slots := 0, locals := 43 } D ad [.ref (am 18), .int p0, .int p1, .int p2] [(am 1, .inl (tm 1, 283, .inl (upd (fun _ => 0) 4 2))), (am 18, .inr (11, [.int 0, .ref u_1, .int u_2, .int u_3, .int u_4, .int u_5, .ref (am 1), .ref u_7, .ref u_8, .ref u_9, .ref u_10, .int u_11, .int u_12, .int u_13, .int u_14, .int u_15, .int u_16, .long u_17, .int u_18, .int u_19, .int u_20, .ref u_21, .ref u_22, .int u_23, .int u_24, .int u_25, .int u_26, .ref u_27, .int u_28, .ref u_29, .int u_30, .int u_31, .ref u_32, .int u_33, .ref u_34, .ref u_35, .int u_36, .int u_37, .ref u_38, .int u_39, .int u_40, .int u_41, .ref u_42, .int u_43, .ref u_44, .int u_45, .int u_46, .int u_47, .int u_48, .int u_49, .ref u_50, .ref u_51, .ref u_52, .ref u_53]))] [(tm 1, .int)] 0 0 (fun r9 u9 => r9 = (-1) ∧ u9 = ([], [])) := by
  refine z_ofI (cc := cX12_turns) (maxL := 8) (rt := .int) (by decide) rfl (Nat.le_of_ble_eq_true rfl) ?_
  intro p e s m below meth c Q A ls hx hb hml hown hts hin hK hP hD hA hE hO hS hl hret
  have hown : s.vm.findClass RX12 = some m.cls := hown
  have hiX12 : ∀ w ∈ wsX120, w ∈ wsX12_turns := fun _ h9 => List.mem_cons_of_mem _ (List.mem_append_right _ h9)
  have hl : lv_has ls 8 [(0, .ref (am 18)), (1, .int p0), (2, .int p1), (3, .int p2)] := hl
  refine lv_aload_n hx hb dX12_turns_0 rfl (lv_at hl 0 rfl) ?_
  refine lv_iconst (v := 0) hx hb dX12_turns_1 (by decide) ?_
  refine va_put (D := D) (ci := 11) (v := .int 0) (ty := tyX12 0) (C := RX12) (T := TX12) (N := 54) hx hb hts hiX12 tyX12 tyX12_ok nmX12 hown hK hP hD hS 1 rfl rfl 0 (by decide) (hts _ (List.mem_of_getElem? (i := 1) rfl)) (fun _ h9 => h9) rfl (tyX12_ok 0 (by decide)) rfl rfl (Nat.le_of_ble_eq_true rfl) dX12_turns_2 (fun H locs hP hD hS => ?_)
  have hP : va_P D vwCl [(am 1, .inl (tm 1, 283, .inl (upd (fun _ => 0) 4 2))), (am 18, .inr (11, [.int 0, .ref u_1, .int u_2, .int u_3, .int u_4, .int u_5, .ref (am 1), .ref u_7, .ref u_8, .ref u_9, .ref u_10, .int u_11, .int u_12, .int u_13, .int u_14, .int u_15, .int u_16, .long u_17, .int u_18, .int u_19, .int u_20, .ref u_21, .ref u_22, .int u_23, .int u_24, .int u_25, .int u_26, .ref u_27, .int u_28, .ref u_29, .int u_30, .int u_31, .ref u_32, .int u_33, .ref u_34, .ref u_35, .int u_36, .int u_37, .ref u_38, .int u_39, .int u_40, .int u_41, .ref u_42, .int u_43, .ref u_44, .int u_45, .int u_46, .int u_47, .int u_48, .int u_49, .ref u_50, .ref u_51, .ref u_52, .ref u_53]))] H := hP
  have hD : va_D A [(am 1, .inl (tm 1, 283, .inl (upd (fun _ => 0) 4 2))), (am 18, .inr (11, [.int 0, .ref u_1, .int u_2, .int u_3, .int u_4, .int u_5, .ref (am 1), .ref u_7, .ref u_8, .ref u_9, .ref u_10, .int u_11, .int u_12, .int u_13, .int u_14, .int u_15, .int u_16, .long u_17, .int u_18, .int u_19, .int u_20, .ref u_21, .ref u_22, .int u_23, .int u_24, .int u_25, .int u_26, .ref u_27, .int u_28, .ref u_29, .int u_30, .int u_31, .ref u_32, .int u_33, .ref u_34, .ref u_35, .int u_36, .int u_37, .ref u_38, .int u_39, .int u_40, .int u_41, .ref u_42, .int u_43, .ref u_44, .int u_45, .int u_46, .int u_47, .int u_48, .int u_49, .ref u_50, .ref u_51, .ref u_52, .ref u_53]))] := hD
  refine lv_aload_n hx hb dX12_turns_5 rfl (lv_at hl 0 rfl) ?_
  refine lv_iload_n hx hb dX12_turns_6 rfl (lv_at hl 1 rfl) ?_
  have hc9 := (k_X12_isUmbrella l D ad am tm p0 0 u_1 u_2 u_3 u_4 u_5 u_7 u_8 u_9 u_10 u_11 u_12 u_13 u_14 u_15 u_16 u_17 u_18 u_19 u_20 u_21 u_22 u_23 u_24 u_25 u_26 u_27 u_28 u_29 u_30 u_31 u_32 u_33 u_34 u_35 u_36 u_37 u_38 u_39 u_40 u_41 u_42 u_43 u_44 u_45 u_46 u_47 u_48 u_49 u_50 u_51 u_52 u_53 )
  refine z_calli (w0 := [(am 1, .inl (tm 1, 283, .inl (upd (fun _ => 0) 4 2))), (am 18, .inr (11, [.int 0, .ref u_1, .int u_2, .int u_3, .int u_4, .int u_5, .ref (am 1), .ref u_7, .ref u_8, .ref u_9, .ref u_10, .int u_11, .int u_12, .int u_13, .int u_14, .int u_15, .int u_16, .long u_17, .int u_18, .int u_19, .int u_20, .ref u_21, .ref u_22, .int u_23, .int u_24, .int u_25, .int u_26, .ref u_27, .int u_28, .ref u_29, .int u_30, .int u_31, .ref u_32, .int u_33, .ref u_34, .ref u_35, .int u_36, .int u_37, .ref u_38, .int u_39, .int u_40, .int u_41, .ref u_42, .int u_43, .ref u_44, .int u_45, .int u_46, .int u_47, .int u_48, .int u_49, .ref u_50, .ref u_51, .ref u_52, .ref u_53]))]) (wr := []) (va_runV (As := [.int p0]) (rest := []) ⟨hx, hb, hml, hown, hts⟩ (hc9 _) (cwV 1 hts gX12_turns_X12_isUmbrella rfl rfl rfl (by decide +kernel) ⟨Nat.le_of_ble_eq_true rfl, Nat.le_of_ble_eq_true rfl⟩) (z_preV hP hD hK hS hA hE hO [0, 1] [0] rfl (by decide +kernel) rfl 1 11 rfl rfl rfl) rfl rfl hl.1 rfl (lv_room (Nat.le_of_ble_eq_true rfl)) dX12_turns_7 ⟨Nat.le_of_ble_eq_true rfl, Nat.le_of_ble_eq_true rfl⟩) hP hD hK hS hA [0, 1] [] rfl rfl (by decide +kernel) (by decide +kernel) (fun r9 u9 H locs hw hP hD hK hS => ?_)
  obtain ⟨er9, rfl⟩ := hw
  have hP : va_P D vwCl [(am 1, .inl (tm 1, 283, .inl (upd (fun _ => 0) 4 2))), (am 18, .inr (11, [.int 0, .ref u_1, .int u_2, .int u_3, .int u_4, .int u_5, .ref (am 1), .ref u_7, .ref u_8, .ref u_9, .ref u_10, .int u_11, .int u_12, .int u_13, .int u_14, .int u_15, .int u_16, .long u_17, .int u_18, .int u_19, .int u_20, .ref u_21, .ref u_22, .int u_23, .int u_24, .int u_25, .int u_26, .ref u_27, .int u_28, .ref u_29, .int u_30, .int u_31, .ref u_32, .int u_33, .ref u_34, .ref u_35, .int u_36, .int u_37, .ref u_38, .int u_39, .int u_40, .int u_41, .ref u_42, .int u_43, .ref u_44, .int u_45, .int u_46, .int u_47, .int u_48, .int u_49, .ref u_50, .ref u_51, .ref u_52, .ref u_53]))] H := hP
  have hD : va_D A [(am 1, .inl (tm 1, 283, .inl (upd (fun _ => 0) 4 2))), (am 18, .inr (11, [.int 0, .ref u_1, .int u_2, .int u_3, .int u_4, .int u_5, .ref (am 1), .ref u_7, .ref u_8, .ref u_9, .ref u_10, .int u_11, .int u_12, .int u_13, .int u_14, .int u_15, .int u_16, .long u_17, .int u_18, .int u_19, .int u_20, .ref u_21, .ref u_22, .int u_23, .int u_24, .int u_25, .int u_26, .ref u_27, .int u_28, .ref u_29, .int u_30, .int u_31, .ref u_32, .int u_33, .ref u_34, .ref u_35, .int u_36, .int u_37, .ref u_38, .int u_39, .int u_40, .int u_41, .ref u_42, .int u_43, .ref u_44, .int u_45, .int u_46, .int u_47, .int u_48, .int u_49, .ref u_50, .ref u_51, .ref u_52, .ref u_53]))] := hD
  have hK : va_K D vwCl [(tm 1, .int)] s := hK
  refine W.cs (cells' := 0) (slots' := 0) rfl rfl ?_
  obtain rfl := er9
  refine W.eq (g2 := F0 m 10 ls (.int 0 :: [])) rfl ?_
  refine lv_if_eq (tgt := 46) hx hb dX12_turns_10 (by decide) (fun _ => ?_) (fun h9 => absurd (by decide) h9)
  refine lv_iconst (v := (-1)) hx hb dX12_turns_46 (by decide) ?_
  refine W.widen (k := 0) (n := 0) (by decide) (by decide) ?_
  exact hret (-1) ([], []) _ _ _ _ dX12_turns_47 rfl ⟨rfl, rfl⟩ (hP.sub [] rfl) (hK.sub [] rfl) (hD.sub [] (by decide +kernel) rfl) hS

set_option maxHeartbeats 8000000 in
set_option maxRecDepth 100000 in
theorem k_X12_tag (l : Launch) (D : va_G) (ad : Nat → Nat) (am : Nat → Nat) (tm : Nat → ClassId) (p0 : Int32) (u_1 : Nat) (u_2 : Int32) (u_3 : Int32) (u_4 : Int32) (u_5 : Int32) (u_7 : Nat) (u_8 : Nat) (u_9 : Nat) (u_10 : Nat) (u_11 : Int32) (u_12 : Int32) (u_13 : Int32) (u_14 : Int32) (u_15 : Int32) (u_16 : Int32) (u_17 : Int64) (u_18 : Int32) (u_19 : Int32) (u_20 : Int32) (u_21 : Nat) (u_22 : Nat) (u_23 : Int32) (u_24 : Int32) (u_25 : Int32) (u_26 : Int32) (u_27 : Nat) (u_28 : Int32) (u_29 : Nat) (u_30 : Int32) (u_31 : Int32) (u_32 : Nat) (u_33 : Int32) (u_34 : Nat) (u_35 : Nat) (u_36 : Int32) (u_37 : Int32) (u_38 : Nat) (u_39 : Int32) (u_40 : Int32) (u_41 : Int32) (u_42 : Nat) (u_43 : Int32) (u_44 : Nat) (u_45 : Int32) (u_46 : Int32) (u_47 : Int32) (u_48 : Int32) (u_49 : Int32) (u_50 : Nat) (u_51 : Nat) (u_52 : Nat) (u_53 : Nat)  : z_Mi l yX12_tag wsX12_tag { frames := 2, cells := 0, slots := 0, locals := 43 } D ad [.ref (am 18), .int p0] [(am 1, .inl (tm 1, 283, .inl (upd (fun _ => 0) 4 2))), (am 18, .inr (11, [.int 0, .ref u_1, .int u_2, .int u_3, .int u_4, .int u_5, .ref (am 1), .ref u_7, .ref u_8, .ref u_9, .ref u_10, .int u_11, .int u_12, .int u_13, .int u_14, .int u_15, .int u_16, .long u_17, .int u_18, .int u_19, .int u_20, .ref u_21, .ref u_22, .int u_23, .int u_24, .int u_25, .int u_26, .ref u_27, .int u_28, .ref u_29, .int u_30, .int u_31, .ref u_32, .int u_33, .ref u_34, .ref u_35, .int u_36, .int u_37, .ref u_38, .int u_39, .int u_40, .int u_41, .ref u_42, .int u_43, .ref u_44, .int u_45, .int u_46, .int u_47, .int u_48, .int u_49, .ref u_50, .ref u_51, .ref u_52, .ref u_53]))] [(tm 1, .int)] 0 0 (fun r9 u9 => r9 = (-1) ∧ u9 = ([], [])) := by
  refine z_ofI (cc := cX12_tag) (maxL := 3) (rt := .int) (by decide) rfl (Nat.le_of_ble_eq_true rfl) ?_
  intro p e s m below meth c Q A ls hx hb hml hown hts hin hK hP hD hA hE hO hS hl hret
  have hown : s.vm.findClass RX12 = some m.cls := hown
  have hiX12 : ∀ w ∈ wsX120, w ∈ wsX12_tag := fun _ h9 => List.mem_cons_of_mem _ (List.mem_append_right _ h9)
  have hl : lv_has ls 3 [(0, .ref (am 18)), (1, .int p0)] := hl
  refine lv_aload_n hx hb dX12_tag_0 rfl (lv_at hl 0 rfl) ?_
  refine lv_iconst (v := 0) hx hb dX12_tag_1 (by decide) ?_
  refine va_put (D := D) (ci := 11) (v := .int 0) (ty := tyX12 0) (C := RX12) (T := TX12) (N := 54) hx hb hts hiX12 tyX12 tyX12_ok nmX12 hown hK hP hD hS 1 rfl rfl 0 (by decide) (hts _ (List.mem_of_getElem? (i := 1) rfl)) (fun _ h9 => h9) rfl (tyX12_ok 0 (by decide)) rfl rfl (Nat.le_of_ble_eq_true rfl) dX12_tag_2 (fun H locs hP hD hS => ?_)
  have hP : va_P D vwCl [(am 1, .inl (tm 1, 283, .inl (upd (fun _ => 0) 4 2))), (am 18, .inr (11, [.int 0, .ref u_1, .int u_2, .int u_3, .int u_4, .int u_5, .ref (am 1), .ref u_7, .ref u_8, .ref u_9, .ref u_10, .int u_11, .int u_12, .int u_13, .int u_14, .int u_15, .int u_16, .long u_17, .int u_18, .int u_19, .int u_20, .ref u_21, .ref u_22, .int u_23, .int u_24, .int u_25, .int u_26, .ref u_27, .int u_28, .ref u_29, .int u_30, .int u_31, .ref u_32, .int u_33, .ref u_34, .ref u_35, .int u_36, .int u_37, .ref u_38, .int u_39, .int u_40, .int u_41, .ref u_42, .int u_43, .ref u_44, .int u_45, .int u_46, .int u_47, .int u_48, .int u_49, .ref u_50, .ref u_51, .ref u_52, .ref u_53]))] H := hP
  have hD : va_D A [(am 1, .inl (tm 1, 283, .inl (upd (fun _ => 0) 4 2))), (am 18, .inr (11, [.int 0, .ref u_1, .int u_2, .int u_3, .int u_4, .int u_5, .ref (am 1), .ref u_7, .ref u_8, .ref u_9, .ref u_10, .int u_11, .int u_12, .int u_13, .int u_14, .int u_15, .int u_16, .long u_17, .int u_18, .int u_19, .int u_20, .ref u_21, .ref u_22, .int u_23, .int u_24, .int u_25, .int u_26, .ref u_27, .int u_28, .ref u_29, .int u_30, .int u_31, .ref u_32, .int u_33, .ref u_34, .ref u_35, .int u_36, .int u_37, .ref u_38, .int u_39, .int u_40, .int u_41, .ref u_42, .int u_43, .ref u_44, .int u_45, .int u_46, .int u_47, .int u_48, .int u_49, .ref u_50, .ref u_51, .ref u_52, .ref u_53]))] := hD
  refine lv_aload_n hx hb dX12_tag_5 rfl (lv_at hl 0 rfl) ?_
  refine lv_iload_n hx hb dX12_tag_6 rfl (lv_at hl 1 rfl) ?_
  have hc9 := (k_X12_isUmbrella l D ad am tm p0 0 u_1 u_2 u_3 u_4 u_5 u_7 u_8 u_9 u_10 u_11 u_12 u_13 u_14 u_15 u_16 u_17 u_18 u_19 u_20 u_21 u_22 u_23 u_24 u_25 u_26 u_27 u_28 u_29 u_30 u_31 u_32 u_33 u_34 u_35 u_36 u_37 u_38 u_39 u_40 u_41 u_42 u_43 u_44 u_45 u_46 u_47 u_48 u_49 u_50 u_51 u_52 u_53 )
  refine z_calli (w0 := [(am 1, .inl (tm 1, 283, .inl (upd (fun _ => 0) 4 2))), (am 18, .inr (11, [.int 0, .ref u_1, .int u_2, .int u_3, .int u_4, .int u_5, .ref (am 1), .ref u_7, .ref u_8, .ref u_9, .ref u_10, .int u_11, .int u_12, .int u_13, .int u_14, .int u_15, .int u_16, .long u_17, .int u_18, .int u_19, .int u_20, .ref u_21, .ref u_22, .int u_23, .int u_24, .int u_25, .int u_26, .ref u_27, .int u_28, .ref u_29, .int u_30, .int u_31, .ref u_32, .int u_33, .ref u_34, .ref u_35, .int u_36, .int u_37, .ref u_38, .int u_39, .int u_40, .int u_41, .ref u_42, .int u_43, .ref u_44, .int u_45, .int u_46, .int u_47, .int u_48, .int u_49, .ref u_50, .ref u_51, .ref u_52, .ref u_53]))]) (wr := []) (va_runV (As := [.int p0]) (rest := []) ⟨hx, hb, hml, hown, hts⟩ (hc9 _) (cwV 1 hts gX12_tag_X12_isUmbrella rfl rfl rfl (by decide +kernel) ⟨Nat.le_of_ble_eq_true rfl, Nat.le_of_ble_eq_true rfl⟩) (z_preV hP hD hK hS hA hE hO [0, 1] [0] rfl (by decide +kernel) rfl 1 11 rfl rfl rfl) rfl rfl hl.1 rfl (lv_room (Nat.le_of_ble_eq_true rfl)) dX12_tag_7 ⟨Nat.le_of_ble_eq_true rfl, Nat.le_of_ble_eq_true rfl⟩) hP hD hK hS hA [0, 1] [] rfl rfl (by decide +kernel) (by decide +kernel) (fun r9 u9 H locs hw hP hD hK hS => ?_)
  obtain ⟨er9, rfl⟩ := hw
  have hP : va_P D vwCl [(am 1, .inl (tm 1, 283, .inl (upd (fun _ => 0) 4 2))), (am 18, .inr (11, [.int 0, .ref u_1, .int u_2, .int u_3, .int u_4, .int u_5, .ref (am 1), .ref u_7, .ref u_8, .ref u_9, .ref u_10, .int u_11, .int u_12, .int u_13, .int u_14, .int u_15, .int u_16, .long u_17, .int u_18, .int u_19, .int u_20, .ref u_21, .ref u_22, .int u_23, .int u_24, .int u_25, .int u_26, .ref u_27, .int u_28, .ref u_29, .int u_30, .int u_31, .ref u_32, .int u_33, .ref u_34, .ref u_35, .int u_36, .int u_37, .ref u_38, .int u_39, .int u_40, .int u_41, .ref u_42, .int u_43, .ref u_44, .int u_45, .int u_46, .int u_47, .int u_48, .int u_49, .ref u_50, .ref u_51, .ref u_52, .ref u_53]))] H := hP
  have hD : va_D A [(am 1, .inl (tm 1, 283, .inl (upd (fun _ => 0) 4 2))), (am 18, .inr (11, [.int 0, .ref u_1, .int u_2, .int u_3, .int u_4, .int u_5, .ref (am 1), .ref u_7, .ref u_8, .ref u_9, .ref u_10, .int u_11, .int u_12, .int u_13, .int u_14, .int u_15, .int u_16, .long u_17, .int u_18, .int u_19, .int u_20, .ref u_21, .ref u_22, .int u_23, .int u_24, .int u_25, .int u_26, .ref u_27, .int u_28, .ref u_29, .int u_30, .int u_31, .ref u_32, .int u_33, .ref u_34, .ref u_35, .int u_36, .int u_37, .ref u_38, .int u_39, .int u_40, .int u_41, .ref u_42, .int u_43, .ref u_44, .int u_45, .int u_46, .int u_47, .int u_48, .int u_49, .ref u_50, .ref u_51, .ref u_52, .ref u_53]))] := hD
  have hK : va_K D vwCl [(tm 1, .int)] s := hK
  refine W.cs (cells' := 0) (slots' := 0) rfl rfl ?_
  obtain rfl := er9
  refine W.eq (g2 := F0 m 10 ls (.int 0 :: [])) rfl ?_
  refine lv_if_ne (tgt := 15) hx hb dX12_tag_10 (by decide) (fun h9 => absurd (by decide) h9) (fun _ => ?_)
  refine lv_iconst (v := (-1)) hx hb dX12_tag_13 (by decide) ?_
  refine W.widen (k := 0) (n := 0) (by decide) (by decide) ?_
  exact hret (-1) ([], []) _ _ _ _ dX12_tag_14 rfl ⟨rfl, rfl⟩ (hP.sub [] rfl) (hK.sub [] rfl) (hD.sub [] (by decide +kernel) rfl) hS

set_option maxHeartbeats 8000000 in
set_option maxRecDepth 100000 in
theorem k_X12_byteAt (l : Launch) (D : va_G) (ad : Nat → Nat) (am : Nat → Nat) (p0 : Int32) (u_1 : Nat) (u_2 : Int32) (u_3 : Int32) (u_4 : Int32) (u_5 : Int32) (u_6 : Nat) (u_7 : Nat) (u_8 : Nat) (u_9 : Nat) (u_10 : Nat) (u_11 : Int32) (u_12 : Int32) (u_13 : Int32) (u_14 : Int32) (u_15 : Int32) (u_16 : Int32) (u_17 : Int64) (u_18 : Int32) (u_19 : Int32) (u_20 : Int32) (u_21 : Nat) (u_22 : Nat) (u_23 : Int32) (u_24 : Int32) (u_25 : Int32) (u_26 : Int32) (u_27 : Nat) (u_28 : Int32) (u_29 : Nat) (u_30 : Int32) (u_31 : Int32) (u_32 : Nat) (u_33 : Int32) (u_34 : Nat) (u_35 : Nat) (u_36 : Int32) (u_37 : Int32) (u_38 : Nat) (u_40 : Int32) (u_41 : Int32) (u_42 : Nat) (u_43 : Int32) (u_44 : Nat) (u_45 : Int32) (u_46 : Int32) (u_47 : Int32) (u_48 : Int32) (u_49 : Int32) (u_50 : Nat) (u_51 : Nat) (u_52 : Nat) (u_53 : Nat)  : z_Mi l yX12_byteAt wsX12_byteAt { frames := 1, cells := 0, slots := 0, locals := 22 } D ad [.ref (am 18), .int p0] [(am 18, .inr (11, [.int 0, .ref u_1, .int u_2, .int u_3, .int u_4, .int u_5, .ref u_6, .ref u_7, .ref u_8, .ref u_9, .ref u_10, .int u_11, .int u_12, .int u_13, .int u_14, .int u_15, .int u_16, .long u_17, .int u_18, .int u_19, .int u_20, .ref u_21, .ref u_22, .int u_23, .int u_24, .int u_25, .int u_26, .ref u_27, .int u_28, .ref u_29, .int u_30, .int u_31, .ref u_32, .int u_33, .ref u_34, .ref u_35, .int u_36, .int u_37, .ref u_38, .int 0, .int u_40, .int u_41, .ref u_42, .int u_43, .ref u_44, .int u_45, .int u_46, .int u_47, .int u_48, .int u_49, .ref u_50, .ref u_51, .ref u_52, .ref u_53]))] [] 0 0 (fun r9 u9 => r9 = (-1) ∧ u9 = ([], [])) := by
  refine z_ofI (cc := cX12_byteAt) (maxL := 2) (rt := .int) (by decide) rfl (Nat.le_of_ble_eq_true rfl) ?_
  intro p e s m below meth c Q A ls hx hb hml hown hts hin hK hP hD hA hE hO hS hl hret
  have hown : s.vm.findClass RX12 = some m.cls := hown
  have hiX12 : ∀ w ∈ wsX120, w ∈ wsX12_byteAt := fun _ h9 => List.mem_cons_of_mem _ (List.mem_append_right _ h9)
  have hl : lv_has ls 2 [(0, .ref (am 18)), (1, .int p0)] := hl
  refine lv_aload_n hx hb dX12_byteAt_0 rfl (lv_at hl 0 rfl) ?_
  refine lv_iconst (v := 0) hx hb dX12_byteAt_1 (by decide) ?_
  refine va_put (D := D) (ci := 11) (v := .int 0) (ty := tyX12 0) (C := RX12) (T := TX12) (N := 54) hx hb hts hiX12 tyX12 tyX12_ok nmX12 hown hK hP hD hS 0 rfl rfl 0 (by decide) (hts _ (List.mem_of_getElem? (i := 1) rfl)) (fun _ h9 => h9) rfl (tyX12_ok 0 (by decide)) rfl rfl (Nat.le_of_ble_eq_true rfl) dX12_byteAt_2 (fun H locs hP hD hS => ?_)
  have hP : va_P D vwCl [(am 18, .inr (11, [.int 0, .ref u_1, .int u_2, .int u_3, .int u_4, .int u_5, .ref u_6, .ref u_7, .ref u_8, .ref u_9, .ref u_10, .int u_11, .int u_12, .int u_13, .int u_14, .int u_15, .int u_16, .long u_17, .int u_18, .int u_19, .int u_20, .ref u_21, .ref u_22, .int u_23, .int u_24, .int u_25, .int u_26, .ref u_27, .int u_28, .ref u_29, .int u_30, .int u_31, .ref u_32, .int u_33, .ref u_34, .ref u_35, .int u_36, .int u_37, .ref u_38, .int 0, .int u_40, .int u_41, .ref u_42, .int u_43, .ref u_44, .int u_45, .int u_46, .int u_47, .int u_48, .int u_49, .ref u_50, .ref u_51, .ref u_52, .ref u_53]))] H := hP
  have hD : va_D A [(am 18, .inr (11, [.int 0, .ref u_1, .int u_2, .int u_3, .int u_4, .int u_5, .ref u_6, .ref u_7, .ref u_8, .ref u_9, .ref u_10, .int u_11, .int u_12, .int u_13, .int u_14, .int u_15, .int u_16, .long u_17, .int u_18, .int u_19, .int u_20, .ref u_21, .ref u_22, .int u_23, .int u_24, .int u_25, .int u_26, .ref u_27, .int u_28, .ref u_29, .int u_30, .int u_31, .ref u_32, .int u_33, .ref u_34, .ref u_35, .int u_36, .int u_37, .ref u_38, .int 0, .int u_40, .int u_41, .ref u_42, .int u_43, .ref u_44, .int u_45, .int u_46, .int u_47, .int u_48, .int u_49, .ref u_50, .ref u_51, .ref u_52, .ref u_53]))] := hD
  refine lv_iload_n hx hb dX12_byteAt_5 rfl (lv_at hl 1 rfl) ?_
  refine lv_iconst (v := 0) hx hb dX12_byteAt_6 (by decide) ?_
  refine lv_aload_n hx hb dX12_byteAt_7 rfl (lv_at hl 0 rfl) ?_
  refine va_get (D := D) (ci := 11) (v := .int 0) (C := RX12) (T := TX12) (N := 54) hx hb hts hiX12 hown hK hP 0 rfl rfl 39 (by decide) (hts _ (List.mem_of_getElem? (i := 2) rfl)) (fun _ h9 => h9) rfl dX12_byteAt_8 ?_
  refine lv_iconst (v := 1) hx hb dX12_byteAt_11 (by decide) ?_
  refine lv_isub hx hb dX12_byteAt_12 ?_
  refine lv_topi (fun y_1 ey_1 => ?_)
  obtain rfl : y_1 = (-1) := ey_1.trans (by decide)
  have hc9 := (k_X12_isIn_m1 l D ad p0 )
  refine z_calli (w0 := []) (wr := [(am 18, .inr (11, [.int 0, .ref u_1, .int u_2, .int u_3, .int u_4, .int u_5, .ref u_6, .ref u_7, .ref u_8, .ref u_9, .ref u_10, .int u_11, .int u_12, .int u_13, .int u_14, .int u_15, .int u_16, .long u_17, .int u_18, .int u_19, .int u_20, .ref u_21, .ref u_22, .int u_23, .int u_24, .int u_25, .int u_26, .ref u_27, .int u_28, .ref u_29, .int u_30, .int u_31, .ref u_32, .int u_33, .ref u_34, .ref u_35, .int u_36, .int u_37, .ref u_38, .int 0, .int u_40, .int u_41, .ref u_42, .int u_43, .ref u_44, .int u_45, .int u_46, .int u_47, .int u_48, .int u_49, .ref u_50, .ref u_51, .ref u_52, .ref u_53]))]) (va_runS (As := [.int p0, .int 0, .int (-1)]) (rest := []) ⟨hx, hb, hml, hown, hts⟩ (hc9 _) (va_cwS 3 hts gX12_byteAt_X12_isIn rfl rfl rfl (by decide +kernel) ⟨Nat.le_of_ble_eq_true rfl, Nat.le_of_ble_eq_true rfl⟩) (z_preS hP hD hK hS hA hE hO [] [] rfl (by decide +kernel) rfl) rfl rfl hl.1 rfl (lv_room (Nat.le_of_ble_eq_true rfl)) dX12_byteAt_13 ⟨Nat.le_of_ble_eq_true rfl, Nat.le_of_ble_eq_true rfl⟩) hP hD hK hS hA [] [0] rfl rfl (by decide +kernel) (by decide +kernel) (fun r9 u9 H locs hw hP hD hK hS => ?_)
  obtain ⟨er9, rfl⟩ := hw
  have hP : va_P D vwCl [(am 18, .inr (11, [.int 0, .ref u_1, .int u_2, .int u_3, .int u_4, .int u_5, .ref u_6, .ref u_7, .ref u_8, .ref u_9, .ref u_10, .int u_11, .int u_12, .int u_13, .int u_14, .int u_15, .int u_16, .long u_17, .int u_18, .int u_19, .int u_20, .ref u_21, .ref u_22, .int u_23, .int u_24, .int u_25, .int u_26, .ref u_27, .int u_28, .ref u_29, .int u_30, .int u_31, .ref u_32, .int u_33, .ref u_34, .ref u_35, .int u_36, .int u_37, .ref u_38, .int 0, .int u_40, .int u_41, .ref u_42, .int u_43, .ref u_44, .int u_45, .int u_46, .int u_47, .int u_48, .int u_49, .ref u_50, .ref u_51, .ref u_52, .ref u_53]))] H := hP
  have hD : va_D A [(am 18, .inr (11, [.int 0, .ref u_1, .int u_2, .int u_3, .int u_4, .int u_5, .ref u_6, .ref u_7, .ref u_8, .ref u_9, .ref u_10, .int u_11, .int u_12, .int u_13, .int u_14, .int u_15, .int u_16, .long u_17, .int u_18, .int u_19, .int u_20, .ref u_21, .ref u_22, .int u_23, .int u_24, .int u_25, .int u_26, .ref u_27, .int u_28, .ref u_29, .int u_30, .int u_31, .ref u_32, .int u_33, .ref u_34, .ref u_35, .int u_36, .int u_37, .ref u_38, .int 0, .int u_40, .int u_41, .ref u_42, .int u_43, .ref u_44, .int u_45, .int u_46, .int u_47, .int u_48, .int u_49, .ref u_50, .ref u_51, .ref u_52, .ref u_53]))] := hD
  have hK : va_K D vwCl [] s := hK
  refine W.cs (cells' := 0) (slots' := 0) rfl rfl ?_
  obtain rfl := er9
  refine W.eq (g2 := F0 m 16 ls (.int 0 :: [])) rfl ?_
  refine lv_if_eq (tgt := 28) hx hb dX12_byteAt_16 (by decide) (fun _ => ?_) (fun h9 => absurd (by decide) h9)
  refine lv_iconst (v := (-1)) hx hb dX12_byteAt_28 (by decide) ?_
  refine W.widen (k := 0) (n := 0) (by decide) (by decide) ?_
  exact hret (-1) ([], []) _ _ _ _ dX12_byteAt_29 rfl ⟨rfl, rfl⟩ (hP.sub [] rfl) (hK.sub [] rfl) (hD.sub [] (by decide +kernel) rfl) hS

set_option maxHeartbeats 8000000 in
set_option maxRecDepth 100000 in
theorem k_X12_told (l : Launch) (D : va_G) (ad : Nat → Nat) (am : Nat → Nat) (p0 : Int32) (u_1 : Nat) (u_2 : Int32) (u_3 : Int32) (u_4 : Int32) (u_5 : Int32) (u_6 : Nat) (u_7 : Nat) (u_8 : Nat) (u_9 : Nat) (u_10 : Nat) (u_11 : Int32) (u_12 : Int32) (u_13 : Int32) (u_14 : Int32) (u_15 : Int32) (u_16 : Int32) (u_17 : Int64) (u_18 : Int32) (u_19 : Int32) (u_20 : Int32) (u_21 : Nat) (u_22 : Nat) (u_23 : Int32) (u_24 : Int32) (u_25 : Int32) (u_26 : Int32) (u_27 : Nat) (u_28 : Int32) (u_29 : Nat) (u_30 : Int32) (u_31 : Int32) (u_32 : Nat) (u_33 : Int32) (u_34 : Nat) (u_35 : Nat) (u_36 : Int32) (u_37 : Int32) (u_38 : Nat) (u_39 : Int32) (u_40 : Int32) (u_41 : Int32) (u_42 : Nat) (u_44 : Nat) (u_45 : Int32) (u_46 : Int32) (u_47 : Int32) (u_48 : Int32) (u_49 : Int32) (u_50 : Nat) (u_51 : Nat) (u_52 : Nat) (u_53 : Nat)  : z_Mi l yX12_told wsX12_told { frames := 0, cells := 0, slots := 0, locals := 0 } D ad [.ref (am 18), .int p0] [(am 18, .inr (11, [.int 0, .ref u_1, .int u_2, .int u_3, .int u_4, .int u_5, .ref u_6, .ref u_7, .ref u_8, .ref u_9, .ref u_10, .int u_11, .int u_12, .int u_13, .int u_14, .int u_15, .int u_16, .long u_17, .int u_18, .int u_19, .int u_20, .ref u_21, .ref u_22, .int u_23, .int u_24, .int u_25, .int u_26, .ref u_27, .int u_28, .ref u_29, .int u_30, .int u_31, .ref u_32, .int u_33, .ref u_34, .ref u_35, .int u_36, .int u_37, .ref u_38, .int u_39, .int u_40, .int u_41, .ref u_42, .int 0, .ref u_44, .int u_45, .int u_46, .int u_47, .int u_48, .int u_49, .ref u_50, .ref u_51, .ref u_52, .ref u_53]))] [] 0 0 (fun r9 u9 => r9 = (-1) ∧ u9 = ([], [])) := by
  refine z_ofI (cc := cX12_told) (maxL := 2) (rt := .int) (by decide) rfl (Nat.le_of_ble_eq_true rfl) ?_
  intro p e s m below meth c Q A ls hx hb hml hown hts hin hK hP hD hA hE hO hS hl hret
  have hown : s.vm.findClass RX12 = some m.cls := hown
  have hiX12 : ∀ w ∈ wsX120, w ∈ wsX12_told := fun _ h9 => List.mem_cons_of_mem _ (List.mem_append_right _ h9)
  have hl : lv_has ls 2 [(0, .ref (am 18)), (1, .int p0)] := hl
  refine lv_aload_n hx hb dX12_told_0 rfl (lv_at hl 0 rfl) ?_
  refine lv_iconst (v := 0) hx hb dX12_told_1 (by decide) ?_
  refine va_put (D := D) (ci := 11) (v := .int 0) (ty := tyX12 0) (C := RX12) (T := TX12) (N := 54) hx hb hts hiX12 tyX12 tyX12_ok nmX12 hown hK hP hD hS 0 rfl rfl 0 (by decide) (hts _ (List.mem_of_getElem? (i := 1) rfl)) (fun _ h9 => h9) rfl (tyX12_ok 0 (by decide)) rfl rfl (Nat.le_of_ble_eq_true rfl) dX12_told_2 (fun H locs hP hD hS => ?_)
  have hP : va_P D vwCl [(am 18, .inr (11, [.int 0, .ref u_1, .int u_2, .int u_3, .int u_4, .int u_5, .ref u_6, .ref u_7, .ref u_8, .ref u_9, .ref u_10, .int u_11, .int u_12, .int u_13, .int u_14, .int u_15, .int u_16, .long u_17, .int u_18, .int u_19, .int u_20, .ref u_21, .ref u_22, .int u_23, .int u_24, .int u_25, .int u_26, .ref u_27, .int u_28, .ref u_29, .int u_30, .int u_31, .ref u_32, .int u_33, .ref u_34, .ref u_35, .int u_36, .int u_37, .ref u_38, .int u_39, .int u_40, .int u_41, .ref u_42, .int 0, .ref u_44, .int u_45, .int u_46, .int u_47, .int u_48, .int u_49, .ref u_50, .ref u_51, .ref u_52, .ref u_53]))] H := hP
  have hD : va_D A [(am 18, .inr (11, [.int 0, .ref u_1, .int u_2, .int u_3, .int u_4, .int u_5, .ref u_6, .ref u_7, .ref u_8, .ref u_9, .ref u_10, .int u_11, .int u_12, .int u_13, .int u_14, .int u_15, .int u_16, .long u_17, .int u_18, .int u_19, .int u_20, .ref u_21, .ref u_22, .int u_23, .int u_24, .int u_25, .int u_26, .ref u_27, .int u_28, .ref u_29, .int u_30, .int u_31, .ref u_32, .int u_33, .ref u_34, .ref u_35, .int u_36, .int u_37, .ref u_38, .int u_39, .int u_40, .int u_41, .ref u_42, .int 0, .ref u_44, .int u_45, .int u_46, .int u_47, .int u_48, .int u_49, .ref u_50, .ref u_51, .ref u_52, .ref u_53]))] := hD
  refine lv_aload_n hx hb dX12_told_5 rfl (lv_at hl 0 rfl) ?_
  refine va_get (D := D) (ci := 11) (v := .int 0) (C := RX12) (T := TX12) (N := 54) hx hb hts hiX12 hown hK hP 0 rfl rfl 43 (by decide) (hts _ (List.mem_of_getElem? (i := 2) rfl)) (fun _ h9 => h9) rfl dX12_told_6 ?_
  refine lv_if_eq (tgt := 30) hx hb dX12_told_9 (by decide) (fun _ => ?_) (fun h9 => absurd (by decide) h9)
  refine lv_iconst (v := (-1)) hx hb dX12_told_30 (by decide) ?_
  refine W.widen (k := 0) (n := 0) (by decide) (by decide) ?_
  exact hret (-1) ([], []) _ _ _ _ dX12_told_31 rfl ⟨rfl, rfl⟩ (hP.sub [] rfl) (hK.sub [] rfl) (hD.sub [] (by decide +kernel) rfl) hS

set_option maxHeartbeats 8000000 in
set_option maxRecDepth 100000 in
theorem k_X12_said (l : Launch) (D : va_G) (ad : Nat → Nat) (am : Nat → Nat) (tm : Nat → ClassId) (p0 : Int32) (u_1 : Nat) (u_2 : Int32) (u_3 : Int32) (u_4 : Int32) (u_5 : Int32) (u_7 : Nat) (u_8 : Nat) (u_9 : Nat) (u_10 : Nat) (u_11 : Int32) (u_12 : Int32) (u_13 : Int32) (u_14 : Int32) (u_15 : Int32) (u_16 : Int32) (u_17 : Int64) (u_18 : Int32) (u_19 : Int32) (u_20 : Int32) (u_21 : Nat) (u_22 : Nat) (u_23 : Int32) (u_24 : Int32) (u_25 : Int32) (u_26 : Int32) (u_27 : Nat) (u_28 : Int32) (u_29 : Nat) (u_30 : Int32) (u_31 : Int32) (u_32 : Nat) (u_33 : Int32) (u_34 : Nat) (u_35 : Nat) (u_36 : Int32) (u_37 : Int32) (u_38 : Nat) (u_39 : Int32) (u_40 : Int32) (u_41 : Int32) (u_42 : Nat) (u_43 : Int32) (u_44 : Nat) (u_45 : Int32) (u_46 : Int32) (u_47 : Int32) (u_48 : Int32) (u_49 : Int32) (u_50 : Nat) (u_51 : Nat) (u_52 : Nat) (u_53 : Nat)  : z_Mi l yX12_said wsX12_said { frames := 0, cells := 0, slots := 0, locals := 0 } D ad [.ref (am 18), .int p0] [(am 1, .inl (tm 1, 283, .inl (upd (fun _ => 0) 4 2))), (am 18, .inr (11, [.int 0, .ref u_1, .int u_2, .int u_3, .int u_4, .int u_5, .ref (am 1), .ref u_7, .ref u_8, .ref u_9, .ref u_10, .int u_11, .int u_12, .int u_13, .int u_14, .int u_15, .int u_16, .long u_17, .int u_18, .int u_19, .int u_20, .ref u_21, .ref u_22, .int u_23, .int u_24, .int u_25, .int u_26, .ref u_27, .int u_28, .ref u_29, .int u_30, .int u_31, .ref u_32, .int u_33, .ref u_34, .ref u_35, .int u_36, .int u_37, .ref u_38, .int u_39, .int u_40, .int u_41, .ref u_42, .int u_43, .ref u_44, .int u_45, .int u_46, .int u_47, .int u_48, .int u_49, .ref u_50, .ref u_51, .ref u_52, .ref u_53]))] [(tm 1, .int)] 0 0 (fun r9 u9 => r9 = (-1) ∧ u9 = ([], [])) := by
  refine z_ofI (cc := cX12_said) (maxL := 4) (rt := .int) (by decide) rfl (Nat.le_of_ble_eq_true rfl) ?_
  intro p e s m below meth c Q A ls hx hb hml hown hts hin hK hP hD hA hE hO hS hl hret
  have hown : s.vm.findClass RX12 = some m.cls := hown
  have hiX12 : ∀ w ∈ wsX120, w ∈ wsX12_said := fun _ h9 => List.mem_cons_of_mem _ (List.mem_append_right _ h9)
  have hl : lv_has ls 4 [(0, .ref (am 18)), (1, .int p0)] := hl
  refine lv_aload_n hx hb dX12_said_0 rfl (lv_at hl 0 rfl) ?_
  refine lv_iconst (v := 0) hx hb dX12_said_1 (by decide) ?_
  refine va_put (D := D) (ci := 11) (v := .int 0) (ty := tyX12 0) (C := RX12) (T := TX12) (N := 54) hx hb hts hiX12 tyX12 tyX12_ok nmX12 hown hK hP hD hS 1 rfl rfl 0 (by decide) (hts _ (List.mem_of_getElem? (i := 1) rfl)) (fun _ h9 => h9) rfl (tyX12_ok 0 (by decide)) rfl rfl (Nat.le_of_ble_eq_true rfl) dX12_said_2 (fun H locs hP hD hS => ?_)
  have hP : va_P D vwCl [(am 1, .inl (tm 1, 283, .inl (upd (fun _ => 0) 4 2))), (am 18, .inr (11, [.int 0, .ref u_1, .int u_2, .int u_3, .int u_4, .int u_5, .ref (am 1), .ref u_7, .ref u_8, .ref u_9, .ref u_10, .int u_11, .int u_12, .int u_13, .int u_14, .int u_15, .int u_16, .long u_17, .int u_18, .int u_19, .int u_20, .ref u_21, .ref u_22, .int u_23, .int u_24, .int u_25, .int u_26, .ref u_27, .int u_28, .ref u_29, .int u_30, .int u_31, .ref u_32, .int u_33, .ref u_34, .ref u_35, .int u_36, .int u_37, .ref u_38, .int u_39, .int u_40, .int u_41, .ref u_42, .int u_43, .ref u_44, .int u_45, .int u_46, .int u_47, .int u_48, .int u_49, .ref u_50, .ref u_51, .ref u_52, .ref u_53]))] H := hP
  have hD : va_D A [(am 1, .inl (tm 1, 283, .inl (upd (fun _ => 0) 4 2))), (am 18, .inr (11, [.int 0, .ref u_1, .int u_2, .int u_3, .int u_4, .int u_5, .ref (am 1), .ref u_7, .ref u_8, .ref u_9, .ref u_10, .int u_11, .int u_12, .int u_13, .int u_14, .int u_15, .int u_16, .long u_17, .int u_18, .int u_19, .int u_20, .ref u_21, .ref u_22, .int u_23, .int u_24, .int u_25, .int u_26, .ref u_27, .int u_28, .ref u_29, .int u_30, .int u_31, .ref u_32, .int u_33, .ref u_34, .ref u_35, .int u_36, .int u_37, .ref u_38, .int u_39, .int u_40, .int u_41, .ref u_42, .int u_43, .ref u_44, .int u_45, .int u_46, .int u_47, .int u_48, .int u_49, .ref u_50, .ref u_51, .ref u_52, .ref u_53]))] := hD
  refine lv_aload_n hx hb dX12_said_5 rfl (lv_at hl 0 rfl) ?_
  refine va_get (D := D) (ci := 11) (v := .ref (am 1)) (C := RX12) (T := TX12) (N := 54) hx hb hts hiX12 hown hK hP 1 rfl rfl 6 (by decide) (hts _ (List.mem_of_getElem? (i := 2) rfl)) (fun _ h9 => h9) rfl dX12_said_6 ?_
  refine lv_bipush (v := 102) hx hb dX12_said_9 (by decide) ?_
  refine va_iald hx hb hK hP 0 0 rfl rfl (show ¬ (_ ∨ _) by decide) dX12_said_11 ?_
  refine W.eq (g2 := F0 m 12 ls (.int 0 :: [])) rfl ?_
  refine lv_if_eq (tgt := 20) hx hb dX12_said_12 (by decide) (fun _ => ?_) (fun h9 => absurd (by decide) h9)
  refine lv_iconst (v := (-1)) hx hb dX12_said_20 (by decide) ?_
  refine W.widen (k := 0) (n := 0) (by decide) (by decide) ?_
  exact hret (-1) ([], []) _ _ _ _ dX12_said_21 rfl ⟨rfl, rfl⟩ (hP.sub [] rfl) (hK.sub [] rfl) (hD.sub [] (by decide +kernel) rfl) hS

set_option maxHeartbeats 8000000 in
set_option maxRecDepth 100000 in
theorem k_X12_toldAt (l : Launch) (D : va_G) (ad : Nat → Nat) (am : Nat → Nat) (p0 : Int32) (u_1 : Nat) (u_2 : Int32) (u_3 : Int32) (u_4 : Int32) (u_5 : Int32) (u_6 : Nat) (u_7 : Nat) (u_8 : Nat) (u_9 : Nat) (u_10 : Nat) (u_11 : Int32) (u_12 : Int32) (u_13 : Int32) (u_14 : Int32) (u_15 : Int32) (u_16 : Int32) (u_17 : Int64) (u_18 : Int32) (u_19 : Int32) (u_20 : Int32) (u_21 : Nat) (u_22 : Nat) (u_23 : Int32) (u_24 : Int32) (u_25 : Int32) (u_26 : Int32) (u_27 : Nat) (u_29 : Nat) (u_30 : Int32) (u_31 : Int32) (u_32 : Nat) (u_33 : Int32) (u_34 : Nat) (u_35 : Nat) (u_36 : Int32) (u_37 : Int32) (u_38 : Nat) (u_39 : Int32) (u_40 : Int32) (u_41 : Int32) (u_42 : Nat) (u_43 : Int32) (u_44 : Nat) (u_45 : Int32) (u_46 : Int32) (u_47 : Int32) (u_48 : Int32) (u_49 : Int32) (u_50 : Nat) (u_51 : Nat) (u_52 : Nat) (u_53 : Nat)  : z_Mi l yX12_toldAt wsX12_toldAt { frames := 1, cells := 0, slots := 0, locals := 22 } D ad [.ref (am 18), .int p0] [(am 18, .inr (11, [.int 0, .ref u_1, .int u_2, .int u_3, .int u_4, .int u_5, .ref u_6, .ref u_7, .ref u_8, .ref u_9, .ref u_10, .int u_11, .int u_12, .int u_13, .int u_14, .int u_15, .int u_16, .long u_17, .int u_18, .int u_19, .int u_20, .ref u_21, .ref u_22, .int u_23, .int u_24, .int u_25, .int u_26, .ref u_27, .int (-1), .ref u_29, .int u_30, .int u_31, .ref u_32, .int u_33, .ref u_34, .ref u_35, .int u_36, .int u_37, .ref u_38, .int u_39, .int u_40, .int u_41, .ref u_42, .int u_43, .ref u_44, .int u_45, .int u_46, .int u_47, .int u_48, .int u_49, .ref u_50, .ref u_51, .ref u_52, .ref u_53]))] [] 0 0 (fun r9 u9 => r9 = (-1) ∧ u9 = ([], [])) := by
  refine z_ofI (cc := cX12_toldAt) (maxL := 2) (rt := .int) (by decide) rfl (Nat.le_of_ble_eq_true rfl) ?_
  intro p e s m below meth c Q A ls hx hb hml hown hts hin hK hP hD hA hE hO hS hl hret
  have hown : s.vm.findClass RX12 = some m.cls := hown
  have hiX12 : ∀ w ∈ wsX120, w ∈ wsX12_toldAt := fun _ h9 => List.mem_cons_of_mem _ (List.mem_append_right _ h9)
  have hl : lv_has ls 2 [(0, .ref (am 18)), (1, .int p0)] := hl
  refine lv_aload_n hx hb dX12_toldAt_0 rfl (lv_at hl 0 rfl) ?_
  refine lv_iconst (v := 0) hx hb dX12_toldAt_1 (by decide) ?_
  refine va_put (D := D) (ci := 11) (v := .int 0) (ty := tyX12 0) (C := RX12) (T := TX12) (N := 54) hx hb hts hiX12 tyX12 tyX12_ok nmX12 hown hK hP hD hS 0 rfl rfl 0 (by decide) (hts _ (List.mem_of_getElem? (i := 1) rfl)) (fun _ h9 => h9) rfl (tyX12_ok 0 (by decide)) rfl rfl (Nat.le_of_ble_eq_true rfl) dX12_toldAt_2 (fun H locs hP hD hS => ?_)
  have hP : va_P D vwCl [(am 18, .inr (11, [.int 0, .ref u_1, .int u_2, .int u_3, .int u_4, .int u_5, .ref u_6, .ref u_7, .ref u_8, .ref u_9, .ref u_10, .int u_11, .int u_12, .int u_13, .int u_14, .int u_15, .int u_16, .long u_17, .int u_18, .int u_19, .int u_20, .ref u_21, .ref u_22, .int u_23, .int u_24, .int u_25, .int u_26, .ref u_27, .int (-1), .ref u_29, .int u_30, .int u_31, .ref u_32, .int u_33, .ref u_34, .ref u_35, .int u_36, .int u_37, .ref u_38, .int u_39, .int u_40, .int u_41, .ref u_42, .int u_43, .ref u_44, .int u_45, .int u_46, .int u_47, .int u_48, .int u_49, .ref u_50, .ref u_51, .ref u_52, .ref u_53]))] H := hP
  have hD : va_D A [(am 18, .inr (11, [.int 0, .ref u_1, .int u_2, .int u_3, .int u_4, .int u_5, .ref u_6, .ref u_7, .ref u_8, .ref u_9, .ref u_10, .int u_11, .int u_12, .int u_13, .int u_14, .int u_15, .int u_16, .long u_17, .int u_18, .int u_19, .int u_20, .ref u_21, .ref u_22, .int u_23, .int u_24, .int u_25, .int u_26, .ref u_27, .int (-1), .ref u_29, .int u_30, .int u_31, .ref u_32, .int u_33, .ref u_34, .ref u_35, .int u_36, .int u_37, .ref u_38, .int u_39, .int u_40, .int u_41, .ref u_42, .int u_43, .ref u_44, .int u_45, .int u_46, .int u_47, .int u_48, .int u_49, .ref u_50, .ref u_51, .ref u_52, .ref u_53]))] := hD
  refine lv_iload_n hx hb dX12_toldAt_5 rfl (lv_at hl 1 rfl) ?_
  refine lv_iconst (v := 0) hx hb dX12_toldAt_6 (by decide) ?_
  refine lv_aload_n hx hb dX12_toldAt_7 rfl (lv_at hl 0 rfl) ?_
  refine va_get (D := D) (ci := 11) (v := .int (-1)) (C := RX12) (T := TX12) (N := 54) hx hb hts hiX12 hown hK hP 0 rfl rfl 28 (by decide) (hts _ (List.mem_of_getElem? (i := 2) rfl)) (fun _ h9 => h9) rfl dX12_toldAt_8 ?_
  refine lv_iconst (v := 1) hx hb dX12_toldAt_11 (by decide) ?_
  refine lv_isub hx hb dX12_toldAt_12 ?_
  refine lv_topi (fun y_1 ey_1 => ?_)
  obtain rfl : y_1 = (-2) := ey_1.trans (by decide)
  have hc9 := (k_X12_isIn_m2 l D ad p0 )
  refine z_calli (w0 := []) (wr := [(am 18, .inr (11, [.int 0, .ref u_1, .int u_2, .int u_3, .int u_4, .int u_5, .ref u_6, .ref u_7, .ref u_8, .ref u_9, .ref u_10, .int u_11, .int u_12, .int u_13, .int u_14, .int u_15, .int u_16, .long u_17, .int u_18, .int u_19, .int u_20, .ref u_21, .ref u_22, .int u_23, .int u_24, .int u_25, .int u_26, .ref u_27, .int (-1), .ref u_29, .int u_30, .int u_31, .ref u_32, .int u_33, .ref u_34, .ref u_35, .int u_36, .int u_37, .ref u_38, .int u_39, .int u_40, .int u_41, .ref u_42, .int u_43, .ref u_44, .int u_45, .int u_46, .int u_47, .int u_48, .int u_49, .ref u_50, .ref u_51, .ref u_52, .ref u_53]))]) (va_runS (As := [.int p0, .int 0, .int (-2)]) (rest := []) ⟨hx, hb, hml, hown, hts⟩ (hc9 _) (va_cwS 3 hts gX12_toldAt_X12_isIn rfl rfl rfl (by decide +kernel) ⟨Nat.le_of_ble_eq_true rfl, Nat.le_of_ble_eq_true rfl⟩) (z_preS hP hD hK hS hA hE hO [] [] rfl (by decide +kernel) rfl) rfl rfl hl.1 rfl (lv_room (Nat.le_of_ble_eq_true rfl)) dX12_toldAt_13 ⟨Nat.le_of_ble_eq_true rfl, Nat.le_of_ble_eq_true rfl⟩) hP hD hK hS hA [] [0] rfl rfl (by decide +kernel) (by decide +kernel) (fun r9 u9 H locs hw hP hD hK hS => ?_)
  obtain ⟨er9, rfl⟩ := hw
  have hP : va_P D vwCl [(am 18, .inr (11, [.int 0, .ref u_1, .int u_2, .int u_3, .int u_4, .int u_5, .ref u_6, .ref u_7, .ref u_8, .ref u_9, .ref u_10, .int u_11, .int u_12, .int u_13, .int u_14, .int u_15, .int u_16, .long u_17, .int u_18, .int u_19, .int u_20, .ref u_21, .ref u_22, .int u_23, .int u_24, .int u_25, .int u_26, .ref u_27, .int (-1), .ref u_29, .int u_30, .int u_31, .ref u_32, .int u_33, .ref u_34, .ref u_35, .int u_36, .int u_37, .ref u_38, .int u_39, .int u_40, .int u_41, .ref u_42, .int u_43, .ref u_44, .int u_45, .int u_46, .int u_47, .int u_48, .int u_49, .ref u_50, .ref u_51, .ref u_52, .ref u_53]))] H := hP
  have hD : va_D A [(am 18, .inr (11, [.int 0, .ref u_1, .int u_2, .int u_3, .int u_4, .int u_5, .ref u_6, .ref u_7, .ref u_8, .ref u_9, .ref u_10, .int u_11, .int u_12, .int u_13, .int u_14, .int u_15, .int u_16, .long u_17, .int u_18, .int u_19, .int u_20, .ref u_21, .ref u_22, .int u_23, .int u_24, .int u_25, .int u_26, .ref u_27, .int (-1), .ref u_29, .int u_30, .int u_31, .ref u_32, .int u_33, .ref u_34, .ref u_35, .int u_36, .int u_37, .ref u_38, .int u_39, .int u_40, .int u_41, .ref u_42, .int u_43, .ref u_44, .int u_45, .int u_46, .int u_47, .int u_48, .int u_49, .ref u_50, .ref u_51, .ref u_52, .ref u_53]))] := hD
  have hK : va_K D vwCl [] s := hK
  refine W.cs (cells' := 0) (slots' := 0) rfl rfl ?_
  obtain rfl := er9
  refine W.eq (g2 := F0 m 16 ls (.int 0 :: [])) rfl ?_
  refine lv_if_eq (tgt := 28) hx hb dX12_toldAt_16 (by decide) (fun _ => ?_) (fun h9 => absurd (by decide) h9)
  refine lv_iconst (v := (-1)) hx hb dX12_toldAt_28 (by decide) ?_
  refine W.widen (k := 0) (n := 0) (by decide) (by decide) ?_
  exact hret (-1) ([], []) _ _ _ _ dX12_toldAt_29 rfl ⟨rfl, rfl⟩ (hP.sub [] rfl) (hK.sub [] rfl) (hD.sub [] (by decide +kernel) rfl) hS

set_option maxHeartbeats 8000000 in
set_option maxRecDepth 100000 in
theorem k_X12_hidden (l : Launch) (D : va_G) (ad : Nat → Nat) (am : Nat → Nat) (p0 : Int32) (u_1 : Nat) (u_2 : Int32) (u_3 : Int32) (u_4 : Int32) (u_5 : Int32) (u_6 : Nat) (u_7 : Nat) (u_8 : Nat) (u_9 : Nat) (u_10 : Nat) (u_11 : Int32) (u_12 : Int32) (u_13 : Int32) (u_14 : Int32) (u_15 : Int32) (u_16 : Int32) (u_17 : Int64) (u_18 : Int32) (u_19 : Int32) (u_20 : Int32) (u_21 : Nat) (u_22 : Nat) (u_23 : Int32) (u_24 : Int32) (u_25 : Int32) (u_26 : Int32) (u_27 : Nat) (u_28 : Int32) (u_29 : Nat) (u_30 : Int32) (u_31 : Int32) (u_32 : Nat) (u_34 : Nat) (u_35 : Nat) (u_36 : Int32) (u_37 : Int32) (u_38 : Nat) (u_39 : Int32) (u_40 : Int32) (u_41 : Int32) (u_42 : Nat) (u_43 : Int32) (u_44 : Nat) (u_45 : Int32) (u_46 : Int32) (u_47 : Int32) (u_48 : Int32) (u_49 : Int32) (u_50 : Nat) (u_51 : Nat) (u_52 : Nat) (u_53 : Nat)  : z_Mi l yX12_hidden wsX12_hidden { frames := 1, cells := 0, slots := 0, locals := 22 } D ad [.ref (am 18), .int p0] [(am 18, .inr (11, [.int 0, .ref u_1, .int u_2, .int u_3, .int u_4, .int u_5, .ref u_6, .ref u_7, .ref u_8, .ref u_9, .ref u_10, .int u_11, .int u_12, .int u_13, .int u_14, .int u_15, .int u_16, .long u_17, .int u_18, .int u_19, .int u_20, .ref u_21, .ref u_22, .int u_23, .int u_24, .int u_25, .int u_26, .ref u_27, .int u_28, .ref u_29, .int u_30, .int u_31, .ref u_32, .int (-1), .ref u_34, .ref u_35, .int u_36, .int u_37, .ref u_38, .int u_39, .int u_40, .int u_41, .ref u_42, .int u_43, .ref u_44, .int u_45, .int u_46, .int u_47, .int u_48, .int u_49, .ref u_50, .ref u_51, .ref u_52, .ref u_53]))] [] 0 0 (fun r9 u9 => r9 = (-1) ∧ u9 = ([], [])) := by
  refine z_ofI (cc := cX12_hidden) (maxL := 2) (rt := .int) (by decide) rfl (Nat.le_of_ble_eq_true rfl) ?_
  intro p e s m below meth c Q A ls hx hb hml hown hts hin hK hP hD hA hE hO hS hl hret
  have hown : s.vm.findClass RX12 = some m.cls := hown
  have hiX12 : ∀ w ∈ wsX120, w ∈ wsX12_hidden := fun _ h9 => List.mem_cons_of_mem _ (List.mem_append_right _ h9)
  have hl : lv_has ls 2 [(0, .ref (am 18)), (1, .int p0)] := hl
  refine lv_aload_n hx hb dX12_hidden_0 rfl (lv_at hl 0 rfl) ?_
  refine lv_iconst (v := 0) hx hb dX12_hidden_1 (by decide) ?_
  refine va_put (D := D) (ci := 11) (v := .int 0) (ty := tyX12 0) (C := RX12) (T := TX12) (N := 54) hx hb hts hiX12 tyX12 tyX12_ok nmX12 hown hK hP hD hS 0 rfl rfl 0 (by decide) (hts _ (List.mem_of_getElem? (i := 1) rfl)) (fun _ h9 => h9) rfl (tyX12_ok 0 (by decide)) rfl rfl (Nat.le_of_ble_eq_true rfl) dX12_hidden_2 (fun H locs hP hD hS => ?_)
  have hP : va_P D vwCl [(am 18, .inr (11, [.int 0, .ref u_1, .int u_2, .int u_3, .int u_4, .int u_5, .ref u_6, .ref u_7, .ref u_8, .ref u_9, .ref u_10, .int u_11, .int u_12, .int u_13, .int u_14, .int u_15, .int u_16, .long u_17, .int u_18, .int u_19, .int u_20, .ref u_21, .ref u_22, .int u_23, .int u_24, .int u_25, .int u_26, .ref u_27, .int u_28, .ref u_29, .int u_30, .int u_31, .ref u_32, .int (-1), .ref u_34, .ref u_35, .int u_36, .int u_37, .ref u_38, .int u_39, .int u_40, .int u_41, .ref u_42, .int u_43, .ref u_44, .int u_45, .int u_46, .int u_47, .int u_48, .int u_49, .ref u_50, .ref u_51, .ref u_52, .ref u_53]))] H := hP
  have hD : va_D A [(am 18, .inr (11, [.int 0, .ref u_1, .int u_2, .int u_3, .int u_4, .int u_5, .ref u_6, .ref u_7, .ref u_8, .ref u_9, .ref u_10, .int u_11, .int u_12, .int u_13, .int u_14, .int u_15, .int u_16, .long u_17, .int u_18, .int u_19, .int u_20, .ref u_21, .ref u_22, .int u_23, .int u_24, .int u_25, .int u_26, .ref u_27, .int u_28, .ref u_29, .int u_30, .int u_31, .ref u_32, .int (-1), .ref u_34, .ref u_35, .int u_36, .int u_37, .ref u_38, .int u_39, .int u_40, .int u_41, .ref u_42, .int u_43, .ref u_44, .int u_45, .int u_46, .int u_47, .int u_48, .int u_49, .ref u_50, .ref u_51, .ref u_52, .ref u_53]))] := hD
  refine lv_iload_n hx hb dX12_hidden_5 rfl (lv_at hl 1 rfl) ?_
  refine lv_iconst (v := 0) hx hb dX12_hidden_6 (by decide) ?_
  refine lv_aload_n hx hb dX12_hidden_7 rfl (lv_at hl 0 rfl) ?_
  refine va_get (D := D) (ci := 11) (v := .int (-1)) (C := RX12) (T := TX12) (N := 54) hx hb hts hiX12 hown hK hP 0 rfl rfl 33 (by decide) (hts _ (List.mem_of_getElem? (i := 2) rfl)) (fun _ h9 => h9) rfl dX12_hidden_8 ?_
  refine lv_iconst (v := 1) hx hb dX12_hidden_11 (by decide) ?_
  refine lv_isub hx hb dX12_hidden_12 ?_
  refine lv_topi (fun y_1 ey_1 => ?_)
  obtain rfl : y_1 = (-2) := ey_1.trans (by decide)
  have hc9 := (k_X12_isIn_m2 l D ad p0 )
  refine z_calli (w0 := []) (wr := [(am 18, .inr (11, [.int 0, .ref u_1, .int u_2, .int u_3, .int u_4, .int u_5, .ref u_6, .ref u_7, .ref u_8, .ref u_9, .ref u_10, .int u_11, .int u_12, .int u_13, .int u_14, .int u_15, .int u_16, .long u_17, .int u_18, .int u_19, .int u_20, .ref u_21, .ref u_22, .int u_23, .int u_24, .int u_25, .int u_26, .ref u_27, .int u_28, .ref u_29, .int u_30, .int u_31, .ref u_32, .int (-1), .ref u_34, .ref u_35, .int u_36, .int u_37, .ref u_38, .int u_39, .int u_40, .int u_41, .ref u_42, .int u_43, .ref u_44, .int u_45, .int u_46, .int u_47, .int u_48, .int u_49, .ref u_50, .ref u_51, .ref u_52, .ref u_53]))]) (va_runS (As := [.int p0, .int 0, .int (-2)]) (rest := []) ⟨hx, hb, hml, hown, hts⟩ (hc9 _) (va_cwS 3 hts gX12_hidden_X12_isIn rfl rfl rfl (by decide +kernel) ⟨Nat.le_of_ble_eq_true rfl, Nat.le_of_ble_eq_true rfl⟩) (z_preS hP hD hK hS hA hE hO [] [] rfl (by decide +kernel) rfl) rfl rfl hl.1 rfl (lv_room (Nat.le_of_ble_eq_true rfl)) dX12_hidden_13 ⟨Nat.le_of_ble_eq_true rfl, Nat.le_of_ble_eq_true rfl⟩) hP hD hK hS hA [] [0] rfl rfl (by decide +kernel) (by decide +kernel) (fun r9 u9 H locs hw hP hD hK hS => ?_)
  obtain ⟨er9, rfl⟩ := hw
  have hP : va_P D vwCl [(am 18, .inr (11, [.int 0, .ref u_1, .int u_2, .int u_3, .int u_4, .int u_5, .ref u_6, .ref u_7, .ref u_8, .ref u_9, .ref u_10, .int u_11, .int u_12, .int u_13, .int u_14, .int u_15, .int u_16, .long u_17, .int u_18, .int u_19, .int u_20, .ref u_21, .ref u_22, .int u_23, .int u_24, .int u_25, .int u_26, .ref u_27, .int u_28, .ref u_29, .int u_30, .int u_31, .ref u_32, .int (-1), .ref u_34, .ref u_35, .int u_36, .int u_37, .ref u_38, .int u_39, .int u_40, .int u_41, .ref u_42, .int u_43, .ref u_44, .int u_45, .int u_46, .int u_47, .int u_48, .int u_49, .ref u_50, .ref u_51, .ref u_52, .ref u_53]))] H := hP
  have hD : va_D A [(am 18, .inr (11, [.int 0, .ref u_1, .int u_2, .int u_3, .int u_4, .int u_5, .ref u_6, .ref u_7, .ref u_8, .ref u_9, .ref u_10, .int u_11, .int u_12, .int u_13, .int u_14, .int u_15, .int u_16, .long u_17, .int u_18, .int u_19, .int u_20, .ref u_21, .ref u_22, .int u_23, .int u_24, .int u_25, .int u_26, .ref u_27, .int u_28, .ref u_29, .int u_30, .int u_31, .ref u_32, .int (-1), .ref u_34, .ref u_35, .int u_36, .int u_37, .ref u_38, .int u_39, .int u_40, .int u_41, .ref u_42, .int u_43, .ref u_44, .int u_45, .int u_46, .int u_47, .int u_48, .int u_49, .ref u_50, .ref u_51, .ref u_52, .ref u_53]))] := hD
  have hK : va_K D vwCl [] s := hK
  refine W.cs (cells' := 0) (slots' := 0) rfl rfl ?_
  obtain rfl := er9
  refine W.eq (g2 := F0 m 16 ls (.int 0 :: [])) rfl ?_
  refine lv_if_eq (tgt := 28) hx hb dX12_hidden_16 (by decide) (fun _ => ?_) (fun h9 => absurd (by decide) h9)
  refine lv_iconst (v := (-1)) hx hb dX12_hidden_28 (by decide) ?_
  refine W.widen (k := 0) (n := 0) (by decide) (by decide) ?_
  exact hret (-1) ([], []) _ _ _ _ dX12_hidden_29 rfl ⟨rfl, rfl⟩ (hP.sub [] rfl) (hK.sub [] rfl) (hD.sub [] (by decide +kernel) rfl) hS

set_option maxHeartbeats 8000000 in
set_option maxRecDepth 100000 in
theorem k_X12_person (l : Launch) (D : va_G) (ad : Nat → Nat) (am : Nat → Nat) (tm : Nat → ClassId) (p0 : Int32) (p1 : Int32) (u_1 : Nat) (u_2 : Int32) (u_3 : Int32) (u_4 : Int32) (u_5 : Int32) (u_7 : Nat) (u_8 : Nat) (u_9 : Nat) (u_10 : Nat) (u_11 : Int32) (u_12 : Int32) (u_13 : Int32) (u_14 : Int32) (u_15 : Int32) (u_16 : Int32) (u_17 : Int64) (u_18 : Int32) (u_19 : Int32) (u_20 : Int32) (u_21 : Nat) (u_22 : Nat) (u_23 : Int32) (u_24 : Int32) (u_25 : Int32) (u_26 : Int32) (u_27 : Nat) (u_28 : Int32) (u_29 : Nat) (u_30 : Int32) (u_31 : Int32) (u_32 : Nat) (u_33 : Int32) (u_34 : Nat) (u_35 : Nat) (u_36 : Int32) (u_37 : Int32) (u_38 : Nat) (u_39 : Int32) (u_40 : Int32) (u_41 : Int32) (u_42 : Nat) (u_43 : Int32) (u_44 : Nat) (u_45 : Int32) (u_46 : Int32) (u_47 : Int32) (u_48 : Int32) (u_49 : Int32) (u_50 : Nat) (u_51 : Nat) (u_52 : Nat) (u_53 : Nat)  : z_Mi l yX12_person wsX12_person { frames := 2, cells := 0, slots := 0, locals := 43 } D ad [.ref (am 18), .int p0, .int p1] [(am 1, .inl (tm 1, 283, .inl (upd (fun _ => 0) 4 2))), (am 18, .inr (11, [.int 0, .ref u_1, .int u_2, .int u_3, .int u_4, .int u_5, .ref (am 1), .ref u_7, .ref u_8, .ref u_9, .ref u_10, .int u_11, .int u_12, .int u_13, .int u_14, .int u_15, .int u_16, .long u_17, .int u_18, .int u_19, .int u_20, .ref u_21, .ref u_22, .int u_23, .int u_24, .int u_25, .int u_26, .ref u_27, .int u_28, .ref u_29, .int u_30, .int u_31, .ref u_32, .int u_33, .ref u_34, .ref u_35, .int u_36, .int u_37, .ref u_38, .int u_39, .int u_40, .int u_41, .ref u_42, .int u_43, .ref u_44, .int u_45, .int u_46, .int u_47, .int u_48, .int u_49, .ref u_50, .ref u_51, .ref u_52, .ref u_53]))] [(tm 1, .int)] 0 0 (fun r9 u9 => r9 = 0 ∧ u9 = ([(am 1, .inl (tm 1, 283, .inl (upd (fun _ => 0) 4 2))), (am 18, .inr (11, [.int 1, .ref u_1, .int u_2, .int u_3, .int u_4, .int u_5, .ref (am 1), .ref u_7, .ref u_8, .ref u_9, .ref u_10, .int u_11, .int u_12, .int u_13, .int u_14, .int u_15, .int u_16, .long u_17, .int u_18, .int u_19, .int u_20, .ref u_21, .ref u_22, .int u_23, .int u_24, .int u_25, .int u_26, .ref u_27, .int u_28, .ref u_29, .int u_30, .int u_31, .ref u_32, .int u_33, .ref u_34, .ref u_35, .int u_36, .int u_37, .ref u_38, .int u_39, .int u_40, .int u_41, .ref u_42, .int u_43, .ref u_44, .int u_45, .int u_46, .int u_47, .int u_48, .int u_49, .ref u_50, .ref u_51, .ref u_52, .ref u_53]))], [])) := by
  refine z_ofI (cc := cX12_person) (maxL := 3) (rt := .int) (by decide) rfl (Nat.le_of_ble_eq_true rfl) ?_
  intro p e s m below meth c Q A ls hx hb hml hown hts hin hK hP hD hA hE hO hS hl hret
  have hown : s.vm.findClass RX12 = some m.cls := hown
  have hiX12 : ∀ w ∈ wsX120, w ∈ wsX12_person := fun _ h9 => List.mem_cons_of_mem _ (List.mem_append_right _ h9)
  have hl : lv_has ls 3 [(0, .ref (am 18)), (1, .int p0), (2, .int p1)] := hl
  refine lv_aload_n hx hb dX12_person_0 rfl (lv_at hl 0 rfl) ?_
  refine lv_aload_n hx hb dX12_person_1 rfl (lv_at hl 0 rfl) ?_
  refine lv_iload_n hx hb dX12_person_2 rfl (lv_at hl 1 rfl) ?_
  have hc9 := (k_X12_isPerson l D ad am tm p0 0 u_1 u_2 u_3 u_4 u_5 u_7 u_8 u_9 u_10 u_11 u_12 u_13 u_14 u_15 u_16 u_17 u_18 u_19 u_20 u_21 u_22 u_23 u_24 u_25 u_26 u_27 u_28 u_29 u_30 u_31 u_32 u_33 u_34 u_35 u_36 u_37 u_38 u_39 u_40 u_41 u_42 u_43 u_44 u_45 u_46 u_47 u_48 u_49 u_50 u_51 u_52 u_53 )
  refine z_calli (w0 := [(am 1, .inl (tm 1, 283, .inl (upd (fun _ => 0) 4 2))), (am 18, .inr (11, [.int 0, .ref u_1, .int u_2, .int u_3, .int u_4, .int u_5, .ref (am 1), .ref u_7, .ref u_8, .ref u_9, .ref u_10, .int u_11, .int u_12, .int u_13, .int u_14, .int u_15, .int u_16, .long u_17, .int u_18, .int u_19, .int u_20, .ref u_21, .ref u_22, .int u_23, .int u_24, .int u_25, .int u_26, .ref u_27, .int u_28, .ref u_29, .int u_30, .int u_31, .ref u_32, .int u_33, .ref u_34, .ref u_35, .int u_36, .int u_37, .ref u_38, .int u_39, .int u_40, .int u_41, .ref u_42, .int u_43, .ref u_44, .int u_45, .int u_46, .int u_47, .int u_48, .int u_49, .ref u_50, .ref u_51, .ref u_52, .ref u_53]))]) (wr := []) (va_runV (As := [.int p0]) (rest := [.ref (am 18)]) ⟨hx, hb, hml, hown, hts⟩ (hc9 _) (cwV 1 hts gX12_person_X12_isPerson rfl rfl rfl (by decide +kernel) ⟨Nat.le_of_ble_eq_true rfl, Nat.le_of_ble_eq_true rfl⟩) (z_preV hP hD hK hS hA hE hO [0, 1] [0] rfl (by decide +kernel) rfl 1 11 rfl rfl rfl) rfl rfl hl.1 rfl (lv_room (Nat.le_of_ble_eq_true rfl)) dX12_person_3 ⟨Nat.le_of_ble_eq_true rfl, Nat.le_of_ble_eq_true rfl⟩) hP hD hK hS hA [0, 1] [] rfl rfl (by decide +kernel) (by decide +kernel) (fun r9 u9 H locs hw hP hD hK hS => ?_)
  obtain ⟨er9, rfl⟩ := hw
  have hP : va_P D vwCl [(am 1, .inl (tm 1, 283, .inl (upd (fun _ => 0) 4 2))), (am 18, .inr (11, [.int 0, .ref u_1, .int u_2, .int u_3, .int u_4, .int u_5, .ref (am 1), .ref u_7, .ref u_8, .ref u_9, .ref u_10, .int u_11, .int u_12, .int u_13, .int u_14, .int u_15, .int u_16, .long u_17, .int u_18, .int u_19, .int u_20, .ref u_21, .ref u_22, .int u_23, .int u_24, .int u_25, .int u_26, .ref u_27, .int u_28, .ref u_29, .int u_30, .int u_31, .ref u_32, .int u_33, .ref u_34, .ref u_35, .int u_36, .int u_37, .ref u_38, .int u_39, .int u_40, .int u_41, .ref u_42, .int u_43, .ref u_44, .int u_45, .int u_46, .int u_47, .int u_48, .int u_49, .ref u_50, .ref u_51, .ref u_52, .ref u_53]))] H := hP
  have hD : va_D A [(am 1, .inl (tm 1, 283, .inl (upd (fun _ => 0) 4 2))), (am 18, .inr (11, [.int 0, .ref u_1, .int u_2, .int u_3, .int u_4, .int u_5, .ref (am 1), .ref u_7, .ref u_8, .ref u_9, .ref u_10, .int u_11, .int u_12, .int u_13, .int u_14, .int u_15, .int u_16, .long u_17, .int u_18, .int u_19, .int u_20, .ref u_21, .ref u_22, .int u_23, .int u_24, .int u_25, .int u_26, .ref u_27, .int u_28, .ref u_29, .int u_30, .int u_31, .ref u_32, .int u_33, .ref u_34, .ref u_35, .int u_36, .int u_37, .ref u_38, .int u_39, .int u_40, .int u_41, .ref u_42, .int u_43, .ref u_44, .int u_45, .int u_46, .int u_47, .int u_48, .int u_49, .ref u_50, .ref u_51, .ref u_52, .ref u_53]))] := hD
  have hK : va_K D vwCl [(tm 1, .int)] s := hK
  refine W.cs (cells' := 0) (slots' := 0) rfl rfl ?_
  obtain rfl := er9
  refine W.eq (g2 := F0 m 6 ls (.int 0 :: [.ref (am 18)])) rfl ?_
  refine lv_if_eq (tgt := 19) hx hb dX12_person_6 (by decide) (fun _ => ?_) (fun h9 => absurd (by decide) h9)
  refine lv_iconst (v := 1) hx hb dX12_person_19 (by decide) ?_
  refine lv_goto (tgt := 24) hx hb dX12_person_20 (by decide) ?_
  have hc9 := (k_X12_throwsIf l D ad am u_1 u_2 u_3 u_4 u_5 (am 1) u_7 u_8 u_9 u_10 u_11 u_12 u_13 u_14 u_15 u_16 u_17 u_18 u_19 u_20 u_21 u_22 u_23 u_24 u_25 u_26 u_27 u_28 u_29 u_30 u_31 u_32 u_33 u_34 u_35 u_36 u_37 u_38 u_39 u_40 u_41 u_42 u_43 u_44 u_45 u_46 u_47 u_48 u_49 u_50 u_51 u_52 u_53 )
  refine z_calli (w0 := [(am 18, .inr (11, [.int 0, .ref u_1, .int u_2, .int u_3, .int u_4, .int u_5, .ref (am 1), .ref u_7, .ref u_8, .ref u_9, .ref u_10, .int u_11, .int u_12, .int u_13, .int u_14, .int u_15, .int u_16, .long u_17, .int u_18, .int u_19, .int u_20, .ref u_21, .ref u_22, .int u_23, .int u_24, .int u_25, .int u_26, .ref u_27, .int u_28, .ref u_29, .int u_30, .int u_31, .ref u_32, .int u_33, .ref u_34, .ref u_35, .int u_36, .int u_37, .ref u_38, .int u_39, .int u_40, .int u_41, .ref u_42, .int u_43, .ref u_44, .int u_45, .int u_46, .int u_47, .int u_48, .int u_49, .ref u_50, .ref u_51, .ref u_52, .ref u_53]))]) (wr := [(am 1, .inl (tm 1, 283, .inl (upd (fun _ => 0) 4 2)))]) (va_runV (As := [.int 1]) (rest := []) ⟨hx, hb, hml, hown, hts⟩ (hc9 _) (cwV 1 hts gX12_person_X12_throwsIf rfl rfl rfl (by decide +kernel) ⟨Nat.le_of_ble_eq_true rfl, Nat.le_of_ble_eq_true rfl⟩) (z_preV hP hD hK hS hA hE hO [1] [] rfl (by decide +kernel) rfl 1 11 rfl rfl rfl) rfl rfl hl.1 rfl (lv_room (Nat.le_of_ble_eq_true rfl)) dX12_person_24 ⟨Nat.le_of_ble_eq_true rfl, Nat.le_of_ble_eq_true rfl⟩) hP hD hK hS hA [1] [0] rfl rfl (by decide +kernel) (by decide +kernel) (fun r9 u9 H locs hw hP hD hK hS => ?_)
  obtain ⟨er9, rfl⟩ := hw
  have hP : va_P D vwCl [(am 1, .inl (tm 1, 283, .inl (upd (fun _ => 0) 4 2))), (am 18, .inr (11, [.int 1, .ref u_1, .int u_2, .int u_3, .int u_4, .int u_5, .ref (am 1), .ref u_7, .ref u_8, .ref u_9, .ref u_10, .int u_11, .int u_12, .int u_13, .int u_14, .int u_15, .int u_16, .long u_17, .int u_18, .int u_19, .int u_20, .ref u_21, .ref u_22, .int u_23, .int u_24, .int u_25, .int u_26, .ref u_27, .int u_28, .ref u_29, .int u_30, .int u_31, .ref u_32, .int u_33, .ref u_34, .ref u_35, .int u_36, .int u_37, .ref u_38, .int u_39, .int u_40, .int u_41, .ref u_42, .int u_43, .ref u_44, .int u_45, .int u_46, .int u_47, .int u_48, .int u_49, .ref u_50, .ref u_51, .ref u_52, .ref u_53]))] H := hP
  have hD : va_D A [(am 1, .inl (tm 1, 283, .inl (upd (fun _ => 0) 4 2))), (am 18, .inr (11, [.int 1, .ref u_1, .int u_2, .int u_3, .int u_4, .int u_5, .ref (am 1), .ref u_7, .ref u_8, .ref u_9, .ref u_10, .int u_11, .int u_12, .int u_13, .int u_14, .int u_15, .int u_16, .long u_17, .int u_18, .int u_19, .int u_20, .ref u_21, .ref u_22, .int u_23, .int u_24, .int u_25, .int u_26, .ref u_27, .int u_28, .ref u_29, .int u_30, .int u_31, .ref u_32, .int u_33, .ref u_34, .ref u_35, .int u_36, .int u_37, .ref u_38, .int u_39, .int u_40, .int u_41, .ref u_42, .int u_43, .ref u_44, .int u_45, .int u_46, .int u_47, .int u_48, .int u_49, .ref u_50, .ref u_51, .ref u_52, .ref u_53]))] := hD
  have hK : va_K D vwCl [(tm 1, .int)] s := hK
  refine W.cs (cells' := 0) (slots' := 0) rfl rfl ?_
  obtain rfl := er9
  refine W.eq (g2 := F0 m 27 ls (.int 1 :: [])) rfl ?_
  refine lv_if_eq (tgt := 32) hx hb dX12_person_27 (by decide) (fun h9 => absurd h9 (by decide)) (fun _ => ?_)
  refine lv_iconst (v := 0) hx hb dX12_person_30 (by decide) ?_
  refine W.widen (k := 0) (n := 0) (by decide) (by decide) ?_
  exact hret 0 ([(am 1, .inl (tm 1, 283, .inl (upd (fun _ => 0) 4 2))), (am 18, .inr (11, [.int 1, .ref u_1, .int u_2, .int u_3, .int u_4, .int u_5, .ref (am 1), .ref u_7, .ref u_8, .ref u_9, .ref u_10, .int u_11, .int u_12, .int u_13, .int u_14, .int u_15, .int u_16, .long u_17, .int u_18, .int u_19, .int u_20, .ref u_21, .ref u_22, .int u_23, .int u_24, .int u_25, .int u_26, .ref u_27, .int u_28, .ref u_29, .int u_30, .int u_31, .ref u_32, .int u_33, .ref u_34, .ref u_35, .int u_36, .int u_37, .ref u_38, .int u_39, .int u_40, .int u_41, .ref u_42, .int u_43, .ref u_44, .int u_45, .int u_46, .int u_47, .int u_48, .int u_49, .ref u_50, .ref u_51, .ref u_52, .ref u_53]))], []) _ _ _ _ dX12_person_31 rfl ⟨rfl, rfl⟩ (hP.sub [0, 1] rfl) (hK.sub [] rfl) (hD.sub [0, 1] (by decide +kernel) rfl) hS

set_option maxHeartbeats 8000000 in
set_option maxRecDepth 100000 in
theorem k_X12_umbrella (l : Launch) (D : va_G) (ad : Nat → Nat) (am : Nat → Nat) (tm : Nat → ClassId) (p0 : Int32) (p1 : Int32) (u_1 : Nat) (u_2 : Int32) (u_3 : Int32) (u_4 : Int32) (u_5 : Int32) (u_7 : Nat) (u_8 : Nat) (u_9 : Nat) (u_10 : Nat) (u_11 : Int32) (u_12 : Int32) (u_13 : Int32) (u_14 : Int32) (u_15 : Int32) (u_16 : Int32) (u_17 : Int64) (u_18 : Int32) (u_19 : Int32) (u_20 : Int32) (u_21 : Nat) (u_22 : Nat) (u_23 : Int32) (u_24 : Int32) (u_25 : Int32) (u_26 : Int32) (u_27 : Nat) (u_28 : Int32) (u_29 : Nat) (u_30 : Int32) (u_31 : Int32) (u_32 : Nat) (u_33 : Int32) (u_34 : Nat) (u_35 : Nat) (u_36 : Int32) (u_37 : Int32) (u_38 : Nat) (u_39 : Int32) (u_40 : Int32) (u_41 : Int32) (u_42 : Nat) (u_43 : Int32) (u_44 : Nat) (u_45 : Int32) (u_46 : Int32) (u_47 : Int32) (u_48 : Int32) (u_49 : Int32) (u_50 : Nat) (u_51 : Nat) (u_52 : Nat) (u_53 : Nat)  : z_Mi l yX12_umbrella wsX12_umbrella { frames := 2, cells := 0, slots := 0, locals := 43 } D ad [.ref (am 18), .int p0, .int p1] [(am 1, .inl (tm 1, 283, .inl (upd (fun _ => 0) 4 2))), (am 18, .inr (11, [.int 0, .ref u_1, .int u_2, .int u_3, .int u_4, .int u_5, .ref (am 1), .ref u_7, .ref u_8, .ref u_9, .ref u_10, .int u_11, .int u_12, .int u_13, .int u_14, .int u_15, .int u_16, .long u_17, .int u_18, .int u_19, .int u_20, .ref u_21, .ref u_22, .int u_23, .int u_24, .int u_25, .int u_26, .ref u_27, .int u_28, .ref u_29, .int u_30, .int u_31, .ref u_32, .int u_33, .ref u_34, .ref u_35, .int u_36, .int u_37, .ref u_38, .int u_39, .int u_40, .int u_41, .ref u_42, .int u_43, .ref u_44, .int u_45, .int u_46, .int u_47, .int u_48, .int u_49, .ref u_50, .ref u_51, .ref u_52, .ref u_53]))] [(tm 1, .int)] 0 0 (fun r9 u9 => r9 = 0 ∧ u9 = ([(am 1, .inl (tm 1, 283, .inl (upd (fun _ => 0) 4 2))), (am 18, .inr (11, [.int 1, .ref u_1, .int u_2, .int u_3, .int u_4, .int u_5, .ref (am 1), .ref u_7, .ref u_8, .ref u_9, .ref u_10, .int u_11, .int u_12, .int u_13, .int u_14, .int u_15, .int u_16, .long u_17, .int u_18, .int u_19, .int u_20, .ref u_21, .ref u_22, .int u_23, .int u_24, .int u_25, .int u_26, .ref u_27, .int u_28, .ref u_29, .int u_30, .int u_31, .ref u_32, .int u_33, .ref u_34, .ref u_35, .int u_36, .int u_37, .ref u_38, .int u_39, .int u_40, .int u_41, .ref u_42, .int u_43, .ref u_44, .int u_45, .int u_46, .int u_47, .int u_48, .int u_49, .ref u_50, .ref u_51, .ref u_52, .ref u_53]))], [])) := by
  refine z_ofI (cc := cX12_umbrella) (maxL := 3) (rt := .int) (by decide) rfl (Nat.le_of_ble_eq_true rfl) ?_
  intro p e s m below meth c Q A ls hx hb hml hown hts hin hK hP hD hA hE hO hS hl hret
  have hown : s.vm.findClass RX12 = some m.cls := hown
  have hiX12 : ∀ w ∈ wsX120, w ∈ wsX12_umbrella := fun _ h9 => List.mem_cons_of_mem _ (List.mem_append_right _ h9)
  have hl : lv_has ls 3 [(0, .ref (am 18)), (1, .int p0), (2, .int p1)] := hl
  refine lv_aload_n hx hb dX12_umbrella_0 rfl (lv_at hl 0 rfl) ?_
  refine lv_aload_n hx hb dX12_umbrella_1 rfl (lv_at hl 0 rfl) ?_
  refine lv_iload_n hx hb dX12_umbrella_2 rfl (lv_at hl 1 rfl) ?_
  have hc9 := (k_X12_isUmbrella l D ad am tm p0 0 u_1 u_2 u_3 u_4 u_5 u_7 u_8 u_9 u_10 u_11 u_12 u_13 u_14 u_15 u_16 u_17 u_18 u_19 u_20 u_21 u_22 u_23 u_24 u_25 u_26 u_27 u_28 u_29 u_30 u_31 u_32 u_33 u_34 u_35 u_36 u_37 u_38 u_39 u_40 u_41 u_42 u_43 u_44 u_45 u_46 u_47 u_48 u_49 u_50 u_51 u_52 u_53 )
  refine z_calli (w0 := [(am 1, .inl (tm 1, 283, .inl (upd (fun _ => 0) 4 2))), (am 18, .inr (11, [.int 0, .ref u_1, .int u_2, .int u_3, .int u_4, .int u_5, .ref (am 1), .ref u_7, .ref u_8, .ref u_9, .ref u_10, .int u_11, .int u_12, .int u_13, .int u_14, .int u_15, .int u_16, .long u_17, .int u_18, .int u_19, .int u_20, .ref u_21, .ref u_22, .int u_23, .int u_24, .int u_25, .int u_26, .ref u_27, .int u_28, .ref u_29, .int u_30, .int u_31, .ref u_32, .int u_33, .ref u_34, .ref u_35, .int u_36, .int u_37, .ref u_38, .int u_39, .int u_40, .int u_41, .ref u_42, .int u_43, .ref u_44, .int u_45, .int u_46, .int u_47, .int u_48, .int u_49, .ref u_50, .ref u_51, .ref u_52, .ref u_53]))]) (wr := []) (va_runV (As := [.int p0]) (rest := [.ref (am 18)]) ⟨hx, hb, hml, hown, hts⟩ (hc9 _) (cwV 1 hts gX12_umbrella_X12_isUmbrella rfl rfl rfl (by decide +kernel) ⟨Nat.le_of_ble_eq_true rfl, Nat.le_of_ble_eq_true rfl⟩) (z_preV hP hD hK hS hA hE hO [0, 1] [0] rfl (by decide +kernel) rfl 1 11 rfl rfl rfl) rfl rfl hl.1 rfl (lv_room (Nat.le_of_ble_eq_true rfl)) dX12_umbrella_3 ⟨Nat.le_of_ble_eq_true rfl, Nat.le_of_ble_eq_true rfl⟩) hP hD hK hS hA [0, 1] [] rfl rfl (by decide +kernel) (by decide +kernel) (fun r9 u9 H locs hw hP hD hK hS => ?_)
  obtain ⟨er9, rfl⟩ := hw
  have hP : va_P D vwCl [(am 1, .inl (tm 1, 283, .inl (upd (fun _ => 0) 4 2))), (am 18, .inr (11, [.int 0, .ref u_1, .int u_2, .int u_3, .int u_4, .int u_5, .ref (am 1), .ref u_7, .ref u_8, .ref u_9, .ref u_10, .int u_11, .int u_12, .int u_13, .int u_14, .int u_15, .int u_16, .long u_17, .int u_18, .int u_19, .int u_20, .ref u_21, .ref u_22, .int u_23, .int u_24, .int u_25, .int u_26, .ref u_27, .int u_28, .ref u_29, .int u_30, .int u_31, .ref u_32, .int u_33, .ref u_34, .ref u_35, .int u_36, .int u_37, .ref u_38, .int u_39, .int u_40, .int u_41, .ref u_42, .int u_43, .ref u_44, .int u_45, .int u_46, .int u_47, .int u_48, .int u_49, .ref u_50, .ref u_51, .ref u_52, .ref u_53]))] H := hP
  have hD : va_D A [(am 1, .inl (tm 1, 283, .inl (upd (fun _ => 0) 4 2))), (am 18, .inr (11, [.int 0, .ref u_1, .int u_2, .int u_3, .int u_4, .int u_5, .ref (am 1), .ref u_7, .ref u_8, .ref u_9, .ref u_10, .int u_11, .int u_12, .int u_13, .int u_14, .int u_15, .int u_16, .long u_17, .int u_18, .int u_19, .int u_20, .ref u_21, .ref u_22, .int u_23, .int u_24, .int u_25, .int u_26, .ref u_27, .int u_28, .ref u_29, .int u_30, .int u_31, .ref u_32, .int u_33, .ref u_34, .ref u_35, .int u_36, .int u_37, .ref u_38, .int u_39, .int u_40, .int u_41, .ref u_42, .int u_43, .ref u_44, .int u_45, .int u_46, .int u_47, .int u_48, .int u_49, .ref u_50, .ref u_51, .ref u_52, .ref u_53]))] := hD
  have hK : va_K D vwCl [(tm 1, .int)] s := hK
  refine W.cs (cells' := 0) (slots' := 0) rfl rfl ?_
  obtain rfl := er9
  refine W.eq (g2 := F0 m 6 ls (.int 0 :: [.ref (am 18)])) rfl ?_
  refine lv_if_eq (tgt := 18) hx hb dX12_umbrella_6 (by decide) (fun _ => ?_) (fun h9 => absurd (by decide) h9)
  refine lv_iconst (v := 1) hx hb dX12_umbrella_18 (by decide) ?_
  refine lv_goto (tgt := 23) hx hb dX12_umbrella_19 (by decide) ?_
  have hc9 := (k_X12_throwsIf l D ad am u_1 u_2 u_3 u_4 u_5 (am 1) u_7 u_8 u_9 u_10 u_11 u_12 u_13 u_14 u_15 u_16 u_17 u_18 u_19 u_20 u_21 u_22 u_23 u_24 u_25 u_26 u_27 u_28 u_29 u_30 u_31 u_32 u_33 u_34 u_35 u_36 u_37 u_38 u_39 u_40 u_41 u_42 u_43 u_44 u_45 u_46 u_47 u_48 u_49 u_50 u_51 u_52 u_53 )
  refine z_calli (w0 := [(am 18, .inr (11, [.int 0, .ref u_1, .int u_2, .int u_3, .int u_4, .int u_5, .ref (am 1), .ref u_7, .ref u_8, .ref u_9, .ref u_10, .int u_11, .int u_12, .int u_13, .int u_14, .int u_15, .int u_16, .long u_17, .int u_18, .int u_19, .int u_20, .ref u_21, .ref u_22, .int u_23, .int u_24, .int u_25, .int u_26, .ref u_27, .int u_28, .ref u_29, .int u_30, .int u_31, .ref u_32, .int u_33, .ref u_34, .ref u_35, .int u_36, .int u_37, .ref u_38, .int u_39, .int u_40, .int u_41, .ref u_42, .int u_43, .ref u_44, .int u_45, .int u_46, .int u_47, .int u_48, .int u_49, .ref u_50, .ref u_51, .ref u_52, .ref u_53]))]) (wr := [(am 1, .inl (tm 1, 283, .inl (upd (fun _ => 0) 4 2)))]) (va_runV (As := [.int 1]) (rest := []) ⟨hx, hb, hml, hown, hts⟩ (hc9 _) (cwV 1 hts gX12_umbrella_X12_throwsIf rfl rfl rfl (by decide +kernel) ⟨Nat.le_of_ble_eq_true rfl, Nat.le_of_ble_eq_true rfl⟩) (z_preV hP hD hK hS hA hE hO [1] [] rfl (by decide +kernel) rfl 1 11 rfl rfl rfl) rfl rfl hl.1 rfl (lv_room (Nat.le_of_ble_eq_true rfl)) dX12_umbrella_23 ⟨Nat.le_of_ble_eq_true rfl, Nat.le_of_ble_eq_true rfl⟩) hP hD hK hS hA [1] [0] rfl rfl (by decide +kernel) (by decide +kernel) (fun r9 u9 H locs hw hP hD hK hS => ?_)
  obtain ⟨er9, rfl⟩ := hw
  have hP : va_P D vwCl [(am 1, .inl (tm 1, 283, .inl (upd (fun _ => 0) 4 2))), (am 18, .inr (11, [.int 1, .ref u_1, .int u_2, .int u_3, .int u_4, .int u_5, .ref (am 1), .ref u_7, .ref u_8, .ref u_9, .ref u_10, .int u_11, .int u_12, .int u_13, .int u_14, .int u_15, .int u_16, .long u_17, .int u_18, .int u_19, .int u_20, .ref u_21, .ref u_22, .int u_23, .int u_24, .int u_25, .int u_26, .ref u_27, .int u_28, .ref u_29, .int u_30, .int u_31, .ref u_32, .int u_33, .ref u_34, .ref u_35, .int u_36, .int u_37, .ref u_38, .int u_39, .int u_40, .int u_41, .ref u_42, .int u_43, .ref u_44, .int u_45, .int u_46, .int u_47, .int u_48, .int u_49, .ref u_50, .ref u_51, .ref u_52, .ref u_53]))] H := hP
  have hD : va_D A [(am 1, .inl (tm 1, 283, .inl (upd (fun _ => 0) 4 2))), (am 18, .inr (11, [.int 1, .ref u_1, .int u_2, .int u_3, .int u_4, .int u_5, .ref (am 1), .ref u_7, .ref u_8, .ref u_9, .ref u_10, .int u_11, .int u_12, .int u_13, .int u_14, .int u_15, .int u_16, .long u_17, .int u_18, .int u_19, .int u_20, .ref u_21, .ref u_22, .int u_23, .int u_24, .int u_25, .int u_26, .ref u_27, .int u_28, .ref u_29, .int u_30, .int u_31, .ref u_32, .int u_33, .ref u_34, .ref u_35, .int u_36, .int u_37, .ref u_38, .int u_39, .int u_40, .int u_41, .ref u_42, .int u_43, .ref u_44, .int u_45, .int u_46, .int u_47, .int u_48, .int u_49, .ref u_50, .ref u_51, .ref u_52, .ref u_53]))] := hD
  have hK : va_K D vwCl [(tm 1, .int)] s := hK
  refine W.cs (cells' := 0) (slots' := 0) rfl rfl ?_
  obtain rfl := er9
  refine W.eq (g2 := F0 m 26 ls (.int 1 :: [])) rfl ?_
  refine lv_if_eq (tgt := 31) hx hb dX12_umbrella_26 (by decide) (fun h9 => absurd h9 (by decide)) (fun _ => ?_)
  refine lv_iconst (v := 0) hx hb dX12_umbrella_29 (by decide) ?_
  refine W.widen (k := 0) (n := 0) (by decide) (by decide) ?_
  exact hret 0 ([(am 1, .inl (tm 1, 283, .inl (upd (fun _ => 0) 4 2))), (am 18, .inr (11, [.int 1, .ref u_1, .int u_2, .int u_3, .int u_4, .int u_5, .ref (am 1), .ref u_7, .ref u_8, .ref u_9, .ref u_10, .int u_11, .int u_12, .int u_13, .int u_14, .int u_15, .int u_16, .long u_17, .int u_18, .int u_19, .int u_20, .ref u_21, .ref u_22, .int u_23, .int u_24, .int u_25, .int u_26, .ref u_27, .int u_28, .ref u_29, .int u_30, .int u_31, .ref u_32, .int u_33, .ref u_34, .ref u_35, .int u_36, .int u_37, .ref u_38, .int u_39, .int u_40, .int u_41, .ref u_42, .int u_43, .ref u_44, .int u_45, .int u_46, .int u_47, .int u_48, .int u_49, .ref u_50, .ref u_51, .ref u_52, .ref u_53]))], []) _ _ _ _ dX12_umbrella_30 rfl ⟨rfl, rfl⟩ (hP.sub [0, 1] rfl) (hK.sub [] rfl) (hD.sub [0, 1] (by decide +kernel) rfl) hS

set_option maxHeartbeats 8000000 in
set_option maxRecDepth 100000 in
theorem k_X12_sorrow (l : Launch) (D : va_G) (ad : Nat → Nat) (am : Nat → Nat) (tm : Nat → ClassId) (p0 : Int32) (p1 : Int32) (u_1 : Nat) (u_2 : Int32) (u_3 : Int32) (u_4 : Int32) (u_5 : Int32) (u_7 : Nat) (u_8 : Nat) (u_9 : Nat) (u_10 : Nat) (u_11 : Int32) (u_12 : Int32) (u_13 : Int32) (u_14 : Int32) (u_15 : Int32) (u_16 : Int32) (u_17 : Int64) (u_18 : Int32) (u_19 : Int32) (u_20 : Int32) (u_21 : Nat) (u_22 : Nat) (u_23 : Int32) (u_24 : Int32) (u_25 : Int32) (u_26 : Int32) (u_27 : Nat) (u_28 : Int32) (u_29 : Nat) (u_30 : Int32) (u_31 : Int32) (u_32 : Nat) (u_33 : Int32) (u_34 : Nat) (u_35 : Nat) (u_36 : Int32) (u_37 : Int32) (u_38 : Nat) (u_39 : Int32) (u_40 : Int32) (u_41 : Int32) (u_42 : Nat) (u_43 : Int32) (u_44 : Nat) (u_45 : Int32) (u_46 : Int32) (u_47 : Int32) (u_48 : Int32) (u_49 : Int32) (u_50 : Nat) (u_51 : Nat) (u_52 : Nat) (u_53 : Nat)  : z_Mi l yX12_sorrow wsX12_sorrow { frames := 2, cells := 0, slots := 0, locals := 43 } D ad [.ref (am 18), .int p0, .int p1] [(am 1, .inl (tm 1, 283, .inl (upd (fun _ => 0) 4 2))), (am 18, .inr (11, [.int 0, .ref u_1, .int u_2, .int u_3, .int u_4, .int u_5, .ref (am 1), .ref u_7, .ref u_8, .ref u_9, .ref u_10, .int u_11, .int u_12, .int u_13, .int u_14, .int u_15, .int u_16, .long u_17, .int u_18, .int u_19, .int u_20, .ref u_21, .ref u_22, .int u_23, .int u_24, .int u_25, .int u_26, .ref u_27, .int u_28, .ref u_29, .int u_30, .int u_31, .ref u_32, .int u_33, .ref u_34, .ref u_35, .int u_36, .int u_37, .ref u_38, .int u_39, .int u_40, .int u_41, .ref u_42, .int u_43, .ref u_44, .int u_45, .int u_46, .int u_47, .int u_48, .int u_49, .ref u_50, .ref u_51, .ref u_52, .ref u_53]))] [(tm 1, .int)] 0 0 (fun r9 u9 => r9 = 0 ∧ u9 = ([(am 1, .inl (tm 1, 283, .inl (upd (fun _ => 0) 4 2))), (am 18, .inr (11, [.int 1, .ref u_1, .int u_2, .int u_3, .int u_4, .int u_5, .ref (am 1), .ref u_7, .ref u_8, .ref u_9, .ref u_10, .int u_11, .int u_12, .int u_13, .int u_14, .int u_15, .int u_16, .long u_17, .int u_18, .int u_19, .int u_20, .ref u_21, .ref u_22, .int u_23, .int u_24, .int u_25, .int u_26, .ref u_27, .int u_28, .ref u_29, .int u_30, .int u_31, .ref u_32, .int u_33, .ref u_34, .ref u_35, .int u_36, .int u_37, .ref u_38, .int u_39, .int u_40, .int u_41, .ref u_42, .int u_43, .ref u_44, .int u_45, .int u_46, .int u_47, .int u_48, .int u_49, .ref u_50, .ref u_51, .ref u_52, .ref u_53]))], [])) := by
  refine z_ofI (cc := cX12_sorrow) (maxL := 3) (rt := .int) (by decide) rfl (Nat.le_of_ble_eq_true rfl) ?_
  intro p e s m below meth c Q A ls hx hb hml hown hts hin hK hP hD hA hE hO hS hl hret
  have hown : s.vm.findClass RX12 = some m.cls := hown
  have hiX12 : ∀ w ∈ wsX120, w ∈ wsX12_sorrow := fun _ h9 => List.mem_cons_of_mem _ (List.mem_append_right _ h9)
  have hl : lv_has ls 3 [(0, .ref (am 18)), (1, .int p0), (2, .int p1)] := hl
  refine lv_aload_n hx hb dX12_sorrow_0 rfl (lv_at hl 0 rfl) ?_
  refine lv_aload_n hx hb dX12_sorrow_1 rfl (lv_at hl 0 rfl) ?_
  refine lv_iload_n hx hb dX12_sorrow_2 rfl (lv_at hl 1 rfl) ?_
  have hc9 := (k_X12_isSorrow l D ad am tm p0 0 u_1 u_2 u_3 u_4 u_5 u_7 u_8 u_9 u_10 u_11 u_12 u_13 u_14 u_15 u_16 u_17 u_18 u_19 u_20 u_21 u_22 u_23 u_24 u_25 u_26 u_27 u_28 u_29 u_30 u_31 u_32 u_33 u_34 u_35 u_36 u_37 u_38 u_39 u_40 u_41 u_42 u_43 u_44 u_45 u_46 u_47 u_48 u_49 u_50 u_51 u_52 u_53 )
  refine z_calli (w0 := [(am 1, .inl (tm 1, 283, .inl (upd (fun _ => 0) 4 2))), (am 18, .inr (11, [.int 0, .ref u_1, .int u_2, .int u_3, .int u_4, .int u_5, .ref (am 1), .ref u_7, .ref u_8, .ref u_9, .ref u_10, .int u_11, .int u_12, .int u_13, .int u_14, .int u_15, .int u_16, .long u_17, .int u_18, .int u_19, .int u_20, .ref u_21, .ref u_22, .int u_23, .int u_24, .int u_25, .int u_26, .ref u_27, .int u_28, .ref u_29, .int u_30, .int u_31, .ref u_32, .int u_33, .ref u_34, .ref u_35, .int u_36, .int u_37, .ref u_38, .int u_39, .int u_40, .int u_41, .ref u_42, .int u_43, .ref u_44, .int u_45, .int u_46, .int u_47, .int u_48, .int u_49, .ref u_50, .ref u_51, .ref u_52, .ref u_53]))]) (wr := []) (va_runV (As := [.int p0]) (rest := [.ref (am 18)]) ⟨hx, hb, hml, hown, hts⟩ (hc9 _) (cwV 1 hts gX12_sorrow_X12_isSorrow rfl rfl rfl (by decide +kernel) ⟨Nat.le_of_ble_eq_true rfl, Nat.le_of_ble_eq_true rfl⟩) (z_preV hP hD hK hS hA hE hO [0, 1] [0] rfl (by decide +kernel) rfl 1 11 rfl rfl rfl) rfl rfl hl.1 rfl (lv_room (Nat.le_of_ble_eq_true rfl)) dX12_sorrow_3 ⟨Nat.le_of_ble_eq_true rfl, Nat.le_of_ble_eq_true rfl⟩) hP hD hK hS hA [0, 1] [] rfl rfl (by decide +kernel) (by decide +kernel) (fun r9 u9 H locs hw hP hD hK hS => ?_)
  obtain ⟨er9, rfl⟩ := hw
  have hP : va_P D vwCl [(am 1, .inl (tm 1, 283, .inl (upd (fun _ => 0) 4 2))), (am 18, .inr (11, [.int 0, .ref u_1, .int u_2, .int u_3, .int u_4, .int u_5, .ref (am 1), .ref u_7, .ref u_8, .ref u_9, .ref u_10, .int u_11, .int u_12, .int u_13, .int u_14, .int u_15, .int u_16, .long u_17, .int u_18, .int u_19, .int u_20, .ref u_21, .ref u_22, .int u_23, .int u_24, .int u_25, .int u_26, .ref u_27, .int u_28, .ref u_29, .int u_30, .int u_31, .ref u_32, .int u_33, .ref u_34, .ref u_35, .int u_36, .int u_37, .ref u_38, .int u_39, .int u_40, .int u_41, .ref u_42, .int u_43, .ref u_44, .int u_45, .int u_46, .int u_47, .int u_48, .int u_49, .ref u_50, .ref u_51, .ref u_52, .ref u_53]))] H := hP
  have hD : va_D A [(am 1, .inl (tm 1, 283, .inl (upd (fun _ => 0) 4 2))), (am 18, .inr (11, [.int 0, .ref u_1, .int u_2, .int u_3, .int u_4, .int u_5, .ref (am 1), .ref u_7, .ref u_8, .ref u_9, .ref u_10, .int u_11, .int u_12, .int u_13, .int u_14, .int u_15, .int u_16, .long u_17, .int u_18, .int u_19, .int u_20, .ref u_21, .ref u_22, .int u_23, .int u_24, .int u_25, .int u_26, .ref u_27, .int u_28, .ref u_29, .int u_30, .int u_31, .ref u_32, .int u_33, .ref u_34, .ref u_35, .int u_36, .int u_37, .ref u_38, .int u_39, .int u_40, .int u_41, .ref u_42, .int u_43, .ref u_44, .int u_45, .int u_46, .int u_47, .int u_48, .int u_49, .ref u_50, .ref u_51, .ref u_52, .ref u_53]))] := hD
  have hK : va_K D vwCl [(tm 1, .int)] s := hK
  refine W.cs (cells' := 0) (slots' := 0) rfl rfl ?_
  obtain rfl := er9
  refine W.eq (g2 := F0 m 6 ls (.int 0 :: [.ref (am 18)])) rfl ?_
  refine lv_if_eq (tgt := 18) hx hb dX12_sorrow_6 (by decide) (fun _ => ?_) (fun h9 => absurd (by decide) h9)
  refine lv_iconst (v := 1) hx hb dX12_sorrow_18 (by decide) ?_
  refine lv_goto (tgt := 23) hx hb dX12_sorrow_19 (by decide) ?_
  have hc9 := (k_X12_throwsIf l D ad am u_1 u_2 u_3 u_4 u_5 (am 1) u_7 u_8 u_9 u_10 u_11 u_12 u_13 u_14 u_15 u_16 u_17 u_18 u_19 u_20 u_21 u_22 u_23 u_24 u_25 u_26 u_27 u_28 u_29 u_30 u_31 u_32 u_33 u_34 u_35 u_36 u_37 u_38 u_39 u_40 u_41 u_42 u_43 u_44 u_45 u_46 u_47 u_48 u_49 u_50 u_51 u_52 u_53 )
  refine z_calli (w0 := [(am 18, .inr (11, [.int 0, .ref u_1, .int u_2, .int u_3, .int u_4, .int u_5, .ref (am 1), .ref u_7, .ref u_8, .ref u_9, .ref u_10, .int u_11, .int u_12, .int u_13, .int u_14, .int u_15, .int u_16, .long u_17, .int u_18, .int u_19, .int u_20, .ref u_21, .ref u_22, .int u_23, .int u_24, .int u_25, .int u_26, .ref u_27, .int u_28, .ref u_29, .int u_30, .int u_31, .ref u_32, .int u_33, .ref u_34, .ref u_35, .int u_36, .int u_37, .ref u_38, .int u_39, .int u_40, .int u_41, .ref u_42, .int u_43, .ref u_44, .int u_45, .int u_46, .int u_47, .int u_48, .int u_49, .ref u_50, .ref u_51, .ref u_52, .ref u_53]))]) (wr := [(am 1, .inl (tm 1, 283, .inl (upd (fun _ => 0) 4 2)))]) (va_runV (As := [.int 1]) (rest := []) ⟨hx, hb, hml, hown, hts⟩ (hc9 _) (cwV 1 hts gX12_sorrow_X12_throwsIf rfl rfl rfl (by decide +kernel) ⟨Nat.le_of_ble_eq_true rfl, Nat.le_of_ble_eq_true rfl⟩) (z_preV hP hD hK hS hA hE hO [1] [] rfl (by decide +kernel) rfl 1 11 rfl rfl rfl) rfl rfl hl.1 rfl (lv_room (Nat.le_of_ble_eq_true rfl)) dX12_sorrow_23 ⟨Nat.le_of_ble_eq_true rfl, Nat.le_of_ble_eq_true rfl⟩) hP hD hK hS hA [1] [0] rfl rfl (by decide +kernel) (by decide +kernel) (fun r9 u9 H locs hw hP hD hK hS => ?_)
  obtain ⟨er9, rfl⟩ := hw
  have hP : va_P D vwCl [(am 1, .inl (tm 1, 283, .inl (upd (fun _ => 0) 4 2))), (am 18, .inr (11, [.int 1, .ref u_1, .int u_2, .int u_3, .int u_4, .int u_5, .ref (am 1), .ref u_7, .ref u_8, .ref u_9, .ref u_10, .int u_11, .int u_12, .int u_13, .int u_14, .int u_15, .int u_16, .long u_17, .int u_18, .int u_19, .int u_20, .ref u_21, .ref u_22, .int u_23, .int u_24, .int u_25, .int u_26, .ref u_27, .int u_28, .ref u_29, .int u_30, .int u_31, .ref u_32, .int u_33, .ref u_34, .ref u_35, .int u_36, .int u_37, .ref u_38, .int u_39, .int u_40, .int u_41, .ref u_42, .int u_43, .ref u_44, .int u_45, .int u_46, .int u_47, .int u_48, .int u_49, .ref u_50, .ref u_51, .ref u_52, .ref u_53]))] H := hP
  have hD : va_D A [(am 1, .inl (tm 1, 283, .inl (upd (fun _ => 0) 4 2))), (am 18, .inr (11, [.int 1, .ref u_1, .int u_2, .int u_3, .int u_4, .int u_5, .ref (am 1), .ref u_7, .ref u_8, .ref u_9, .ref u_10, .int u_11, .int u_12, .int u_13, .int u_14, .int u_15, .int u_16, .long u_17, .int u_18, .int u_19, .int u_20, .ref u_21, .ref u_22, .int u_23, .int u_24, .int u_25, .int u_26, .ref u_27, .int u_28, .ref u_29, .int u_30, .int u_31, .ref u_32, .int u_33, .ref u_34, .ref u_35, .int u_36, .int u_37, .ref u_38, .int u_39, .int u_40, .int u_41, .ref u_42, .int u_43, .ref u_44, .int u_45, .int u_46, .int u_47, .int u_48, .int u_49, .ref u_50, .ref u_51, .ref u_52, .ref u_53]))] := hD
  have hK : va_K D vwCl [(tm 1, .int)] s := hK
  refine W.cs (cells' := 0) (slots' := 0) rfl rfl ?_
  obtain rfl := er9
  refine W.eq (g2 := F0 m 26 ls (.int 1 :: [])) rfl ?_
  refine lv_if_eq (tgt := 31) hx hb dX12_sorrow_26 (by decide) (fun h9 => absurd h9 (by decide)) (fun _ => ?_)
  refine lv_iconst (v := 0) hx hb dX12_sorrow_29 (by decide) ?_
  refine W.widen (k := 0) (n := 0) (by decide) (by decide) ?_
  exact hret 0 ([(am 1, .inl (tm 1, 283, .inl (upd (fun _ => 0) 4 2))), (am 18, .inr (11, [.int 1, .ref u_1, .int u_2, .int u_3, .int u_4, .int u_5, .ref (am 1), .ref u_7, .ref u_8, .ref u_9, .ref u_10, .int u_11, .int u_12, .int u_13, .int u_14, .int u_15, .int u_16, .long u_17, .int u_18, .int u_19, .int u_20, .ref u_21, .ref u_22, .int u_23, .int u_24, .int u_25, .int u_26, .ref u_27, .int u_28, .ref u_29, .int u_30, .int u_31, .ref u_32, .int u_33, .ref u_34, .ref u_35, .int u_36, .int u_37, .ref u_38, .int u_39, .int u_40, .int u_41, .ref u_42, .int u_43, .ref u_44, .int u_45, .int u_46, .int u_47, .int u_48, .int u_49, .ref u_50, .ref u_51, .ref u_52, .ref u_53]))], []) _ _ _ _ dX12_sorrow_30 rfl ⟨rfl, rfl⟩ (hP.sub [0, 1] rfl) (hK.sub [] rfl) (hD.sub [0, 1] (by decide +kernel) rfl) hS
