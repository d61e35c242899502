theorem dX3_coverAll_0 : decode cX3_coverAll 0 = .ok (.aload_n 0, 1) := by decide +kernel
theorem dX3_coverAll_1 : decode cX3_coverAll 1 = .ok (.invokevirtual 98, 3) := by decide +kernel
theorem dX3_coverAll_4 : decode cX3_coverAll 4 = .ok (.istore_n 1, 1) := by decide +kernel
theorem dX3_coverAll_5 : decode cX3_coverAll 5 = .ok (.iconst 0, 1) := by decide +kernel
theorem dX3_coverAll_6 : decode cX3_coverAll 6 = .ok (.istore_n 2, 1) := by decide +kernel
theorem dX3_coverAll_7 : decode cX3_coverAll 7 = .ok (.iload_n 2, 1) := by decide +kernel
theorem dX3_coverAll_8 : decode cX3_coverAll 8 = .ok (.iconst 1, 1) := by decide +kernel
theorem dX3_coverAll_9 : decode cX3_coverAll 9 = .ok (.aload_n 0, 1) := by decide +kernel
theorem dX3_coverAll_10 : decode cX3_coverAll 10 = .ok (.getfield 48, 3) := by decide +kernel
theorem dX3_coverAll_13 : decode cX3_coverAll 13 = .ok (.getfield 101, 3) := by decide +kernel
theorem dX3_coverAll_16 : decode cX3_coverAll 16 = .ok (.getfield 89, 3) := by decide +kernel
theorem dX3_coverAll_19 : decode cX3_coverAll 19 = .ok (.ishl, 1) := by decide +kernel
theorem dX3_coverAll_20 : decode cX3_coverAll 20 = .ok (.if_icmp .ge 32, 3) := by decide +kernel
theorem dX3_coverAll_23 : decode cX3_coverAll 23 = .ok (.iload_n 2, 1) := by decide +kernel
theorem dX3_coverAll_24 : decode cX3_coverAll 24 = .ok (.invokestatic 104, 3) := by decide +kernel
theorem dX3_coverAll_27 : decode cX3_coverAll 27 = .ok (.iload_n 1, 1) := by decide +kernel
theorem dX3_coverAll_28 : decode cX3_coverAll 28 = .ok (.if_icmp .ne 18, 3) := by decide +kernel
theorem dX3_coverAll_31 : decode cX3_coverAll 31 = .ok (.aload_n 0, 1) := by decide +kernel
theorem dX3_coverAll_32 : decode cX3_coverAll 32 = .ok (.iload_n 2, 1) := by decide +kernel
theorem dX3_coverAll_33 : decode cX3_coverAll 33 = .ok (.invokevirtual 109, 3) := by decide +kernel
theorem dX3_coverAll_36 : decode cX3_coverAll 36 = .ok (.ifCond .eq 10, 3) := by decide +kernel
theorem dX3_coverAll_39 : decode cX3_coverAll 39 = .ok (.aload_n 0, 1) := by decide +kernel
theorem dX3_coverAll_40 : decode cX3_coverAll 40 = .ok (.iload_n 2, 1) := by decide +kernel
theorem dX3_coverAll_41 : decode cX3_coverAll 41 = .ok (.putfield 27, 3) := by decide +kernel
theorem dX3_coverAll_44 : decode cX3_coverAll 44 = .ok (.iload_n 1, 1) := by decide +kernel
theorem dX3_coverAll_45 : decode cX3_coverAll 45 = .ok (.ireturn, 1) := by decide +kernel
theorem dX3_findNeeds_0 : decode cX3_findNeeds 0 = .ok (.iconst 0, 1) := by decide +kernel
theorem dX3_findNeeds_1 : decode cX3_findNeeds 1 = .ok (.istore_n 1, 1) := by decide +kernel
theorem dX3_findNeeds_2 : decode cX3_findNeeds 2 = .ok (.iconst 0, 1) := by decide +kernel
theorem dX3_findNeeds_3 : decode cX3_findNeeds 3 = .ok (.istore_n 2, 1) := by decide +kernel
theorem dX3_findNeeds_4 : decode cX3_findNeeds 4 = .ok (.iload_n 2, 1) := by decide +kernel
theorem dX3_findNeeds_5 : decode cX3_findNeeds 5 = .ok (.aload_n 0, 1) := by decide +kernel
theorem dX3_findNeeds_6 : decode cX3_findNeeds 6 = .ok (.getfield 48, 3) := by decide +kernel
theorem dX3_findNeeds_9 : decode cX3_findNeeds 9 = .ok (.getfield 83, 3) := by decide +kernel
theorem dX3_findNeeds_12 : decode cX3_findNeeds 12 = .ok (.getfield 89, 3) := by decide +kernel
theorem dX3_findNeeds_15 : decode cX3_findNeeds 15 = .ok (.if_icmp .ge 103, 3) := by decide +kernel
theorem dX3_findNeeds_118 : decode cX3_findNeeds 118 = .ok (.iload_n 1, 1) := by decide +kernel
theorem dX3_findNeeds_119 : decode cX3_findNeeds 119 = .ok (.ireturn, 1) := by decide +kernel
theorem dX3_meetsNeeds_0 : decode cX3_meetsNeeds 0 = .ok (.iconst 0, 1) := by decide +kernel
theorem dX3_meetsNeeds_1 : decode cX3_meetsNeeds 1 = .ok (.istore_n 2, 1) := by decide +kernel
theorem dX3_meetsNeeds_2 : decode cX3_meetsNeeds 2 = .ok (.iload_n 2, 1) := by decide +kernel
theorem dX3_meetsNeeds_3 : decode cX3_meetsNeeds 3 = .ok (.aload_n 0, 1) := by decide +kernel
theorem dX3_meetsNeeds_4 : decode cX3_meetsNeeds 4 = .ok (.getfield 48, 3) := by decide +kernel
theorem dX3_meetsNeeds_7 : decode cX3_meetsNeeds 7 = .ok (.getfield 83, 3) := by decide +kernel
theorem dX3_meetsNeeds_10 : decode cX3_meetsNeeds 10 = .ok (.getfield 89, 3) := by decide +kernel
theorem dX3_meetsNeeds_13 : decode cX3_meetsNeeds 13 = .ok (.if_icmp .ge 44, 3) := by decide +kernel
theorem dX3_meetsNeeds_57 : decode cX3_meetsNeeds 57 = .ok (.iconst 1, 1) := by decide +kernel
theorem dX3_meetsNeeds_58 : decode cX3_meetsNeeds 58 = .ok (.ireturn, 1) := by decide +kernel
theorem dX3_hideAll_0 : decode cX3_hideAll 0 = .ok (.aload_n 1, 1) := by decide +kernel
theorem dX3_hideAll_1 : decode cX3_hideAll 1 = .ok (.aload_n 0, 1) := by decide +kernel
theorem dX3_hideAll_2 : decode cX3_hideAll 2 = .ok (.getfield 40, 3) := by decide +kernel
theorem dX3_hideAll_5 : decode cX3_hideAll 5 = .ok (.invokevirtual 58, 3) := by decide +kernel
theorem dX3_hideAll_8 : decode cX3_hideAll 8 = .ok (.iconst 0, 1) := by decide +kernel
theorem dX3_hideAll_9 : decode cX3_hideAll 9 = .ok (.istore_n 2, 1) := by decide +kernel
theorem dX3_hideAll_10 : decode cX3_hideAll 10 = .ok (.iconst 1, 1) := by decide +kernel
theorem dX3_hideAll_11 : decode cX3_hideAll 11 = .ok (.istore_n 3, 1) := by decide +kernel
theorem dX3_hideAll_12 : decode cX3_hideAll 12 = .ok (.iload_n 3, 1) := by decide +kernel
theorem dX3_hideAll_13 : decode cX3_hideAll 13 = .ok (.ifCond .eq 21, 3) := by decide +kernel
theorem dX3_hideAll_16 : decode cX3_hideAll 16 = .ok (.iload_n 2, 1) := by decide +kernel
theorem dX3_hideAll_17 : decode cX3_hideAll 17 = .ok (.bipush 10, 2) := by decide +kernel
theorem dX3_hideAll_19 : decode cX3_hideAll 19 = .ok (.if_icmp .ge 15, 3) := by decide +kernel
theorem dX3_hideAll_22 : decode cX3_hideAll 22 = .ok (.aload_n 0, 1) := by decide +kernel
theorem dX3_hideAll_23 : decode cX3_hideAll 23 = .ok (.aload_n 1, 1) := by decide +kernel
theorem dX3_hideAll_24 : decode cX3_hideAll 24 = .ok (.invokevirtual 134, 3) := by decide +kernel
theorem dX3_hideAll_27 : decode cX3_hideAll 27 = .ok (.istore_n 3, 1) := by decide +kernel
theorem dX3_hideAll_28 : decode cX3_hideAll 28 = .ok (.iinc 2 1, 3) := by decide +kernel
theorem dX3_hideAll_31 : decode cX3_hideAll 31 = .ok (.goto (-19), 3) := by decide +kernel
theorem dX3_hideAll_34 : decode cX3_hideAll 34 = .ok (.iconst 0, 1) := by decide +kernel
theorem dX3_hideAll_35 : decode cX3_hideAll 35 = .ok (.istore 4, 2) := by decide +kernel
theorem dX3_hideAll_37 : decode cX3_hideAll 37 = .ok (.iload 4, 2) := by decide +kernel
theorem dX3_hideAll_39 : decode cX3_hideAll 39 = .ok (.aload_n 0, 1) := by decide +kernel
theorem dX3_hideAll_40 : decode cX3_hideAll 40 = .ok (.getfield 31, 3) := by decide +kernel
theorem dX3_hideAll_43 : decode cX3_hideAll 43 = .ok (.arraylength, 1) := by decide +kernel
theorem dX3_hideAll_44 : decode cX3_hideAll 44 = .ok (.if_icmp .ge 42, 3) := by decide +kernel
theorem dX3_hideAll_47 : decode cX3_hideAll 47 = .ok (.aload_n 0, 1) := by decide +kernel
theorem dX3_hideAll_48 : decode cX3_hideAll 48 = .ok (.getfield 31, 3) := by decide +kernel
theorem dX3_hideAll_51 : decode cX3_hideAll 51 = .ok (.iload 4, 2) := by decide +kernel
theorem dX3_hideAll_53 : decode cX3_hideAll 53 = .ok (.iload 4, 2) := by decide +kernel
theorem dX3_hideAll_55 : decode cX3_hideAll 55 = .ok (.aload_n 0, 1) := by decide +kernel
theorem dX3_hideAll_56 : decode cX3_hideAll 56 = .ok (.getfield 48, 3) := by decide +kernel
theorem dX3_hideAll_59 : decode cX3_hideAll 59 = .ok (.getfield 113, 3) := by decide +kernel
theorem dX3_hideAll_62 : decode cX3_hideAll 62 = .ok (.getfield 89, 3) := by decide +kernel
theorem dX3_hideAll_65 : decode cX3_hideAll 65 = .ok (.if_icmp .ge 13, 3) := by decide +kernel
theorem dX3_hideAll_78 : decode cX3_hideAll 78 = .ok (.iconst (-1), 1) := by decide +kernel
theorem dX3_hideAll_79 : decode cX3_hideAll 79 = .ok (.iastore, 1) := by decide +kernel
theorem dX3_hideAll_80 : decode cX3_hideAll 80 = .ok (.iinc 4 1, 3) := by decide +kernel
theorem dX3_hideAll_83 : decode cX3_hideAll 83 = .ok (.goto (-46), 3) := by decide +kernel
theorem dX3_hideAll_86 : decode cX3_hideAll 86 = .ok (.iload_n 2, 1) := by decide +kernel
theorem dX3_hideAll_87 : decode cX3_hideAll 87 = .ok (.ireturn, 1) := by decide +kernel
theorem dX3_hideRound_0 : decode cX3_hideRound 0 = .ok (.iconst 0, 1) := by decide +kernel
theorem dX3_hideRound_1 : decode cX3_hideRound 1 = .ok (.istore_n 2, 1) := by decide +kernel
theorem dX3_hideRound_2 : decode cX3_hideRound 2 = .ok (.iconst 0, 1) := by decide +kernel
theorem dX3_hideRound_3 : decode cX3_hideRound 3 = .ok (.istore_n 3, 1) := by decide +kernel
theorem dX3_hideRound_4 : decode cX3_hideRound 4 = .ok (.iload_n 3, 1) := by decide +kernel
theorem dX3_hideRound_5 : decode cX3_hideRound 5 = .ok (.aload_n 0, 1) := by decide +kernel
theorem dX3_hideRound_6 : decode cX3_hideRound 6 = .ok (.getfield 48, 3) := by decide +kernel
theorem dX3_hideRound_9 : decode cX3_hideRound 9 = .ok (.getfield 113, 3) := by decide +kernel
theorem dX3_hideRound_12 : decode cX3_hideRound 12 = .ok (.getfield 89, 3) := by decide +kernel
theorem dX3_hideRound_15 : decode cX3_hideRound 15 = .ok (.if_icmp .ge 47, 3) := by decide +kernel
theorem dX3_hideRound_62 : decode cX3_hideRound 62 = .ok (.iload_n 2, 1) := by decide +kernel
theorem dX3_hideRound_63 : decode cX3_hideRound 63 = .ok (.ireturn, 1) := by decide +kernel
theorem dJ6_bitCount_0f7a4_0 : decode cJ6_bitCount_0f7a4 0 = .ok (.iload_n 0, 1) := by decide +kernel
theorem dJ6_bitCount_0f7a4_1 : decode cJ6_bitCount_0f7a4 1 = .ok (.iload_n 0, 1) := by decide +kernel
theorem dJ6_bitCount_0f7a4_2 : decode cJ6_bitCount_0f7a4 2 = .ok (.iconst 1, 1) := by decide +kernel
theorem dJ6_bitCount_0f7a4_3 : decode cJ6_bitCount_0f7a4 3 = .ok (.iushr, 1) := by decide +kernel
theorem dJ6_bitCount_0f7a4_4 : decode cJ6_bitCount_0f7a4 4 = .ok (.ldc_w 265, 3) := by decide +kernel
theorem dJ6_bitCount_0f7a4_7 : decode cJ6_bitCount_0f7a4 7 = .ok (.iand, 1) := by decide +kernel
theorem dJ6_bitCount_0f7a4_8 : decode cJ6_bitCount_0f7a4 8 = .ok (.isub, 1) := by decide +kernel
theorem dJ6_bitCount_0f7a4_9 : decode cJ6_bitCount_0f7a4 9 = .ok (.istore_n 0, 1) := by decide +kernel
theorem dJ6_bitCount_0f7a4_10 : decode cJ6_bitCount_0f7a4 10 = .ok (.iload_n 0, 1) := by decide +kernel
theorem dJ6_bitCount_0f7a4_11 : decode cJ6_bitCount_0f7a4 11 = .ok (.ldc_w 266, 3) := by decide +kernel
theorem dJ6_bitCount_0f7a4_14 : decode cJ6_bitCount_0f7a4 14 = .ok (.iand, 1) := by decide +kernel
theorem dJ6_bitCount_0f7a4_15 : decode cJ6_bitCount_0f7a4 15 = .ok (.iload_n 0, 1) := by decide +kernel
theorem dJ6_bitCount_0f7a4_16 : decode cJ6_bitCount_0f7a4 16 = .ok (.iconst 2, 1) := by decide +kernel
theorem dJ6_bitCount_0f7a4_17 : decode cJ6_bitCount_0f7a4 17 = .ok (.iushr, 1) := by decide +kernel
theorem dJ6_bitCount_0f7a4_18 : decode cJ6_bitCount_0f7a4 18 = .ok (.ldc_w 266, 3) := by decide +kernel
theorem dJ6_bitCount_0f7a4_21 : decode cJ6_bitCount_0f7a4 21 = .ok (.iand, 1) := by decide +kernel
theorem dJ6_bitCount_0f7a4_22 : decode cJ6_bitCount_0f7a4 22 = .ok (.iadd, 1) := by decide +kernel
theorem dJ6_bitCount_0f7a4_23 : decode cJ6_bitCount_0f7a4 23 = .ok (.istore_n 0, 1) := by decide +kernel
theorem dJ6_bitCount_0f7a4_24 : decode cJ6_bitCount_0f7a4 24 = .ok (.iload_n 0, 1) := by decide +kernel
theorem dJ6_bitCount_0f7a4_25 : decode cJ6_bitCount_0f7a4 25 = .ok (.iload_n 0, 1) := by decide +kernel
theorem dJ6_bitCount_0f7a4_26 : decode cJ6_bitCount_0f7a4 26 = .ok (.iconst 4, 1) := by decide +kernel
theorem dJ6_bitCount_0f7a4_27 : decode cJ6_bitCount_0f7a4 27 = .ok (.iushr, 1) := by decide +kernel
theorem dJ6_bitCount_0f7a4_28 : decode cJ6_bitCount_0f7a4 28 = .ok (.iadd, 1) := by decide +kernel
theorem dJ6_bitCount_0f7a4_29 : decode cJ6_bitCount_0f7a4 29 = .ok (.ldc_w 267, 3) := by decide +kernel
theorem dJ6_bitCount_0f7a4_32 : decode cJ6_bitCount_0f7a4 32 = .ok (.iand, 1) := by decide +kernel
theorem dJ6_bitCount_0f7a4_33 : decode cJ6_bitCount_0f7a4 33 = .ok (.istore_n 0, 1) := by decide +kernel
theorem dJ6_bitCount_0f7a4_34 : decode cJ6_bitCount_0f7a4 34 = .ok (.iload_n 0, 1) := by decide +kernel
theorem dJ6_bitCount_0f7a4_35 : decode cJ6_bitCount_0f7a4 35 = .ok (.iload_n 0, 1) := by decide +kernel
theorem dJ6_bitCount_0f7a4_36 : decode cJ6_bitCount_0f7a4 36 = .ok (.bipush 8, 2) := by decide +kernel
theorem dJ6_bitCount_0f7a4_38 : decode cJ6_bitCount_0f7a4 38 = .ok (.iushr, 1) := by decide +kernel
theorem dJ6_bitCount_0f7a4_39 : decode cJ6_bitCount_0f7a4 39 = .ok (.iadd, 1) := by decide +kernel
theorem dJ6_bitCount_0f7a4_40 : decode cJ6_bitCount_0f7a4 40 = .ok (.istore_n 0, 1) := by decide +kernel
theorem dJ6_bitCount_0f7a4_41 : decode cJ6_bitCount_0f7a4 41 = .ok (.iload_n 0, 1) := by decide +kernel
theorem dJ6_bitCount_0f7a4_42 : decode cJ6_bitCount_0f7a4 42 = .ok (.iload_n 0, 1) := by decide +kernel
theorem dJ6_bitCount_0f7a4_43 : decode cJ6_bitCount_0f7a4 43 = .ok (.bipush 16, 2) := by decide +kernel
theorem dJ6_bitCount_0f7a4_45 : decode cJ6_bitCount_0f7a4 45 = .ok (.iushr, 1) := by decide +kernel
theorem dJ6_bitCount_0f7a4_46 : decode cJ6_bitCount_0f7a4 46 = .ok (.iadd, 1) := by decide +kernel
theorem dJ6_bitCount_0f7a4_47 : decode cJ6_bitCount_0f7a4 47 = .ok (.istore_n 0, 1) := by decide +kernel
theorem dJ6_bitCount_0f7a4_48 : decode cJ6_bitCount_0f7a4 48 = .ok (.iload_n 0, 1) := by decide +kernel
theorem dJ6_bitCount_0f7a4_49 : decode cJ6_bitCount_0f7a4 49 = .ok (.bipush 63, 2) := by decide +kernel
theorem dJ6_bitCount_0f7a4_51 : decode cJ6_bitCount_0f7a4 51 = .ok (.iand, 1) := by decide +kernel
theorem dJ6_bitCount_0f7a4_52 : decode cJ6_bitCount_0f7a4 52 = .ok (.ireturn, 1) := by decide +kernel
set_option maxRecDepth 20000 in
theorem ggX3_coverAll_X3_findNeeds : GoodIn wsX3_coverAll wsX3_findNeeds := goodIn_r _ [9, 1, 10, 3, 11, 12, 13, 14, 15, 16, 17, 18, 19, 20, 21, 22, 23, 24, 25, 26, 27, 28, 29, 30, 31, 32, 33, 34, 35, 36, 62, 63, 64, 65, 66, 67, 68, 69, 70, 71, 72, 73, 74, 75, 76, 77, 78, 79, 80, 81, 82, 83, 84, 85, 86, 87, 88, 89, 90, 91, 92, 93, 94] (by decide +kernel) (by decide +kernel)
set_option maxRecDepth 20000 in
theorem gX3_coverAll_X3_findNeeds : GoodIn wsX3_coverAll (wsV RX3 98 RX3 yX3_findNeeds wsX3_findNeeds) := goodIn_app (goodIn_of _ (by decide +kernel)) ggX3_coverAll_X3_findNeeds
set_option maxRecDepth 20000 in
theorem ggX3_coverAll_J6_bitCount_0f7a4 : GoodIn wsX3_coverAll wsJ6_bitCount_0f7a4 := goodIn_r _ [40, 41, 42, 43] (by decide +kernel) (by decide +kernel)
set_option maxRecDepth 20000 in
theorem gX3_coverAll_J6_bitCount_0f7a4 : GoodIn wsX3_coverAll (va_wsS RX3 104 yJ6_bitCount_0f7a4 wsJ6_bitCount_0f7a4) := goodIn_app (goodIn_of _ (by decide +kernel)) ggX3_coverAll_J6_bitCount_0f7a4
set_option maxRecDepth 20000 in
theorem ggX3_coverAll_X3_meetsNeeds : GoodIn wsX3_coverAll wsX3_meetsNeeds := goodIn_r _ [47, 1, 10, 3, 11, 48, 49, 50, 8, 51, 52, 53, 54, 55, 2, 13, 56, 57, 58, 22, 59, 60, 24, 61, 62, 63, 64, 65, 66, 67, 68, 69, 70, 71, 72, 73, 74, 75, 76, 77, 78, 79, 80, 81, 82, 83, 84, 85, 86, 87, 88, 89, 90, 91, 92, 93, 94] (by decide +kernel) (by decide +kernel)
set_option maxRecDepth 20000 in
theorem gX3_coverAll_X3_meetsNeeds : GoodIn wsX3_coverAll (wsV RX3 109 RX3 yX3_meetsNeeds wsX3_meetsNeeds) := goodIn_app (goodIn_of _ (by decide +kernel)) ggX3_coverAll_X3_meetsNeeds
set_option maxRecDepth 20000 in
theorem ggX3_hideAll_X4_copyFrom : GoodIn wsX3_hideAll wsX4_copyFrom := goodIn_r _ [11, 12, 13, 14, 15, 16, 17, 18, 19, 20, 21, 22, 105, 106, 107, 108, 109, 110, 111, 112] (by decide +kernel) (by decide +kernel)
set_option maxRecDepth 20000 in
theorem gX3_hideAll_X4_copyFrom : GoodIn wsX3_hideAll (wsV RX3 58 RX4 yX4_copyFrom wsX4_copyFrom) := goodIn_app (goodIn_of _ (by decide +kernel)) ggX3_hideAll_X4_copyFrom
set_option maxRecDepth 20000 in
theorem ggX3_hideAll_X3_hideRound : GoodIn wsX3_hideAll wsX3_hideRound := goodIn_r _ [27, 3, 4, 5, 28, 29, 30, 31, 32, 33, 34, 35, 36, 10, 37, 38, 39, 40, 21, 41, 42, 43, 44, 15, 45, 46, 47, 48, 49, 50, 51, 12, 52, 53, 54, 55, 56, 57, 58, 59, 14, 60, 61, 62, 63, 64, 65, 66, 67, 20, 68, 69, 70, 71, 22, 72, 73, 74, 75, 26, 76, 77, 6, 78, 79, 80, 81, 82, 83, 84, 85, 86, 87, 88, 89, 90, 91, 92, 93, 94, 95, 96, 97, 98, 99, 100, 101, 102, 103, 104, 105, 106, 107, 108, 109, 110, 111, 112] (by decide +kernel) (by decide +kernel)
set_option maxRecDepth 20000 in
theorem gX3_hideAll_X3_hideRound : GoodIn wsX3_hideAll (wsV RX3 134 RX3 yX3_hideRound wsX3_hideRound) := goodIn_app (goodIn_of _ (by decide +kernel)) ggX3_hideAll_X3_hideRound
set_option maxHeartbeats 8000000 in
set_option maxRecDepth 100000 in
theorem k_J6_bitCount_0f7a4 (l : Launch) (D : va_G) (ad : Nat → Nat)   : z_Mi l yJ6_bitCount_0f7a4 wsJ6_bitCount_0f7a4 { frames := 0, cells := 0, slots := 0, locals := 0 } D ad [.int 0] [] [] 0 0 (fun r9 u9 => r9 = 0 ∧ u9 = ([], [])) := by
  refine z_ofI (cc := cJ6_bitCount_0f7a4) (maxL := 1) (rt := .int) (by decide) rfl (Nat.le_of_ble_eq_true rfl) ?_
  intro p e s m below meth c Q A ls hx hb hml hown hts hin hK hP hD hA hE hO hS hl hret
  have hown : s.vm.findClass RJ6 = some m.cls := hown
  have hl : lv_has ls 1 [(0, .int 0)] := hl
  refine lv_iload_n hx hb dJ6_bitCount_0f7a4_0 rfl (lv_at hl 0 rfl) ?_
  refine lv_iload_n hx hb dJ6_bitCount_0f7a4_1 rfl (lv_at hl 0 rfl) ?_
  refine lv_iconst (v := 1) hx hb dJ6_bitCount_0f7a4_2 (by decide) ?_
  refine lv_iushr hx hb dJ6_bitCount_0f7a4_3 rfl ?_
  refine lv_topi (fun y_1 ey_1 => ?_)
  obtain rfl : y_1 = 0 := ey_1.trans (by decide)
  refine lv_ldcw (v := 1431655765) hx hb hown (hts _ (List.mem_of_getElem? (i := 1) rfl)) dJ6_bitCount_0f7a4_4 ?_
  refine lv_iand hx hb dJ6_bitCount_0f7a4_7 ?_
  refine lv_topi (fun y_2 ey_2 => ?_)
  obtain rfl : y_2 = 0 := ey_2.trans (by decide)
  refine lv_isub hx hb dJ6_bitCount_0f7a4_8 ?_
  refine lv_topi (fun y_3 ey_3 => ?_)
  obtain rfl : y_3 = 0 := ey_3.trans (by decide)
  refine lv_istore_n (lv' := [(0, .int 0)]) hx hb dJ6_bitCount_0f7a4_9 rfl hl (by decide) rfl (fun ls hl => ?_)
  refine lv_iload_n hx hb dJ6_bitCount_0f7a4_10 rfl (lv_at hl 0 rfl) ?_
  refine lv_ldcw (v := 858993459) hx hb hown (hts _ (List.mem_of_getElem? (i := 2) rfl)) dJ6_bitCount_0f7a4_11 ?_
  refine lv_iand hx hb dJ6_bitCount_0f7a4_14 ?_
  refine lv_topi (fun y_4 ey_4 => ?_)
  obtain rfl : y_4 = 0 := ey_4.trans (by decide)
  refine lv_iload_n hx hb dJ6_bitCount_0f7a4_15 rfl (lv_at hl 0 rfl) ?_
  refine lv_iconst (v := 2) hx hb dJ6_bitCount_0f7a4_16 (by decide) ?_
  refine lv_iushr hx hb dJ6_bitCount_0f7a4_17 rfl ?_
  refine lv_topi (fun y_5 ey_5 => ?_)
  obtain rfl : y_5 = 0 := ey_5.trans (by decide)
  refine lv_ldcw (v := 858993459) hx hb hown (hts _ (List.mem_of_getElem? (i := 2) rfl)) dJ6_bitCount_0f7a4_18 ?_
  refine lv_iand hx hb dJ6_bitCount_0f7a4_21 ?_
  refine lv_topi (fun y_6 ey_6 => ?_)
  obtain rfl : y_6 = 0 := ey_6.trans (by decide)
  refine lv_iadd hx hb dJ6_bitCount_0f7a4_22 ?_
  refine lv_topi (fun y_7 ey_7 => ?_)
  obtain rfl : y_7 = 0 := ey_7.trans (by decide)
  refine lv_istore_n (lv' := [(0, .int 0)]) hx hb dJ6_bitCount_0f7a4_23 rfl hl (by decide) rfl (fun ls hl => ?_)
  refine lv_iload_n hx hb dJ6_bitCount_0f7a4_24 rfl (lv_at hl 0 rfl) ?_
  refine lv_iload_n hx hb dJ6_bitCount_0f7a4_25 rfl (lv_at hl 0 rfl) ?_
  refine lv_iconst (v := 4) hx hb dJ6_bitCount_0f7a4_26 (by decide) ?_
  refine lv_iushr hx hb dJ6_bitCount_0f7a4_27 rfl ?_
  refine lv_topi (fun y_8 ey_8 => ?_)
  obtain rfl : y_8 = 0 := ey_8.trans (by decide)
  refine lv_iadd hx hb dJ6_bitCount_0f7a4_28 ?_
  refine lv_topi (fun y_9 ey_9 => ?_)
  obtain rfl : y_9 = 0 := ey_9.trans (by decide)
  refine lv_ldcw (v := 252645135) hx hb hown (hts _ (List.mem_of_getElem? (i := 3) rfl)) dJ6_bitCount_0f7a4_29 ?_
  refine lv_iand hx hb dJ6_bitCount_0f7a4_32 ?_
  refine lv_topi (fun y_10 ey_10 => ?_)
  obtain rfl : y_10 = 0 := ey_10.trans (by decide)
  refine lv_istore_n (lv' := [(0, .int 0)]) hx hb dJ6_bitCount_0f7a4_33 rfl hl (by decide) rfl (fun ls hl => ?_)
  refine lv_iload_n hx hb dJ6_bitCount_0f7a4_34 rfl (lv_at hl 0 rfl) ?_
  refine lv_iload_n hx hb dJ6_bitCount_0f7a4_35 rfl (lv_at hl 0 rfl) ?_
  refine lv_bipush (v := 8) hx hb dJ6_bitCount_0f7a4_36 (by decide) ?_
  refine lv_iushr hx hb dJ6_bitCount_0f7a4_38 rfl ?_
  refine lv_topi (fun y_11 ey_11 => ?_)
  obtain rfl : y_11 = 0 := ey_11.trans (by decide)
  refine lv_iadd hx hb dJ6_bitCount_0f7a4_39 ?_
  refine lv_topi (fun y_12 ey_12 => ?_)
  obtain rfl : y_12 = 0 := ey_12.trans (by decide)
  refine lv_istore_n (lv' := [(0, .int 0)]) hx hb dJ6_bitCount_0f7a4_40 rfl hl (by decide) rfl (fun ls hl => ?_)
  refine lv_iload_n hx hb dJ6_bitCount_0f7a4_41 rfl (lv_at hl 0 rfl) ?_
  refine lv_iload_n hx hb dJ6_bitCount_0f7a4_42 rfl (lv_at hl 0 rfl) ?_
  refine lv_bipush (v := 16) hx hb dJ6_bitCount_0f7a4_43 (by decide) ?_
  refine lv_iushr hx hb dJ6_bitCount_0f7a4_45 rfl ?_
  refine lv_topi (fun y_13 ey_13 => ?_)
  obtain rfl : y_13 = 0 := ey_13.trans (by decide)
  refine lv_iadd hx hb dJ6_bitCount_0f7a4_46 ?_
  refine lv_topi (fun y_14 ey_14 => ?_)
  obtain rfl : y_14 = 0 := ey_14.trans (by decide)
  refine lv_istore_n (lv' := [(0, .int 0)]) hx hb dJ6_bitCount_0f7a4_47 rfl hl (by decide) rfl (fun ls hl => ?_)
  refine lv_iload_n hx hb dJ6_bitCount_0f7a4_48 rfl (lv_at hl 0 rfl) ?_
  refine lv_bipush (v := 63) hx hb dJ6_bitCount_0f7a4_49 (by decide) ?_
  refine lv_iand hx hb dJ6_bitCount_0f7a4_51 ?_
  refine lv_topi (fun y_15 ey_15 => ?_)
  obtain rfl : y_15 = 0 := ey_15.trans (by decide)
  refine W.widen (k := 0) (n := 0) (by decide) (by decide) ?_
  exact hret 0 ([], []) _ _ _ _ dJ6_bitCount_0f7a4_52 rfl ⟨rfl, rfl⟩ (hP.sub [] rfl) (hK.sub [] rfl) (hD.sub [] (by decide +kernel) rfl) hS

set_option maxHeartbeats 8000000 in
set_option maxRecDepth 100000 in
theorem k_X3_findNeeds (l : Launch) (D : va_G) (ad : Nat → Nat) (a : Nat → Nat)  : z_Mi l yX3_findNeeds wsX3_findNeeds { frames := 0, cells := 0, slots := 0, locals := 0 } D ad [.ref (a 13)] [(a 7, .inr (8, [.ref (a 28), .ref (a 29), .ref (a 30), .int 0, .ref (a 31), .ref (a 32), .ref (a 33), .int 0, .ref (a 34), .ref (a 35), .ref (a 36), .int 2])), (a 13, .inr (3, [.ref (a 8), .ref (a 7), .ref (a 110), .ref (a 111), .ref (a 48), .int 0, .ref (a 112), .int (-1), .ref (a 49), .ref (a 113), .int (-1)])), (a 28, .inr (2, [.ref (a 77), .int 0]))] [] 0 0 (fun r9 u9 => r9 = 0 ∧ u9 = ([(a 7, .inr (8, [.ref (a 28), .ref (a 29), .ref (a 30), .int 0, .ref (a 31), .ref (a 32), .ref (a 33), .int 0, .ref (a 34), .ref (a 35), .ref (a 36), .int 2])), (a 13, .inr (3, [.ref (a 8), .ref (a 7), .ref (a 110), .ref (a 111), .ref (a 48), .int 0, .ref (a 112), .int (-1), .ref (a 49), .ref (a 113), .int (-1)])), (a 28, .inr (2, [.ref (a 77), .int 0]))], [])) := by
  refine z_ofI (cc := cX3_findNeeds) (maxL := 5) (rt := .int) (by decide) rfl (Nat.le_of_ble_eq_true rfl) ?_
  intro p e s m below meth c Q A ls hx hb hml hown hts hin hK hP hD hA hE hO hS hl hret
  have hown : s.vm.findClass RX3 = some m.cls := hown
  have hiX3 : ∀ w ∈ wsX30, w ∈ wsX3_findNeeds := fun _ h9 => List.mem_cons_of_mem _ (List.mem_append_left _ (List.mem_append_left _ (List.mem_append_left _ (List.mem_append_right _ h9))))
  have hiX8 : ∀ w ∈ wsX80, w ∈ wsX3_findNeeds := fun _ h9 => List.mem_cons_of_mem _ (List.mem_append_left _ (List.mem_append_left _ (List.mem_append_right _ h9)))
  have hiX2 : ∀ w ∈ wsX20, w ∈ wsX3_findNeeds := fun _ h9 => List.mem_cons_of_mem _ (List.mem_append_left _ (List.mem_append_right _ h9))
  have hiX4 : ∀ w ∈ wsX40, w ∈ wsX3_findNeeds := fun _ h9 => List.mem_cons_of_mem _ (List.mem_append_right _ h9)
  have hl : lv_has ls 5 [(0, .ref (a 13))] := hl
  refine lv_iconst (v := 0) hx hb dX3_findNeeds_0 (by decide) ?_
  refine lv_istore_n (lv' := [(1, .int 0), (0, .ref (a 13))]) hx hb dX3_findNeeds_1 rfl hl (by decide) rfl (fun ls hl => ?_)
  refine lv_iconst (v := 0) hx hb dX3_findNeeds_2 (by decide) ?_
  refine lv_istore_n (lv' := [(2, .int 0), (1, .int 0), (0, .ref (a 13))]) hx hb dX3_findNeeds_3 rfl hl (by decide) rfl (fun ls hl => ?_)
  refine lv_iload_n hx hb dX3_findNeeds_4 rfl (lv_at hl 0 rfl) ?_
  refine lv_aload_n hx hb dX3_findNeeds_5 rfl (lv_at hl 2 rfl) ?_
  refine va_get (D := D) (ci := 3) (v := .ref (a 7)) (C := RX3) (T := TX3) (N := 11) hx hb hts hiX3 hown hK hP 1 rfl rfl 1 (by decide) (hts _ (List.mem_of_getElem? (i := 1) rfl)) (fun _ h9 => h9) rfl dX3_findNeeds_6 ?_
  refine va_get (D := D) (ci := 8) (v := .ref (a 28)) (C := RX8) (T := TX8) (N := 12) hx hb hts hiX8 hown hK hP 0 rfl rfl 0 (by decide) (hts _ (List.mem_of_getElem? (i := 2) rfl)) (fun _ h9 => h9) rfl dX3_findNeeds_9 ?_
  refine va_get (D := D) (ci := 2) (v := .int 0) (C := RX2) (T := TX2) (N := 2) hx hb hts hiX2 hown hK hP 2 rfl rfl 1 (by decide) (hts _ (List.mem_of_getElem? (i := 3) rfl)) (fun _ h9 => h9) rfl dX3_findNeeds_12 ?_
  refine lv_icmp_ge (tgt := 118) hx hb dX3_findNeeds_15 (by decide) (fun _ => ?_) (fun h9 => absurd (by decide) h9)
  refine lv_iload_n hx hb dX3_findNeeds_118 rfl (lv_at hl 1 rfl) ?_
  refine W.widen (k := 0) (n := 0) (by decide) (by decide) ?_
  exact hret 0 ([(a 7, .inr (8, [.ref (a 28), .ref (a 29), .ref (a 30), .int 0, .ref (a 31), .ref (a 32), .ref (a 33), .int 0, .ref (a 34), .ref (a 35), .ref (a 36), .int 2])), (a 13, .inr (3, [.ref (a 8), .ref (a 7), .ref (a 110), .ref (a 111), .ref (a 48), .int 0, .ref (a 112), .int (-1), .ref (a 49), .ref (a 113), .int (-1)])), (a 28, .inr (2, [.ref (a 77), .int 0]))], []) _ _ _ _ dX3_findNeeds_119 rfl ⟨rfl, rfl⟩ (hP.sub [0, 1, 2] rfl) (hK.sub [] rfl) (hD.sub [0, 1, 2] (by decide +kernel) rfl) hS

set_option maxHeartbeats 8000000 in
set_option maxRecDepth 100000 in
theorem k_X3_meetsNeeds (l : Launch) (D : va_G) (ad : Nat → Nat) (a : Nat → Nat)  : z_Mi l yX3_meetsNeeds wsX3_meetsNeeds { frames := 0, cells := 0, slots := 0, locals := 0 } D ad [.ref (a 13), .int 0] [(a 7, .inr (8, [.ref (a 28), .ref (a 29), .ref (a 30), .int 0, .ref (a 31), .ref (a 32), .ref (a 33), .int 0, .ref (a 34), .ref (a 35), .ref (a 36), .int 2])), (a 13, .inr (3, [.ref (a 8), .ref (a 7), .ref (a 110), .ref (a 111), .ref (a 48), .int 0, .ref (a 112), .int (-1), .ref (a 49), .ref (a 113), .int (-1)])), (a 28, .inr (2, [.ref (a 77), .int 0]))] [] 0 0 (fun r9 u9 => r9 = 1 ∧ u9 = ([(a 7, .inr (8, [.ref (a 28), .ref (a 29), .ref (a 30), .int 0, .ref (a 31), .ref (a 32), .ref (a 33), .int 0, .ref (a 34), .ref (a 35), .ref (a 36), .int 2])), (a 13, .inr (3, [.ref (a 8), .ref (a 7), .ref (a 110), .ref (a 111), .ref (a 48), .int 0, .ref (a 112), .int (-1), .ref (a 49), .ref (a 113), .int (-1)])), (a 28, .inr (2, [.ref (a 77), .int 0]))], [])) := by
  refine z_ofI (cc := cX3_meetsNeeds) (maxL := 3) (rt := .boolean) (by decide) rfl (Nat.le_of_ble_eq_true rfl) ?_
  intro p e s m below meth c Q A ls hx hb hml hown hts hin hK hP hD hA hE hO hS hl hret
  have hown : s.vm.findClass RX3 = some m.cls := hown
  have hiX3 : ∀ w ∈ wsX30, w ∈ wsX3_meetsNeeds := fun _ h9 => List.mem_cons_of_mem _ (List.mem_append_left _ (List.mem_append_left _ (List.mem_append_left _ (List.mem_append_right _ h9))))
  have hiX8 : ∀ w ∈ wsX80, w ∈ wsX3_meetsNeeds := fun _ h9 => List.mem_cons_of_mem _ (List.mem_append_left _ (List.mem_append_left _ (List.mem_append_right _ h9)))
  have hiX2 : ∀ w ∈ wsX20, w ∈ wsX3_meetsNeeds := fun _ h9 => List.mem_cons_of_mem _ (List.mem_append_left _ (List.mem_append_right _ h9))
  have hiX4 : ∀ w ∈ wsX40, w ∈ wsX3_meetsNeeds := fun _ h9 => List.mem_cons_of_mem _ (List.mem_append_right _ h9)
  have hl : lv_has ls 3 [(0, .ref (a 13)), (1, .int 0)] := hl
  refine lv_iconst (v := 0) hx hb dX3_meetsNeeds_0 (by decide) ?_
  refine lv_istore_n (lv' := [(2, .int 0), (0, .ref (a 13)), (1, .int 0)]) hx hb dX3_meetsNeeds_1 rfl hl (by decide) rfl (fun ls hl => ?_)
  refine lv_iload_n hx hb dX3_meetsNeeds_2 rfl (lv_at hl 0 rfl) ?_
  refine lv_aload_n hx hb dX3_meetsNeeds_3 rfl (lv_at hl 1 rfl) ?_
  refine va_get (D := D) (ci := 3) (v := .ref (a 7)) (C := RX3) (T := TX3) (N := 11) hx hb hts hiX3 hown hK hP 1 rfl rfl 1 (by decide) (hts _ (List.mem_of_getElem? (i := 1) rfl)) (fun _ h9 => h9) rfl dX3_meetsNeeds_4 ?_
  refine va_get (D := D) (ci := 8) (v := .ref (a 28)) (C := RX8) (T := TX8) (N := 12) hx hb hts hiX8 hown hK hP 0 rfl rfl 0 (by decide) (hts _ (List.mem_of_getElem? (i := 2) rfl)) (fun _ h9 => h9) rfl dX3_meetsNeeds_7 ?_
  refine va_get (D := D) (ci := 2) (v := .int 0) (C := RX2) (T := TX2) (N := 2) hx hb hts hiX2 hown hK hP 2 rfl rfl 1 (by decide) (hts _ (List.mem_of_getElem? (i := 3) rfl)) (fun _ h9 => h9) rfl dX3_meetsNeeds_10 ?_
  refine lv_icmp_ge (tgt := 57) hx hb dX3_meetsNeeds_13 (by decide) (fun _ => ?_) (fun h9 => absurd (by decide) h9)
  refine lv_iconst (v := 1) hx hb dX3_meetsNeeds_57 (by decide) ?_
  refine W.widen (k := 0) (n := 0) (by decide) (by decide) ?_
  exact hret 1 ([(a 7, .inr (8, [.ref (a 28), .ref (a 29), .ref (a 30), .int 0, .ref (a 31), .ref (a 32), .ref (a 33), .int 0, .ref (a 34), .ref (a 35), .ref (a 36), .int 2])), (a 13, .inr (3, [.ref (a 8), .ref (a 7), .ref (a 110), .ref (a 111), .ref (a 48), .int 0, .ref (a 112), .int (-1), .ref (a 49), .ref (a 113), .int (-1)])), (a 28, .inr (2, [.ref (a 77), .int 0]))], []) _ _ _ _ dX3_meetsNeeds_58 (by decide) ⟨rfl, rfl⟩ (hP.sub [0, 1, 2] rfl) (hK.sub [] rfl) (hD.sub [0, 1, 2] (by decide +kernel) rfl) hS

set_option maxHeartbeats 8000000 in
set_option maxRecDepth 100000 in
theorem k_X3_coverAll (l : Launch) (D : va_G) (ad : Nat → Nat) (a : Nat → Nat)  : z_Mi l yX3_coverAll wsX3_coverAll { frames := 1, cells := 0, slots := 0, locals := 24 } D ad [.ref (a 13)] [(a 7, .inr (8, [.ref (a 28), .ref (a 29), .ref (a 30), .int 0, .ref (a 31), .ref (a 32), .ref (a 33), .int 0, .ref (a 34), .ref (a 35), .ref (a 36), .int 2])), (a 13, .inr (3, [.ref (a 8), .ref (a 7), .ref (a 110), .ref (a 111), .ref (a 48), .int 0, .ref (a 112), .int (-1), .ref (a 49), .ref (a 113), .int (-1)])), (a 28, .inr (2, [.ref (a 77), .int 0])), (a 30, .inr (2, [.ref (a 79), .int 0]))] [] 0 0 (fun r9 u9 => r9 = 0 ∧ u9 = ([(a 30, .inr (2, [.ref (a 79), .int 0])), (a 7, .inr (8, [.ref (a 28), .ref (a 29), .ref (a 30), .int 0, .ref (a 31), .ref (a 32), .ref (a 33), .int 0, .ref (a 34), .ref (a 35), .ref (a 36), .int 2])), (a 13, .inr (3, [.ref (a 8), .ref (a 7), .ref (a 110), .ref (a 111), .ref (a 48), .int 0, .ref (a 112), .int 0, .ref (a 49), .ref (a 113), .int (-1)])), (a 28, .inr (2, [.ref (a 77), .int 0]))], [])) := by
  refine z_ofI (cc := cX3_coverAll) (maxL := 3) (rt := .int) (by decide) rfl (Nat.le_of_ble_eq_true rfl) ?_
  intro p e s m below meth c Q A ls hx hb hml hown hts hin hK hP hD hA hE hO hS hl hret
  have hown : s.vm.findClass RX3 = some m.cls := hown
  have hiX3 : ∀ w ∈ wsX30, w ∈ wsX3_coverAll := fun _ h9 => List.mem_cons_of_mem _ (List.mem_append_left _ (List.mem_append_left _ (List.mem_append_left _ (List.mem_append_right _ h9))))
  have hiX8 : ∀ w ∈ wsX80, w ∈ wsX3_coverAll := fun _ h9 => List.mem_cons_of_mem _ (List.mem_append_left _ (List.mem_append_left _ (List.mem_append_right _ h9)))
  have hiX2 : ∀ w ∈ wsX20, w ∈ wsX3_coverAll := fun _ h9 => List.mem_cons_of_mem _ (List.mem_append_left _ (List.mem_append_right _ h9))
  have hiX4 : ∀ w ∈ wsX40, w ∈ wsX3_coverAll := fun _ h9 => List.mem_cons_of_mem _ (List.mem_append_right _ h9)
  have hl : lv_has ls 3 [(0, .ref (a 13))] := hl
  refine lv_aload_n hx hb dX3_coverAll_0 rfl (lv_at hl 0 rfl) ?_
  have hc9 := (k_X3_findNeeds l D ad a )
  refine z_calli (w0 := [(a 7, .inr (8, [.ref (a 28), .ref (a 29), .ref (a 30), .int 0, .ref (a 31), .ref (a 32), .ref (a 33), .int 0, .ref (a 34), .ref (a 35), .ref (a 36), .int 2])), (a 13, .inr (3, [.ref (a 8), .ref (a 7), .ref (a 110), .ref (a 111), .ref (a 48), .int 0, .ref (a 112), .int (-1), .ref (a 49), .ref (a 113), .int (-1)])), (a 28, .inr (2, [.ref (a 77), .int 0]))]) (wr := [(a 30, .inr (2, [.ref (a 79), .int 0]))]) (va_runV (As := []) (rest := []) ⟨hx, hb, hml, hown, hts⟩ (hc9 _) (cwV 0 hts gX3_coverAll_X3_findNeeds rfl rfl rfl (by decide +kernel) ⟨Nat.le_of_ble_eq_true rfl, Nat.le_of_ble_eq_true rfl⟩) (z_preV hP hD hK hS hA hE hO [0, 1, 2] [] rfl (by decide +kernel) rfl 1 3 rfl rfl rfl) rfl rfl hl.1 rfl (lv_room (Nat.le_of_ble_eq_true rfl)) dX3_coverAll_1 ⟨Nat.le_of_ble_eq_true rfl, Nat.le_of_ble_eq_true rfl⟩) hP hD hK hS hA [0, 1, 2] [3] rfl rfl (by decide +kernel) (by decide +kernel) (fun r9 u9 H locs hw hP hD hK hS => ?_)
  obtain ⟨er9, rfl⟩ := hw
  have hP : va_P D vwCl [(a 30, .inr (2, [.ref (a 79), .int 0])), (a 7, .inr (8, [.ref (a 28), .ref (a 29), .ref (a 30), .int 0, .ref (a 31), .ref (a 32), .ref (a 33), .int 0, .ref (a 34), .ref (a 35), .ref (a 36), .int 2])), (a 13, .inr (3, [.ref (a 8), .ref (a 7), .ref (a 110), .ref (a 111), .ref (a 48), .int 0, .ref (a 112), .int (-1), .ref (a 49), .ref (a 113), .int (-1)])), (a 28, .inr (2, [.ref (a 77), .int 0]))] H := hP
  have hD : va_D A [(a 30, .inr (2, [.ref (a 79), .int 0])), (a 7, .inr (8, [.ref (a 28), .ref (a 29), .ref (a 30), .int 0, .ref (a 31), .ref (a 32), .ref (a 33), .int 0, .ref (a 34), .ref (a 35), .ref (a 36), .int 2])), (a 13, .inr (3, [.ref (a 8), .ref (a 7), .ref (a 110), .ref (a 111), .ref (a 48), .int 0, .ref (a 112), .int (-1), .ref (a 49), .ref (a 113), .int (-1)])), (a 28, .inr (2, [.ref (a 77), .int 0]))] := hD
  have hK : va_K D vwCl [] s := hK
  refine W.cs (cells' := 0) (slots' := 0) rfl rfl ?_
  obtain rfl := er9
  refine W.eq (g2 := F0 m 4 ls (.int 0 :: [])) rfl ?_
  refine lv_istore_n (lv' := [(1, .int 0), (0, .ref (a 13))]) hx hb dX3_coverAll_4 rfl hl (by decide) rfl (fun ls hl => ?_)
  refine lv_iconst (v := 0) hx hb dX3_coverAll_5 (by decide) ?_
  refine lv_istore_n (lv' := [(2, .int 0), (1, .int 0), (0, .ref (a 13))]) hx hb dX3_coverAll_6 rfl hl (by decide) rfl (fun ls hl => ?_)
  refine lv_iload_n hx hb dX3_coverAll_7 rfl (lv_at hl 0 rfl) ?_
  refine lv_iconst (v := 1) hx hb dX3_coverAll_8 (by decide) ?_
  refine lv_aload_n hx hb dX3_coverAll_9 rfl (lv_at hl 2 rfl) ?_
  refine va_get (D := D) (ci := 3) (v := .ref (a 7)) (C := RX3) (T := TX3) (N := 11) hx hb hts hiX3 hown hK hP 2 rfl rfl 1 (by decide) (hts _ (List.mem_of_getElem? (i := 1) rfl)) (fun _ h9 => h9) rfl dX3_coverAll_10 ?_
  refine va_get (D := D) (ci := 8) (v := .ref (a 30)) (C := RX8) (T := TX8) (N := 12) hx hb hts hiX8 hown hK hP 1 rfl rfl 2 (by decide) (hts _ (List.mem_of_getElem? (i := 2) rfl)) (fun _ h9 => h9) rfl dX3_coverAll_13 ?_
  refine va_get (D := D) (ci := 2) (v := .int 0) (C := RX2) (T := TX2) (N := 2) hx hb hts hiX2 hown hK hP 0 rfl rfl 1 (by decide) (hts _ (List.mem_of_getElem? (i := 3) rfl)) (fun _ h9 => h9) rfl dX3_coverAll_16 ?_
  refine lv_ishl hx hb dX3_coverAll_19 ?_
  refine lv_topi (fun y_1 ey_1 => ?_)
  obtain rfl : y_1 = 1 := ey_1.trans (by decide)
  refine lv_icmp_ge (tgt := 52) hx hb dX3_coverAll_20 (by decide) (fun h9 => absurd h9 (by decide)) (fun _ => ?_)
  refine lv_iload_n hx hb dX3_coverAll_23 rfl (lv_at hl 0 rfl) ?_
  have hc9 := (k_J6_bitCount_0f7a4 l D ad  )
  refine z_calli (w0 := []) (wr := [(a 30, .inr (2, [.ref (a 79), .int 0])), (a 7, .inr (8, [.ref (a 28), .ref (a 29), .ref (a 30), .int 0, .ref (a 31), .ref (a 32), .ref (a 33), .int 0, .ref (a 34), .ref (a 35), .ref (a 36), .int 2])), (a 13, .inr (3, [.ref (a 8), .ref (a 7), .ref (a 110), .ref (a 111), .ref (a 48), .int 0, .ref (a 112), .int (-1), .ref (a 49), .ref (a 113), .int (-1)])), (a 28, .inr (2, [.ref (a 77), .int 0]))]) (va_runS (As := [.int 0]) (rest := []) ⟨hx, hb, hml, hown, hts⟩ (hc9 _) (va_cwS 1 hts gX3_coverAll_J6_bitCount_0f7a4 rfl rfl rfl (by decide +kernel) ⟨Nat.le_of_ble_eq_true rfl, Nat.le_of_ble_eq_true rfl⟩) (z_preS hP hD hK hS hA hE hO [] [] rfl (by decide +kernel) rfl) rfl rfl hl.1 rfl (lv_room (Nat.le_of_ble_eq_true rfl)) dX3_coverAll_24 ⟨Nat.le_of_ble_eq_true rfl, Nat.le_of_ble_eq_true rfl⟩) hP hD hK hS hA [] [0, 1, 2, 3] rfl rfl (by decide +kernel) (by decide +kernel) (fun r9 u9 H locs hw hP hD hK hS => ?_)
  obtain ⟨er9, rfl⟩ := hw
  have hP : va_P D vwCl [(a 30, .inr (2, [.ref (a 79), .int 0])), (a 7, .inr (8, [.ref (a 28), .ref (a 29), .ref (a 30), .int 0, .ref (a 31), .ref (a 32), .ref (a 33), .int 0, .ref (a 34), .ref (a 35), .ref (a 36), .int 2])), (a 13, .inr (3, [.ref (a 8), .ref (a 7), .ref (a 110), .ref (a 111), .ref (a 48), .int 0, .ref (a 112), .int (-1), .ref (a 49), .ref (a 113), .int (-1)])), (a 28, .inr (2, [.ref (a 77), .int 0]))] H := hP
  have hD : va_D A [(a 30, .inr (2, [.ref (a 79), .int 0])), (a 7, .inr (8, [.ref (a 28), .ref (a 29), .ref (a 30), .int 0, .ref (a 31), .ref (a 32), .ref (a 33), .int 0, .ref (a 34), .ref (a 35), .ref (a 36), .int 2])), (a 13, .inr (3, [.ref (a 8), .ref (a 7), .ref (a 110), .ref (a 111), .ref (a 48), .int 0, .ref (a 112), .int (-1), .ref (a 49), .ref (a 113), .int (-1)])), (a 28, .inr (2, [.ref (a 77), .int 0]))] := hD
  have hK : va_K D vwCl [] s := hK
  refine W.cs (cells' := 0) (slots' := 0) rfl rfl ?_
  obtain rfl := er9
  refine W.eq (g2 := F0 m 27 ls (.int 0 :: [])) rfl ?_
  refine lv_iload_n hx hb dX3_coverAll_27 rfl (lv_at hl 1 rfl) ?_
  refine lv_icmp_ne (tgt := 46) hx hb dX3_coverAll_28 (by decide) (fun h9 => absurd (by decide) h9) (fun _ => ?_)
  refine lv_aload_n hx hb dX3_coverAll_31 rfl (lv_at hl 2 rfl) ?_
  refine lv_iload_n hx hb dX3_coverAll_32 rfl (lv_at hl 0 rfl) ?_
  have hc9 := (k_X3_meetsNeeds l D ad a )
  refine z_calli (w0 := [(a 7, .inr (8, [.ref (a 28), .ref (a 29), .ref (a 30), .int 0, .ref (a 31), .ref (a 32), .ref (a 33), .int 0, .ref (a 34), .ref (a 35), .ref (a 36), .int 2])), (a 13, .inr (3, [.ref (a 8), .ref (a 7), .ref (a 110), .ref (a 111), .ref (a 48), .int 0, .ref (a 112), .int (-1), .ref (a 49), .ref (a 113), .int (-1)])), (a 28, .inr (2, [.ref (a 77), .int 0]))]) (wr := [(a 30, .inr (2, [.ref (a 79), .int 0]))]) (va_runV (As := [.int 0]) (rest := []) ⟨hx, hb, hml, hown, hts⟩ (hc9 _) (cwV 1 hts gX3_coverAll_X3_meetsNeeds rfl rfl rfl (by decide +kernel) ⟨Nat.le_of_ble_eq_true rfl, Nat.le_of_ble_eq_true rfl⟩) (z_preV hP hD hK hS hA hE hO [1, 2, 3] [] rfl (by decide +kernel) rfl 2 3 rfl rfl rfl) rfl rfl hl.1 rfl (lv_room (Nat.le_of_ble_eq_true rfl)) dX3_coverAll_33 ⟨Nat.le_of_ble_eq_true rfl, Nat.le_of_ble_eq_true rfl⟩) hP hD hK hS hA [1, 2, 3] [0] rfl rfl (by decide +kernel) (by decide +kernel) (fun r9 u9 H locs hw hP hD hK hS => ?_)
  obtain ⟨er9, rfl⟩ := hw
  have hP : va_P D vwCl [(a 30, .inr (2, [.ref (a 79), .int 0])), (a 7, .inr (8, [.ref (a 28), .ref (a 29), .ref (a 30), .int 0, .ref (a 31), .ref (a 32), .ref (a 33), .int 0, .ref (a 34), .ref (a 35), .ref (a 36), .int 2])), (a 13, .inr (3, [.ref (a 8), .ref (a 7), .ref (a 110), .ref (a 111), .ref (a 48), .int 0, .ref (a 112), .int (-1), .ref (a 49), .ref (a 113), .int (-1)])), (a 28, .inr (2, [.ref (a 77), .int 0]))] H := hP
  have hD : va_D A [(a 30, .inr (2, [.ref (a 79), .int 0])), (a 7, .inr (8, [.ref (a 28), .ref (a 29), .ref (a 30), .int 0, .ref (a 31), .ref (a 32), .ref (a 33), .int 0, .ref (a 34), .ref (a 35), .ref (a 36), .int 2])), (a 13, .inr (3, [.ref (a 8), .ref (a 7), .ref (a 110), .ref (a 111), .ref (a 48), .int 0, .ref (a 112), .int (-1), .ref (a 49), .ref (a 113), .int (-1)])), (a 28, .inr (2, [.ref (a 77), .int 0]))] := hD
  have hK : va_K D vwCl [] s := hK
  refine W.cs (cells' := 0) (slots' := 0) rfl rfl ?_
  obtain rfl := er9
  refine W.eq (g2 := F0 m 36 ls (.int 1 :: [])) rfl ?_
  refine lv_if_eq (tgt := 46) hx hb dX3_coverAll_36 (by decide) (fun h9 => absurd h9 (by decide)) (fun _ => ?_)
  refine lv_aload_n hx hb dX3_coverAll_39 rfl (lv_at hl 2 rfl) ?_
  refine lv_iload_n hx hb dX3_coverAll_40 rfl (lv_at hl 0 rfl) ?_
  refine va_put (D := D) (ci := 3) (v := .int 0) (ty := tyX3 7) (C := RX3) (T := TX3) (N := 11) hx hb hts hiX3 tyX3 tyX3_ok nmX3 hown hK hP hD hS 2 rfl rfl 7 (by decide) (hts _ (List.mem_of_getElem? (i := 4) rfl)) (fun _ h9 => h9) rfl (tyX3_ok 7 (by decide)) rfl rfl (Nat.le_of_ble_eq_true rfl) dX3_coverAll_41 (fun H locs hP hD hS => ?_)
  have hP : va_P D vwCl [(a 30, .inr (2, [.ref (a 79), .int 0])), (a 7, .inr (8, [.ref (a 28), .ref (a 29), .ref (a 30), .int 0, .ref (a 31), .ref (a 32), .ref (a 33), .int 0, .ref (a 34), .ref (a 35), .ref (a 36), .int 2])), (a 13, .inr (3, [.ref (a 8), .ref (a 7), .ref (a 110), .ref (a 111), .ref (a 48), .int 0, .ref (a 112), .int 0, .ref (a 49), .ref (a 113), .int (-1)])), (a 28, .inr (2, [.ref (a 77), .int 0]))] H := hP
  have hD : va_D A [(a 30, .inr (2, [.ref (a 79), .int 0])), (a 7, .inr (8, [.ref (a 28), .ref (a 29), .ref (a 30), .int 0, .ref (a 31), .ref (a 32), .ref (a 33), .int 0, .ref (a 34), .ref (a 35), .ref (a 36), .int 2])), (a 13, .inr (3, [.ref (a 8), .ref (a 7), .ref (a 110), .ref (a 111), .ref (a 48), .int 0, .ref (a 112), .int 0, .ref (a 49), .ref (a 113), .int (-1)])), (a 28, .inr (2, [.ref (a 77), .int 0]))] := hD
  refine lv_iload_n hx hb dX3_coverAll_44 rfl (lv_at hl 1 rfl) ?_
  refine W.widen (k := 0) (n := 0) (by decide) (by decide) ?_
  exact hret 0 ([(a 30, .inr (2, [.ref (a 79), .int 0])), (a 7, .inr (8, [.ref (a 28), .ref (a 29), .ref (a 30), .int 0, .ref (a 31), .ref (a 32), .ref (a 33), .int 0, .ref (a 34), .ref (a 35), .ref (a 36), .int 2])), (a 13, .inr (3, [.ref (a 8), .ref (a 7), .ref (a 110), .ref (a 111), .ref (a 48), .int 0, .ref (a 112), .int 0, .ref (a 49), .ref (a 113), .int (-1)])), (a 28, .inr (2, [.ref (a 77), .int 0]))], []) _ _ _ _ dX3_coverAll_45 rfl ⟨rfl, rfl⟩ (hP.sub [0, 1, 2, 3] rfl) (hK.sub [] rfl) (hD.sub [0, 1, 2, 3] (by decide +kernel) rfl) hS

set_option maxHeartbeats 8000000 in
set_option maxRecDepth 100000 in
theorem k_X3_hideRound (l : Launch) (D : va_G) (ad : Nat → Nat) (a : Nat → Nat)  : z_Mi l yX3_hideRound wsX3_hideRound { frames := 0, cells := 0, slots := 0, locals := 0 } D ad [.ref (a 13), .ref (a 11)] [(a 7, .inr (8, [.ref (a 28), .ref (a 29), .ref (a 30), .int 0, .ref (a 31), .ref (a 32), .ref (a 33), .int 0, .ref (a 34), .ref (a 35), .ref (a 36), .int 2])), (a 13, .inr (3, [.ref (a 8), .ref (a 7), .ref (a 110), .ref (a 111), .ref (a 48), .int 0, .ref (a 112), .int (-1), .ref (a 49), .ref (a 113), .int (-1)])), (a 29, .inr (2, [.ref (a 78), .int 0]))] [] 0 0 (fun r9 u9 => r9 = 0 ∧ u9 = ([(a 7, .inr (8, [.ref (a 28), .ref (a 29), .ref (a 30), .int 0, .ref (a 31), .ref (a 32), .ref (a 33), .int 0, .ref (a 34), .ref (a 35), .ref (a 36), .int 2])), (a 13, .inr (3, [.ref (a 8), .ref (a 7), .ref (a 110), .ref (a 111), .ref (a 48), .int 0, .ref (a 112), .int (-1), .ref (a 49), .ref (a 113), .int (-1)])), (a 29, .inr (2, [.ref (a 78), .int 0]))], [])) := by
  refine z_ofI (cc := cX3_hideRound) (maxL := 4) (rt := .boolean) (by decide) rfl (Nat.le_of_ble_eq_true rfl) ?_
  intro p e s m below meth c Q A ls hx hb hml hown hts hin hK hP hD hA hE hO hS hl hret
  have hown : s.vm.findClass RX3 = some m.cls := hown
  have hiX3 : ∀ w ∈ wsX30, w ∈ wsX3_hideRound := fun _ h9 => List.mem_cons_of_mem _ (List.mem_append_left _ (List.mem_append_left _ (List.mem_append_left _ (List.mem_append_right _ h9))))
  have hiX8 : ∀ w ∈ wsX80, w ∈ wsX3_hideRound := fun _ h9 => List.mem_cons_of_mem _ (List.mem_append_left _ (List.mem_append_left _ (List.mem_append_right _ h9)))
  have hiX2 : ∀ w ∈ wsX20, w ∈ wsX3_hideRound := fun _ h9 => List.mem_cons_of_mem _ (List.mem_append_left _ (List.mem_append_right _ h9))
  have hiX4 : ∀ w ∈ wsX40, w ∈ wsX3_hideRound := fun _ h9 => List.mem_cons_of_mem _ (List.mem_append_right _ h9)
  have hl : lv_has ls 4 [(0, .ref (a 13)), (1, .ref (a 11))] := hl
  refine lv_iconst (v := 0) hx hb dX3_hideRound_0 (by decide) ?_
  refine lv_istore_n (lv' := [(2, .int 0), (0, .ref (a 13)), (1, .ref (a 11))]) hx hb dX3_hideRound_1 rfl hl (by decide) rfl (fun ls hl => ?_)
  refine lv_iconst (v := 0) hx hb dX3_hideRound_2 (by decide) ?_
  refine lv_istore_n (lv' := [(3, .int 0), (2, .int 0), (0, .ref (a 13)), (1, .ref (a 11))]) hx hb dX3_hideRound_3 rfl hl (by decide) rfl (fun ls hl => ?_)
  refine lv_iload_n hx hb dX3_hideRound_4 rfl (lv_at hl 0 rfl) ?_
  refine lv_aload_n hx hb dX3_hideRound_5 rfl (lv_at hl 2 rfl) ?_
  refine va_get (D := D) (ci := 3) (v := .ref (a 7)) (C := RX3) (T := TX3) (N := 11) hx hb hts hiX3 hown hK hP 1 rfl rfl 1 (by decide) (hts _ (List.mem_of_getElem? (i := 1) rfl)) (fun _ h9 => h9) rfl dX3_hideRound_6 ?_
  refine va_get (D := D) (ci := 8) (v := .ref (a 29)) (C := RX8) (T := TX8) (N := 12) hx hb hts hiX8 hown hK hP 0 rfl rfl 1 (by decide) (hts _ (List.mem_of_getElem? (i := 2) rfl)) (fun _ h9 => h9) rfl dX3_hideRound_9 ?_
  refine va_get (D := D) (ci := 2) (v := .int 0) (C := RX2) (T := TX2) (N := 2) hx hb hts hiX2 hown hK hP 2 rfl rfl 1 (by decide) (hts _ (List.mem_of_getElem? (i := 3) rfl)) (fun _ h9 => h9) rfl dX3_hideRound_12 ?_
  refine lv_icmp_ge (tgt := 62) hx hb dX3_hideRound_15 (by decide) (fun _ => ?_) (fun h9 => absurd (by decide) h9)
  refine lv_iload_n hx hb dX3_hideRound_62 rfl (lv_at hl 1 rfl) ?_
  refine W.widen (k := 0) (n := 0) (by decide) (by decide) ?_
  exact hret 0 ([(a 7, .inr (8, [.ref (a 28), .ref (a 29), .ref (a 30), .int 0, .ref (a 31), .ref (a 32), .ref (a 33), .int 0, .ref (a 34), .ref (a 35), .ref (a 36), .int 2])), (a 13, .inr (3, [.ref (a 8), .ref (a 7), .ref (a 110), .ref (a 111), .ref (a 48), .int 0, .ref (a 112), .int (-1), .ref (a 49), .ref (a 113), .int (-1)])), (a 29, .inr (2, [.ref (a 78), .int 0]))], []) _ _ _ _ dX3_hideRound_63 (by decide) ⟨rfl, rfl⟩ (hP.sub [0, 1, 2] rfl) (hK.sub [] rfl) (hD.sub [0, 1, 2] (by decide +kernel) rfl) hS

set_option maxHeartbeats 8000000 in
set_option maxRecDepth 100000 in
theorem k_X3_hideAll (l : Launch) (D : va_G) (ad : Nat → Nat) (a : Nat → Nat) (t : Nat → ClassId)  : z_Mi l yX3_hideAll wsX3_hideAll { frames := 2, cells := 0, slots := 0, locals := 101 } D ad [.ref (a 13), .ref (a 11)] [(a 7, .inr (8, [.ref (a 28), .ref (a 29), .ref (a 30), .int 0, .ref (a 31), .ref (a 32), .ref (a 33), .int 0, .ref (a 34), .ref (a 35), .ref (a 36), .int 2])), (a 8, .inr (4, [.ref (a 7), .int 0, .int 0, .int 0, .ref (a 37), .ref (a 38), .ref (a 39), .ref (a 40)])), (a 11, .inr (4, [.ref (a 7), .int 0, .int 0, .int 0, .ref (a 44), .ref (a 45), .ref (a 46), .ref (a 47)])), (a 13, .inr (3, [.ref (a 8), .ref (a 7), .ref (a 110), .ref (a 111), .ref (a 48), .int 0, .ref (a 112), .int (-1), .ref (a 49), .ref (a 113), .int (-1)])), (a 29, .inr (2, [.ref (a 78), .int 0])), (a 37, .inl (t 13, 7, .inl (fun _ => 0))), (a 38, .inl (t 14, 6, .inl (fun _ => 0))), (a 39, .inl (t 15, 6, .inl (fun _ => 0))), (a 40, .inl (t 16, 6, .inl (fun _ => 0))), (a 44, .inl (t 17, 7, .inl (fun _ => 0))), (a 45, .inl (t 18, 6, .inl (fun _ => 0))), (a 46, .inl (t 19, 6, .inl (fun _ => 0))), (a 47, .inl (t 20, 6, .inl (fun _ => 0))), (a 49, .inl (t 22, 7, .inl (upd (upd (upd (upd (upd (upd (upd (fun _ => 0) 0 (-1)) 1 (-1)) 2 (-1)) 3 (-1)) 4 (-1)) 5 (-1)) 6 (-1))))] [(t 13, .int), (t 14, .int), (t 15, .int), (t 16, .int), (t 17, .int), (t 18, .int), (t 19, .int), (t 20, .int), (t 22, .int)] 0 0 (fun r9 u9 => r9 = 1 ∧ u9 = ([(a 49, .inl (t 22, 7, .inl (upd (upd (upd (upd (upd (upd (upd (upd (upd (upd (upd (upd (upd (upd (fun _ => 0) 0 (-1)) 1 (-1)) 2 (-1)) 3 (-1)) 4 (-1)) 5 (-1)) 6 (-1)) 0 (-1)) 1 (-1)) 2 (-1)) 3 (-1)) 4 (-1)) 5 (-1)) 6 (-1)))), (a 11, .inr (4, [.ref (a 7), .int 0, .int 0, .int 0, .ref (a 44), .ref (a 45), .ref (a 46), .ref (a 47)])), (a 44, .inl (t 17, 7, .inl (fun _ => 0))), (a 45, .inl (t 18, 6, .inl (fun _ => 0))), (a 46, .inl (t 19, 6, .inl (fun _ => 0))), (a 47, .inl (t 20, 6, .inl (fun _ => 0))), (a 8, .inr (4, [.ref (a 7), .int 0, .int 0, .int 0, .ref (a 37), .ref (a 38), .ref (a 39), .ref (a 40)])), (a 37, .inl (t 13, 7, .inl (fun _ => 0))), (a 38, .inl (t 14, 6, .inl (fun _ => 0))), (a 39, .inl (t 15, 6, .inl (fun _ => 0))), (a 40, .inl (t 16, 6, .inl (fun _ => 0))), (a 7, .inr (8, [.ref (a 28), .ref (a 29), .ref (a 30), .int 0, .ref (a 31), .ref (a 32), .ref (a 33), .int 0, .ref (a 34), .ref (a 35), .ref (a 36), .int 2])), (a 13, .inr (3, [.ref (a 8), .ref (a 7), .ref (a 110), .ref (a 111), .ref (a 48), .int 0, .ref (a 112), .int (-1), .ref (a 49), .ref (a 113), .int (-1)])), (a 29, .inr (2, [.ref (a 78), .int 0]))], [])) := by
  refine z_ofI (cc := cX3_hideAll) (maxL := 5) (rt := .int) (by decide) rfl (Nat.le_of_ble_eq_true rfl) ?_
  intro p e s m below meth c Q A ls hx hb hml hown hts hin hK hP hD hA hE hO hS hl hret
  have hown : s.vm.findClass RX3 = some m.cls := hown
  have hiX3 : ∀ w ∈ wsX30, w ∈ wsX3_hideAll := fun _ h9 => List.mem_cons_of_mem _ (List.mem_append_left _ (List.mem_append_left _ (List.mem_append_left _ (List.mem_append_right _ h9))))
  have hiX8 : ∀ w ∈ wsX80, w ∈ wsX3_hideAll := fun _ h9 => List.mem_cons_of_mem _ (List.mem_append_left _ (List.mem_append_left _ (List.mem_append_right _ h9)))
  have hiX2 : ∀ w ∈ wsX20, w ∈ wsX3_hideAll := fun _ h9 => List.mem_cons_of_mem _ (List.mem_append_left _ (List.mem_append_right _ h9))
  have hiX4 : ∀ w ∈ wsX40, w ∈ wsX3_hideAll := fun _ h9 => List.mem_cons_of_mem _ (List.mem_append_right _ h9)
  have hl : lv_has ls 5 [(0, .ref (a 13)), (1, .ref (a 11))] := hl
  refine lv_aload_n hx hb dX3_hideAll_0 rfl (lv_at hl 1 rfl) ?_
  refine lv_aload_n hx hb dX3_hideAll_1 rfl (lv_at hl 0 rfl) ?_
  refine va_get (D := D) (ci := 3) (v := .ref (a 8)) (C := RX3) (T := TX3) (N := 11) hx hb hts hiX3 hown hK hP 3 rfl rfl 0 (by decide) (hts _ (List.mem_of_getElem? (i := 1) rfl)) (fun _ h9 => h9) rfl dX3_hideAll_2 ?_
  have hc9 := (k_X4_copyFrom l D ad (t 17) (t 18) (t 19) (t 20) (a 11) (a 44) (a 45) (a 46) (a 47) (a 7) (t 13) (t 14) (t 15) (t 16) (a 8) (a 37) (a 38) (a 39) (a 40) (a 7) )
  refine z_callv (w0 := [(a 11, .inr (4, [.ref (a 7), .int 0, .int 0, .int 0, .ref (a 44), .ref (a 45), .ref (a 46), .ref (a 47)])), (a 44, .inl (t 17, 7, .inl (fun _ => 0))), (a 45, .inl (t 18, 6, .inl (fun _ => 0))), (a 46, .inl (t 19, 6, .inl (fun _ => 0))), (a 47, .inl (t 20, 6, .inl (fun _ => 0))), (a 8, .inr (4, [.ref (a 7), .int 0, .int 0, .int 0, .ref (a 37), .ref (a 38), .ref (a 39), .ref (a 40)])), (a 37, .inl (t 13, 7, .inl (fun _ => 0))), (a 38, .inl (t 14, 6, .inl (fun _ => 0))), (a 39, .inl (t 15, 6, .inl (fun _ => 0))), (a 40, .inl (t 16, 6, .inl (fun _ => 0)))]) (wr := [(a 7, .inr (8, [.ref (a 28), .ref (a 29), .ref (a 30), .int 0, .ref (a 31), .ref (a 32), .ref (a 33), .int 0, .ref (a 34), .ref (a 35), .ref (a 36), .int 2])), (a 13, .inr (3, [.ref (a 8), .ref (a 7), .ref (a 110), .ref (a 111), .ref (a 48), .int 0, .ref (a 112), .int (-1), .ref (a 49), .ref (a 113), .int (-1)])), (a 29, .inr (2, [.ref (a 78), .int 0])), (a 49, .inl (t 22, 7, .inl (upd (upd (upd (upd (upd (upd (upd (fun _ => 0) 0 (-1)) 1 (-1)) 2 (-1)) 3 (-1)) 4 (-1)) 5 (-1)) 6 (-1))))]) (va_runV (As := [.ref (a 8)]) (rest := []) ⟨hx, hb, hml, hown, hts⟩ (hc9 _) (cwV 1 hts gX3_hideAll_X4_copyFrom rfl rfl rfl (by decide +kernel) ⟨Nat.le_of_ble_eq_true rfl, Nat.le_of_ble_eq_true rfl⟩) (z_preV hP hD hK hS hA hE hO [2, 9, 10, 11, 12, 1, 5, 6, 7, 8] [4, 5, 6, 7, 0, 1, 2, 3] rfl (by decide +kernel) rfl 2 4 rfl rfl rfl) rfl rfl hl.1 rfl (lv_room (Nat.le_of_ble_eq_true rfl)) dX3_hideAll_5 ⟨Nat.le_of_ble_eq_true rfl, Nat.le_of_ble_eq_true rfl⟩) hP hD hK hS hA [2, 9, 10, 11, 12, 1, 5, 6, 7, 8] [0, 3, 4, 13] rfl rfl (by decide +kernel) (by decide +kernel) (fun u9 H locs hw hP hD hK hS => ?_)
  obtain ⟨rfl⟩ := hw
  have hP : va_P D vwCl [(a 7, .inr (8, [.ref (a 28), .ref (a 29), .ref (a 30), .int 0, .ref (a 31), .ref (a 32), .ref (a 33), .int 0, .ref (a 34), .ref (a 35), .ref (a 36), .int 2])), (a 13, .inr (3, [.ref (a 8), .ref (a 7), .ref (a 110), .ref (a 111), .ref (a 48), .int 0, .ref (a 112), .int (-1), .ref (a 49), .ref (a 113), .int (-1)])), (a 29, .inr (2, [.ref (a 78), .int 0])), (a 49, .inl (t 22, 7, .inl (upd (upd (upd (upd (upd (upd (upd (fun _ => 0) 0 (-1)) 1 (-1)) 2 (-1)) 3 (-1)) 4 (-1)) 5 (-1)) 6 (-1)))), (a 11, .inr (4, [.ref (a 7), .int 0, .int 0, .int 0, .ref (a 44), .ref (a 45), .ref (a 46), .ref (a 47)])), (a 44, .inl (t 17, 7, .inl (fun _ => 0))), (a 45, .inl (t 18, 6, .inl (fun _ => 0))), (a 46, .inl (t 19, 6, .inl (fun _ => 0))), (a 47, .inl (t 20, 6, .inl (fun _ => 0))), (a 8, .inr (4, [.ref (a 7), .int 0, .int 0, .int 0, .ref (a 37), .ref (a 38), .ref (a 39), .ref (a 40)])), (a 37, .inl (t 13, 7, .inl (fun _ => 0))), (a 38, .inl (t 14, 6, .inl (fun _ => 0))), (a 39, .inl (t 15, 6, .inl (fun _ => 0))), (a 40, .inl (t 16, 6, .inl (fun _ => 0)))] H := hP
  have hD : va_D A [(a 7, .inr (8, [.ref (a 28), .ref (a 29), .ref (a 30), .int 0, .ref (a 31), .ref (a 32), .ref (a 33), .int 0, .ref (a 34), .ref (a 35), .ref (a 36), .int 2])), (a 13, .inr (3, [.ref (a 8), .ref (a 7), .ref (a 110), .ref (a 111), .ref (a 48), .int 0, .ref (a 112), .int (-1), .ref (a 49), .ref (a 113), .int (-1)])), (a 29, .inr (2, [.ref (a 78), .int 0])), (a 49, .inl (t 22, 7, .inl (upd (upd (upd (upd (upd (upd (upd (fun _ => 0) 0 (-1)) 1 (-1)) 2 (-1)) 3 (-1)) 4 (-1)) 5 (-1)) 6 (-1)))), (a 11, .inr (4, [.ref (a 7), .int 0, .int 0, .int 0, .ref (a 44), .ref (a 45), .ref (a 46), .ref (a 47)])), (a 44, .inl (t 17, 7, .inl (fun _ => 0))), (a 45, .inl (t 18, 6, .inl (fun _ => 0))), (a 46, .inl (t 19, 6, .inl (fun _ => 0))), (a 47, .inl (t 20, 6, .inl (fun _ => 0))), (a 8, .inr (4, [.ref (a 7), .int 0, .int 0, .int 0, .ref (a 37), .ref (a 38), .ref (a 39), .ref (a 40)])), (a 37, .inl (t 13, 7, .inl (fun _ => 0))), (a 38, .inl (t 14, 6, .inl (fun _ => 0))), (a 39, .inl (t 15, 6, .inl (fun _ => 0))), (a 40, .inl (t 16, 6, .inl (fun _ => 0)))] := hD
  have hK : va_K D vwCl [(t 13, .int), (t 14, .int), (t 15, .int), (t 16, .int), (t 17, .int), (t 18, .int), (t 19, .int), (t 20, .int), (t 22, .int)] s := hK
  refine W.cs (cells' := 0) (slots' := 0) rfl rfl ?_
  refine lv_iconst (v := 0) hx hb dX3_hideAll_8 (by decide) ?_
  refine lv_istore_n (lv' := [(2, .int 0), (0, .ref (a 13)), (1, .ref (a 11))]) hx hb dX3_hideAll_9 rfl hl (by decide) rfl (fun ls hl => ?_)
  refine lv_iconst (v := 1) hx hb dX3_hideAll_10 (by decide) ?_
  refine lv_istore_n (lv' := [(3, .int 1), (2, .int 0), (0, .ref (a 13)), (1, .ref (a 11))]) hx hb dX3_hideAll_11 rfl hl (by decide) rfl (fun ls hl => ?_)
  refine lv_iload_n hx hb dX3_hideAll_12 rfl (lv_at hl 0 rfl) ?_
  refine lv_if_eq (tgt := 34) hx hb dX3_hideAll_13 (by decide) (fun h9 => absurd h9 (by decide)) (fun _ => ?_)
  refine lv_iload_n hx hb dX3_hideAll_16 rfl (lv_at hl 1 rfl) ?_
  refine lv_bipush (v := 10) hx hb dX3_hideAll_17 (by decide) ?_
  refine lv_icmp_ge (tgt := 34) hx hb dX3_hideAll_19 (by decide) (fun h9 => absurd h9 (by decide)) (fun _ => ?_)
  refine lv_aload_n hx hb dX3_hideAll_22 rfl (lv_at hl 2 rfl) ?_
  refine lv_aload_n hx hb dX3_hideAll_23 rfl (lv_at hl 3 rfl) ?_
  have hc9 := (k_X3_hideRound l D ad a )
  refine z_calli (w0 := [(a 7, .inr (8, [.ref (a 28), .ref (a 29), .ref (a 30), .int 0, .ref (a 31), .ref (a 32), .ref (a 33), .int 0, .ref (a 34), .ref (a 35), .ref (a 36), .int 2])), (a 13, .inr (3, [.ref (a 8), .ref (a 7), .ref (a 110), .ref (a 111), .ref (a 48), .int 0, .ref (a 112), .int (-1), .ref (a 49), .ref (a 113), .int (-1)])), (a 29, .inr (2, [.ref (a 78), .int 0]))]) (wr := [(a 49, .inl (t 22, 7, .inl (upd (upd (upd (upd (upd (upd (upd (fun _ => 0) 0 (-1)) 1 (-1)) 2 (-1)) 3 (-1)) 4 (-1)) 5 (-1)) 6 (-1)))), (a 11, .inr (4, [.ref (a 7), .int 0, .int 0, .int 0, .ref (a 44), .ref (a 45), .ref (a 46), .ref (a 47)])), (a 44, .inl (t 17, 7, .inl (fun _ => 0))), (a 45, .inl (t 18, 6, .inl (fun _ => 0))), (a 46, .inl (t 19, 6, .inl (fun _ => 0))), (a 47, .inl (t 20, 6, .inl (fun _ => 0))), (a 8, .inr (4, [.ref (a 7), .int 0, .int 0, .int 0, .ref (a 37), .ref (a 38), .ref (a 39), .ref (a 40)])), (a 37, .inl (t 13, 7, .inl (fun _ => 0))), (a 38, .inl (t 14, 6, .inl (fun _ => 0))), (a 39, .inl (t 15, 6, .inl (fun _ => 0))), (a 40, .inl (t 16, 6, .inl (fun _ => 0)))]) (va_runV (As := [.ref (a 11)]) (rest := []) ⟨hx, hb, hml, hown, hts⟩ (hc9 _) (cwV 1 hts gX3_hideAll_X3_hideRound rfl rfl rfl (by decide +kernel) ⟨Nat.le_of_ble_eq_true rfl, Nat.le_of_ble_eq_true rfl⟩) (z_preV hP hD hK hS hA hE hO [0, 1, 2] [] rfl (by decide +kernel) rfl 1 3 rfl rfl rfl) rfl rfl hl.1 rfl (lv_room (Nat.le_of_ble_eq_true rfl)) dX3_hideAll_24 ⟨Nat.le_of_ble_eq_true rfl, Nat.le_of_ble_eq_true rfl⟩) hP hD hK hS hA [0, 1, 2] [3, 4, 5, 6, 7, 8, 9, 10, 11, 12, 13] rfl rfl (by decide +kernel) (by decide +kernel) (fun r9 u9 H locs hw hP hD hK hS => ?_)
  obtain ⟨er9, rfl⟩ := hw
  have hP : va_P D vwCl [(a 49, .inl (t 22, 7, .inl (upd (upd (upd (upd (upd (upd (upd (fun _ => 0) 0 (-1)) 1 (-1)) 2 (-1)) 3 (-1)) 4 (-1)) 5 (-1)) 6 (-1)))), (a 11, .inr (4, [.ref (a 7), .int 0, .int 0, .int 0, .ref (a 44), .ref (a 45), .ref (a 46), .ref (a 47)])), (a 44, .inl (t 17, 7, .inl (fun _ => 0))), (a 45, .inl (t 18, 6, .inl (fun _ => 0))), (a 46, .inl (t 19, 6, .inl (fun _ => 0))), (a 47, .inl (t 20, 6, .inl (fun _ => 0))), (a 8, .inr (4, [.ref (a 7), .int 0, .int 0, .int 0, .ref (a 37), .ref (a 38), .ref (a 39), .ref (a 40)])), (a 37, .inl (t 13, 7, .inl (fun _ => 0))), (a 38, .inl (t 14, 6, .inl (fun _ => 0))), (a 39, .inl (t 15, 6, .inl (fun _ => 0))), (a 40, .inl (t 16, 6, .inl (fun _ => 0))), (a 7, .inr (8, [.ref (a 28), .ref (a 29), .ref (a 30), .int 0, .ref (a 31), .ref (a 32), .ref (a 33), .int 0, .ref (a 34), .ref (a 35), .ref (a 36), .int 2])), (a 13, .inr (3, [.ref (a 8), .ref (a 7), .ref (a 110), .ref (a 111), .ref (a 48), .int 0, .ref (a 112), .int (-1), .ref (a 49), .ref (a 113), .int (-1)])), (a 29, .inr (2, [.ref (a 78), .int 0]))] H := hP
  have hD : va_D A [(a 49, .inl (t 22, 7, .inl (upd (upd (upd (upd (upd (upd (upd (fun _ => 0) 0 (-1)) 1 (-1)) 2 (-1)) 3 (-1)) 4 (-1)) 5 (-1)) 6 (-1)))), (a 11, .inr (4, [.ref (a 7), .int 0, .int 0, .int 0, .ref (a 44), .ref (a 45), .ref (a 46), .ref (a 47)])), (a 44, .inl (t 17, 7, .inl (fun _ => 0))), (a 45, .inl (t 18, 6, .inl (fun _ => 0))), (a 46, .inl (t 19, 6, .inl (fun _ => 0))), (a 47, .inl (t 20, 6, .inl (fun _ => 0))), (a 8, .inr (4, [.ref (a 7), .int 0, .int 0, .int 0, .ref (a 37), .ref (a 38), .ref (a 39), .ref (a 40)])), (a 37, .inl (t 13, 7, .inl (fun _ => 0))), (a 38, .inl (t 14, 6, .inl (fun _ => 0))), (a 39, .inl (t 15, 6, .inl (fun _ => 0))), (a 40, .inl (t 16, 6, .inl (fun _ => 0))), (a 7, .inr (8, [.ref (a 28), .ref (a 29), .ref (a 30), .int 0, .ref (a 31), .ref (a 32), .ref (a 33), .int 0, .ref (a 34), .ref (a 35), .ref (a 36), .int 2])), (a 13, .inr (3, [.ref (a 8), .ref (a 7), .ref (a 110), .ref (a 111), .ref (a 48), .int 0, .ref (a 112), .int (-1), .ref (a 49), .ref (a 113), .int (-1)])), (a 29, .inr (2, [.ref (a 78), .int 0]))] := hD
  have hK : va_K D vwCl [(t 13, .int), (t 14, .int), (t 15, .int), (t 16, .int), (t 17, .int), (t 18, .int), (t 19, .int), (t 20, .int), (t 22, .int)] s := hK
  refine W.cs (cells' := 0) (slots' := 0) rfl rfl ?_
  obtain rfl := er9
  refine W.eq (g2 := F0 m 27 ls (.int 0 :: [])) rfl ?_
  refine lv_istore_n (lv' := [(3, .int 0), (2, .int 0), (0, .ref (a 13)), (1, .ref (a 11))]) hx hb dX3_hideAll_27 rfl hl (by decide) rfl (fun ls hl => ?_)
  refine lv_iinc (v := 1) (lv' := [(2, .int 1), (3, .int 0), (0, .ref (a 13)), (1, .ref (a 11))]) hx hb dX3_hideAll_28 hl (k := 1) rfl (by decide) (by decide) rfl (fun ls hl => ?_)
  refine lv_goto (tgt := 12) hx hb dX3_hideAll_31 (by decide) ?_
  refine lv_iload_n hx hb dX3_hideAll_12 rfl (lv_at hl 1 rfl) ?_
  refine lv_if_eq (tgt := 34) hx hb dX3_hideAll_13 (by decide) (fun _ => ?_) (fun h9 => absurd (by decide) h9)
  refine lv_iconst (v := 0) hx hb dX3_hideAll_34 (by decide) ?_
  refine lv_istore (lv' := [(4, .int 0), (2, .int 1), (3, .int 0), (0, .ref (a 13)), (1, .ref (a 11))]) hx hb dX3_hideAll_35 hl (by decide) rfl (fun ls hl => ?_)
  refine lv_iload hx hb dX3_hideAll_37 (lv_at hl 0 rfl) ?_
  refine lv_aload_n hx hb dX3_hideAll_39 rfl (lv_at hl 3 rfl) ?_
  refine va_get (D := D) (ci := 3) (v := .ref (a 49)) (C := RX3) (T := TX3) (N := 11) hx hb hts hiX3 hown hK hP 12 rfl rfl 8 (by decide) (hts _ (List.mem_of_getElem? (i := 2) rfl)) (fun _ h9 => h9) rfl dX3_hideAll_40 ?_
  refine va_alen (v := 7) hx hb hK hP 0 8 rfl rfl rfl dX3_hideAll_43 ?_
  refine lv_icmp_ge (tgt := 86) hx hb dX3_hideAll_44 (by decide) (fun h9 => absurd h9 (by decide)) (fun _ => ?_)
  refine lv_aload_n hx hb dX3_hideAll_47 rfl (lv_at hl 3 rfl) ?_
  refine va_get (D := D) (ci := 3) (v := .ref (a 49)) (C := RX3) (T := TX3) (N := 11) hx hb hts hiX3 hown hK hP 12 rfl rfl 8 (by decide) (hts _ (List.mem_of_getElem? (i := 2) rfl)) (fun _ h9 => h9) rfl dX3_hideAll_48 ?_
  refine lv_iload hx hb dX3_hideAll_51 (lv_at hl 0 rfl) ?_
  refine lv_iload hx hb dX3_hideAll_53 (lv_at hl 0 rfl) ?_
  refine lv_aload_n hx hb dX3_hideAll_55 rfl (lv_at hl 3 rfl) ?_
  refine va_get (D := D) (ci := 3) (v := .ref (a 7)) (C := RX3) (T := TX3) (N := 11) hx hb hts hiX3 hown hK hP 12 rfl rfl 1 (by decide) (hts _ (List.mem_of_getElem? (i := 3) rfl)) (fun _ h9 => h9) rfl dX3_hideAll_56 ?_
  refine va_get (D := D) (ci := 8) (v := .ref (a 29)) (C := RX8) (T := TX8) (N := 12) hx hb hts hiX8 hown hK hP 11 rfl rfl 1 (by decide) (hts _ (List.mem_of_getElem? (i := 4) rfl)) (fun _ h9 => h9) rfl dX3_hideAll_59 ?_
  refine va_get (D := D) (ci := 2) (v := .int 0) (C := RX2) (T := TX2) (N := 2) hx hb hts hiX2 hown hK hP 13 rfl rfl 1 (by decide) (hts _ (List.mem_of_getElem? (i := 5) rfl)) (fun _ h9 => h9) rfl dX3_hideAll_62 ?_
  refine lv_icmp_ge (tgt := 78) hx hb dX3_hideAll_65 (by decide) (fun _ => ?_) (fun h9 => absurd (by decide) h9)
  refine lv_iconst (v := (-1)) hx hb dX3_hideAll_78 (by decide) ?_
  refine va_iast hx hb hK hP hD hS 0 8 rfl rfl (show ¬ (_ ∨ _) by decide) dX3_hideAll_79 (fun H locs hP hD hS => ?_)
  have hP : va_P D vwCl [(a 49, .inl (t 22, 7, .inl (upd (upd (upd (upd (upd (upd (upd (upd (fun _ => 0) 0 (-1)) 1 (-1)) 2 (-1)) 3 (-1)) 4 (-1)) 5 (-1)) 6 (-1)) 0 (-1)))), (a 11, .inr (4, [.ref (a 7), .int 0, .int 0, .int 0, .ref (a 44), .ref (a 45), .ref (a 46), .ref (a 47)])), (a 44, .inl (t 17, 7, .inl (fun _ => 0))), (a 45, .inl (t 18, 6, .inl (fun _ => 0))), (a 46, .inl (t 19, 6, .inl (fun _ => 0))), (a 47, .inl (t 20, 6, .inl (fun _ => 0))), (a 8, .inr (4, [.ref (a 7), .int 0, .int 0, .int 0, .ref (a 37), .ref (a 38), .ref (a 39), .ref (a 40)])), (a 37, .inl (t 13, 7, .inl (fun _ => 0))), (a 38, .inl (t 14, 6, .inl (fun _ => 0))), (a 39, .inl (t 15, 6, .inl (fun _ => 0))), (a 40, .inl (t 16, 6, .inl (fun _ => 0))), (a 7, .inr (8, [.ref (a 28), .ref (a 29), .ref (a 30), .int 0, .ref (a 31), .ref (a 32), .ref (a 33), .int 0, .ref (a 34), .ref (a 35), .ref (a 36), .int 2])), (a 13, .inr (3, [.ref (a 8), .ref (a 7), .ref (a 110), .ref (a 111), .ref (a 48), .int 0, .ref (a 112), .int (-1), .ref (a 49), .ref (a 113), .int (-1)])), (a 29, .inr (2, [.ref (a 78), .int 0]))] H := hP
  have hD : va_D A [(a 49, .inl (t 22, 7, .inl (upd (upd (upd (upd (upd (upd (upd (upd (fun _ => 0) 0 (-1)) 1 (-1)) 2 (-1)) 3 (-1)) 4 (-1)) 5 (-1)) 6 (-1)) 0 (-1)))), (a 11, .inr (4, [.ref (a 7), .int 0, .int 0, .int 0, .ref (a 44), .ref (a 45), .ref (a 46), .ref (a 47)])), (a 44, .inl (t 17, 7, .inl (fun _ => 0))), (a 45, .inl (t 18, 6, .inl (fun _ => 0))), (a 46, .inl (t 19, 6, .inl (fun _ => 0))), (a 47, .inl (t 20, 6, .inl (fun _ => 0))), (a 8, .inr (4, [.ref (a 7), .int 0, .int 0, .int 0, .ref (a 37), .ref (a 38), .ref (a 39), .ref (a 40)])), (a 37, .inl (t 13, 7, .inl (fun _ => 0))), (a 38, .inl (t 14, 6, .inl (fun _ => 0))), (a 39, .inl (t 15, 6, .inl (fun _ => 0))), (a 40, .inl (t 16, 6, .inl (fun _ => 0))), (a 7, .inr (8, [.ref (a 28), .ref (a 29), .ref (a 30), .int 0, .ref (a 31), .ref (a 32), .ref (a 33), .int 0, .ref (a 34), .ref (a 35), .ref (a 36), .int 2])), (a 13, .inr (3, [.ref (a 8), .ref (a 7), .ref (a 110), .ref (a 111), .ref (a 48), .int 0, .ref (a 112), .int (-1), .ref (a 49), .ref (a 113), .int (-1)])), (a 29, .inr (2, [.ref (a 78), .int 0]))] := hD
  refine lv_iinc (v := 1) (lv' := [(4, .int 1), (2, .int 1), (3, .int 0), (0, .ref (a 13)), (1, .ref (a 11))]) hx hb dX3_hideAll_80 hl (k := 0) rfl (by decide) (by decide) rfl (fun ls hl => ?_)
  refine lv_goto (tgt := 37) hx hb dX3_hideAll_83 (by decide) ?_
  refine lv_iload hx hb dX3_hideAll_37 (lv_at hl 0 rfl) ?_
  refine lv_aload_n hx hb dX3_hideAll_39 rfl (lv_at hl 3 rfl) ?_
  refine va_get (D := D) (ci := 3) (v := .ref (a 49)) (C := RX3) (T := TX3) (N := 11) hx hb hts hiX3 hown hK hP 12 rfl rfl 8 (by decide) (hts _ (List.mem_of_getElem? (i := 2) rfl)) (fun _ h9 => h9) rfl dX3_hideAll_40 ?_
  refine va_alen (v := 7) hx hb hK hP 0 8 rfl rfl rfl dX3_hideAll_43 ?_
  refine lv_icmp_ge (tgt := 86) hx hb dX3_hideAll_44 (by decide) (fun h9 => absurd h9 (by decide)) (fun _ => ?_)
  refine lv_aload_n hx hb dX3_hideAll_47 rfl (lv_at hl 3 rfl) ?_
  refine va_get (D := D) (ci := 3) (v := .ref (a 49)) (C := RX3) (T := TX3) (N := 11) hx hb hts hiX3 hown hK hP 12 rfl rfl 8 (by decide) (hts _ (List.mem_of_getElem? (i := 2) rfl)) (fun _ h9 => h9) rfl dX3_hideAll_48 ?_
  refine lv_iload hx hb dX3_hideAll_51 (lv_at hl 0 rfl) ?_
  refine lv_iload hx hb dX3_hideAll_53 (lv_at hl 0 rfl) ?_
  refine lv_aload_n hx hb dX3_hideAll_55 rfl (lv_at hl 3 rfl) ?_
  refine va_get (D := D) (ci := 3) (v := .ref (a 7)) (C := RX3) (T := TX3) (N := 11) hx hb hts hiX3 hown hK hP 12 rfl rfl 1 (by decide) (hts _ (List.mem_of_getElem? (i := 3) rfl)) (fun _ h9 => h9) rfl dX3_hideAll_56 ?_
  refine va_get (D := D) (ci := 8) (v := .ref (a 29)) (C := RX8) (T := TX8) (N := 12) hx hb hts hiX8 hown hK hP 11 rfl rfl 1 (by decide) (hts _ (List.mem_of_getElem? (i := 4) rfl)) (fun _ h9 => h9) rfl dX3_hideAll_59 ?_
  refine va_get (D := D) (ci := 2) (v := .int 0) (C := RX2) (T := TX2) (N := 2) hx hb hts hiX2 hown hK hP 13 rfl rfl 1 (by decide) (hts _ (List.mem_of_getElem? (i := 5) rfl)) (fun _ h9 => h9) rfl dX3_hideAll_62 ?_
  refine lv_icmp_ge (tgt := 78) hx hb dX3_hideAll_65 (by decide) (fun _ => ?_) (fun h9 => absurd (by decide) h9)
  refine lv_iconst (v := (-1)) hx hb dX3_hideAll_78 (by decide) ?_
  refine va_iast hx hb hK hP hD hS 0 8 rfl rfl (show ¬ (_ ∨ _) by decide) dX3_hideAll_79 (fun H locs hP hD hS => ?_)
  have hP : va_P D vwCl [(a 49, .inl (t 22, 7, .inl (upd (upd (upd (upd (upd (upd (upd (upd (upd (fun _ => 0) 0 (-1)) 1 (-1)) 2 (-1)) 3 (-1)) 4 (-1)) 5 (-1)) 6 (-1)) 0 (-1)) 1 (-1)))), (a 11, .inr (4, [.ref (a 7), .int 0, .int 0, .int 0, .ref (a 44), .ref (a 45), .ref (a 46), .ref (a 47)])), (a 44, .inl (t 17, 7, .inl (fun _ => 0))), (a 45, .inl (t 18, 6, .inl (fun _ => 0))), (a 46, .inl (t 19, 6, .inl (fun _ => 0))), (a 47, .inl (t 20, 6, .inl (fun _ => 0))), (a 8, .inr (4, [.ref (a 7), .int 0, .int 0, .int 0, .ref (a 37), .ref (a 38), .ref (a 39), .ref (a 40)])), (a 37, .inl (t 13, 7, .inl (fun _ => 0))), (a 38, .inl (t 14, 6, .inl (fun _ => 0))), (a 39, .inl (t 15, 6, .inl (fun _ => 0))), (a 40, .inl (t 16, 6, .inl (fun _ => 0))), (a 7, .inr (8, [.ref (a 28), .ref (a 29), .ref (a 30), .int 0, .ref (a 31), .ref (a 32), .ref (a 33), .int 0, .ref (a 34), .ref (a 35), .ref (a 36), .int 2])), (a 13, .inr (3, [.ref (a 8), .ref (a 7), .ref (a 110), .ref (a 111), .ref (a 48), .int 0, .ref (a 112), .int (-1), .ref (a 49), .ref (a 113), .int (-1)])), (a 29, .inr (2, [.ref (a 78), .int 0]))] H := hP
  have hD : va_D A [(a 49, .inl (t 22, 7, .inl (upd (upd (upd (upd (upd (upd (upd (upd (upd (fun _ => 0) 0 (-1)) 1 (-1)) 2 (-1)) 3 (-1)) 4 (-1)) 5 (-1)) 6 (-1)) 0 (-1)) 1 (-1)))), (a 11, .inr (4, [.ref (a 7), .int 0, .int 0, .int 0, .ref (a 44), .ref (a 45), .ref (a 46), .ref (a 47)])), (a 44, .inl (t 17, 7, .inl (fun _ => 0))), (a 45, .inl (t 18, 6, .inl (fun _ => 0))), (a 46, .inl (t 19, 6, .inl (fun _ => 0))), (a 47, .inl (t 20, 6, .inl (fun _ => 0))), (a 8, .inr (4, [.ref (a 7), .int 0, .int 0, .int 0, .ref (a 37), .ref (a 38), .ref (a 39), .ref (a 40)])), (a 37, .inl (t 13, 7, .inl (fun _ => 0))), (a 38, .inl (t 14, 6, .inl (fun _ => 0))), (a 39, .inl (t 15, 6, .inl (fun _ => 0))), (a 40, .inl (t 16, 6, .inl (fun _ => 0))), (a 7, .inr (8, [.ref (a 28), .ref (a 29), .ref (a 30), .int 0, .ref (a 31), .ref (a 32), .ref (a 33), .int 0, .ref (a 34), .ref (a 35), .ref (a 36), .int 2])), (a 13, .inr (3, [.ref (a 8), .ref (a 7), .ref (a 110), .ref (a 111), .ref (a 48), .int 0, .ref (a 112), .int (-1), .ref (a 49), .ref (a 113), .int (-1)])), (a 29, .inr (2, [.ref (a 78), .int 0]))] := hD
  refine lv_iinc (v := 2) (lv' := [(4, .int 2), (2, .int 1), (3, .int 0), (0, .ref (a 13)), (1, .ref (a 11))]) hx hb dX3_hideAll_80 hl (k := 0) rfl (by decide) (by decide) rfl (fun ls hl => ?_)
  refine lv_goto (tgt := 37) hx hb dX3_hideAll_83 (by decide) ?_
  refine lv_iload hx hb dX3_hideAll_37 (lv_at hl 0 rfl) ?_
  refine lv_aload_n hx hb dX3_hideAll_39 rfl (lv_at hl 3 rfl) ?_
  refine va_get (D := D) (ci := 3) (v := .ref (a 49)) (C := RX3) (T := TX3) (N := 11) hx hb hts hiX3 hown hK hP 12 rfl rfl 8 (by decide) (hts _ (List.mem_of_getElem? (i := 2) rfl)) (fun _ h9 => h9) rfl dX3_hideAll_40 ?_
  refine va_alen (v := 7) hx hb hK hP 0 8 rfl rfl rfl dX3_hideAll_43 ?_
  refine lv_icmp_ge (tgt := 86) hx hb dX3_hideAll_44 (by decide) (fun h9 => absurd h9 (by decide)) (fun _ => ?_)
  refine lv_aload_n hx hb dX3_hideAll_47 rfl (lv_at hl 3 rfl) ?_
  refine va_get (D := D) (ci := 3) (v := .ref (a 49)) (C := RX3) (T := TX3) (N := 11) hx hb hts hiX3 hown hK hP 12 rfl rfl 8 (by decide) (hts _ (List.mem_of_getElem? (i := 2) rfl)) (fun _ h9 => h9) rfl dX3_hideAll_48 ?_
  refine lv_iload hx hb dX3_hideAll_51 (lv_at hl 0 rfl) ?_
  refine lv_iload hx hb dX3_hideAll_53 (lv_at hl 0 rfl) ?_
  refine lv_aload_n hx hb dX3_hideAll_55 rfl (lv_at hl 3 rfl) ?_
  refine va_get (D := D) (ci := 3) (v := .ref (a 7)) (C := RX3) (T := TX3) (N := 11) hx hb hts hiX3 hown hK hP 12 rfl rfl 1 (by decide) (hts _ (List.mem_of_getElem? (i := 3) rfl)) (fun _ h9 => h9) rfl dX3_hideAll_56 ?_
  refine va_get (D := D) (ci := 8) (v := .ref (a 29)) (C := RX8) (T := TX8) (N := 12) hx hb hts hiX8 hown hK hP 11 rfl rfl 1 (by decide) (hts _ (List.mem_of_getElem? (i := 4) rfl)) (fun _ h9 => h9) rfl dX3_hideAll_59 ?_
  refine va_get (D := D) (ci := 2) (v := .int 0) (C := RX2) (T := TX2) (N := 2) hx hb hts hiX2 hown hK hP 13 rfl rfl 1 (by decide) (hts _ (List.mem_of_getElem? (i := 5) rfl)) (fun _ h9 => h9) rfl dX3_hideAll_62 ?_
  refine lv_icmp_ge (tgt := 78) hx hb dX3_hideAll_65 (by decide) (fun _ => ?_) (fun h9 => absurd (by decide) h9)
  refine lv_iconst (v := (-1)) hx hb dX3_hideAll_78 (by decide) ?_
  refine va_iast hx hb hK hP hD hS 0 8 rfl rfl (show ¬ (_ ∨ _) by decide) dX3_hideAll_79 (fun H locs hP hD hS => ?_)
  have hP : va_P D vwCl [(a 49, .inl (t 22, 7, .inl (upd (upd (upd (upd (upd (upd (upd (upd (upd (upd (fun _ => 0) 0 (-1)) 1 (-1)) 2 (-1)) 3 (-1)) 4 (-1)) 5 (-1)) 6 (-1)) 0 (-1)) 1 (-1)) 2 (-1)))), (a 11, .inr (4, [.ref (a 7), .int 0, .int 0, .int 0, .ref (a 44), .ref (a 45), .ref (a 46), .ref (a 47)])), (a 44, .inl (t 17, 7, .inl (fun _ => 0))), (a 45, .inl (t 18, 6, .inl (fun _ => 0))), (a 46, .inl (t 19, 6, .inl (fun _ => 0))), (a 47, .inl (t 20, 6, .inl (fun _ => 0))), (a 8, .inr (4, [.ref (a 7), .int 0, .int 0, .int 0, .ref (a 37), .ref (a 38), .ref (a 39), .ref (a 40)])), (a 37, .inl (t 13, 7, .inl (fun _ => 0))), (a 38, .inl (t 14, 6, .inl (fun _ => 0))), (a 39, .inl (t 15, 6, .inl (fun _ => 0))), (a 40, .inl (t 16, 6, .inl (fun _ => 0))), (a 7, .inr (8, [.ref (a 28), .ref (a 29), .ref (a 30), .int 0, .ref (a 31), .ref (a 32), .ref (a 33), .int 0, .ref (a 34), .ref (a 35), .ref (a 36), .int 2])), (a 13, .inr (3, [.ref (a 8), .ref (a 7), .ref (a 110), .ref (a 111), .ref (a 48), .int 0, .ref (a 112), .int (-1), .ref (a 49), .ref (a 113), .int (-1)])), (a 29, .inr (2, [.ref (a 78), .int 0]))] H := hP
  have hD : va_D A [(a 49, .inl (t 22, 7, .inl (upd (upd (upd (upd (upd (upd (upd (upd (upd (upd (fun _ => 0) 0 (-1)) 1 (-1)) 2 (-1)) 3 (-1)) 4 (-1)) 5 (-1)) 6 (-1)) 0 (-1)) 1 (-1)) 2 (-1)))), (a 11, .inr (4, [.ref (a 7), .int 0, .int 0, .int 0, .ref (a 44), .ref (a 45), .ref (a 46), .ref (a 47)])), (a 44, .inl (t 17, 7, .inl (fun _ => 0))), (a 45, .inl (t 18, 6, .inl (fun _ => 0))), (a 46, .inl (t 19, 6, .inl (fun _ => 0))), (a 47, .inl (t 20, 6, .inl (fun _ => 0))), (a 8, .inr (4, [.ref (a 7), .int 0, .int 0, .int 0, .ref (a 37), .ref (a 38), .ref (a 39), .ref (a 40)])), (a 37, .inl (t 13, 7, .inl (fun _ => 0))), (a 38, .inl (t 14, 6, .inl (fun _ => 0))), (a 39, .inl (t 15, 6, .inl (fun _ => 0))), (a 40, .inl (t 16, 6, .inl (fun _ => 0))), (a 7, .inr (8, [.ref (a 28), .ref (a 29), .ref (a 30), .int 0, .ref (a 31), .ref (a 32), .ref (a 33), .int 0, .ref (a 34), .ref (a 35), .ref (a 36), .int 2])), (a 13, .inr (3, [.ref (a 8), .ref (a 7), .ref (a 110), .ref (a 111), .ref (a 48), .int 0, .ref (a 112), .int (-1), .ref (a 49), .ref (a 113), .int (-1)])), (a 29, .inr (2, [.ref (a 78), .int 0]))] := hD
  refine lv_iinc (v := 3) (lv' := [(4, .int 3), (2, .int 1), (3, .int 0), (0, .ref (a 13)), (1, .ref (a 11))]) hx hb dX3_hideAll_80 hl (k := 0) rfl (by decide) (by decide) rfl (fun ls hl => ?_)
  refine lv_goto (tgt := 37) hx hb dX3_hideAll_83 (by decide) ?_
  refine lv_iload hx hb dX3_hideAll_37 (lv_at hl 0 rfl) ?_
  refine lv_aload_n hx hb dX3_hideAll_39 rfl (lv_at hl 3 rfl) ?_
  refine va_get (D := D) (ci := 3) (v := .ref (a 49)) (C := RX3) (T := TX3) (N := 11) hx hb hts hiX3 hown hK hP 12 rfl rfl 8 (by decide) (hts _ (List.mem_of_getElem? (i := 2) rfl)) (fun _ h9 => h9) rfl dX3_hideAll_40 ?_
  refine va_alen (v := 7) hx hb hK hP 0 8 rfl rfl rfl dX3_hideAll_43 ?_
  refine lv_icmp_ge (tgt := 86) hx hb dX3_hideAll_44 (by decide) (fun h9 => absurd h9 (by decide)) (fun _ => ?_)
  refine lv_aload_n hx hb dX3_hideAll_47 rfl (lv_at hl 3 rfl) ?_
  refine va_get (D := D) (ci := 3) (v := .ref (a 49)) (C := RX3) (T := TX3) (N := 11) hx hb hts hiX3 hown hK hP 12 rfl rfl 8 (by decide) (hts _ (List.mem_of_getElem? (i := 2) rfl)) (fun _ h9 => h9) rfl dX3_hideAll_48 ?_
  refine lv_iload hx hb dX3_hideAll_51 (lv_at hl 0 rfl) ?_
  refine lv_iload hx hb dX3_hideAll_53 (lv_at hl 0 rfl) ?_
  refine lv_aload_n hx hb dX3_hideAll_55 rfl (lv_at hl 3 rfl) ?_
  refine va_get (D := D) (ci := 3) (v := .ref (a 7)) (C := RX3) (T := TX3) (N := 11) hx hb hts hiX3 hown hK hP 12 rfl rfl 1 (by decide) (hts _ (List.mem_of_getElem? (i := 3) rfl)) (fun _ h9 => h9) rfl dX3_hideAll_56 ?_
  refine va_get (D := D) (ci := 8) (v := .ref (a 29)) (C := RX8) (T := TX8) (N := 12) hx hb hts hiX8 hown hK hP 11 rfl rfl 1 (by decide) (hts _ (List.mem_of_getElem? (i := 4) rfl)) (fun _ h9 => h9) rfl dX3_hideAll_59 ?_
  refine va_get (D := D) (ci := 2) (v := .int 0) (C := RX2) (T := TX2) (N := 2) hx hb hts hiX2 hown hK hP 13 rfl rfl 1 (by decide) (hts _ (List.mem_of_getElem? (i := 5) rfl)) (fun _ h9 => h9) rfl dX3_hideAll_62 ?_
  refine lv_icmp_ge (tgt := 78) hx hb dX3_hideAll_65 (by decide) (fun _ => ?_) (fun h9 => absurd (by decide) h9)
  refine lv_iconst (v := (-1)) hx hb dX3_hideAll_78 (by decide) ?_
  refine va_iast hx hb hK hP hD hS 0 8 rfl rfl (show ¬ (_ ∨ _) by decide) dX3_hideAll_79 (fun H locs hP hD hS => ?_)
  have hP : va_P D vwCl [(a 49, .inl (t 22, 7, .inl (upd (upd (upd (upd (upd (upd (upd (upd (upd (upd (upd (fun _ => 0) 0 (-1)) 1 (-1)) 2 (-1)) 3 (-1)) 4 (-1)) 5 (-1)) 6 (-1)) 0 (-1)) 1 (-1)) 2 (-1)) 3 (-1)))), (a 11, .inr (4, [.ref (a 7), .int 0, .int 0, .int 0, .ref (a 44), .ref (a 45), .ref (a 46), .ref (a 47)])), (a 44, .inl (t 17, 7, .inl (fun _ => 0))), (a 45, .inl (t 18, 6, .inl (fun _ => 0))), (a 46, .inl (t 19, 6, .inl (fun _ => 0))), (a 47, .inl (t 20, 6, .inl (fun _ => 0))), (a 8, .inr (4, [.ref (a 7), .int 0, .int 0, .int 0, .ref (a 37), .ref (a 38), .ref (a 39), .ref (a 40)])), (a 37, .inl (t 13, 7, .inl (fun _ => 0))), (a 38, .inl (t 14, 6, .inl (fun _ => 0))), (a 39, .inl (t 15, 6, .inl (fun _ => 0))), (a 40, .inl (t 16, 6, .inl (fun _ => 0))), (a 7, .inr (8, [.ref (a 28), .ref (a 29), .ref (a 30), .int 0, .ref (a 31), .ref (a 32), .ref (a 33), .int 0, .ref (a 34), .ref (a 35), .ref (a 36), .int 2])), (a 13, .inr (3, [.ref (a 8), .ref (a 7), .ref (a 110), .ref (a 111), .ref (a 48), .int 0, .ref (a 112), .int (-1), .ref (a 49), .ref (a 113), .int (-1)])), (a 29, .inr (2, [.ref (a 78), .int 0]))] H := hP
  have hD : va_D A [(a 49, .inl (t 22, 7, .inl (upd (upd (upd (upd (upd (upd (upd (upd (upd (upd (upd (fun _ => 0) 0 (-1)) 1 (-1)) 2 (-1)) 3 (-1)) 4 (-1)) 5 (-1)) 6 (-1)) 0 (-1)) 1 (-1)) 2 (-1)) 3 (-1)))), (a 11, .inr (4, [.ref (a 7), .int 0, .int 0, .int 0, .ref (a 44), .ref (a 45), .ref (a 46), .ref (a 47)])), (a 44, .inl (t 17, 7, .inl (fun _ => 0))), (a 45, .inl (t 18, 6, .inl (fun _ => 0))), (a 46, .inl (t 19, 6, .inl (fun _ => 0))), (a 47, .inl (t 20, 6, .inl (fun _ => 0))), (a 8, .inr (4, [.ref (a 7), .int 0, .int 0, .int 0, .ref (a 37), .ref (a 38), .ref (a 39), .ref (a 40)])), (a 37, .inl (t 13, 7, .inl (fun _ => 0))), (a 38, .inl (t 14, 6, .inl (fun _ => 0))), (a 39, .inl (t 15, 6, .inl (fun _ => 0))), (a 40, .inl (t 16, 6, .inl (fun _ => 0))), (a 7, .inr (8, [.ref (a 28), .ref (a 29), .ref (a 30), .int 0, .ref (a 31), .ref (a 32), .ref (a 33), .int 0, .ref (a 34), .ref (a 35), .ref (a 36), .int 2])), (a 13, .inr (3, [.ref (a 8), .ref (a 7), .ref (a 110), .ref (a 111), .ref (a 48), .int 0, .ref (a 112), .int (-1), .ref (a 49), .ref (a 113), .int (-1)])), (a 29, .inr (2, [.ref (a 78), .int 0]))] := hD
  refine lv_iinc (v := 4) (lv' := [(4, .int 4), (2, .int 1), (3, .int 0), (0, .ref (a 13)), (1, .ref (a 11))]) hx hb dX3_hideAll_80 hl (k := 0) rfl (by decide) (by decide) rfl (fun ls hl => ?_)
  refine lv_goto (tgt := 37) hx hb dX3_hideAll_83 (by decide) ?_
  refine lv_iload hx hb dX3_hideAll_37 (lv_at hl 0 rfl) ?_
  refine lv_aload_n hx hb dX3_hideAll_39 rfl (lv_at hl 3 rfl) ?_
  refine va_get (D := D) (ci := 3) (v := .ref (a 49)) (C := RX3) (T := TX3) (N := 11) hx hb hts hiX3 hown hK hP 12 rfl rfl 8 (by decide) (hts _ (List.mem_of_getElem? (i := 2) rfl)) (fun _ h9 => h9) rfl dX3_hideAll_40 ?_
  refine va_alen (v := 7) hx hb hK hP 0 8 rfl rfl rfl dX3_hideAll_43 ?_
  refine lv_icmp_ge (tgt := 86) hx hb dX3_hideAll_44 (by decide) (fun h9 => absurd h9 (by decide)) (fun _ => ?_)
  refine lv_aload_n hx hb dX3_hideAll_47 rfl (lv_at hl 3 rfl) ?_
  refine va_get (D := D) (ci := 3) (v := .ref (a 49)) (C := RX3) (T := TX3) (N := 11) hx hb hts hiX3 hown hK hP 12 rfl rfl 8 (by decide) (hts _ (List.mem_of_getElem? (i := 2) rfl)) (fun _ h9 => h9) rfl dX3_hideAll_48 ?_
  refine lv_iload hx hb dX3_hideAll_51 (lv_at hl 0 rfl) ?_
  refine lv_iload hx hb dX3_hideAll_53 (lv_at hl 0 rfl) ?_
  refine lv_aload_n hx hb dX3_hideAll_55 rfl (lv_at hl 3 rfl) ?_
  refine va_get (D := D) (ci := 3) (v := .ref (a 7)) (C := RX3) (T := TX3) (N := 11) hx hb hts hiX3 hown hK hP 12 rfl rfl 1 (by decide) (hts _ (List.mem_of_getElem? (i := 3) rfl)) (fun _ h9 => h9) rfl dX3_hideAll_56 ?_
  refine va_get (D := D) (ci := 8) (v := .ref (a 29)) (C := RX8) (T := TX8) (N := 12) hx hb hts hiX8 hown hK hP 11 rfl rfl 1 (by decide) (hts _ (List.mem_of_getElem? (i := 4) rfl)) (fun _ h9 => h9) rfl dX3_hideAll_59 ?_
  refine va_get (D := D) (ci := 2) (v := .int 0) (C := RX2) (T := TX2) (N := 2) hx hb hts hiX2 hown hK hP 13 rfl rfl 1 (by decide) (hts _ (List.mem_of_getElem? (i := 5) rfl)) (fun _ h9 => h9) rfl dX3_hideAll_62 ?_
  refine lv_icmp_ge (tgt := 78) hx hb dX3_hideAll_65 (by decide) (fun _ => ?_) (fun h9 => absurd (by decide) h9)
  refine lv_iconst (v := (-1)) hx hb dX3_hideAll_78 (by decide) ?_
  refine va_iast hx hb hK hP hD hS 0 8 rfl rfl (show ¬ (_ ∨ _) by decide) dX3_hideAll_79 (fun H locs hP hD hS => ?_)
  have hP : va_P D vwCl [(a 49, .inl (t 22, 7, .inl (upd (upd (upd (upd (upd (upd (upd (upd (upd (upd (upd (upd (fun _ => 0) 0 (-1)) 1 (-1)) 2 (-1)) 3 (-1)) 4 (-1)) 5 (-1)) 6 (-1)) 0 (-1)) 1 (-1)) 2 (-1)) 3 (-1)) 4 (-1)))), (a 11, .inr (4, [.ref (a 7), .int 0, .int 0, .int 0, .ref (a 44), .ref (a 45), .ref (a 46), .ref (a 47)])), (a 44, .inl (t 17, 7, .inl (fun _ => 0))), (a 45, .inl (t 18, 6, .inl (fun _ => 0))), (a 46, .inl (t 19, 6, .inl (fun _ => 0))), (a 47, .inl (t 20, 6, .inl (fun _ => 0))), (a 8, .inr (4, [.ref (a 7), .int 0, .int 0, .int 0, .ref (a 37), .ref (a 38), .ref (a 39), .ref (a 40)])), (a 37, .inl (t 13, 7, .inl (fun _ => 0))), (a 38, .inl (t 14, 6, .inl (fun _ => 0))), (a 39, .inl (t 15, 6, .inl (fun _ => 0))), (a 40, .inl (t 16, 6, .inl (fun _ => 0))), (a 7, .inr (8, [.ref (a 28), .ref (a 29), .ref (a 30), .int 0, .ref (a 31), .ref (a 32), .ref (a 33), .int 0, .ref (a 34), .ref (a 35), .ref (a 36), .int 2])), (a 13, .inr (3, [.ref (a 8), .ref (a 7), .ref (a 110), .ref (a 111), .ref (a 48), .int 0, .ref (a 112), .int (-1), .ref (a 49), .ref (a 113), .int (-1)])), (a 29, .inr (2, [.ref (a 78), .int 0]))] H := hP
  have hD : va_D A [(a 49, .inl (t 22, 7, .inl (upd (upd (upd (upd (upd (upd (upd (upd (upd (upd (upd (upd (fun _ => 0) 0 (-1)) 1 (-1)) 2 (-1)) 3 (-1)) 4 (-1)) 5 (-1)) 6 (-1)) 0 (-1)) 1 (-1)) 2 (-1)) 3 (-1)) 4 (-1)))), (a 11, .inr (4, [.ref (a 7), .int 0, .int 0, .int 0, .ref (a 44), .ref (a 45), .ref (a 46), .ref (a 47)])), (a 44, .inl (t 17, 7, .inl (fun _ => 0))), (a 45, .inl (t 18, 6, .inl (fun _ => 0))), (a 46, .inl (t 19, 6, .inl (fun _ => 0))), (a 47, .inl (t 20, 6, .inl (fun _ => 0))), (a 8, .inr (4, [.ref (a 7), .int 0, .int 0, .int 0, .ref (a 37), .ref (a 38), .ref (a 39), .ref (a 40)])), (a 37, .inl (t 13, 7, .inl (fun _ => 0))), (a 38, .inl (t 14, 6, .inl (fun _ => 0))), (a 39, .inl (t 15, 6, .inl (fun _ => 0))), (a 40, .inl (t 16, 6, .inl (fun _ => 0))), (a 7, .inr (8, [.ref (a 28), .ref (a 29), .ref (a 30), .int 0, .ref (a 31), .ref (a 32), .ref (a 33), .int 0, .ref (a 34), .ref (a 35), .ref (a 36), .int 2])), (a 13, .inr (3, [.ref (a 8), .ref (a 7), .ref (a 110), .ref (a 111), .ref (a 48), .int 0, .ref (a 112), .int (-1), .ref (a 49), .ref (a 113), .int (-1)])), (a 29, .inr (2, [.ref (a 78), .int 0]))] := hD
  refine lv_iinc (v := 5) (lv' := [(4, .int 5), (2, .int 1), (3, .int 0), (0, .ref (a 13)), (1, .ref (a 11))]) hx hb dX3_hideAll_80 hl (k := 0) rfl (by decide) (by decide) rfl (fun ls hl => ?_)
  refine lv_goto (tgt := 37) hx hb dX3_hideAll_83 (by decide) ?_
  refine lv_iload hx hb dX3_hideAll_37 (lv_at hl 0 rfl) ?_
  refine lv_aload_n hx hb dX3_hideAll_39 rfl (lv_at hl 3 rfl) ?_
  refine va_get (D := D) (ci := 3) (v := .ref (a 49)) (C := RX3) (T := TX3) (N := 11) hx hb hts hiX3 hown hK hP 12 rfl rfl 8 (by decide) (hts _ (List.mem_of_getElem? (i := 2) rfl)) (fun _ h9 => h9) rfl dX3_hideAll_40 ?_
  refine va_alen (v := 7) hx hb hK hP 0 8 rfl rfl rfl dX3_hideAll_43 ?_
  refine lv_icmp_ge (tgt := 86) hx hb dX3_hideAll_44 (by decide) (fun h9 => absurd h9 (by decide)) (fun _ => ?_)
  refine lv_aload_n hx hb dX3_hideAll_47 rfl (lv_at hl 3 rfl) ?_
  refine va_get (D := D) (ci := 3) (v := .ref (a 49)) (C := RX3) (T := TX3) (N := 11) hx hb hts hiX3 hown hK hP 12 rfl rfl 8 (by decide) (hts _ (List.mem_of_getElem? (i := 2) rfl)) (fun _ h9 => h9) rfl dX3_hideAll_48 ?_
  refine lv_iload hx hb dX3_hideAll_51 (lv_at hl 0 rfl) ?_
  refine lv_iload hx hb dX3_hideAll_53 (lv_at hl 0 rfl) ?_
  refine lv_aload_n hx hb dX3_hideAll_55 rfl (lv_at hl 3 rfl) ?_
  refine va_get (D := D) (ci := 3) (v := .ref (a 7)) (C := RX3) (T := TX3) (N := 11) hx hb hts hiX3 hown hK hP 12 rfl rfl 1 (by decide) (hts _ (List.mem_of_getElem? (i := 3) rfl)) (fun _ h9 => h9) rfl dX3_hideAll_56 ?_
  refine va_get (D := D) (ci := 8) (v := .ref (a 29)) (C := RX8) (T := TX8) (N := 12) hx hb hts hiX8 hown hK hP 11 rfl rfl 1 (by decide) (hts _ (List.mem_of_getElem? (i := 4) rfl)) (fun _ h9 => h9) rfl dX3_hideAll_59 ?_
  refine va_get (D := D) (ci := 2) (v := .int 0) (C := RX2) (T := TX2) (N := 2) hx hb hts hiX2 hown hK hP 13 rfl rfl 1 (by decide) (hts _ (List.mem_of_getElem? (i := 5) rfl)) (fun _ h9 => h9) rfl dX3_hideAll_62 ?_
  refine lv_icmp_ge (tgt := 78) hx hb dX3_hideAll_65 (by decide) (fun _ => ?_) (fun h9 => absurd (by decide) h9)
  refine lv_iconst (v := (-1)) hx hb dX3_hideAll_78 (by decide) ?_
  refine va_iast hx hb hK hP hD hS 0 8 rfl rfl (show ¬ (_ ∨ _) by decide) dX3_hideAll_79 (fun H locs hP hD hS => ?_)
  have hP : va_P D vwCl [(a 49, .inl (t 22, 7, .inl (upd (upd (upd (upd (upd (upd (upd (upd (upd (upd (upd (upd (upd (fun _ => 0) 0 (-1)) 1 (-1)) 2 (-1)) 3 (-1)) 4 (-1)) 5 (-1)) 6 (-1)) 0 (-1)) 1 (-1)) 2 (-1)) 3 (-1)) 4 (-1)) 5 (-1)))), (a 11, .inr (4, [.ref (a 7), .int 0, .int 0, .int 0, .ref (a 44), .ref (a 45), .ref (a 46), .ref (a 47)])), (a 44, .inl (t 17, 7, .inl (fun _ => 0))), (a 45, .inl (t 18, 6, .inl (fun _ => 0))), (a 46, .inl (t 19, 6, .inl (fun _ => 0))), (a 47, .inl (t 20, 6, .inl (fun _ => 0))), (a 8, .inr (4, [.ref (a 7), .int 0, .int 0, .int 0, .ref (a 37), .ref (a 38), .ref (a 39), .ref (a 40)])), (a 37, .inl (t 13, 7, .inl (fun _ => 0))), (a 38, .inl (t 14, 6, .inl (fun _ => 0))), (a 39, .inl (t 15, 6, .inl (fun _ => 0))), (a 40, .inl (t 16, 6, .inl (fun _ => 0))), (a 7, .inr (8, [.ref (a 28), .ref (a 29), .ref (a 30), .int 0, .ref (a 31), .ref (a 32), .ref (a 33), .int 0, .ref (a 34), .ref (a 35), .ref (a 36), .int 2])), (a 13, .inr (3, [.ref (a 8), .ref (a 7), .ref (a 110), .ref (a 111), .ref (a 48), .int 0, .ref (a 112), .int (-1), .ref (a 49), .ref (a 113), .int (-1)])), (a 29, .inr (2, [.ref (a 78), .int 0]))] H := hP
  have hD : va_D A [(a 49, .inl (t 22, 7, .inl (upd (upd (upd (upd (upd (upd (upd (upd (upd (upd (upd (upd (upd (fun _ => 0) 0 (-1)) 1 (-1)) 2 (-1)) 3 (-1)) 4 (-1)) 5 (-1)) 6 (-1)) 0 (-1)) 1 (-1)) 2 (-1)) 3 (-1)) 4 (-1)) 5 (-1)))), (a 11, .inr (4, [.ref (a 7), .int 0, .int 0, .int 0, .ref (a 44), .ref (a 45), .ref (a 46), .ref (a 47)])), (a 44, .inl (t 17, 7, .inl (fun _ => 0))), (a 45, .inl (t 18, 6, .inl (fun _ => 0))), (a 46, .inl (t 19, 6, .inl (fun _ => 0))), (a 47, .inl (t 20, 6, .inl (fun _ => 0))), (a 8, .inr (4, [.ref (a 7), .int 0, .int 0, .int 0, .ref (a 37), .ref (a 38), .ref (a 39), .ref (a 40)])), (a 37, .inl (t 13, 7, .inl (fun _ => 0))), (a 38, .inl (t 14, 6, .inl (fun _ => 0))), (a 39, .inl (t 15, 6, .inl (fun _ => 0))), (a 40, .inl (t 16, 6, .inl (fun _ => 0))), (a 7, .inr (8, [.ref (a 28), .ref (a 29), .ref (a 30), .int 0, .ref (a 31), .ref (a 32), .ref (a 33), .int 0, .ref (a 34), .ref (a 35), .ref (a 36), .int 2])), (a 13, .inr (3, [.ref (a 8), .ref (a 7), .ref (a 110), .ref (a 111), .ref (a 48), .int 0, .ref (a 112), .int (-1), .ref (a 49), .ref (a 113), .int (-1)])), (a 29, .inr (2, [.ref (a 78), .int 0]))] := hD
  refine lv_iinc (v := 6) (lv' := [(4, .int 6), (2, .int 1), (3, .int 0), (0, .ref (a 13)), (1, .ref (a 11))]) hx hb dX3_hideAll_80 hl (k := 0) rfl (by decide) (by decide) rfl (fun ls hl => ?_)
  refine lv_goto (tgt := 37) hx hb dX3_hideAll_83 (by decide) ?_
  refine lv_iload hx hb dX3_hideAll_37 (lv_at hl 0 rfl) ?_
  refine lv_aload_n hx hb dX3_hideAll_39 rfl (lv_at hl 3 rfl) ?_
  refine va_get (D := D) (ci := 3) (v := .ref (a 49)) (C := RX3) (T := TX3) (N := 11) hx hb hts hiX3 hown hK hP 12 rfl rfl 8 (by decide) (hts _ (List.mem_of_getElem? (i := 2) rfl)) (fun _ h9 => h9) rfl dX3_hideAll_40 ?_
  refine va_alen (v := 7) hx hb hK hP 0 8 rfl rfl rfl dX3_hideAll_43 ?_
  refine lv_icmp_ge (tgt := 86) hx hb dX3_hideAll_44 (by decide) (fun h9 => absurd h9 (by decide)) (fun _ => ?_)
  refine lv_aload_n hx hb dX3_hideAll_47 rfl (lv_at hl 3 rfl) ?_
  refine va_get (D := D) (ci := 3) (v := .ref (a 49)) (C := RX3) (T := TX3) (N := 11) hx hb hts hiX3 hown hK hP 12 rfl rfl 8 (by decide) (hts _ (List.mem_of_getElem? (i := 2) rfl)) (fun _ h9 => h9) rfl dX3_hideAll_48 ?_
  refine lv_iload hx hb dX3_hideAll_51 (lv_at hl 0 rfl) ?_
  refine lv_iload hx hb dX3_hideAll_53 (lv_at hl 0 rfl) ?_
  refine lv_aload_n hx hb dX3_hideAll_55 rfl (lv_at hl 3 rfl) ?_
  refine va_get (D := D) (ci := 3) (v := .ref (a 7)) (C := RX3) (T := TX3) (N := 11) hx hb hts hiX3 hown hK hP 12 rfl rfl 1 (by decide) (hts _ (List.mem_of_getElem? (i := 3) rfl)) (fun _ h9 => h9) rfl dX3_hideAll_56 ?_
  refine va_get (D := D) (ci := 8) (v := .ref (a 29)) (C := RX8) (T := TX8) (N := 12) hx hb hts hiX8 hown hK hP 11 rfl rfl 1 (by decide) (hts _ (List.mem_of_getElem? (i := 4) rfl)) (fun _ h9 => h9) rfl dX3_hideAll_59 ?_
  refine va_get (D := D) (ci := 2) (v := .int 0) (C := RX2) (T := TX2) (N := 2) hx hb hts hiX2 hown hK hP 13 rfl rfl 1 (by decide) (hts _ (List.mem_of_getElem? (i := 5) rfl)) (fun _ h9 => h9) rfl dX3_hideAll_62 ?_
  refine lv_icmp_ge (tgt := 78) hx hb dX3_hideAll_65 (by decide) (fun _ => ?_) (fun h9 => absurd (by decide) h9)
  refine lv_iconst (v := (-1)) hx hb dX3_hideAll_78 (by decide) ?_
  refine va_iast hx hb hK hP hD hS 0 8 rfl rfl (show ¬ (_ ∨ _) by decide) dX3_hideAll_79 (fun H locs hP hD hS => ?_)
  have hP : va_P D vwCl [(a 49, .inl (t 22, 7, .inl (upd (upd (upd (upd (upd (upd (upd (upd (upd (upd (upd (upd (upd (upd (fun _ => 0) 0 (-1)) 1 (-1)) 2 (-1)) 3 (-1)) 4 (-1)) 5 (-1)) 6 (-1)) 0 (-1)) 1 (-1)) 2 (-1)) 3 (-1)) 4 (-1)) 5 (-1)) 6 (-1)))), (a 11, .inr (4, [.ref (a 7), .int 0, .int 0, .int 0, .ref (a 44), .ref (a 45), .ref (a 46), .ref (a 47)])), (a 44, .inl (t 17, 7, .inl (fun _ => 0))), (a 45, .inl (t 18, 6, .inl (fun _ => 0))), (a 46, .inl (t 19, 6, .inl (fun _ => 0))), (a 47, .inl (t 20, 6, .inl (fun _ => 0))), (a 8, .inr (4, [.ref (a 7), .int 0, .int 0, .int 0, .ref (a 37), .ref (a 38), .ref (a 39), .ref (a 40)])), (a 37, .inl (t 13, 7, .inl (fun _ => 0))), (a 38, .inl (t 14, 6, .inl (fun _ => 0))), (a 39, .inl (t 15, 6, .inl (fun _ => 0))), (a 40, .inl (t 16, 6, .inl (fun _ => 0))), (a 7, .inr (8, [.ref (a 28), .ref (a 29), .ref (a 30), .int 0, .ref (a 31), .ref (a 32), .ref (a 33), .int 0, .ref (a 34), .ref (a 35), .ref (a 36), .int 2])), (a 13, .inr (3, [.ref (a 8), .ref (a 7), .ref (a 110), .ref (a 111), .ref (a 48), .int 0, .ref (a 112), .int (-1), .ref (a 49), .ref (a 113), .int (-1)])), (a 29, .inr (2, [.ref (a 78), .int 0]))] H := hP
  have hD : va_D A [(a 49, .inl (t 22, 7, .inl (upd (upd (upd (upd (upd (upd (upd (upd (upd (upd (upd (upd (upd (upd (fun _ => 0) 0 (-1)) 1 (-1)) 2 (-1)) 3 (-1)) 4 (-1)) 5 (-1)) 6 (-1)) 0 (-1)) 1 (-1)) 2 (-1)) 3 (-1)) 4 (-1)) 5 (-1)) 6 (-1)))), (a 11, .inr (4, [.ref (a 7), .int 0, .int 0, .int 0, .ref (a 44), .ref (a 45), .ref (a 46), .ref (a 47)])), (a 44, .inl (t 17, 7, .inl (fun _ => 0))), (a 45, .inl (t 18, 6, .inl (fun _ => 0))), (a 46, .inl (t 19, 6, .inl (fun _ => 0))), (a 47, .inl (t 20, 6, .inl (fun _ => 0))), (a 8, .inr (4, [.ref (a 7), .int 0, .int 0, .int 0, .ref (a 37), .ref (a 38), .ref (a 39), .ref (a 40)])), (a 37, .inl (t 13, 7, .inl (fun _ => 0))), (a 38, .inl (t 14, 6, .inl (fun _ => 0))), (a 39, .inl (t 15, 6, .inl (fun _ => 0))), (a 40, .inl (t 16, 6, .inl (fun _ => 0))), (a 7, .inr (8, [.ref (a 28), .ref (a 29), .ref (a 30), .int 0, .ref (a 31), .ref (a 32), .ref (a 33), .int 0, .ref (a 34), .ref (a 35), .ref (a 36), .int 2])), (a 13, .inr (3, [.ref (a 8), .ref (a 7), .ref (a 110), .ref (a 111), .ref (a 48), .int 0, .ref (a 112), .int (-1), .ref (a 49), .ref (a 113), .int (-1)])), (a 29, .inr (2, [.ref (a 78), .int 0]))] := hD
  refine lv_iinc (v := 7) (lv' := [(4, .int 7), (2, .int 1), (3, .int 0), (0, .ref (a 13)), (1, .ref (a 11))]) hx hb dX3_hideAll_80 hl (k := 0) rfl (by decide) (by decide) rfl (fun ls hl => ?_)
  refine lv_goto (tgt := 37) hx hb dX3_hideAll_83 (by decide) ?_
  refine lv_iload hx hb dX3_hideAll_37 (lv_at hl 0 rfl) ?_
  refine lv_aload_n hx hb dX3_hideAll_39 rfl (lv_at hl 3 rfl) ?_
  refine va_get (D := D) (ci := 3) (v := .ref (a 49)) (C := RX3) (T := TX3) (N := 11) hx hb hts hiX3 hown hK hP 12 rfl rfl 8 (by decide) (hts _ (List.mem_of_getElem? (i := 2) rfl)) (fun _ h9 => h9) rfl dX3_hideAll_40 ?_
  refine va_alen (v := 7) hx hb hK hP 0 8 rfl rfl rfl dX3_hideAll_43 ?_
  refine lv_icmp_ge (tgt := 86) hx hb dX3_hideAll_44 (by decide) (fun _ => ?_) (fun h9 => absurd (by decide) h9)
  refine lv_iload_n hx hb dX3_hideAll_86 rfl (lv_at hl 1 rfl) ?_
  refine W.widen (k := 0) (n := 0) (by decide) (by decide) ?_
  exact hret 1 ([(a 49, .inl (t 22, 7, .inl (upd (upd (upd (upd (upd (upd (upd (upd (upd (upd (upd (upd (upd (upd (fun _ => 0) 0 (-1)) 1 (-1)) 2 (-1)) 3 (-1)) 4 (-1)) 5 (-1)) 6 (-1)) 0 (-1)) 1 (-1)) 2 (-1)) 3 (-1)) 4 (-1)) 5 (-1)) 6 (-1)))), (a 11, .inr (4, [.ref (a 7), .int 0, .int 0, .int 0, .ref (a 44), .ref (a 45), .ref (a 46), .ref (a 47)])), (a 44, .inl (t 17, 7, .inl (fun _ => 0))), (a 45, .inl (t 18, 6, .inl (fun _ => 0))), (a 46, .inl (t 19, 6, .inl (fun _ => 0))), (a 47, .inl (t 20, 6, .inl (fun _ => 0))), (a 8, .inr (4, [.ref (a 7), .int 0, .int 0, .int 0, .ref (a 37), .ref (a 38), .ref (a 39), .ref (a 40)])), (a 37, .inl (t 13, 7, .inl (fun _ => 0))), (a 38, .inl (t 14, 6, .inl (fun _ => 0))), (a 39, .inl (t 15, 6, .inl (fun _ => 0))), (a 40, .inl (t 16, 6, .inl (fun _ => 0))), (a 7, .inr (8, [.ref (a 28), .ref (a 29), .ref (a 30), .int 0, .ref (a 31), .ref (a 32), .ref (a 33), .int 0, .ref (a 34), .ref (a 35), .ref (a 36), .int 2])), (a 13, .inr (3, [.ref (a 8), .ref (a 7), .ref (a 110), .ref (a 111), .ref (a 48), .int 0, .ref (a 112), .int (-1), .ref (a 49), .ref (a 113), .int (-1)])), (a 29, .inr (2, [.ref (a 78), .int 0]))], []) _ _ _ _ dX3_hideAll_87 rfl ⟨rfl, rfl⟩ (hP.sub [0, 1, 2, 3, 4, 5, 6, 7, 8, 9, 10, 11, 12, 13] rfl) (hK.sub [] rfl) (hD.sub [0, 1, 2, 3, 4, 5, 6, 7, 8, 9, 10, 11, 12, 13] (by decide +kernel) rfl) hS
