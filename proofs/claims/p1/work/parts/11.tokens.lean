theorem dX7_start_0 : decode cX7_start 0 = .ok (.aload_n 0, 1) := by decide +kernel
theorem dX7_start_1 : decode cX7_start 1 = .ok (.iload_n 1, 1) := by decide +kernel
theorem dX7_start_2 : decode cX7_start 2 = .ok (.putfield 24, 3) := by decide +kernel
theorem dX7_start_5 : decode cX7_start 5 = .ok (.aload_n 0, 1) := by decide +kernel
theorem dX7_start_6 : decode cX7_start 6 = .ok (.iconst 0, 1) := by decide +kernel
theorem dX7_start_7 : decode cX7_start 7 = .ok (.putfield 28, 3) := by decide +kernel
theorem dX7_start_10 : decode cX7_start 10 = .ok (.aload_n 0, 1) := by decide +kernel
theorem dX7_start_11 : decode cX7_start 11 = .ok (.iconst 0, 1) := by decide +kernel
theorem dX7_start_12 : decode cX7_start 12 = .ok (.putfield 31, 3) := by decide +kernel
theorem dX7_start_15 : decode cX7_start 15 = .ok (.aload_n 0, 1) := by decide +kernel
theorem dX7_start_16 : decode cX7_start 16 = .ok (.iconst 0, 1) := by decide +kernel
theorem dX7_start_17 : decode cX7_start 17 = .ok (.putfield 34, 3) := by decide +kernel
theorem dX7_start_20 : decode cX7_start 20 = .ok (.aload_n 0, 1) := by decide +kernel
theorem dX7_start_21 : decode cX7_start 21 = .ok (.invokevirtual 37, 3) := by decide +kernel
theorem dX7_start_24 : decode cX7_start 24 = .ok (.return_, 1) := by decide +kernel
theorem dX7_advance_0 : decode cX7_advance 0 = .ok (.aload_n 0, 1) := by decide +kernel
theorem dX7_advance_1 : decode cX7_advance 1 = .ok (.getfield 28, 3) := by decide +kernel
theorem dX7_advance_4 : decode cX7_advance 4 = .ok (.istore_n 1, 1) := by decide +kernel
theorem dX7_advance_5 : decode cX7_advance 5 = .ok (.iload_n 1, 1) := by decide +kernel
theorem dX7_advance_6 : decode cX7_advance 6 = .ok (.aload_n 0, 1) := by decide +kernel
theorem dX7_advance_7 : decode cX7_advance 7 = .ok (.getfield 20, 3) := by decide +kernel
theorem dX7_advance_10 : decode cX7_advance 10 = .ok (.getfield 40, 3) := by decide +kernel
theorem dX7_advance_13 : decode cX7_advance 13 = .ok (.if_icmp .ge 23, 3) := by decide +kernel
theorem dX7_advance_36 : decode cX7_advance 36 = .ok (.aload_n 0, 1) := by decide +kernel
theorem dX7_advance_37 : decode cX7_advance 37 = .ok (.getstatic 9, 3) := by decide +kernel
theorem dX7_advance_40 : decode cX7_advance 40 = .ok (.putfield 15, 3) := by decide +kernel
theorem dX7_advance_43 : decode cX7_advance 43 = .ok (.aload_n 0, 1) := by decide +kernel
theorem dX7_advance_44 : decode cX7_advance 44 = .ok (.iconst 0, 1) := by decide +kernel
theorem dX7_advance_45 : decode cX7_advance 45 = .ok (.putfield 53, 3) := by decide +kernel
theorem dX7_advance_48 : decode cX7_advance 48 = .ok (.aload_n 0, 1) := by decide +kernel
theorem dX7_advance_49 : decode cX7_advance 49 = .ok (.lconst 0, 1) := by decide +kernel
theorem dX7_advance_50 : decode cX7_advance 50 = .ok (.putfield 56, 3) := by decide +kernel
theorem dX7_advance_53 : decode cX7_advance 53 = .ok (.iload_n 1, 1) := by decide +kernel
theorem dX7_advance_54 : decode cX7_advance 54 = .ok (.aload_n 0, 1) := by decide +kernel
theorem dX7_advance_55 : decode cX7_advance 55 = .ok (.getfield 20, 3) := by decide +kernel
theorem dX7_advance_58 : decode cX7_advance 58 = .ok (.getfield 40, 3) := by decide +kernel
theorem dX7_advance_61 : decode cX7_advance 61 = .ok (.if_icmp .ge 11, 3) := by decide +kernel
theorem dX7_advance_72 : decode cX7_advance 72 = .ok (.aload_n 0, 1) := by decide +kernel
theorem dX7_advance_73 : decode cX7_advance 73 = .ok (.invokevirtual 60, 3) := by decide +kernel
theorem dX7_advance_76 : decode cX7_advance 76 = .ok (.goto 44, 3) := by decide +kernel
theorem dX7_advance_120 : decode cX7_advance 120 = .ok (.return_, 1) := by decide +kernel
theorem dX7_stop_0 : decode cX7_stop 0 = .ok (.aload_n 0, 1) := by decide +kernel
theorem dX7_stop_1 : decode cX7_stop 1 = .ok (.aload_n 0, 1) := by decide +kernel
theorem dX7_stop_2 : decode cX7_stop 2 = .ok (.getfield 20, 3) := by decide +kernel
theorem dX7_stop_5 : decode cX7_stop 5 = .ok (.getfield 40, 3) := by decide +kernel
theorem dX7_stop_8 : decode cX7_stop 8 = .ok (.aload_n 0, 1) := by decide +kernel
theorem dX7_stop_9 : decode cX7_stop 9 = .ok (.getfield 24, 3) := by decide +kernel
theorem dX7_stop_12 : decode cX7_stop 12 = .ok (.if_icmp .le 7, 3) := by decide +kernel
theorem dX7_stop_19 : decode cX7_stop 19 = .ok (.iconst 0, 1) := by decide +kernel
theorem dX7_stop_20 : decode cX7_stop 20 = .ok (.putfield 76, 3) := by decide +kernel
theorem dX7_stop_23 : decode cX7_stop 23 = .ok (.aload_n 0, 1) := by decide +kernel
theorem dX7_stop_24 : decode cX7_stop 24 = .ok (.aload_n 0, 1) := by decide +kernel
theorem dX7_stop_25 : decode cX7_stop 25 = .ok (.getfield 20, 3) := by decide +kernel
theorem dX7_stop_28 : decode cX7_stop 28 = .ok (.getfield 40, 3) := by decide +kernel
theorem dX7_stop_31 : decode cX7_stop 31 = .ok (.aload_n 0, 1) := by decide +kernel
theorem dX7_stop_32 : decode cX7_stop 32 = .ok (.getfield 24, 3) := by decide +kernel
theorem dX7_stop_35 : decode cX7_stop 35 = .ok (.invokestatic 79, 3) := by decide +kernel
theorem dX7_stop_38 : decode cX7_stop 38 = .ok (.putfield 85, 3) := by decide +kernel
theorem dX7_stop_41 : decode cX7_stop 41 = .ok (.aload_n 0, 1) := by decide +kernel
theorem dX7_stop_42 : decode cX7_stop 42 = .ok (.aload_n 0, 1) := by decide +kernel
theorem dX7_stop_43 : decode cX7_stop 43 = .ok (.getfield 20, 3) := by decide +kernel
theorem dX7_stop_46 : decode cX7_stop 46 = .ok (.getfield 40, 3) := by decide +kernel
theorem dX7_stop_49 : decode cX7_stop 49 = .ok (.putfield 28, 3) := by decide +kernel
theorem dX7_stop_52 : decode cX7_stop 52 = .ok (.return_, 1) := by decide +kernel
theorem dX7_isEnd_0 : decode cX7_isEnd 0 = .ok (.aload_n 0, 1) := by decide +kernel
theorem dX7_isEnd_1 : decode cX7_isEnd 1 = .ok (.getfield 76, 3) := by decide +kernel
theorem dX7_isEnd_4 : decode cX7_isEnd 4 = .ok (.ifCond .ne 7, 3) := by decide +kernel
theorem dX7_isEnd_7 : decode cX7_isEnd 7 = .ok (.iconst 1, 1) := by decide +kernel
theorem dX7_isEnd_8 : decode cX7_isEnd 8 = .ok (.goto 4, 3) := by decide +kernel
theorem dX7_isEnd_12 : decode cX7_isEnd 12 = .ok (.ireturn, 1) := by decide +kernel
theorem dX7_isSign_0 : decode cX7_isSign 0 = .ok (.aload_n 0, 1) := by decide +kernel
theorem dX7_isSign_1 : decode cX7_isSign 1 = .ok (.getfield 76, 3) := by decide +kernel
theorem dX7_isSign_4 : decode cX7_isSign 4 = .ok (.iconst 2, 1) := by decide +kernel
theorem dX7_isSign_5 : decode cX7_isSign 5 = .ok (.if_icmp .ne 15, 3) := by decide +kernel
theorem dX7_isSign_20 : decode cX7_isSign 20 = .ok (.iconst 0, 1) := by decide +kernel
theorem dX7_isSign_21 : decode cX7_isSign 21 = .ok (.ireturn, 1) := by decide +kernel
theorem dX7_wordHere_0 : decode cX7_wordHere 0 = .ok (.aload_n 0, 1) := by decide +kernel
theorem dX7_wordHere_1 : decode cX7_wordHere 1 = .ok (.getfield 15, 3) := by decide +kernel
theorem dX7_wordHere_4 : decode cX7_wordHere 4 = .ok (.areturn, 1) := by decide +kernel
theorem dX7_fails_0 : decode cX7_fails 0 = .ok (.aload_n 0, 1) := by decide +kernel
theorem dX7_fails_1 : decode cX7_fails 1 = .ok (.getfield 31, 3) := by decide +kernel
theorem dX7_fails_4 : decode cX7_fails 4 = .ok (.ifCond .ne 16, 3) := by decide +kernel
theorem dX7_fails_7 : decode cX7_fails 7 = .ok (.aload_n 0, 1) := by decide +kernel
theorem dX7_fails_8 : decode cX7_fails 8 = .ok (.iload_n 1, 1) := by decide +kernel
theorem dX7_fails_9 : decode cX7_fails 9 = .ok (.putfield 31, 3) := by decide +kernel
theorem dX7_fails_12 : decode cX7_fails 12 = .ok (.aload_n 0, 1) := by decide +kernel
theorem dX7_fails_13 : decode cX7_fails 13 = .ok (.aload_n 0, 1) := by decide +kernel
theorem dX7_fails_14 : decode cX7_fails 14 = .ok (.getfield 85, 3) := by decide +kernel
theorem dX7_fails_17 : decode cX7_fails 17 = .ok (.putfield 34, 3) := by decide +kernel
theorem dX7_fails_20 : decode cX7_fails 20 = .ok (.iconst 0, 1) := by decide +kernel
theorem dX7_fails_21 : decode cX7_fails 21 = .ok (.ireturn, 1) := by decide +kernel
theorem dX9_countsSomething_0 : decode cX9_countsSomething 0 = .ok (.aload_n 0, 1) := by decide +kernel
theorem dX9_countsSomething_1 : decode cX9_countsSomething 1 = .ok (.getstatic 61, 3) := by decide +kernel
theorem dX9_countsSomething_4 : decode cX9_countsSomething 4 = .ok (.if_acmp .eq 17, 3) := by decide +kernel
theorem dX9_countsSomething_7 : decode cX9_countsSomething 7 = .ok (.aload_n 0, 1) := by decide +kernel
theorem dX9_countsSomething_8 : decode cX9_countsSomething 8 = .ok (.getstatic 64, 3) := by decide +kernel
theorem dX9_countsSomething_11 : decode cX9_countsSomething 11 = .ok (.if_acmp .eq 10, 3) := by decide +kernel
theorem dX9_countsSomething_14 : decode cX9_countsSomething 14 = .ok (.aload_n 0, 1) := by decide +kernel
theorem dX9_countsSomething_15 : decode cX9_countsSomething 15 = .ok (.getstatic 67, 3) := by decide +kernel
theorem dX9_countsSomething_18 : decode cX9_countsSomething 18 = .ok (.if_acmp .ne 7, 3) := by decide +kernel
theorem dX9_countsSomething_25 : decode cX9_countsSomething 25 = .ok (.iconst 0, 1) := by decide +kernel
theorem dX9_countsSomething_26 : decode cX9_countsSomething 26 = .ok (.ireturn, 1) := by decide +kernel
theorem dX9_beginsOne_0 : decode cX9_beginsOne 0 = .ok (.aload_n 0, 1) := by decide +kernel
theorem dX9_beginsOne_1 : decode cX9_beginsOne 1 = .ok (.getstatic 46, 3) := by decide +kernel
theorem dX9_beginsOne_4 : decode cX9_beginsOne 4 = .ok (.if_acmp .eq 45, 3) := by decide +kernel
theorem dX9_beginsOne_7 : decode cX9_beginsOne 7 = .ok (.aload_n 0, 1) := by decide +kernel
theorem dX9_beginsOne_8 : decode cX9_beginsOne 8 = .ok (.getstatic 13, 3) := by decide +kernel
theorem dX9_beginsOne_11 : decode cX9_beginsOne 11 = .ok (.if_acmp .eq 38, 3) := by decide +kernel
theorem dX9_beginsOne_14 : decode cX9_beginsOne 14 = .ok (.aload_n 0, 1) := by decide +kernel
theorem dX9_beginsOne_15 : decode cX9_beginsOne 15 = .ok (.getstatic 49, 3) := by decide +kernel
theorem dX9_beginsOne_18 : decode cX9_beginsOne 18 = .ok (.if_acmp .eq 31, 3) := by decide +kernel
theorem dX9_beginsOne_21 : decode cX9_beginsOne 21 = .ok (.aload_n 0, 1) := by decide +kernel
theorem dX9_beginsOne_22 : decode cX9_beginsOne 22 = .ok (.getstatic 52, 3) := by decide +kernel
theorem dX9_beginsOne_25 : decode cX9_beginsOne 25 = .ok (.if_acmp .eq 24, 3) := by decide +kernel
theorem dX9_beginsOne_28 : decode cX9_beginsOne 28 = .ok (.aload_n 0, 1) := by decide +kernel
theorem dX9_beginsOne_29 : decode cX9_beginsOne 29 = .ok (.getstatic 55, 3) := by decide +kernel
theorem dX9_beginsOne_32 : decode cX9_beginsOne 32 = .ok (.if_acmp .eq 17, 3) := by decide +kernel
theorem dX9_beginsOne_35 : decode cX9_beginsOne 35 = .ok (.aload_n 0, 1) := by decide +kernel
theorem dX9_beginsOne_36 : decode cX9_beginsOne 36 = .ok (.getstatic 58, 3) := by decide +kernel
theorem dX9_beginsOne_39 : decode cX9_beginsOne 39 = .ok (.if_acmp .eq 10, 3) := by decide +kernel
theorem dX9_beginsOne_42 : decode cX9_beginsOne 42 = .ok (.aload_n 0, 1) := by decide +kernel
theorem dX9_beginsOne_43 : decode cX9_beginsOne 43 = .ok (.invokevirtual 114, 3) := by decide +kernel
theorem dX9_beginsOne_46 : decode cX9_beginsOne 46 = .ok (.ifCond .eq 7, 3) := by decide +kernel
theorem dX9_beginsOne_53 : decode cX9_beginsOne 53 = .ok (.iconst 0, 1) := by decide +kernel
theorem dX9_beginsOne_54 : decode cX9_beginsOne 54 = .ok (.ireturn, 1) := by decide +kernel
theorem dX10_copyFrom_0 : decode cX10_copyFrom 0 = .ok (.aload_n 0, 1) := by decide +kernel
theorem dX10_copyFrom_1 : decode cX10_copyFrom 1 = .ok (.getfield 10, 3) := by decide +kernel
theorem dX10_copyFrom_4 : decode cX10_copyFrom 4 = .ok (.aload_n 1, 1) := by decide +kernel
theorem dX10_copyFrom_5 : decode cX10_copyFrom 5 = .ok (.getfield 10, 3) := by decide +kernel
theorem dX10_copyFrom_8 : decode cX10_copyFrom 8 = .ok (.invokevirtual 32, 3) := by decide +kernel
theorem dX10_copyFrom_11 : decode cX10_copyFrom 11 = .ok (.aload_n 0, 1) := by decide +kernel
theorem dX10_copyFrom_12 : decode cX10_copyFrom 12 = .ok (.getfield 21, 3) := by decide +kernel
theorem dX10_copyFrom_15 : decode cX10_copyFrom 15 = .ok (.aload_n 1, 1) := by decide +kernel
theorem dX10_copyFrom_16 : decode cX10_copyFrom 16 = .ok (.getfield 21, 3) := by decide +kernel
theorem dX10_copyFrom_19 : decode cX10_copyFrom 19 = .ok (.invokevirtual 35, 3) := by decide +kernel
theorem dX10_copyFrom_22 : decode cX10_copyFrom 22 = .ok (.aload_n 0, 1) := by decide +kernel
theorem dX10_copyFrom_23 : decode cX10_copyFrom 23 = .ok (.getfield 28, 3) := by decide +kernel
theorem dX10_copyFrom_26 : decode cX10_copyFrom 26 = .ok (.aload_n 1, 1) := by decide +kernel
theorem dX10_copyFrom_27 : decode cX10_copyFrom 27 = .ok (.getfield 28, 3) := by decide +kernel
theorem dX10_copyFrom_30 : decode cX10_copyFrom 30 = .ok (.invokevirtual 38, 3) := by decide +kernel
theorem dX10_copyFrom_33 : decode cX10_copyFrom 33 = .ok (.return_, 1) := by decide +kernel
set_option maxRecDepth 20000 in
theorem ggX7_start_X7_advance : GoodIn wsX7_start wsX7_advance := goodIn_r _ [9, 2, 10, 11, 12, 13, 14, 15, 1, 16, 17, 18, 19, 20, 21, 22, 23, 24, 8, 25, 26, 27, 28, 29, 30, 31, 32, 33, 34, 35, 36, 37, 38, 39, 40, 41, 42, 43, 44, 45, 46, 47, 48, 49, 50, 51, 52, 53, 54, 55, 56, 57, 58, 59, 60, 61, 62, 63, 64, 65, 66, 67, 68, 69, 70, 71, 72, 73, 74] (by decide +kernel) (by decide +kernel)
set_option maxRecDepth 20000 in
theorem gX7_start_X7_advance : GoodIn wsX7_start (wsV RX7 37 RX7 yX7_advance wsX7_advance) := goodIn_app (goodIn_of _ (by decide +kernel)) ggX7_start_X7_advance
set_option maxRecDepth 20000 in
theorem ggX7_advance_X7_stop : GoodIn wsX7_advance wsX7_stop := goodIn_r _ [23, 2, 3, 8, 24, 25, 26, 27, 28, 29, 1, 57, 58, 59, 60, 61, 62, 63, 64, 65, 66, 67, 68] (by decide +kernel) (by decide +kernel)
set_option maxRecDepth 20000 in
theorem gX7_advance_X7_stop : GoodIn wsX7_advance (wsV RX7 60 RX7 yX7_stop wsX7_stop) := goodIn_app (goodIn_of _ (by decide +kernel)) ggX7_advance_X7_stop
set_option maxRecDepth 20000 in
theorem ggX9_beginsOne_X9_countsSomething : GoodIn wsX9_beginsOne wsX9_countsSomething := goodIn_r _ [11, 12, 13, 14] (by decide +kernel) (by decide +kernel)
set_option maxRecDepth 20000 in
theorem gX9_beginsOne_X9_countsSomething : GoodIn wsX9_beginsOne (wsV RX9 114 RX9 yX9_countsSomething wsX9_countsSomething) := goodIn_app (goodIn_of _ (by decide +kernel)) ggX9_beginsOne_X9_countsSomething
set_option maxRecDepth 20000 in
theorem ggX10_copyFrom_X8_copyFrom : GoodIn wsX10_copyFrom wsX8_copyFrom := goodIn_r _ [8, 9, 10, 11, 12, 13, 14, 15, 16, 17, 18, 19, 20, 21, 22, 23, 24, 25, 26, 27, 28, 29, 30, 31, 32, 60, 61, 62, 63, 64, 65, 66, 67, 68, 69, 70, 71, 72, 73] (by decide +kernel) (by decide +kernel)
set_option maxRecDepth 20000 in
theorem gX10_copyFrom_X8_copyFrom : GoodIn wsX10_copyFrom (wsV RX10 32 RX8 yX8_copyFrom wsX8_copyFrom) := goodIn_app (goodIn_of _ (by decide +kernel)) ggX10_copyFrom_X8_copyFrom
set_option maxRecDepth 20000 in
theorem ggX10_copyFrom_X4_copyFrom : GoodIn wsX10_copyFrom wsX4_copyFrom := goodIn_r _ [37, 38, 39, 40, 41, 42, 15, 16, 17, 43, 44, 45, 74, 75, 76, 77, 78, 79, 80, 81] (by decide +kernel) (by decide +kernel)
set_option maxRecDepth 20000 in
theorem gX10_copyFrom_X4_copyFrom : GoodIn wsX10_copyFrom (wsV RX10 35 RX4 yX4_copyFrom wsX4_copyFrom) := goodIn_app (goodIn_of _ (by decide +kernel)) ggX10_copyFrom_X4_copyFrom
set_option maxRecDepth 20000 in
theorem ggX10_copyFrom_X5_copyFrom : GoodIn wsX10_copyFrom wsX5_copyFrom := goodIn_r _ [50, 51, 52, 53, 54, 55, 82, 83, 84, 85, 86, 87, 88, 89, 90, 91] (by decide +kernel) (by decide +kernel)
set_option maxRecDepth 20000 in
theorem gX10_copyFrom_X5_copyFrom : GoodIn wsX10_copyFrom (wsV RX10 38 RX5 yX5_copyFrom wsX5_copyFrom) := goodIn_app (goodIn_of _ (by decide +kernel)) ggX10_copyFrom_X5_copyFrom
set_option maxHeartbeats 8000000 in
set_option maxRecDepth 100000 in
theorem k_X10_copyFrom (l : Launch) (D : va_G) (ad : Nat → Nat) (c0 : ClassId) (c1 : ClassId) (c10 : ClassId) (c11 : ClassId) (c12 : ClassId) (c2 : ClassId) (c3 : ClassId) (c4 : ClassId) (c5 : ClassId) (c6 : ClassId) (c7 : ClassId) (c8 : ClassId) (c9 : ClassId) (x0 : Nat) (x1 : Nat) (x10 : Nat) (x11 : Nat) (x12 : Nat) (x13 : Nat) (x14 : Nat) (x15 : Nat) (x16 : Nat) (x17 : Nat) (x18 : Nat) (x19 : Nat) (x2 : Nat) (x20 : Nat) (x21 : Nat) (x22 : Nat) (x23 : Nat) (x24 : Nat) (x3 : Nat) (x4 : Nat) (x5 : Nat) (x6 : Nat) (x7 : Nat) (x8 : Nat) (x9 : Nat) (d0 : ClassId) (d1 : ClassId) (d10 : ClassId) (d11 : ClassId) (d12 : ClassId) (d2 : ClassId) (d3 : ClassId) (d4 : ClassId) (d5 : ClassId) (d6 : ClassId) (d7 : ClassId) (d8 : ClassId) (d9 : ClassId) (y0 : Nat) (y1 : Nat) (y10 : Nat) (y11 : Nat) (y12 : Nat) (y13 : Nat) (y14 : Nat) (y15 : Nat) (y16 : Nat) (y17 : Nat) (y18 : Nat) (y19 : Nat) (y2 : Nat) (y20 : Nat) (y21 : Nat) (y22 : Nat) (y23 : Nat) (y24 : Nat) (y3 : Nat) (y4 : Nat) (y5 : Nat) (y6 : Nat) (y7 : Nat) (y8 : Nat) (y9 : Nat)  : z_Mv l yX10_copyFrom wsX10_copyFrom { frames := 3, cells := 0, slots := 0, locals := 122 } D ad [.ref x0, .ref y0] [(x0, .inr (9, [.ref x1, .ref x2, .ref x3, .int 0])), (x1, .inr (8, [.ref x4, .ref x5, .ref x6, .int 0, .ref x7, .ref x8, .ref x9, .int 0, .ref x10, .ref x11, .ref x12, .int 2])), (x2, .inr (4, [.ref x1, .int 0, .int 0, .int 0, .ref x13, .ref x14, .ref x15, .ref x16])), (x3, .inr (5, [.ref x20, .ref x21, .ref x22, .ref x23, .ref x24, .int 0, .int 0, .int 0, .int 0, .int 0])), (x4, .inr (2, [.ref x17, .int 0])), (x5, .inr (2, [.ref x18, .int 0])), (x6, .inr (2, [.ref x19, .int 0])), (x7, .inl (c0, 7, .inl (fun _ => 0))), (x8, .inl (c1, 6, .inl (fun _ => 0))), (x9, .inl (c2, 6, .inl (fun _ => 0))), (x10, .inl (c3, 14, .inl (fun _ => 0))), (x11, .inl (c4, 14, .inl (fun _ => 0))), (x12, .inl (c5, 14, .inl (fun _ => 0))), (x13, .inl (c6, 7, .inl (fun _ => 0))), (x14, .inl (c7, 6, .inl (fun _ => 0))), (x15, .inl (c8, 6, .inl (fun _ => 0))), (x16, .inl (c9, 6, .inl (fun _ => 0))), (x17, .inl (c10, 5, .inr (.inl (fun _ => 0)))), (x18, .inl (c11, 7, .inr (.inl (fun _ => 0)))), (x19, .inl (c12, 6, .inr (.inl (fun _ => 0)))), (y0, .inr (9, [.ref y1, .ref y2, .ref y3, .int 0])), (y1, .inr (8, [.ref y4, .ref y5, .ref y6, .int 0, .ref y7, .ref y8, .ref y9, .int 0, .ref y10, .ref y11, .ref y12, .int 2])), (y2, .inr (4, [.ref y1, .int 0, .int 0, .int 0, .ref y13, .ref y14, .ref y15, .ref y16])), (y3, .inr (5, [.ref y20, .ref y21, .ref y22, .ref y23, .ref y24, .int 0, .int 0, .int 0, .int 0, .int 0])), (y4, .inr (2, [.ref y17, .int 0])), (y5, .inr (2, [.ref y18, .int 0])), (y6, .inr (2, [.ref y19, .int 0])), (y7, .inl (d0, 7, .inl (fun _ => 0))), (y8, .inl (d1, 6, .inl (fun _ => 0))), (y9, .inl (d2, 6, .inl (fun _ => 0))), (y10, .inl (d3, 14, .inl (fun _ => 0))), (y11, .inl (d4, 14, .inl (fun _ => 0))), (y12, .inl (d5, 14, .inl (fun _ => 0))), (y13, .inl (d6, 7, .inl (fun _ => 0))), (y14, .inl (d7, 6, .inl (fun _ => 0))), (y15, .inl (d8, 6, .inl (fun _ => 0))), (y16, .inl (d9, 6, .inl (fun _ => 0))), (y17, .inl (d10, 5, .inr (.inl (fun _ => 0)))), (y18, .inl (d11, 7, .inr (.inl (fun _ => 0)))), (y19, .inl (d12, 6, .inr (.inl (fun _ => 0))))] [(c10, .long), (c11, .long), (c12, .long), (c0, .int), (c1, .int), (c2, .int), (c3, .int), (c4, .int), (c5, .int), (c6, .int), (c7, .int), (c8, .int), (c9, .int), (d10, .long), (d11, .long), (d12, .long), (d0, .int), (d1, .int), (d2, .int), (d3, .int), (d4, .int), (d5, .int), (d6, .int), (d7, .int), (d8, .int), (d9, .int)] 0 0 (fun u9 => u9 = ([(x0, .inr (9, [.ref x1, .ref x2, .ref x3, .int 0]))], [])) := by
  refine z_ofV (cc := cX10_copyFrom) (maxL := 2) (by decide) rfl (Nat.le_of_ble_eq_true rfl) ?_
  intro p e s m below meth c Q A ls hx hb hml hown hts hin hK hP hD hA hE hO hS hl hret
  have hown : s.vm.findClass RX10 = some m.cls := hown
  have hiX10 : ∀ w ∈ wsX100, w ∈ wsX10_copyFrom := fun _ h9 => List.mem_cons_of_mem _ (List.mem_append_left _ (List.mem_append_left _ (List.mem_append_left _ (List.mem_append_left _ (List.mem_append_right _ h9)))))
  have hiX8 : ∀ w ∈ wsX80, w ∈ wsX10_copyFrom := fun _ h9 => List.mem_cons_of_mem _ (List.mem_append_left _ (List.mem_append_left _ (List.mem_append_left _ (List.mem_append_right _ h9))))
  have hiX2 : ∀ w ∈ wsX20, w ∈ wsX10_copyFrom := fun _ h9 => List.mem_cons_of_mem _ (List.mem_append_left _ (List.mem_append_left _ (List.mem_append_right _ h9)))
  have hiX4 : ∀ w ∈ wsX40, w ∈ wsX10_copyFrom := fun _ h9 => List.mem_cons_of_mem _ (List.mem_append_left _ (List.mem_append_right _ h9))
  have hiX5 : ∀ w ∈ wsX50, w ∈ wsX10_copyFrom := fun _ h9 => List.mem_cons_of_mem _ (List.mem_append_right _ h9)
  have hl : lv_has ls 2 [(0, .ref x0), (1, .ref y0)] := hl
  refine lv_aload_n hx hb dX10_copyFrom_0 rfl (lv_at hl 0 rfl) ?_
  refine va_get (D := D) (ci := 9) (v := .ref x1) (C := RX10) (T := TX10) (N := 4) hx hb hts hiX10 hown hK hP 0 rfl rfl 0 (by decide) (hts _ (List.mem_of_getElem? (i := 1) rfl)) (fun _ h9 => h9) rfl dX10_copyFrom_1 ?_
  refine lv_aload_n hx hb dX10_copyFrom_4 rfl (lv_at hl 1 rfl) ?_
  refine va_get (D := D) (ci := 9) (v := .ref y1) (C := RX10) (T := TX10) (N := 4) hx hb hts hiX10 hown hK hP 20 rfl rfl 0 (by decide) (hts _ (List.mem_of_getElem? (i := 1) rfl)) (fun _ h9 => h9) rfl dX10_copyFrom_5 ?_
  have hc9 := (k_X8_copyFrom l D ad c0 c1 c10 c11 c12 c2 c3 c4 c5 x1 x10 x11 x12 x17 x18 x19 x4 x5 x6 x7 x8 x9 d0 d1 d10 d11 d12 d2 d3 d4 d5 y1 y10 y11 y12 y17 y18 y19 y4 y5 y6 y7 y8 y9 )
  refine z_callv (w0 := [(x1, .inr (8, [.ref x4, .ref x5, .ref x6, .int 0, .ref x7, .ref x8, .ref x9, .int 0, .ref x10, .ref x11, .ref x12, .int 2])), (x4, .inr (2, [.ref x17, .int 0])), (x5, .inr (2, [.ref x18, .int 0])), (x6, .inr (2, [.ref x19, .int 0])), (x7, .inl (c0, 7, .inl (fun _ => 0))), (x8, .inl (c1, 6, .inl (fun _ => 0))), (x9, .inl (c2, 6, .inl (fun _ => 0))), (x10, .inl (c3, 14, .inl (fun _ => 0))), (x11, .inl (c4, 14, .inl (fun _ => 0))), (x12, .inl (c5, 14, .inl (fun _ => 0))), (x17, .inl (c10, 5, .inr (.inl (fun _ => 0)))), (x18, .inl (c11, 7, .inr (.inl (fun _ => 0)))), (x19, .inl (c12, 6, .inr (.inl (fun _ => 0)))), (y1, .inr (8, [.ref y4, .ref y5, .ref y6, .int 0, .ref y7, .ref y8, .ref y9, .int 0, .ref y10, .ref y11, .ref y12, .int 2])), (y4, .inr (2, [.ref y17, .int 0])), (y5, .inr (2, [.ref y18, .int 0])), (y6, .inr (2, [.ref y19, .int 0])), (y7, .inl (d0, 7, .inl (fun _ => 0))), (y8, .inl (d1, 6, .inl (fun _ => 0))), (y9, .inl (d2, 6, .inl (fun _ => 0))), (y10, .inl (d3, 14, .inl (fun _ => 0))), (y11, .inl (d4, 14, .inl (fun _ => 0))), (y12, .inl (d5, 14, .inl (fun _ => 0))), (y17, .inl (d10, 5, .inr (.inl (fun _ => 0)))), (y18, .inl (d11, 7, .inr (.inl (fun _ => 0)))), (y19, .inl (d12, 6, .inr (.inl (fun _ => 0))))]) (wr := [(x0, .inr (9, [.ref x1, .ref x2, .ref x3, .int 0])), (x2, .inr (4, [.ref x1, .int 0, .int 0, .int 0, .ref x13, .ref x14, .ref x15, .ref x16])), (x3, .inr (5, [.ref x20, .ref x21, .ref x22, .ref x23, .ref x24, .int 0, .int 0, .int 0, .int 0, .int 0])), (x13, .inl (c6, 7, .inl (fun _ => 0))), (x14, .inl (c7, 6, .inl (fun _ => 0))), (x15, .inl (c8, 6, .inl (fun _ => 0))), (x16, .inl (c9, 6, .inl (fun _ => 0))), (y0, .inr (9, [.ref y1, .ref y2, .ref y3, .int 0])), (y2, .inr (4, [.ref y1, .int 0, .int 0, .int 0, .ref y13, .ref y14, .ref y15, .ref y16])), (y3, .inr (5, [.ref y20, .ref y21, .ref y22, .ref y23, .ref y24, .int 0, .int 0, .int 0, .int 0, .int 0])), (y13, .inl (d6, 7, .inl (fun _ => 0))), (y14, .inl (d7, 6, .inl (fun _ => 0))), (y15, .inl (d8, 6, .inl (fun _ => 0))), (y16, .inl (d9, 6, .inl (fun _ => 0)))]) (va_runV (As := [.ref y1]) (rest := []) ⟨hx, hb, hml, hown, hts⟩ (hc9 _) (cwV 1 hts gX10_copyFrom_X8_copyFrom rfl rfl rfl (by decide +kernel) ⟨Nat.le_of_ble_eq_true rfl, Nat.le_of_ble_eq_true rfl⟩) (z_preV hP hD hK hS hA hE hO [1, 4, 5, 6, 7, 8, 9, 10, 11, 12, 17, 18, 19, 21, 24, 25, 26, 27, 28, 29, 30, 31, 32, 37, 38, 39] [0, 1, 2, 3, 4, 5, 6, 7, 8, 13, 14, 15, 16, 17, 18, 19, 20, 21] rfl (by decide +kernel) rfl 1 8 rfl rfl rfl) rfl rfl hl.1 rfl (lv_room (Nat.le_of_ble_eq_true rfl)) dX10_copyFrom_8 ⟨Nat.le_of_ble_eq_true rfl, Nat.le_of_ble_eq_true rfl⟩) hP hD hK hS hA [1, 4, 5, 6, 7, 8, 9, 10, 11, 12, 17, 18, 19, 21, 24, 25, 26, 27, 28, 29, 30, 31, 32, 37, 38, 39] [0, 2, 3, 13, 14, 15, 16, 20, 22, 23, 33, 34, 35, 36] rfl rfl (by decide +kernel) (by decide +kernel) (fun u9 H locs hw hP hD hK hS => ?_)
  obtain ⟨rfl⟩ := hw
  have hP : va_P D vwCl [(x0, .inr (9, [.ref x1, .ref x2, .ref x3, .int 0])), (x2, .inr (4, [.ref x1, .int 0, .int 0, .int 0, .ref x13, .ref x14, .ref x15, .ref x16])), (x3, .inr (5, [.ref x20, .ref x21, .ref x22, .ref x23, .ref x24, .int 0, .int 0, .int 0, .int 0, .int 0])), (x13, .inl (c6, 7, .inl (fun _ => 0))), (x14, .inl (c7, 6, .inl (fun _ => 0))), (x15, .inl (c8, 6, .inl (fun _ => 0))), (x16, .inl (c9, 6, .inl (fun _ => 0))), (y0, .inr (9, [.ref y1, .ref y2, .ref y3, .int 0])), (y2, .inr (4, [.ref y1, .int 0, .int 0, .int 0, .ref y13, .ref y14, .ref y15, .ref y16])), (y3, .inr (5, [.ref y20, .ref y21, .ref y22, .ref y23, .ref y24, .int 0, .int 0, .int 0, .int 0, .int 0])), (y13, .inl (d6, 7, .inl (fun _ => 0))), (y14, .inl (d7, 6, .inl (fun _ => 0))), (y15, .inl (d8, 6, .inl (fun _ => 0))), (y16, .inl (d9, 6, .inl (fun _ => 0))), (x1, .inr (8, [.ref x4, .ref x5, .ref x6, .int 0, .ref x7, .ref x8, .ref x9, .int 0, .ref x10, .ref x11, .ref x12, .int 2])), (x7, .inl (c0, 7, .inl (fun _ => 0))), (x8, .inl (c1, 6, .inl (fun _ => 0))), (x9, .inl (c2, 6, .inl (fun _ => 0))), (x10, .inl (c3, 14, .inl (fun _ => 0))), (x11, .inl (c4, 14, .inl (fun _ => 0))), (x12, .inl (c5, 14, .inl (fun _ => 0))), (y1, .inr (8, [.ref y4, .ref y5, .ref y6, .int 0, .ref y7, .ref y8, .ref y9, .int 0, .ref y10, .ref y11, .ref y12, .int 2])), (y7, .inl (d0, 7, .inl (fun _ => 0))), (y8, .inl (d1, 6, .inl (fun _ => 0))), (y9, .inl (d2, 6, .inl (fun _ => 0))), (y10, .inl (d3, 14, .inl (fun _ => 0))), (y11, .inl (d4, 14, .inl (fun _ => 0))), (y12, .inl (d5, 14, .inl (fun _ => 0))), (x4, .inr (2, [.ref x17, .int 0])), (x17, .inl (c10, 5, .inr (.inl (fun _ => 0)))), (y4, .inr (2, [.ref y17, .int 0])), (y17, .inl (d10, 5, .inr (.inl (fun _ => 0)))), (x5, .inr (2, [.ref x18, .int 0])), (x18, .inl (c11, 7, .inr (.inl (fun _ => 0)))), (y5, .inr (2, [.ref y18, .int 0])), (y18, .inl (d11, 7, .inr (.inl (fun _ => 0)))), (x6, .inr (2, [.ref x19, .int 0])), (x19, .inl (c12, 6, .inr (.inl (fun _ => 0)))), (y6, .inr (2, [.ref y19, .int 0])), (y19, .inl (d12, 6, .inr (.inl (fun _ => 0))))] H := hP
  have hD : va_D A [(x0, .inr (9, [.ref x1, .ref x2, .ref x3, .int 0])), (x2, .inr (4, [.ref x1, .int 0, .int 0, .int 0, .ref x13, .ref x14, .ref x15, .ref x16])), (x3, .inr (5, [.ref x20, .ref x21, .ref x22, .ref x23, .ref x24, .int 0, .int 0, .int 0, .int 0, .int 0])), (x13, .inl (c6, 7, .inl (fun _ => 0))), (x14, .inl (c7, 6, .inl (fun _ => 0))), (x15, .inl (c8, 6, .inl (fun _ => 0))), (x16, .inl (c9, 6, .inl (fun _ => 0))), (y0, .inr (9, [.ref y1, .ref y2, .ref y3, .int 0])), (y2, .inr (4, [.ref y1, .int 0, .int 0, .int 0, .ref y13, .ref y14, .ref y15, .ref y16])), (y3, .inr (5, [.ref y20, .ref y21, .ref y22, .ref y23, .ref y24, .int 0, .int 0, .int 0, .int 0, .int 0])), (y13, .inl (d6, 7, .inl (fun _ => 0))), (y14, .inl (d7, 6, .inl (fun _ => 0))), (y15, .inl (d8, 6, .inl (fun _ => 0))), (y16, .inl (d9, 6, .inl (fun _ => 0))), (x1, .inr (8, [.ref x4, .ref x5, .ref x6, .int 0, .ref x7, .ref x8, .ref x9, .int 0, .ref x10, .ref x11, .ref x12, .int 2])), (x7, .inl (c0, 7, .inl (fun _ => 0))), (x8, .inl (c1, 6, .inl (fun _ => 0))), (x9, .inl (c2, 6, .inl (fun _ => 0))), (x10, .inl (c3, 14, .inl (fun _ => 0))), (x11, .inl (c4, 14, .inl (fun _ => 0))), (x12, .inl (c5, 14, .inl (fun _ => 0))), (y1, .inr (8, [.ref y4, .ref y5, .ref y6, .int 0, .ref y7, .ref y8, .ref y9, .int 0, .ref y10, .ref y11, .ref y12, .int 2])), (y7, .inl (d0, 7, .inl (fun _ => 0))), (y8, .inl (d1, 6, .inl (fun _ => 0))), (y9, .inl (d2, 6, .inl (fun _ => 0))), (y10, .inl (d3, 14, .inl (fun _ => 0))), (y11, .inl (d4, 14, .inl (fun _ => 0))), (y12, .inl (d5, 14, .inl (fun _ => 0))), (x4, .inr (2, [.ref x17, .int 0])), (x17, .inl (c10, 5, .inr (.inl (fun _ => 0)))), (y4, .inr (2, [.ref y17, .int 0])), (y17, .inl (d10, 5, .inr (.inl (fun _ => 0)))), (x5, .inr (2, [.ref x18, .int 0])), (x18, .inl (c11, 7, .inr (.inl (fun _ => 0)))), (y5, .inr (2, [.ref y18, .int 0])), (y18, .inl (d11, 7, .inr (.inl (fun _ => 0)))), (x6, .inr (2, [.ref x19, .int 0])), (x19, .inl (c12, 6, .inr (.inl (fun _ => 0)))), (y6, .inr (2, [.ref y19, .int 0])), (y19, .inl (d12, 6, .inr (.inl (fun _ => 0))))] := hD
  have hK : va_K D vwCl [(c10, .long), (c11, .long), (c12, .long), (c0, .int), (c1, .int), (c2, .int), (c3, .int), (c4, .int), (c5, .int), (c6, .int), (c7, .int), (c8, .int), (c9, .int), (d10, .long), (d11, .long), (d12, .long), (d0, .int), (d1, .int), (d2, .int), (d3, .int), (d4, .int), (d5, .int), (d6, .int), (d7, .int), (d8, .int), (d9, .int)] s := hK
  refine W.cs (cells' := 0) (slots' := 0) rfl rfl ?_
  refine lv_aload_n hx hb dX10_copyFrom_11 rfl (lv_at hl 0 rfl) ?_
  refine va_get (D := D) (ci := 9) (v := .ref x2) (C := RX10) (T := TX10) (N := 4) hx hb hts hiX10 hown hK hP 0 rfl rfl 1 (by decide) (hts _ (List.mem_of_getElem? (i := 2) rfl)) (fun _ h9 => h9) rfl dX10_copyFrom_12 ?_
  refine lv_aload_n hx hb dX10_copyFrom_15 rfl (lv_at hl 1 rfl) ?_
  refine va_get (D := D) (ci := 9) (v := .ref y2) (C := RX10) (T := TX10) (N := 4) hx hb hts hiX10 hown hK hP 7 rfl rfl 1 (by decide) (hts _ (List.mem_of_getElem? (i := 2) rfl)) (fun _ h9 => h9) rfl dX10_copyFrom_16 ?_
  have hc9 := (k_X4_copyFrom l D ad c6 c7 c8 c9 x2 x13 x14 x15 x16 x1 d6 d7 d8 d9 y2 y13 y14 y15 y16 y1 )
  refine z_callv (w0 := [(x2, .inr (4, [.ref x1, .int 0, .int 0, .int 0, .ref x13, .ref x14, .ref x15, .ref x16])), (x13, .inl (c6, 7, .inl (fun _ => 0))), (x14, .inl (c7, 6, .inl (fun _ => 0))), (x15, .inl (c8, 6, .inl (fun _ => 0))), (x16, .inl (c9, 6, .inl (fun _ => 0))), (y2, .inr (4, [.ref y1, .int 0, .int 0, .int 0, .ref y13, .ref y14, .ref y15, .ref y16])), (y13, .inl (d6, 7, .inl (fun _ => 0))), (y14, .inl (d7, 6, .inl (fun _ => 0))), (y15, .inl (d8, 6, .inl (fun _ => 0))), (y16, .inl (d9, 6, .inl (fun _ => 0)))]) (wr := [(x0, .inr (9, [.ref x1, .ref x2, .ref x3, .int 0])), (x3, .inr (5, [.ref x20, .ref x21, .ref x22, .ref x23, .ref x24, .int 0, .int 0, .int 0, .int 0, .int 0])), (y0, .inr (9, [.ref y1, .ref y2, .ref y3, .int 0])), (y3, .inr (5, [.ref y20, .ref y21, .ref y22, .ref y23, .ref y24, .int 0, .int 0, .int 0, .int 0, .int 0])), (x1, .inr (8, [.ref x4, .ref x5, .ref x6, .int 0, .ref x7, .ref x8, .ref x9, .int 0, .ref x10, .ref x11, .ref x12, .int 2])), (x7, .inl (c0, 7, .inl (fun _ => 0))), (x8, .inl (c1, 6, .inl (fun _ => 0))), (x9, .inl (c2, 6, .inl (fun _ => 0))), (x10, .inl (c3, 14, .inl (fun _ => 0))), (x11, .inl (c4, 14, .inl (fun _ => 0))), (x12, .inl (c5, 14, .inl (fun _ => 0))), (y1, .inr (8, [.ref y4, .ref y5, .ref y6, .int 0, .ref y7, .ref y8, .ref y9, .int 0, .ref y10, .ref y11, .ref y12, .int 2])), (y7, .inl (d0, 7, .inl (fun _ => 0))), (y8, .inl (d1, 6, .inl (fun _ => 0))), (y9, .inl (d2, 6, .inl (fun _ => 0))), (y10, .inl (d3, 14, .inl (fun _ => 0))), (y11, .inl (d4, 14, .inl (fun _ => 0))), (y12, .inl (d5, 14, .inl (fun _ => 0))), (x4, .inr (2, [.ref x17, .int 0])), (x17, .inl (c10, 5, .inr (.inl (fun _ => 0)))), (y4, .inr (2, [.ref y17, .int 0])), (y17, .inl (d10, 5, .inr (.inl (fun _ => 0)))), (x5, .inr (2, [.ref x18, .int 0])), (x18, .inl (c11, 7, .inr (.inl (fun _ => 0)))), (y5, .inr (2, [.ref y18, .int 0])), (y18, .inl (d11, 7, .inr (.inl (fun _ => 0)))), (x6, .inr (2, [.ref x19, .int 0])), (x19, .inl (c12, 6, .inr (.inl (fun _ => 0)))), (y6, .inr (2, [.ref y19, .int 0])), (y19, .inl (d12, 6, .inr (.inl (fun _ => 0))))]) (va_runV (As := [.ref y2]) (rest := []) ⟨hx, hb, hml, hown, hts⟩ (hc9 _) (cwV 1 hts gX10_copyFrom_X4_copyFrom rfl rfl rfl (by decide +kernel) ⟨Nat.le_of_ble_eq_true rfl, Nat.le_of_ble_eq_true rfl⟩) (z_preV hP hD hK hS hA hE hO [1, 3, 4, 5, 6, 8, 10, 11, 12, 13] [9, 10, 11, 12, 22, 23, 24, 25] rfl (by decide +kernel) rfl 1 4 rfl rfl rfl) rfl rfl hl.1 rfl (lv_room (Nat.le_of_ble_eq_true rfl)) dX10_copyFrom_19 ⟨Nat.le_of_ble_eq_true rfl, Nat.le_of_ble_eq_true rfl⟩) hP hD hK hS hA [1, 3, 4, 5, 6, 8, 10, 11, 12, 13] [0, 2, 7, 9, 14, 15, 16, 17, 18, 19, 20, 21, 22, 23, 24, 25, 26, 27, 28, 29, 30, 31, 32, 33, 34, 35, 36, 37, 38, 39] rfl rfl (by decide +kernel) (by decide +kernel) (fun u9 H locs hw hP hD hK hS => ?_)
  obtain ⟨rfl⟩ := hw
  have hP : va_P D vwCl [(x0, .inr (9, [.ref x1, .ref x2, .ref x3, .int 0])), (x3, .inr (5, [.ref x20, .ref x21, .ref x22, .ref x23, .ref x24, .int 0, .int 0, .int 0, .int 0, .int 0])), (y0, .inr (9, [.ref y1, .ref y2, .ref y3, .int 0])), (y3, .inr (5, [.ref y20, .ref y21, .ref y22, .ref y23, .ref y24, .int 0, .int 0, .int 0, .int 0, .int 0])), (x1, .inr (8, [.ref x4, .ref x5, .ref x6, .int 0, .ref x7, .ref x8, .ref x9, .int 0, .ref x10, .ref x11, .ref x12, .int 2])), (x7, .inl (c0, 7, .inl (fun _ => 0))), (x8, .inl (c1, 6, .inl (fun _ => 0))), (x9, .inl (c2, 6, .inl (fun _ => 0))), (x10, .inl (c3, 14, .inl (fun _ => 0))), (x11, .inl (c4, 14, .inl (fun _ => 0))), (x12, .inl (c5, 14, .inl (fun _ => 0))), (y1, .inr (8, [.ref y4, .ref y5, .ref y6, .int 0, .ref y7, .ref y8, .ref y9, .int 0, .ref y10, .ref y11, .ref y12, .int 2])), (y7, .inl (d0, 7, .inl (fun _ => 0))), (y8, .inl (d1, 6, .inl (fun _ => 0))), (y9, .inl (d2, 6, .inl (fun _ => 0))), (y10, .inl (d3, 14, .inl (fun _ => 0))), (y11, .inl (d4, 14, .inl (fun _ => 0))), (y12, .inl (d5, 14, .inl (fun _ => 0))), (x4, .inr (2, [.ref x17, .int 0])), (x17, .inl (c10, 5, .inr (.inl (fun _ => 0)))), (y4, .inr (2, [.ref y17, .int 0])), (y17, .inl (d10, 5, .inr (.inl (fun _ => 0)))), (x5, .inr (2, [.ref x18, .int 0])), (x18, .inl (c11, 7, .inr (.inl (fun _ => 0)))), (y5, .inr (2, [.ref y18, .int 0])), (y18, .inl (d11, 7, .inr (.inl (fun _ => 0)))), (x6, .inr (2, [.ref x19, .int 0])), (x19, .inl (c12, 6, .inr (.inl (fun _ => 0)))), (y6, .inr (2, [.ref y19, .int 0])), (y19, .inl (d12, 6, .inr (.inl (fun _ => 0)))), (x2, .inr (4, [.ref x1, .int 0, .int 0, .int 0, .ref x13, .ref x14, .ref x15, .ref x16])), (x13, .inl (c6, 7, .inl (fun _ => 0))), (x14, .inl (c7, 6, .inl (fun _ => 0))), (x15, .inl (c8, 6, .inl (fun _ => 0))), (x16, .inl (c9, 6, .inl (fun _ => 0))), (y2, .inr (4, [.ref y1, .int 0, .int 0, .int 0, .ref y13, .ref y14, .ref y15, .ref y16])), (y13, .inl (d6, 7, .inl (fun _ => 0))), (y14, .inl (d7, 6, .inl (fun _ => 0))), (y15, .inl (d8, 6, .inl (fun _ => 0))), (y16, .inl (d9, 6, .inl (fun _ => 0)))] H := hP
  have hD : va_D A [(x0, .inr (9, [.ref x1, .ref x2, .ref x3, .int 0])), (x3, .inr (5, [.ref x20, .ref x21, .ref x22, .ref x23, .ref x24, .int 0, .int 0, .int 0, .int 0, .int 0])), (y0, .inr (9, [.ref y1, .ref y2, .ref y3, .int 0])), (y3, .inr (5, [.ref y20, .ref y21, .ref y22, .ref y23, .ref y24, .int 0, .int 0, .int 0, .int 0, .int 0])), (x1, .inr (8, [.ref x4, .ref x5, .ref x6, .int 0, .ref x7, .ref x8, .ref x9, .int 0, .ref x10, .ref x11, .ref x12, .int 2])), (x7, .inl (c0, 7, .inl (fun _ => 0))), (x8, .inl (c1, 6, .inl (fun _ => 0))), (x9, .inl (c2, 6, .inl (fun _ => 0))), (x10, .inl (c3, 14, .inl (fun _ => 0))), (x11, .inl (c4, 14, .inl (fun _ => 0))), (x12, .inl (c5, 14, .inl (fun _ => 0))), (y1, .inr (8, [.ref y4, .ref y5, .ref y6, .int 0, .ref y7, .ref y8, .ref y9, .int 0, .ref y10, .ref y11, .ref y12, .int 2])), (y7, .inl (d0, 7, .inl (fun _ => 0))), (y8, .inl (d1, 6, .inl (fun _ => 0))), (y9, .inl (d2, 6, .inl (fun _ => 0))), (y10, .inl (d3, 14, .inl (fun _ => 0))), (y11, .inl (d4, 14, .inl (fun _ => 0))), (y12, .inl (d5, 14, .inl (fun _ => 0))), (x4, .inr (2, [.ref x17, .int 0])), (x17, .inl (c10, 5, .inr (.inl (fun _ => 0)))), (y4, .inr (2, [.ref y17, .int 0])), (y17, .inl (d10, 5, .inr (.inl (fun _ => 0)))), (x5, .inr (2, [.ref x18, .int 0])), (x18, .inl (c11, 7, .inr (.inl (fun _ => 0)))), (y5, .inr (2, [.ref y18, .int 0])), (y18, .inl (d11, 7, .inr (.inl (fun _ => 0)))), (x6, .inr (2, [.ref x19, .int 0])), (x19, .inl (c12, 6, .inr (.inl (fun _ => 0)))), (y6, .inr (2, [.ref y19, .int 0])), (y19, .inl (d12, 6, .inr (.inl (fun _ => 0)))), (x2, .inr (4, [.ref x1, .int 0, .int 0, .int 0, .ref x13, .ref x14, .ref x15, .ref x16])), (x13, .inl (c6, 7, .inl (fun _ => 0))), (x14, .inl (c7, 6, .inl (fun _ => 0))), (x15, .inl (c8, 6, .inl (fun _ => 0))), (x16, .inl (c9, 6, .inl (fun _ => 0))), (y2, .inr (4, [.ref y1, .int 0, .int 0, .int 0, .ref y13, .ref y14, .ref y15, .ref y16])), (y13, .inl (d6, 7, .inl (fun _ => 0))), (y14, .inl (d7, 6, .inl (fun _ => 0))), (y15, .inl (d8, 6, .inl (fun _ => 0))), (y16, .inl (d9, 6, .inl (fun _ => 0)))] := hD
  have hK : va_K D vwCl [(c10, .long), (c11, .long), (c12, .long), (c0, .int), (c1, .int), (c2, .int), (c3, .int), (c4, .int), (c5, .int), (c6, .int), (c7, .int), (c8, .int), (c9, .int), (d10, .long), (d11, .long), (d12, .long), (d0, .int), (d1, .int), (d2, .int), (d3, .int), (d4, .int), (d5, .int), (d6, .int), (d7, .int), (d8, .int), (d9, .int)] s := hK
  refine W.cs (cells' := 0) (slots' := 0) rfl rfl ?_
  refine lv_aload_n hx hb dX10_copyFrom_22 rfl (lv_at hl 0 rfl) ?_
  refine va_get (D := D) (ci := 9) (v := .ref x3) (C := RX10) (T := TX10) (N := 4) hx hb hts hiX10 hown hK hP 0 rfl rfl 2 (by decide) (hts _ (List.mem_of_getElem? (i := 3) rfl)) (fun _ h9 => h9) rfl dX10_copyFrom_23 ?_
  refine lv_aload_n hx hb dX10_copyFrom_26 rfl (lv_at hl 1 rfl) ?_
  refine va_get (D := D) (ci := 9) (v := .ref y3) (C := RX10) (T := TX10) (N := 4) hx hb hts hiX10 hown hK hP 2 rfl rfl 2 (by decide) (hts _ (List.mem_of_getElem? (i := 3) rfl)) (fun _ h9 => h9) rfl dX10_copyFrom_27 ?_
  have hc9 := (k_X5_copyFrom l D ad x3 y3 x20 x21 x22 x23 x24 y20 y21 y22 y23 y24 )
  refine z_callv (w0 := [(x3, .inr (5, [.ref x20, .ref x21, .ref x22, .ref x23, .ref x24, .int 0, .int 0, .int 0, .int 0, .int 0])), (y3, .inr (5, [.ref y20, .ref y21, .ref y22, .ref y23, .ref y24, .int 0, .int 0, .int 0, .int 0, .int 0]))]) (wr := [(x0, .inr (9, [.ref x1, .ref x2, .ref x3, .int 0])), (y0, .inr (9, [.ref y1, .ref y2, .ref y3, .int 0])), (x1, .inr (8, [.ref x4, .ref x5, .ref x6, .int 0, .ref x7, .ref x8, .ref x9, .int 0, .ref x10, .ref x11, .ref x12, .int 2])), (x7, .inl (c0, 7, .inl (fun _ => 0))), (x8, .inl (c1, 6, .inl (fun _ => 0))), (x9, .inl (c2, 6, .inl (fun _ => 0))), (x10, .inl (c3, 14, .inl (fun _ => 0))), (x11, .inl (c4, 14, .inl (fun _ => 0))), (x12, .inl (c5, 14, .inl (fun _ => 0))), (y1, .inr (8, [.ref y4, .ref y5, .ref y6, .int 0, .ref y7, .ref y8, .ref y9, .int 0, .ref y10, .ref y11, .ref y12, .int 2])), (y7, .inl (d0, 7, .inl (fun _ => 0))), (y8, .inl (d1, 6, .inl (fun _ => 0))), (y9, .inl (d2, 6, .inl (fun _ => 0))), (y10, .inl (d3, 14, .inl (fun _ => 0))), (y11, .inl (d4, 14, .inl (fun _ => 0))), (y12, .inl (d5, 14, .inl (fun _ => 0))), (x4, .inr (2, [.ref x17, .int 0])), (x17, .inl (c10, 5, .inr (.inl (fun _ => 0)))), (y4, .inr (2, [.ref y17, .int 0])), (y17, .inl (d10, 5, .inr (.inl (fun _ => 0)))), (x5, .inr (2, [.ref x18, .int 0])), (x18, .inl (c11, 7, .inr (.inl (fun _ => 0)))), (y5, .inr (2, [.ref y18, .int 0])), (y18, .inl (d11, 7, .inr (.inl (fun _ => 0)))), (x6, .inr (2, [.ref x19, .int 0])), (x19, .inl (c12, 6, .inr (.inl (fun _ => 0)))), (y6, .inr (2, [.ref y19, .int 0])), (y19, .inl (d12, 6, .inr (.inl (fun _ => 0)))), (x2, .inr (4, [.ref x1, .int 0, .int 0, .int 0, .ref x13, .ref x14, .ref x15, .ref x16])), (x13, .inl (c6, 7, .inl (fun _ => 0))), (x14, .inl (c7, 6, .inl (fun _ => 0))), (x15, .inl (c8, 6, .inl (fun _ => 0))), (x16, .inl (c9, 6, .inl (fun _ => 0))), (y2, .inr (4, [.ref y1, .int 0, .int 0, .int 0, .ref y13, .ref y14, .ref y15, .ref y16])), (y13, .inl (d6, 7, .inl (fun _ => 0))), (y14, .inl (d7, 6, .inl (fun _ => 0))), (y15, .inl (d8, 6, .inl (fun _ => 0))), (y16, .inl (d9, 6, .inl (fun _ => 0)))]) (va_runV (As := [.ref y3]) (rest := []) ⟨hx, hb, hml, hown, hts⟩ (hc9 _) (cwV 1 hts gX10_copyFrom_X5_copyFrom rfl rfl rfl (by decide +kernel) ⟨Nat.le_of_ble_eq_true rfl, Nat.le_of_ble_eq_true rfl⟩) (z_preV hP hD hK hS hA hE hO [1, 3] [] rfl (by decide +kernel) rfl 1 5 rfl rfl rfl) rfl rfl hl.1 rfl (lv_room (Nat.le_of_ble_eq_true rfl)) dX10_copyFrom_30 ⟨Nat.le_of_ble_eq_true rfl, Nat.le_of_ble_eq_true rfl⟩) hP hD hK hS hA [1, 3] [0, 2, 4, 5, 6, 7, 8, 9, 10, 11, 12, 13, 14, 15, 16, 17, 18, 19, 20, 21, 22, 23, 24, 25, 26, 27, 28, 29, 30, 31, 32, 33, 34, 35, 36, 37, 38, 39] rfl rfl (by decide +kernel) (by decide +kernel) (fun u9 H locs hw hP hD hK hS => ?_)
  obtain ⟨rfl⟩ := hw
  have hP : va_P D vwCl [(x0, .inr (9, [.ref x1, .ref x2, .ref x3, .int 0])), (y0, .inr (9, [.ref y1, .ref y2, .ref y3, .int 0])), (x1, .inr (8, [.ref x4, .ref x5, .ref x6, .int 0, .ref x7, .ref x8, .ref x9, .int 0, .ref x10, .ref x11, .ref x12, .int 2])), (x7, .inl (c0, 7, .inl (fun _ => 0))), (x8, .inl (c1, 6, .inl (fun _ => 0))), (x9, .inl (c2, 6, .inl (fun _ => 0))), (x10, .inl (c3, 14, .inl (fun _ => 0))), (x11, .inl (c4, 14, .inl (fun _ => 0))), (x12, .inl (c5, 14, .inl (fun _ => 0))), (y1, .inr (8, [.ref y4, .ref y5, .ref y6, .int 0, .ref y7, .ref y8, .ref y9, .int 0, .ref y10, .ref y11, .ref y12, .int 2])), (y7, .inl (d0, 7, .inl (fun _ => 0))), (y8, .inl (d1, 6, .inl (fun _ => 0))), (y9, .inl (d2, 6, .inl (fun _ => 0))), (y10, .inl (d3, 14, .inl (fun _ => 0))), (y11, .inl (d4, 14, .inl (fun _ => 0))), (y12, .inl (d5, 14, .inl (fun _ => 0))), (x4, .inr (2, [.ref x17, .int 0])), (x17, .inl (c10, 5, .inr (.inl (fun _ => 0)))), (y4, .inr (2, [.ref y17, .int 0])), (y17, .inl (d10, 5, .inr (.inl (fun _ => 0)))), (x5, .inr (2, [.ref x18, .int 0])), (x18, .inl (c11, 7, .inr (.inl (fun _ => 0)))), (y5, .inr (2, [.ref y18, .int 0])), (y18, .inl (d11, 7, .inr (.inl (fun _ => 0)))), (x6, .inr (2, [.ref x19, .int 0])), (x19, .inl (c12, 6, .inr (.inl (fun _ => 0)))), (y6, .inr (2, [.ref y19, .int 0])), (y19, .inl (d12, 6, .inr (.inl (fun _ => 0)))), (x2, .inr (4, [.ref x1, .int 0, .int 0, .int 0, .ref x13, .ref x14, .ref x15, .ref x16])), (x13, .inl (c6, 7, .inl (fun _ => 0))), (x14, .inl (c7, 6, .inl (fun _ => 0))), (x15, .inl (c8, 6, .inl (fun _ => 0))), (x16, .inl (c9, 6, .inl (fun _ => 0))), (y2, .inr (4, [.ref y1, .int 0, .int 0, .int 0, .ref y13, .ref y14, .ref y15, .ref y16])), (y13, .inl (d6, 7, .inl (fun _ => 0))), (y14, .inl (d7, 6, .inl (fun _ => 0))), (y15, .inl (d8, 6, .inl (fun _ => 0))), (y16, .inl (d9, 6, .inl (fun _ => 0))), (x3, .inr (5, [.ref x20, .ref x21, .ref x22, .ref x23, .ref x24, .int 0, .int 0, .int 0, .int 0, .int 0])), (y3, .inr (5, [.ref y20, .ref y21, .ref y22, .ref y23, .ref y24, .int 0, .int 0, .int 0, .int 0, .int 0]))] H := hP
  have hD : va_D A [(x0, .inr (9, [.ref x1, .ref x2, .ref x3, .int 0])), (y0, .inr (9, [.ref y1, .ref y2, .ref y3, .int 0])), (x1, .inr (8, [.ref x4, .ref x5, .ref x6, .int 0, .ref x7, .ref x8, .ref x9, .int 0, .ref x10, .ref x11, .ref x12, .int 2])), (x7, .inl (c0, 7, .inl (fun _ => 0))), (x8, .inl (c1, 6, .inl (fun _ => 0))), (x9, .inl (c2, 6, .inl (fun _ => 0))), (x10, .inl (c3, 14, .inl (fun _ => 0))), (x11, .inl (c4, 14, .inl (fun _ => 0))), (x12, .inl (c5, 14, .inl (fun _ => 0))), (y1, .inr (8, [.ref y4, .ref y5, .ref y6, .int 0, .ref y7, .ref y8, .ref y9, .int 0, .ref y10, .ref y11, .ref y12, .int 2])), (y7, .inl (d0, 7, .inl (fun _ => 0))), (y8, .inl (d1, 6, .inl (fun _ => 0))), (y9, .inl (d2, 6, .inl (fun _ => 0))), (y10, .inl (d3, 14, .inl (fun _ => 0))), (y11, .inl (d4, 14, .inl (fun _ => 0))), (y12, .inl (d5, 14, .inl (fun _ => 0))), (x4, .inr (2, [.ref x17, .int 0])), (x17, .inl (c10, 5, .inr (.inl (fun _ => 0)))), (y4, .inr (2, [.ref y17, .int 0])), (y17, .inl (d10, 5, .inr (.inl (fun _ => 0)))), (x5, .inr (2, [.ref x18, .int 0])), (x18, .inl (c11, 7, .inr (.inl (fun _ => 0)))), (y5, .inr (2, [.ref y18, .int 0])), (y18, .inl (d11, 7, .inr (.inl (fun _ => 0)))), (x6, .inr (2, [.ref x19, .int 0])), (x19, .inl (c12, 6, .inr (.inl (fun _ => 0)))), (y6, .inr (2, [.ref y19, .int 0])), (y19, .inl (d12, 6, .inr (.inl (fun _ => 0)))), (x2, .inr (4, [.ref x1, .int 0, .int 0, .int 0, .ref x13, .ref x14, .ref x15, .ref x16])), (x13, .inl (c6, 7, .inl (fun _ => 0))), (x14, .inl (c7, 6, .inl (fun _ => 0))), (x15, .inl (c8, 6, .inl (fun _ => 0))), (x16, .inl (c9, 6, .inl (fun _ => 0))), (y2, .inr (4, [.ref y1, .int 0, .int 0, .int 0, .ref y13, .ref y14, .ref y15, .ref y16])), (y13, .inl (d6, 7, .inl (fun _ => 0))), (y14, .inl (d7, 6, .inl (fun _ => 0))), (y15, .inl (d8, 6, .inl (fun _ => 0))), (y16, .inl (d9, 6, .inl (fun _ => 0))), (x3, .inr (5, [.ref x20, .ref x21, .ref x22, .ref x23, .ref x24, .int 0, .int 0, .int 0, .int 0, .int 0])), (y3, .inr (5, [.ref y20, .ref y21, .ref y22, .ref y23, .ref y24, .int 0, .int 0, .int 0, .int 0, .int 0]))] := hD
  have hK : va_K D vwCl [(c10, .long), (c11, .long), (c12, .long), (c0, .int), (c1, .int), (c2, .int), (c3, .int), (c4, .int), (c5, .int), (c6, .int), (c7, .int), (c8, .int), (c9, .int), (d10, .long), (d11, .long), (d12, .long), (d0, .int), (d1, .int), (d2, .int), (d3, .int), (d4, .int), (d5, .int), (d6, .int), (d7, .int), (d8, .int), (d9, .int)] s := hK
  refine W.cs (cells' := 0) (slots' := 0) rfl rfl ?_
  refine W.widen (k := 0) (n := 0) (by decide) (by decide) ?_
  exact hret ([(x0, .inr (9, [.ref x1, .ref x2, .ref x3, .int 0]))], []) _ _ _ _ dX10_copyFrom_33 rfl (hP.sub [0] rfl) (hK.sub [] rfl) (hD.sub [0] (by decide +kernel) rfl) hS

set_option maxHeartbeats 8000000 in
set_option maxRecDepth 100000 in
theorem k_X7_stop900 (l : Launch) (D : va_G) (ad : Nat → Nat) (a : Nat → Nat)  : z_Mv l yX7_stop wsX7_stop { frames := 1, cells := 0, slots := 0, locals := 21 } D ad [.ref (a 5)] [(a 4, .inr (6, [.ref (a 26), .int 0])), (a 5, .inr (7, [.ref (a 4), .int 900, .int 0, .int 0, .int 0, .int 0, .long 0, .ref (ad 0), .int 0, .int 0]))] [] 0 0 (fun u9 => u9 = ([(a 4, .inr (6, [.ref (a 26), .int 0])), (a 5, .inr (7, [.ref (a 4), .int 900, .int 0, .int 0, .int 0, .int 0, .long 0, .ref (ad 0), .int 0, .int 0]))], [])) := by
  refine z_ofV (cc := cX7_stop) (maxL := 1) (by decide) rfl (Nat.le_of_ble_eq_true rfl) ?_
  intro p e s m below meth c Q A ls hx hb hml hown hts hin hK hP hD hA hE hO hS hl hret
  have hown : s.vm.findClass RX7 = some m.cls := hown
  have hiX7 : ∀ w ∈ wsX70, w ∈ wsX7_stop := fun _ h9 => List.mem_cons_of_mem _ (List.mem_append_left _ (List.mem_append_right _ h9))
  have hiX6 : ∀ w ∈ wsX60, w ∈ wsX7_stop := fun _ h9 => List.mem_cons_of_mem _ (List.mem_append_right _ h9)
  have hl : lv_has ls 1 [(0, .ref (a 5))] := hl
  refine lv_aload_n hx hb dX7_stop_0 rfl (lv_at hl 0 rfl) ?_
  refine lv_aload_n hx hb dX7_stop_1 rfl (lv_at hl 0 rfl) ?_
  refine va_get (D := D) (ci := 7) (v := .ref (a 4)) (C := RX7) (T := TX7) (N := 10) hx hb hts hiX7 hown hK hP 1 rfl rfl 0 (by decide) (hts _ (List.mem_of_getElem? (i := 1) rfl)) (fun _ h9 => h9) rfl dX7_stop_2 ?_
  refine va_get (D := D) (ci := 6) (v := .int 0) (C := RX6) (T := TX6) (N := 2) hx hb hts hiX6 hown hK hP 0 rfl rfl 1 (by decide) (hts _ (List.mem_of_getElem? (i := 2) rfl)) (fun _ h9 => h9) rfl dX7_stop_5 ?_
  refine lv_aload_n hx hb dX7_stop_8 rfl (lv_at hl 0 rfl) ?_
  refine va_get (D := D) (ci := 7) (v := .int 900) (C := RX7) (T := TX7) (N := 10) hx hb hts hiX7 hown hK hP 1 rfl rfl 1 (by decide) (hts _ (List.mem_of_getElem? (i := 3) rfl)) (fun _ h9 => h9) rfl dX7_stop_9 ?_
  refine lv_icmp_le (tgt := 19) hx hb dX7_stop_12 (by decide) (fun _ => ?_) (fun h9 => absurd (by decide) h9)
  refine lv_iconst (v := 0) hx hb dX7_stop_19 (by decide) ?_
  refine va_put (D := D) (ci := 7) (v := .int 0) (ty := tyX7 3) (C := RX7) (T := TX7) (N := 10) hx hb hts hiX7 tyX7 tyX7_ok nmX7 hown hK hP hD hS 1 rfl rfl 3 (by decide) (hts _ (List.mem_of_getElem? (i := 4) rfl)) (fun _ h9 => h9) rfl (tyX7_ok 3 (by decide)) rfl rfl (Nat.le_of_ble_eq_true rfl) dX7_stop_20 (fun H locs hP hD hS => ?_)
  have hP : va_P D vwCl [(a 4, .inr (6, [.ref (a 26), .int 0])), (a 5, .inr (7, [.ref (a 4), .int 900, .int 0, .int 0, .int 0, .int 0, .long 0, .ref (ad 0), .int 0, .int 0]))] H := hP
  have hD : va_D A [(a 4, .inr (6, [.ref (a 26), .int 0])), (a 5, .inr (7, [.ref (a 4), .int 900, .int 0, .int 0, .int 0, .int 0, .long 0, .ref (ad 0), .int 0, .int 0]))] := hD
  refine lv_aload_n hx hb dX7_stop_23 rfl (lv_at hl 0 rfl) ?_
  refine lv_aload_n hx hb dX7_stop_24 rfl (lv_at hl 0 rfl) ?_
  refine va_get (D := D) (ci := 7) (v := .ref (a 4)) (C := RX7) (T := TX7) (N := 10) hx hb hts hiX7 hown hK hP 1 rfl rfl 0 (by decide) (hts _ (List.mem_of_getElem? (i := 1) rfl)) (fun _ h9 => h9) rfl dX7_stop_25 ?_
  refine va_get (D := D) (ci := 6) (v := .int 0) (C := RX6) (T := TX6) (N := 2) hx hb hts hiX6 hown hK hP 0 rfl rfl 1 (by decide) (hts _ (List.mem_of_getElem? (i := 2) rfl)) (fun _ h9 => h9) rfl dX7_stop_28 ?_
  refine lv_aload_n hx hb dX7_stop_31 rfl (lv_at hl 0 rfl) ?_
  refine va_get (D := D) (ci := 7) (v := .int 900) (C := RX7) (T := TX7) (N := 10) hx hb hts hiX7 hown hK hP 1 rfl rfl 1 (by decide) (hts _ (List.mem_of_getElem? (i := 3) rfl)) (fun _ h9 => h9) rfl dX7_stop_32 ?_
  refine va_mmin hx hb (by rw [hml]; exact hl.1.symm) hown (hts _ (List.mem_of_getElem? (i := 5) rfl)) (hts _ (List.mem_of_getElem? (i := 6) rfl)) (hts _ (List.mem_of_getElem? (i := 7) rfl)) (hts _ (List.mem_of_getElem? (i := 8) rfl)) (Nat.le_of_ble_eq_true rfl) (Nat.le_of_ble_eq_true rfl) (Nat.le_of_ble_eq_true rfl) (Nat.le_of_ble_eq_true rfl) dX7_stop_35 ?_
  refine lv_topi (fun y_1 ey_1 => ?_)
  obtain rfl : y_1 = 0 := ey_1.trans (by decide)
  refine va_put (D := D) (ci := 7) (v := .int 0) (ty := tyX7 4) (C := RX7) (T := TX7) (N := 10) hx hb hts hiX7 tyX7 tyX7_ok nmX7 hown hK hP hD hS 1 rfl rfl 4 (by decide) (hts _ (List.mem_of_getElem? (i := 9) rfl)) (fun _ h9 => h9) rfl (tyX7_ok 4 (by decide)) rfl rfl (Nat.le_of_ble_eq_true rfl) dX7_stop_38 (fun H locs hP hD hS => ?_)
  have hP : va_P D vwCl [(a 4, .inr (6, [.ref (a 26), .int 0])), (a 5, .inr (7, [.ref (a 4), .int 900, .int 0, .int 0, .int 0, .int 0, .long 0, .ref (ad 0), .int 0, .int 0]))] H := hP
  have hD : va_D A [(a 4, .inr (6, [.ref (a 26), .int 0])), (a 5, .inr (7, [.ref (a 4), .int 900, .int 0, .int 0, .int 0, .int 0, .long 0, .ref (ad 0), .int 0, .int 0]))] := hD
  refine lv_aload_n hx hb dX7_stop_41 rfl (lv_at hl 0 rfl) ?_
  refine lv_aload_n hx hb dX7_stop_42 rfl (lv_at hl 0 rfl) ?_
  refine va_get (D := D) (ci := 7) (v := .ref (a 4)) (C := RX7) (T := TX7) (N := 10) hx hb hts hiX7 hown hK hP 1 rfl rfl 0 (by decide) (hts _ (List.mem_of_getElem? (i := 1) rfl)) (fun _ h9 => h9) rfl dX7_stop_43 ?_
  refine va_get (D := D) (ci := 6) (v := .int 0) (C := RX6) (T := TX6) (N := 2) hx hb hts hiX6 hown hK hP 0 rfl rfl 1 (by decide) (hts _ (List.mem_of_getElem? (i := 2) rfl)) (fun _ h9 => h9) rfl dX7_stop_46 ?_
  refine va_put (D := D) (ci := 7) (v := .int 0) (ty := tyX7 2) (C := RX7) (T := TX7) (N := 10) hx hb hts hiX7 tyX7 tyX7_ok nmX7 hown hK hP hD hS 1 rfl rfl 2 (by decide) (hts _ (List.mem_of_getElem? (i := 10) rfl)) (fun _ h9 => h9) rfl (tyX7_ok 2 (by decide)) rfl rfl (Nat.le_of_ble_eq_true rfl) dX7_stop_49 (fun H locs hP hD hS => ?_)
  have hP : va_P D vwCl [(a 4, .inr (6, [.ref (a 26), .int 0])), (a 5, .inr (7, [.ref (a 4), .int 900, .int 0, .int 0, .int 0, .int 0, .long 0, .ref (ad 0), .int 0, .int 0]))] H := hP
  have hD : va_D A [(a 4, .inr (6, [.ref (a 26), .int 0])), (a 5, .inr (7, [.ref (a 4), .int 900, .int 0, .int 0, .int 0, .int 0, .long 0, .ref (ad 0), .int 0, .int 0]))] := hD
  refine W.widen (k := 0) (n := 0) (by decide) (by decide) ?_
  exact hret ([(a 4, .inr (6, [.ref (a 26), .int 0])), (a 5, .inr (7, [.ref (a 4), .int 900, .int 0, .int 0, .int 0, .int 0, .long 0, .ref (ad 0), .int 0, .int 0]))], []) _ _ _ _ dX7_stop_52 rfl (hP.sub [0, 1] rfl) (hK.sub [] rfl) (hD.sub [0, 1] (by decide +kernel) rfl) hS

set_option maxHeartbeats 8000000 in
set_option maxRecDepth 100000 in
theorem k_X7_advance900 (l : Launch) (D : va_G) (ad : Nat → Nat) (a : Nat → Nat)  : z_Mv l yX7_advance wsX7_advance { frames := 2, cells := 0, slots := 0, locals := 41 } D ad [.ref (a 5)] [(a 4, .inr (6, [.ref (a 26), .int 0])), (a 5, .inr (7, [.ref (a 4), .int 900, .int 0, .int 0, .int 0, .int 0, .long 0, .ref (ad 0), .int 0, .int 0]))] [] 0 0 (fun u9 => u9 = ([(a 4, .inr (6, [.ref (a 26), .int 0])), (a 5, .inr (7, [.ref (a 4), .int 900, .int 0, .int 0, .int 0, .int 0, .long 0, .ref (ad 0), .int 0, .int 0]))], [])) := by
  refine z_ofV (cc := cX7_advance) (maxL := 2) (by decide) rfl (Nat.le_of_ble_eq_true rfl) ?_
  intro p e s m below meth c Q A ls hx hb hml hown hts hin hK hP hD hA hE hO hS hl hret
  have hown : s.vm.findClass RX7 = some m.cls := hown
  have hiX7 : ∀ w ∈ wsX70, w ∈ wsX7_advance := fun _ h9 => List.mem_cons_of_mem _ (List.mem_append_left _ (List.mem_append_right _ h9))
  have hiX6 : ∀ w ∈ wsX60, w ∈ wsX7_advance := fun _ h9 => List.mem_cons_of_mem _ (List.mem_append_right _ h9)
  have hl : lv_has ls 2 [(0, .ref (a 5))] := hl
  refine lv_aload_n hx hb dX7_advance_0 rfl (lv_at hl 0 rfl) ?_
  refine va_get (D := D) (ci := 7) (v := .int 0) (C := RX7) (T := TX7) (N := 10) hx hb hts hiX7 hown hK hP 1 rfl rfl 2 (by decide) (hts _ (List.mem_of_getElem? (i := 1) rfl)) (fun _ h9 => h9) rfl dX7_advance_1 ?_
  refine lv_istore_n (lv' := [(1, .int 0), (0, .ref (a 5))]) hx hb dX7_advance_4 rfl hl (by decide) rfl (fun ls hl => ?_)
  refine lv_iload_n hx hb dX7_advance_5 rfl (lv_at hl 0 rfl) ?_
  refine lv_aload_n hx hb dX7_advance_6 rfl (lv_at hl 1 rfl) ?_
  refine va_get (D := D) (ci := 7) (v := .ref (a 4)) (C := RX7) (T := TX7) (N := 10) hx hb hts hiX7 hown hK hP 1 rfl rfl 0 (by decide) (hts _ (List.mem_of_getElem? (i := 2) rfl)) (fun _ h9 => h9) rfl dX7_advance_7 ?_
  refine va_get (D := D) (ci := 6) (v := .int 0) (C := RX6) (T := TX6) (N := 2) hx hb hts hiX6 hown hK hP 0 rfl rfl 1 (by decide) (hts _ (List.mem_of_getElem? (i := 3) rfl)) (fun _ h9 => h9) rfl dX7_advance_10 ?_
  refine lv_icmp_ge (tgt := 36) hx hb dX7_advance_13 (by decide) (fun _ => ?_) (fun h9 => absurd (by decide) h9)
  refine lv_aload_n hx hb dX7_advance_36 rfl (lv_at hl 1 rfl) ?_
  refine va_gets (v := .ref (ad 0)) hx hb (hE.1 0 (by decide)).1 hS hown (hts _ (List.mem_of_getElem? (i := 4) rfl)) (fun _ h9 => h9) dX7_advance_37 ?_
  refine va_put (D := D) (ci := 7) (v := .ref (ad 0)) (ty := tyX7 7) (C := RX7) (T := TX7) (N := 10) hx hb hts hiX7 tyX7 tyX7_ok nmX7 hown hK hP hD hS 1 rfl rfl 7 (by decide) (hts _ (List.mem_of_getElem? (i := 5) rfl)) (fun _ h9 => h9) rfl (tyX7_ok 7 (by decide)) rfl rfl (Nat.le_of_ble_eq_true rfl) dX7_advance_40 (fun H locs hP hD hS => ?_)
  have hP : va_P D vwCl [(a 4, .inr (6, [.ref (a 26), .int 0])), (a 5, .inr (7, [.ref (a 4), .int 900, .int 0, .int 0, .int 0, .int 0, .long 0, .ref (ad 0), .int 0, .int 0]))] H := hP
  have hD : va_D A [(a 4, .inr (6, [.ref (a 26), .int 0])), (a 5, .inr (7, [.ref (a 4), .int 900, .int 0, .int 0, .int 0, .int 0, .long 0, .ref (ad 0), .int 0, .int 0]))] := hD
  refine lv_aload_n hx hb dX7_advance_43 rfl (lv_at hl 1 rfl) ?_
  refine lv_iconst (v := 0) hx hb dX7_advance_44 (by decide) ?_
  refine va_put (D := D) (ci := 7) (v := .int 0) (ty := tyX7 5) (C := RX7) (T := TX7) (N := 10) hx hb hts hiX7 tyX7 tyX7_ok nmX7 hown hK hP hD hS 1 rfl rfl 5 (by decide) (hts _ (List.mem_of_getElem? (i := 6) rfl)) (fun _ h9 => h9) rfl (tyX7_ok 5 (by decide)) rfl rfl (Nat.le_of_ble_eq_true rfl) dX7_advance_45 (fun H locs hP hD hS => ?_)
  have hP : va_P D vwCl [(a 4, .inr (6, [.ref (a 26), .int 0])), (a 5, .inr (7, [.ref (a 4), .int 900, .int 0, .int 0, .int 0, .int 0, .long 0, .ref (ad 0), .int 0, .int 0]))] H := hP
  have hD : va_D A [(a 4, .inr (6, [.ref (a 26), .int 0])), (a 5, .inr (7, [.ref (a 4), .int 900, .int 0, .int 0, .int 0, .int 0, .long 0, .ref (ad 0), .int 0, .int 0]))] := hD
  refine lv_aload_n hx hb dX7_advance_48 rfl (lv_at hl 1 rfl) ?_
  refine lv_lconst (v := 0) hx hb dX7_advance_49 (by decide) ?_
  refine va_put (D := D) (ci := 7) (v := .long 0) (ty := tyX7 6) (C := RX7) (T := TX7) (N := 10) hx hb hts hiX7 tyX7 tyX7_ok nmX7 hown hK hP hD hS 1 rfl rfl 6 (by decide) (hts _ (List.mem_of_getElem? (i := 7) rfl)) (fun _ h9 => h9) rfl (tyX7_ok 6 (by decide)) rfl rfl (Nat.le_of_ble_eq_true rfl) dX7_advance_50 (fun H locs hP hD hS => ?_)
  have hP : va_P D vwCl [(a 4, .inr (6, [.ref (a 26), .int 0])), (a 5, .inr (7, [.ref (a 4), .int 900, .int 0, .int 0, .int 0, .int 0, .long 0, .ref (ad 0), .int 0, .int 0]))] H := hP
  have hD : va_D A [(a 4, .inr (6, [.ref (a 26), .int 0])), (a 5, .inr (7, [.ref (a 4), .int 900, .int 0, .int 0, .int 0, .int 0, .long 0, .ref (ad 0), .int 0, .int 0]))] := hD
  refine lv_iload_n hx hb dX7_advance_53 rfl (lv_at hl 0 rfl) ?_
  refine lv_aload_n hx hb dX7_advance_54 rfl (lv_at hl 1 rfl) ?_
  refine va_get (D := D) (ci := 7) (v := .ref (a 4)) (C := RX7) (T := TX7) (N := 10) hx hb hts hiX7 hown hK hP 1 rfl rfl 0 (by decide) (hts _ (List.mem_of_getElem? (i := 2) rfl)) (fun _ h9 => h9) rfl dX7_advance_55 ?_
  refine va_get (D := D) (ci := 6) (v := .int 0) (C := RX6) (T := TX6) (N := 2) hx hb hts hiX6 hown hK hP 0 rfl rfl 1 (by decide) (hts _ (List.mem_of_getElem? (i := 3) rfl)) (fun _ h9 => h9) rfl dX7_advance_58 ?_
  refine lv_icmp_ge (tgt := 72) hx hb dX7_advance_61 (by decide) (fun _ => ?_) (fun h9 => absurd (by decide) h9)
  refine lv_aload_n hx hb dX7_advance_72 rfl (lv_at hl 1 rfl) ?_
  have hc9 := (k_X7_stop900 l D ad a )
  refine z_callv (w0 := [(a 4, .inr (6, [.ref (a 26), .int 0])), (a 5, .inr (7, [.ref (a 4), .int 900, .int 0, .int 0, .int 0, .int 0, .long 0, .ref (ad 0), .int 0, .int 0]))]) (wr := []) (va_runV (As := []) (rest := []) ⟨hx, hb, hml, hown, hts⟩ (hc9 _) (cwV 0 hts gX7_advance_X7_stop rfl rfl rfl (by decide +kernel) ⟨Nat.le_of_ble_eq_true rfl, Nat.le_of_ble_eq_true rfl⟩) (z_preV hP hD hK hS hA hE hO [0, 1] [] rfl (by decide +kernel) rfl 1 7 rfl rfl rfl) rfl rfl hl.1 rfl (lv_room (Nat.le_of_ble_eq_true rfl)) dX7_advance_73 ⟨Nat.le_of_ble_eq_true rfl, Nat.le_of_ble_eq_true rfl⟩) hP hD hK hS hA [0, 1] [] rfl rfl (by decide +kernel) (by decide +kernel) (fun u9 H locs hw hP hD hK hS => ?_)
  obtain ⟨rfl⟩ := hw
  have hP : va_P D vwCl [(a 4, .inr (6, [.ref (a 26), .int 0])), (a 5, .inr (7, [.ref (a 4), .int 900, .int 0, .int 0, .int 0, .int 0, .long 0, .ref (ad 0), .int 0, .int 0]))] H := hP
  have hD : va_D A [(a 4, .inr (6, [.ref (a 26), .int 0])), (a 5, .inr (7, [.ref (a 4), .int 900, .int 0, .int 0, .int 0, .int 0, .long 0, .ref (ad 0), .int 0, .int 0]))] := hD
  have hK : va_K D vwCl [] s := hK
  refine W.cs (cells' := 0) (slots' := 0) rfl rfl ?_
  refine lv_goto (tgt := 120) hx hb dX7_advance_76 (by decide) ?_
  refine W.widen (k := 0) (n := 0) (by decide) (by decide) ?_
  exact hret ([(a 4, .inr (6, [.ref (a 26), .int 0])), (a 5, .inr (7, [.ref (a 4), .int 900, .int 0, .int 0, .int 0, .int 0, .long 0, .ref (ad 0), .int 0, .int 0]))], []) _ _ _ _ dX7_advance_120 rfl (hP.sub [0, 1] rfl) (hK.sub [] rfl) (hD.sub [0, 1] (by decide +kernel) rfl) hS

set_option maxHeartbeats 8000000 in
set_option maxRecDepth 100000 in
theorem k_X7_start900 (l : Launch) (D : va_G) (ad : Nat → Nat) (a : Nat → Nat)  : z_Mv l yX7_start wsX7_start { frames := 3, cells := 0, slots := 0, locals := 62 } D ad [.ref (a 5), .int 900] [(a 4, .inr (6, [.ref (a 26), .int 0])), (a 5, .inr (7, [.ref (a 4), .int 0, .int 0, .int 0, .int 0, .int 0, .long 0, .ref (ad 0), .int 0, .int 0]))] [] 0 0 (fun u9 => u9 = ([(a 4, .inr (6, [.ref (a 26), .int 0])), (a 5, .inr (7, [.ref (a 4), .int 900, .int 0, .int 0, .int 0, .int 0, .long 0, .ref (ad 0), .int 0, .int 0]))], [])) := by
  refine z_ofV (cc := cX7_start) (maxL := 2) (by decide) rfl (Nat.le_of_ble_eq_true rfl) ?_
  intro p e s m below meth c Q A ls hx hb hml hown hts hin hK hP hD hA hE hO hS hl hret
  have hown : s.vm.findClass RX7 = some m.cls := hown
  have hiX7 : ∀ w ∈ wsX70, w ∈ wsX7_start := fun _ h9 => List.mem_cons_of_mem _ (List.mem_append_left _ (List.mem_append_right _ h9))
  have hiX6 : ∀ w ∈ wsX60, w ∈ wsX7_start := fun _ h9 => List.mem_cons_of_mem _ (List.mem_append_right _ h9)
  have hl : lv_has ls 2 [(0, .ref (a 5)), (1, .int 900)] := hl
  refine lv_aload_n hx hb dX7_start_0 rfl (lv_at hl 0 rfl) ?_
  refine lv_iload_n hx hb dX7_start_1 rfl (lv_at hl 1 rfl) ?_
  refine va_put (D := D) (ci := 7) (v := .int 900) (ty := tyX7 1) (C := RX7) (T := TX7) (N := 10) hx hb hts hiX7 tyX7 tyX7_ok nmX7 hown hK hP hD hS 1 rfl rfl 1 (by decide) (hts _ (List.mem_of_getElem? (i := 1) rfl)) (fun _ h9 => h9) rfl (tyX7_ok 1 (by decide)) rfl rfl (Nat.le_of_ble_eq_true rfl) dX7_start_2 (fun H locs hP hD hS => ?_)
  have hP : va_P D vwCl [(a 4, .inr (6, [.ref (a 26), .int 0])), (a 5, .inr (7, [.ref (a 4), .int 900, .int 0, .int 0, .int 0, .int 0, .long 0, .ref (ad 0), .int 0, .int 0]))] H := hP
  have hD : va_D A [(a 4, .inr (6, [.ref (a 26), .int 0])), (a 5, .inr (7, [.ref (a 4), .int 900, .int 0, .int 0, .int 0, .int 0, .long 0, .ref (ad 0), .int 0, .int 0]))] := hD
  refine lv_aload_n hx hb dX7_start_5 rfl (lv_at hl 0 rfl) ?_
  refine lv_iconst (v := 0) hx hb dX7_start_6 (by decide) ?_
  refine va_put (D := D) (ci := 7) (v := .int 0) (ty := tyX7 2) (C := RX7) (T := TX7) (N := 10) hx hb hts hiX7 tyX7 tyX7_ok nmX7 hown hK hP hD hS 1 rfl rfl 2 (by decide) (hts _ (List.mem_of_getElem? (i := 2) rfl)) (fun _ h9 => h9) rfl (tyX7_ok 2 (by decide)) rfl rfl (Nat.le_of_ble_eq_true rfl) dX7_start_7 (fun H locs hP hD hS => ?_)
  have hP : va_P D vwCl [(a 4, .inr (6, [.ref (a 26), .int 0])), (a 5, .inr (7, [.ref (a 4), .int 900, .int 0, .int 0, .int 0, .int 0, .long 0, .ref (ad 0), .int 0, .int 0]))] H := hP
  have hD : va_D A [(a 4, .inr (6, [.ref (a 26), .int 0])), (a 5, .inr (7, [.ref (a 4), .int 900, .int 0, .int 0, .int 0, .int 0, .long 0, .ref (ad 0), .int 0, .int 0]))] := hD
  refine lv_aload_n hx hb dX7_start_10 rfl (lv_at hl 0 rfl) ?_
  refine lv_iconst (v := 0) hx hb dX7_start_11 (by decide) ?_
  refine va_put (D := D) (ci := 7) (v := .int 0) (ty := tyX7 8) (C := RX7) (T := TX7) (N := 10) hx hb hts hiX7 tyX7 tyX7_ok nmX7 hown hK hP hD hS 1 rfl rfl 8 (by decide) (hts _ (List.mem_of_getElem? (i := 3) rfl)) (fun _ h9 => h9) rfl (tyX7_ok 8 (by decide)) rfl rfl (Nat.le_of_ble_eq_true rfl) dX7_start_12 (fun H locs hP hD hS => ?_)
  have hP : va_P D vwCl [(a 4, .inr (6, [.ref (a 26), .int 0])), (a 5, .inr (7, [.ref (a 4), .int 900, .int 0, .int 0, .int 0, .int 0, .long 0, .ref (ad 0), .int 0, .int 0]))] H := hP
  have hD : va_D A [(a 4, .inr (6, [.ref (a 26), .int 0])), (a 5, .inr (7, [.ref (a 4), .int 900, .int 0, .int 0, .int 0, .int 0, .long 0, .ref (ad 0), .int 0, .int 0]))] := hD
  refine lv_aload_n hx hb dX7_start_15 rfl (lv_at hl 0 rfl) ?_
  refine lv_iconst (v := 0) hx hb dX7_start_16 (by decide) ?_
  refine va_put (D := D) (ci := 7) (v := .int 0) (ty := tyX7 9) (C := RX7) (T := TX7) (N := 10) hx hb hts hiX7 tyX7 tyX7_ok nmX7 hown hK hP hD hS 1 rfl rfl 9 (by decide) (hts _ (List.mem_of_getElem? (i := 4) rfl)) (fun _ h9 => h9) rfl (tyX7_ok 9 (by decide)) rfl rfl (Nat.le_of_ble_eq_true rfl) dX7_start_17 (fun H locs hP hD hS => ?_)
  have hP : va_P D vwCl [(a 4, .inr (6, [.ref (a 26), .int 0])), (a 5, .inr (7, [.ref (a 4), .int 900, .int 0, .int 0, .int 0, .int 0, .long 0, .ref (ad 0), .int 0, .int 0]))] H := hP
  have hD : va_D A [(a 4, .inr (6, [.ref (a 26), .int 0])), (a 5, .inr (7, [.ref (a 4), .int 900, .int 0, .int 0, .int 0, .int 0, .long 0, .ref (ad 0), .int 0, .int 0]))] := hD
  refine lv_aload_n hx hb dX7_start_20 rfl (lv_at hl 0 rfl) ?_
  have hc9 := (k_X7_advance900 l D ad a )
  refine z_callv (w0 := [(a 4, .inr (6, [.ref (a 26), .int 0])), (a 5, .inr (7, [.ref (a 4), .int 900, .int 0, .int 0, .int 0, .int 0, .long 0, .ref (ad 0), .int 0, .int 0]))]) (wr := []) (va_runV (As := []) (rest := []) ⟨hx, hb, hml, hown, hts⟩ (hc9 _) (cwV 0 hts gX7_start_X7_advance rfl rfl rfl (by decide +kernel) ⟨Nat.le_of_ble_eq_true rfl, Nat.le_of_ble_eq_true rfl⟩) (z_preV hP hD hK hS hA hE hO [0, 1] [] rfl (by decide +kernel) rfl 1 7 rfl rfl rfl) rfl rfl hl.1 rfl (lv_room (Nat.le_of_ble_eq_true rfl)) dX7_start_21 ⟨Nat.le_of_ble_eq_true rfl, Nat.le_of_ble_eq_true rfl⟩) hP hD hK hS hA [0, 1] [] rfl rfl (by decide +kernel) (by decide +kernel) (fun u9 H locs hw hP hD hK hS => ?_)
  obtain ⟨rfl⟩ := hw
  have hP : va_P D vwCl [(a 4, .inr (6, [.ref (a 26), .int 0])), (a 5, .inr (7, [.ref (a 4), .int 900, .int 0, .int 0, .int 0, .int 0, .long 0, .ref (ad 0), .int 0, .int 0]))] H := hP
  have hD : va_D A [(a 4, .inr (6, [.ref (a 26), .int 0])), (a 5, .inr (7, [.ref (a 4), .int 900, .int 0, .int 0, .int 0, .int 0, .long 0, .ref (ad 0), .int 0, .int 0]))] := hD
  have hK : va_K D vwCl [] s := hK
  refine W.cs (cells' := 0) (slots' := 0) rfl rfl ?_
  refine W.widen (k := 0) (n := 0) (by decide) (by decide) ?_
  exact hret ([(a 4, .inr (6, [.ref (a 26), .int 0])), (a 5, .inr (7, [.ref (a 4), .int 900, .int 0, .int 0, .int 0, .int 0, .long 0, .ref (ad 0), .int 0, .int 0]))], []) _ _ _ _ dX7_start_24 rfl (hP.sub [0, 1] rfl) (hK.sub [] rfl) (hD.sub [0, 1] (by decide +kernel) rfl) hS

set_option maxHeartbeats 8000000 in
set_option maxRecDepth 100000 in
theorem k_X7_stop400 (l : Launch) (D : va_G) (ad : Nat → Nat) (a : Nat → Nat)  : z_Mv l yX7_stop wsX7_stop { frames := 1, cells := 0, slots := 0, locals := 21 } D ad [.ref (a 5)] [(a 4, .inr (6, [.ref (a 26), .int 0])), (a 5, .inr (7, [.ref (a 4), .int 400, .int 0, .int 0, .int 0, .int 0, .long 0, .ref (ad 0), .int 0, .int 0]))] [] 0 0 (fun u9 => u9 = ([(a 4, .inr (6, [.ref (a 26), .int 0])), (a 5, .inr (7, [.ref (a 4), .int 400, .int 0, .int 0, .int 0, .int 0, .long 0, .ref (ad 0), .int 0, .int 0]))], [])) := by
  refine z_ofV (cc := cX7_stop) (maxL := 1) (by decide) rfl (Nat.le_of_ble_eq_true rfl) ?_
  intro p e s m below meth c Q A ls hx hb hml hown hts hin hK hP hD hA hE hO hS hl hret
  have hown : s.vm.findClass RX7 = some m.cls := hown
  have hiX7 : ∀ w ∈ wsX70, w ∈ wsX7_stop := fun _ h9 => List.mem_cons_of_mem _ (List.mem_append_left _ (List.mem_append_right _ h9))
  have hiX6 : ∀ w ∈ wsX60, w ∈ wsX7_stop := fun _ h9 => List.mem_cons_of_mem _ (List.mem_append_right _ h9)
  have hl : lv_has ls 1 [(0, .ref (a 5))] := hl
  refine lv_aload_n hx hb dX7_stop_0 rfl (lv_at hl 0 rfl) ?_
  refine lv_aload_n hx hb dX7_stop_1 rfl (lv_at hl 0 rfl) ?_
  refine va_get (D := D) (ci := 7) (v := .ref (a 4)) (C := RX7) (T := TX7) (N := 10) hx hb hts hiX7 hown hK hP 1 rfl rfl 0 (by decide) (hts _ (List.mem_of_getElem? (i := 1) rfl)) (fun _ h9 => h9) rfl dX7_stop_2 ?_
  refine va_get (D := D) (ci := 6) (v := .int 0) (C := RX6) (T := TX6) (N := 2) hx hb hts hiX6 hown hK hP 0 rfl rfl 1 (by decide) (hts _ (List.mem_of_getElem? (i := 2) rfl)) (fun _ h9 => h9) rfl dX7_stop_5 ?_
  refine lv_aload_n hx hb dX7_stop_8 rfl (lv_at hl 0 rfl) ?_
  refine va_get (D := D) (ci := 7) (v := .int 400) (C := RX7) (T := TX7) (N := 10) hx hb hts hiX7 hown hK hP 1 rfl rfl 1 (by decide) (hts _ (List.mem_of_getElem? (i := 3) rfl)) (fun _ h9 => h9) rfl dX7_stop_9 ?_
  refine lv_icmp_le (tgt := 19) hx hb dX7_stop_12 (by decide) (fun _ => ?_) (fun h9 => absurd (by decide) h9)
  refine lv_iconst (v := 0) hx hb dX7_stop_19 (by decide) ?_
  refine va_put (D := D) (ci := 7) (v := .int 0) (ty := tyX7 3) (C := RX7) (T := TX7) (N := 10) hx hb hts hiX7 tyX7 tyX7_ok nmX7 hown hK hP hD hS 1 rfl rfl 3 (by decide) (hts _ (List.mem_of_getElem? (i := 4) rfl)) (fun _ h9 => h9) rfl (tyX7_ok 3 (by decide)) rfl rfl (Nat.le_of_ble_eq_true rfl) dX7_stop_20 (fun H locs hP hD hS => ?_)
  have hP : va_P D vwCl [(a 4, .inr (6, [.ref (a 26), .int 0])), (a 5, .inr (7, [.ref (a 4), .int 400, .int 0, .int 0, .int 0, .int 0, .long 0, .ref (ad 0), .int 0, .int 0]))] H := hP
  have hD : va_D A [(a 4, .inr (6, [.ref (a 26), .int 0])), (a 5, .inr (7, [.ref (a 4), .int 400, .int 0, .int 0, .int 0, .int 0, .long 0, .ref (ad 0), .int 0, .int 0]))] := hD
  refine lv_aload_n hx hb dX7_stop_23 rfl (lv_at hl 0 rfl) ?_
  refine lv_aload_n hx hb dX7_stop_24 rfl (lv_at hl 0 rfl) ?_
  refine va_get (D := D) (ci := 7) (v := .ref (a 4)) (C := RX7) (T := TX7) (N := 10) hx hb hts hiX7 hown hK hP 1 rfl rfl 0 (by decide) (hts _ (List.mem_of_getElem? (i := 1) rfl)) (fun _ h9 => h9) rfl dX7_stop_25 ?_
  refine va_get (D := D) (ci := 6) (v := .int 0) (C := RX6) (T := TX6) (N := 2) hx hb hts hiX6 hown hK hP 0 rfl rfl 1 (by decide) (hts _ (List.mem_of_getElem? (i := 2) rfl)) (fun _ h9 => h9) rfl dX7_stop_28 ?_
  refine lv_aload_n hx hb dX7_stop_31 rfl (lv_at hl 0 rfl) ?_
  refine va_get (D := D) (ci := 7) (v := .int 400) (C := RX7) (T := TX7) (N := 10) hx hb hts hiX7 hown hK hP 1 rfl rfl 1 (by decide) (hts _ (List.mem_of_getElem? (i := 3) rfl)) (fun _ h9 => h9) rfl dX7_stop_32 ?_
  refine va_mmin hx hb (by rw [hml]; exact hl.1.symm) hown (hts _ (List.mem_of_getElem? (i := 5) rfl)) (hts _ (List.mem_of_getElem? (i := 6) rfl)) (hts _ (List.mem_of_getElem? (i := 7) rfl)) (hts _ (List.mem_of_getElem? (i := 8) rfl)) (Nat.le_of_ble_eq_true rfl) (Nat.le_of_ble_eq_true rfl) (Nat.le_of_ble_eq_true rfl) (Nat.le_of_ble_eq_true rfl) dX7_stop_35 ?_
  refine lv_topi (fun y_1 ey_1 => ?_)
  obtain rfl : y_1 = 0 := ey_1.trans (by decide)
  refine va_put (D := D) (ci := 7) (v := .int 0) (ty := tyX7 4) (C := RX7) (T := TX7) (N := 10) hx hb hts hiX7 tyX7 tyX7_ok nmX7 hown hK hP hD hS 1 rfl rfl 4 (by decide) (hts _ (List.mem_of_getElem? (i := 9) rfl)) (fun _ h9 => h9) rfl (tyX7_ok 4 (by decide)) rfl rfl (Nat.le_of_ble_eq_true rfl) dX7_stop_38 (fun H locs hP hD hS => ?_)
  have hP : va_P D vwCl [(a 4, .inr (6, [.ref (a 26), .int 0])), (a 5, .inr (7, [.ref (a 4), .int 400, .int 0, .int 0, .int 0, .int 0, .long 0, .ref (ad 0), .int 0, .int 0]))] H := hP
  have hD : va_D A [(a 4, .inr (6, [.ref (a 26), .int 0])), (a 5, .inr (7, [.ref (a 4), .int 400, .int 0, .int 0, .int 0, .int 0, .long 0, .ref (ad 0), .int 0, .int 0]))] := hD
  refine lv_aload_n hx hb dX7_stop_41 rfl (lv_at hl 0 rfl) ?_
  refine lv_aload_n hx hb dX7_stop_42 rfl (lv_at hl 0 rfl) ?_
  refine va_get (D := D) (ci := 7) (v := .ref (a 4)) (C := RX7) (T := TX7) (N := 10) hx hb hts hiX7 hown hK hP 1 rfl rfl 0 (by decide) (hts _ (List.mem_of_getElem? (i := 1) rfl)) (fun _ h9 => h9) rfl dX7_stop_43 ?_
  refine va_get (D := D) (ci := 6) (v := .int 0) (C := RX6) (T := TX6) (N := 2) hx hb hts hiX6 hown hK hP 0 rfl rfl 1 (by decide) (hts _ (List.mem_of_getElem? (i := 2) rfl)) (fun _ h9 => h9) rfl dX7_stop_46 ?_
  refine va_put (D := D) (ci := 7) (v := .int 0) (ty := tyX7 2) (C := RX7) (T := TX7) (N := 10) hx hb hts hiX7 tyX7 tyX7_ok nmX7 hown hK hP hD hS 1 rfl rfl 2 (by decide) (hts _ (List.mem_of_getElem? (i := 10) rfl)) (fun _ h9 => h9) rfl (tyX7_ok 2 (by decide)) rfl rfl (Nat.le_of_ble_eq_true rfl) dX7_stop_49 (fun H locs hP hD hS => ?_)
  have hP : va_P D vwCl [(a 4, .inr (6, [.ref (a 26), .int 0])), (a 5, .inr (7, [.ref (a 4), .int 400, .int 0, .int 0, .int 0, .int 0, .long 0, .ref (ad 0), .int 0, .int 0]))] H := hP
  have hD : va_D A [(a 4, .inr (6, [.ref (a 26), .int 0])), (a 5, .inr (7, [.ref (a 4), .int 400, .int 0, .int 0, .int 0, .int 0, .long 0, .ref (ad 0), .int 0, .int 0]))] := hD
  refine W.widen (k := 0) (n := 0) (by decide) (by decide) ?_
  exact hret ([(a 4, .inr (6, [.ref (a 26), .int 0])), (a 5, .inr (7, [.ref (a 4), .int 400, .int 0, .int 0, .int 0, .int 0, .long 0, .ref (ad 0), .int 0, .int 0]))], []) _ _ _ _ dX7_stop_52 rfl (hP.sub [0, 1] rfl) (hK.sub [] rfl) (hD.sub [0, 1] (by decide +kernel) rfl) hS

set_option maxHeartbeats 8000000 in
set_option maxRecDepth 100000 in
theorem k_X7_advance400 (l : Launch) (D : va_G) (ad : Nat → Nat) (a : Nat → Nat)  : z_Mv l yX7_advance wsX7_advance { frames := 2, cells := 0, slots := 0, locals := 41 } D ad [.ref (a 5)] [(a 4, .inr (6, [.ref (a 26), .int 0])), (a 5, .inr (7, [.ref (a 4), .int 400, .int 0, .int 0, .int 0, .int 0, .long 0, .ref (ad 0), .int 0, .int 0]))] [] 0 0 (fun u9 => u9 = ([(a 4, .inr (6, [.ref (a 26), .int 0])), (a 5, .inr (7, [.ref (a 4), .int 400, .int 0, .int 0, .int 0, .int 0, .long 0, .ref (ad 0), .int 0, .int 0]))], [])) := by
  refine z_ofV (cc := cX7_advance) (maxL := 2) (by decide) rfl (Nat.le_of_ble_eq_true rfl) ?_
  intro p e s m below meth c Q A ls hx hb hml hown hts hin hK hP hD hA hE hO hS hl hret
  have hown : s.vm.findClass RX7 = some m.cls := hown
  have hiX7 : ∀ w ∈ wsX70, w ∈ wsX7_advance := fun _ h9 => List.mem_cons_of_mem _ (List.mem_append_left _ (List.mem_append_right _ h9))
  have hiX6 : ∀ w ∈ wsX60, w ∈ wsX7_advance := fun _ h9 => List.mem_cons_of_mem _ (List.mem_append_right _ h9)
  have hl : lv_has ls 2 [(0, .ref (a 5))] := hl
  refine lv_aload_n hx hb dX7_advance_0 rfl (lv_at hl 0 rfl) ?_
  refine va_get (D := D) (ci := 7) (v := .int 0) (C := RX7) (T := TX7) (N := 10) hx hb hts hiX7 hown hK hP 1 rfl rfl 2 (by decide) (hts _ (List.mem_of_getElem? (i := 1) rfl)) (fun _ h9 => h9) rfl dX7_advance_1 ?_
  refine lv_istore_n (lv' := [(1, .int 0), (0, .ref (a 5))]) hx hb dX7_advance_4 rfl hl (by decide) rfl (fun ls hl => ?_)
  refine lv_iload_n hx hb dX7_advance_5 rfl (lv_at hl 0 rfl) ?_
  refine lv_aload_n hx hb dX7_advance_6 rfl (lv_at hl 1 rfl) ?_
  refine va_get (D := D) (ci := 7) (v := .ref (a 4)) (C := RX7) (T := TX7) (N := 10) hx hb hts hiX7 hown hK hP 1 rfl rfl 0 (by decide) (hts _ (List.mem_of_getElem? (i := 2) rfl)) (fun _ h9 => h9) rfl dX7_advance_7 ?_
  refine va_get (D := D) (ci := 6) (v := .int 0) (C := RX6) (T := TX6) (N := 2) hx hb hts hiX6 hown hK hP 0 rfl rfl 1 (by decide) (hts _ (List.mem_of_getElem? (i := 3) rfl)) (fun _ h9 => h9) rfl dX7_advance_10 ?_
  refine lv_icmp_ge (tgt := 36) hx hb dX7_advance_13 (by decide) (fun _ => ?_) (fun h9 => absurd (by decide) h9)
  refine lv_aload_n hx hb dX7_advance_36 rfl (lv_at hl 1 rfl) ?_
  refine va_gets (v := .ref (ad 0)) hx hb (hE.1 0 (by decide)).1 hS hown (hts _ (List.mem_of_getElem? (i := 4) rfl)) (fun _ h9 => h9) dX7_advance_37 ?_
  refine va_put (D := D) (ci := 7) (v := .ref (ad 0)) (ty := tyX7 7) (C := RX7) (T := TX7) (N := 10) hx hb hts hiX7 tyX7 tyX7_ok nmX7 hown hK hP hD hS 1 rfl rfl 7 (by decide) (hts _ (List.mem_of_getElem? (i := 5) rfl)) (fun _ h9 => h9) rfl (tyX7_ok 7 (by decide)) rfl rfl (Nat.le_of_ble_eq_true rfl) dX7_advance_40 (fun H locs hP hD hS => ?_)
  have hP : va_P D vwCl [(a 4, .inr (6, [.ref (a 26), .int 0])), (a 5, .inr (7, [.ref (a 4), .int 400, .int 0, .int 0, .int 0, .int 0, .long 0, .ref (ad 0), .int 0, .int 0]))] H := hP
  have hD : va_D A [(a 4, .inr (6, [.ref (a 26), .int 0])), (a 5, .inr (7, [.ref (a 4), .int 400, .int 0, .int 0, .int 0, .int 0, .long 0, .ref (ad 0), .int 0, .int 0]))] := hD
  refine lv_aload_n hx hb dX7_advance_43 rfl (lv_at hl 1 rfl) ?_
  refine lv_iconst (v := 0) hx hb dX7_advance_44 (by decide) ?_
  refine va_put (D := D) (ci := 7) (v := .int 0) (ty := tyX7 5) (C := RX7) (T := TX7) (N := 10) hx hb hts hiX7 tyX7 tyX7_ok nmX7 hown hK hP hD hS 1 rfl rfl 5 (by decide) (hts _ (List.mem_of_getElem? (i := 6) rfl)) (fun _ h9 => h9) rfl (tyX7_ok 5 (by decide)) rfl rfl (Nat.le_of_ble_eq_true rfl) dX7_advance_45 (fun H locs hP hD hS => ?_)
  have hP : va_P D vwCl [(a 4, .inr (6, [.ref (a 26), .int 0])), (a 5, .inr (7, [.ref (a 4), .int 400, .int 0, .int 0, .int 0, .int 0, .long 0, .ref (ad 0), .int 0, .int 0]))] H := hP
  have hD : va_D A [(a 4, .inr (6, [.ref (a 26), .int 0])), (a 5, .inr (7, [.ref (a 4), .int 400, .int 0, .int 0, .int 0, .int 0, .long 0, .ref (ad 0), .int 0, .int 0]))] := hD
  refine lv_aload_n hx hb dX7_advance_48 rfl (lv_at hl 1 rfl) ?_
  refine lv_lconst (v := 0) hx hb dX7_advance_49 (by decide) ?_
  refine va_put (D := D) (ci := 7) (v := .long 0) (ty := tyX7 6) (C := RX7) (T := TX7) (N := 10) hx hb hts hiX7 tyX7 tyX7_ok nmX7 hown hK hP hD hS 1 rfl rfl 6 (by decide) (hts _ (List.mem_of_getElem? (i := 7) rfl)) (fun _ h9 => h9) rfl (tyX7_ok 6 (by decide)) rfl rfl (Nat.le_of_ble_eq_true rfl) dX7_advance_50 (fun H locs hP hD hS => ?_)
  have hP : va_P D vwCl [(a 4, .inr (6, [.ref (a 26), .int 0])), (a 5, .inr (7, [.ref (a 4), .int 400, .int 0, .int 0, .int 0, .int 0, .long 0, .ref (ad 0), .int 0, .int 0]))] H := hP
  have hD : va_D A [(a 4, .inr (6, [.ref (a 26), .int 0])), (a 5, .inr (7, [.ref (a 4), .int 400, .int 0, .int 0, .int 0, .int 0, .long 0, .ref (ad 0), .int 0, .int 0]))] := hD
  refine lv_iload_n hx hb dX7_advance_53 rfl (lv_at hl 0 rfl) ?_
  refine lv_aload_n hx hb dX7_advance_54 rfl (lv_at hl 1 rfl) ?_
  refine va_get (D := D) (ci := 7) (v := .ref (a 4)) (C := RX7) (T := TX7) (N := 10) hx hb hts hiX7 hown hK hP 1 rfl rfl 0 (by decide) (hts _ (List.mem_of_getElem? (i := 2) rfl)) (fun _ h9 => h9) rfl dX7_advance_55 ?_
  refine va_get (D := D) (ci := 6) (v := .int 0) (C := RX6) (T := TX6) (N := 2) hx hb hts hiX6 hown hK hP 0 rfl rfl 1 (by decide) (hts _ (List.mem_of_getElem? (i := 3) rfl)) (fun _ h9 => h9) rfl dX7_advance_58 ?_
  refine lv_icmp_ge (tgt := 72) hx hb dX7_advance_61 (by decide) (fun _ => ?_) (fun h9 => absurd (by decide) h9)
  refine lv_aload_n hx hb dX7_advance_72 rfl (lv_at hl 1 rfl) ?_
  have hc9 := (k_X7_stop400 l D ad a )
  refine z_callv (w0 := [(a 4, .inr (6, [.ref (a 26), .int 0])), (a 5, .inr (7, [.ref (a 4), .int 400, .int 0, .int 0, .int 0, .int 0, .long 0, .ref (ad 0), .int 0, .int 0]))]) (wr := []) (va_runV (As := []) (rest := []) ⟨hx, hb, hml, hown, hts⟩ (hc9 _) (cwV 0 hts gX7_advance_X7_stop rfl rfl rfl (by decide +kernel) ⟨Nat.le_of_ble_eq_true rfl, Nat.le_of_ble_eq_true rfl⟩) (z_preV hP hD hK hS hA hE hO [0, 1] [] rfl (by decide +kernel) rfl 1 7 rfl rfl rfl) rfl rfl hl.1 rfl (lv_room (Nat.le_of_ble_eq_true rfl)) dX7_advance_73 ⟨Nat.le_of_ble_eq_true rfl, Nat.le_of_ble_eq_true rfl⟩) hP hD hK hS hA [0, 1] [] rfl rfl (by decide +kernel) (by decide +kernel) (fun u9 H locs hw hP hD hK hS => ?_)
  obtain ⟨rfl⟩ := hw
  have hP : va_P D vwCl [(a 4, .inr (6, [.ref (a 26), .int 0])), (a 5, .inr (7, [.ref (a 4), .int 400, .int 0, .int 0, .int 0, .int 0, .long 0, .ref (ad 0), .int 0, .int 0]))] H := hP
  have hD : va_D A [(a 4, .inr (6, [.ref (a 26), .int 0])), (a 5, .inr (7, [.ref (a 4), .int 400, .int 0, .int 0, .int 0, .int 0, .long 0, .ref (ad 0), .int 0, .int 0]))] := hD
  have hK : va_K D vwCl [] s := hK
  refine W.cs (cells' := 0) (slots' := 0) rfl rfl ?_
  refine lv_goto (tgt := 120) hx hb dX7_advance_76 (by decide) ?_
  refine W.widen (k := 0) (n := 0) (by decide) (by decide) ?_
  exact hret ([(a 4, .inr (6, [.ref (a 26), .int 0])), (a 5, .inr (7, [.ref (a 4), .int 400, .int 0, .int 0, .int 0, .int 0, .long 0, .ref (ad 0), .int 0, .int 0]))], []) _ _ _ _ dX7_advance_120 rfl (hP.sub [0, 1] rfl) (hK.sub [] rfl) (hD.sub [0, 1] (by decide +kernel) rfl) hS

set_option maxHeartbeats 8000000 in
set_option maxRecDepth 100000 in
theorem k_X7_start400 (l : Launch) (D : va_G) (ad : Nat → Nat) (a : Nat → Nat)  : z_Mv l yX7_start wsX7_start { frames := 3, cells := 0, slots := 0, locals := 62 } D ad [.ref (a 5), .int 400] [(a 4, .inr (6, [.ref (a 26), .int 0])), (a 5, .inr (7, [.ref (a 4), .int 0, .int 0, .int 0, .int 0, .int 0, .long 0, .ref (ad 0), .int 0, .int 0]))] [] 0 0 (fun u9 => u9 = ([(a 4, .inr (6, [.ref (a 26), .int 0])), (a 5, .inr (7, [.ref (a 4), .int 400, .int 0, .int 0, .int 0, .int 0, .long 0, .ref (ad 0), .int 0, .int 0]))], [])) := by
  refine z_ofV (cc := cX7_start) (maxL := 2) (by decide) rfl (Nat.le_of_ble_eq_true rfl) ?_
  intro p e s m below meth c Q A ls hx hb hml hown hts hin hK hP hD hA hE hO hS hl hret
  have hown : s.vm.findClass RX7 = some m.cls := hown
  have hiX7 : ∀ w ∈ wsX70, w ∈ wsX7_start := fun _ h9 => List.mem_cons_of_mem _ (List.mem_append_left _ (List.mem_append_right _ h9))
  have hiX6 : ∀ w ∈ wsX60, w ∈ wsX7_start := fun _ h9 => List.mem_cons_of_mem _ (List.mem_append_right _ h9)
  have hl : lv_has ls 2 [(0, .ref (a 5)), (1, .int 400)] := hl
  refine lv_aload_n hx hb dX7_start_0 rfl (lv_at hl 0 rfl) ?_
  refine lv_iload_n hx hb dX7_start_1 rfl (lv_at hl 1 rfl) ?_
  refine va_put (D := D) (ci := 7) (v := .int 400) (ty := tyX7 1) (C := RX7) (T := TX7) (N := 10) hx hb hts hiX7 tyX7 tyX7_ok nmX7 hown hK hP hD hS 1 rfl rfl 1 (by decide) (hts _ (List.mem_of_getElem? (i := 1) rfl)) (fun _ h9 => h9) rfl (tyX7_ok 1 (by decide)) rfl rfl (Nat.le_of_ble_eq_true rfl) dX7_start_2 (fun H locs hP hD hS => ?_)
  have hP : va_P D vwCl [(a 4, .inr (6, [.ref (a 26), .int 0])), (a 5, .inr (7, [.ref (a 4), .int 400, .int 0, .int 0, .int 0, .int 0, .long 0, .ref (ad 0), .int 0, .int 0]))] H := hP
  have hD : va_D A [(a 4, .inr (6, [.ref (a 26), .int 0])), (a 5, .inr (7, [.ref (a 4), .int 400, .int 0, .int 0, .int 0, .int 0, .long 0, .ref (ad 0), .int 0, .int 0]))] := hD
  refine lv_aload_n hx hb dX7_start_5 rfl (lv_at hl 0 rfl) ?_
  refine lv_iconst (v := 0) hx hb dX7_start_6 (by decide) ?_
  refine va_put (D := D) (ci := 7) (v := .int 0) (ty := tyX7 2) (C := RX7) (T := TX7) (N := 10) hx hb hts hiX7 tyX7 tyX7_ok nmX7 hown hK hP hD hS 1 rfl rfl 2 (by decide) (hts _ (List.mem_of_getElem? (i := 2) rfl)) (fun _ h9 => h9) rfl (tyX7_ok 2 (by decide)) rfl rfl (Nat.le_of_ble_eq_true rfl) dX7_start_7 (fun H locs hP hD hS => ?_)
  have hP : va_P D vwCl [(a 4, .inr (6, [.ref (a 26), .int 0])), (a 5, .inr (7, [.ref (a 4), .int 400, .int 0, .int 0, .int 0, .int 0, .long 0, .ref (ad 0), .int 0, .int 0]))] H := hP
  have hD : va_D A [(a 4, .inr (6, [.ref (a 26), .int 0])), (a 5, .inr (7, [.ref (a 4), .int 400, .int 0, .int 0, .int 0, .int 0, .long 0, .ref (ad 0), .int 0, .int 0]))] := hD
  refine lv_aload_n hx hb dX7_start_10 rfl (lv_at hl 0 rfl) ?_
  refine lv_iconst (v := 0) hx hb dX7_start_11 (by decide) ?_
  refine va_put (D := D) (ci := 7) (v := .int 0) (ty := tyX7 8) (C := RX7) (T := TX7) (N := 10) hx hb hts hiX7 tyX7 tyX7_ok nmX7 hown hK hP hD hS 1 rfl rfl 8 (by decide) (hts _ (List.mem_of_getElem? (i := 3) rfl)) (fun _ h9 => h9) rfl (tyX7_ok 8 (by decide)) rfl rfl (Nat.le_of_ble_eq_true rfl) dX7_start_12 (fun H locs hP hD hS => ?_)
  have hP : va_P D vwCl [(a 4, .inr (6, [.ref (a 26), .int 0])), (a 5, .inr (7, [.ref (a 4), .int 400, .int 0, .int 0, .int 0, .int 0, .long 0, .ref (ad 0), .int 0, .int 0]))] H := hP
  have hD : va_D A [(a 4, .inr (6, [.ref (a 26), .int 0])), (a 5, .inr (7, [.ref (a 4), .int 400, .int 0, .int 0, .int 0, .int 0, .long 0, .ref (ad 0), .int 0, .int 0]))] := hD
  refine lv_aload_n hx hb dX7_start_15 rfl (lv_at hl 0 rfl) ?_
  refine lv_iconst (v := 0) hx hb dX7_start_16 (by decide) ?_
  refine va_put (D := D) (ci := 7) (v := .int 0) (ty := tyX7 9) (C := RX7) (T := TX7) (N := 10) hx hb hts hiX7 tyX7 tyX7_ok nmX7 hown hK hP hD hS 1 rfl rfl 9 (by decide) (hts _ (List.mem_of_getElem? (i := 4) rfl)) (fun _ h9 => h9) rfl (tyX7_ok 9 (by decide)) rfl rfl (Nat.le_of_ble_eq_true rfl) dX7_start_17 (fun H locs hP hD hS => ?_)
  have hP : va_P D vwCl [(a 4, .inr (6, [.ref (a 26), .int 0])), (a 5, .inr (7, [.ref (a 4), .int 400, .int 0, .int 0, .int 0, .int 0, .long 0, .ref (ad 0), .int 0, .int 0]))] H := hP
  have hD : va_D A [(a 4, .inr (6, [.ref (a 26), .int 0])), (a 5, .inr (7, [.ref (a 4), .int 400, .int 0, .int 0, .int 0, .int 0, .long 0, .ref (ad 0), .int 0, .int 0]))] := hD
  refine lv_aload_n hx hb dX7_start_20 rfl (lv_at hl 0 rfl) ?_
  have hc9 := (k_X7_advance400 l D ad a )
  refine z_callv (w0 := [(a 4, .inr (6, [.ref (a 26), .int 0])), (a 5, .inr (7, [.ref (a 4), .int 400, .int 0, .int 0, .int 0, .int 0, .long 0, .ref (ad 0), .int 0, .int 0]))]) (wr := []) (va_runV (As := []) (rest := []) ⟨hx, hb, hml, hown, hts⟩ (hc9 _) (cwV 0 hts gX7_start_X7_advance rfl rfl rfl (by decide +kernel) ⟨Nat.le_of_ble_eq_true rfl, Nat.le_of_ble_eq_true rfl⟩) (z_preV hP hD hK hS hA hE hO [0, 1] [] rfl (by decide +kernel) rfl 1 7 rfl rfl rfl) rfl rfl hl.1 rfl (lv_room (Nat.le_of_ble_eq_true rfl)) dX7_start_21 ⟨Nat.le_of_ble_eq_true rfl, Nat.le_of_ble_eq_true rfl⟩) hP hD hK hS hA [0, 1] [] rfl rfl (by decide +kernel) (by decide +kernel) (fun u9 H locs hw hP hD hK hS => ?_)
  obtain ⟨rfl⟩ := hw
  have hP : va_P D vwCl [(a 4, .inr (6, [.ref (a 26), .int 0])), (a 5, .inr (7, [.ref (a 4), .int 400, .int 0, .int 0, .int 0, .int 0, .long 0, .ref (ad 0), .int 0, .int 0]))] H := hP
  have hD : va_D A [(a 4, .inr (6, [.ref (a 26), .int 0])), (a 5, .inr (7, [.ref (a 4), .int 400, .int 0, .int 0, .int 0, .int 0, .long 0, .ref (ad 0), .int 0, .int 0]))] := hD
  have hK : va_K D vwCl [] s := hK
  refine W.cs (cells' := 0) (slots' := 0) rfl rfl ?_
  refine W.widen (k := 0) (n := 0) (by decide) (by decide) ?_
  exact hret ([(a 4, .inr (6, [.ref (a 26), .int 0])), (a 5, .inr (7, [.ref (a 4), .int 400, .int 0, .int 0, .int 0, .int 0, .long 0, .ref (ad 0), .int 0, .int 0]))], []) _ _ _ _ dX7_start_24 rfl (hP.sub [0, 1] rfl) (hK.sub [] rfl) (hD.sub [0, 1] (by decide +kernel) rfl) hS

set_option maxHeartbeats 8000000 in
set_option maxRecDepth 100000 in
theorem k_X7_stop200 (l : Launch) (D : va_G) (ad : Nat → Nat) (a : Nat → Nat)  : z_Mv l yX7_stop wsX7_stop { frames := 1, cells := 0, slots := 0, locals := 21 } D ad [.ref (a 5)] [(a 4, .inr (6, [.ref (a 26), .int 0])), (a 5, .inr (7, [.ref (a 4), .int 200, .int 0, .int 0, .int 0, .int 0, .long 0, .ref (ad 0), .int 0, .int 0]))] [] 0 0 (fun u9 => u9 = ([(a 4, .inr (6, [.ref (a 26), .int 0])), (a 5, .inr (7, [.ref (a 4), .int 200, .int 0, .int 0, .int 0, .int 0, .long 0, .ref (ad 0), .int 0, .int 0]))], [])) := by
  refine z_ofV (cc := cX7_stop) (maxL := 1) (by decide) rfl (Nat.le_of_ble_eq_true rfl) ?_
  intro p e s m below meth c Q A ls hx hb hml hown hts hin hK hP hD hA hE hO hS hl hret
  have hown : s.vm.findClass RX7 = some m.cls := hown
  have hiX7 : ∀ w ∈ wsX70, w ∈ wsX7_stop := fun _ h9 => List.mem_cons_of_mem _ (List.mem_append_left _ (List.mem_append_right _ h9))
  have hiX6 : ∀ w ∈ wsX60, w ∈ wsX7_stop := fun _ h9 => List.mem_cons_of_mem _ (List.mem_append_right _ h9)
  have hl : lv_has ls 1 [(0, .ref (a 5))] := hl
  refine lv_aload_n hx hb dX7_stop_0 rfl (lv_at hl 0 rfl) ?_
  refine lv_aload_n hx hb dX7_stop_1 rfl (lv_at hl 0 rfl) ?_
  refine va_get (D := D) (ci := 7) (v := .ref (a 4)) (C := RX7) (T := TX7) (N := 10) hx hb hts hiX7 hown hK hP 1 rfl rfl 0 (by decide) (hts _ (List.mem_of_getElem? (i := 1) rfl)) (fun _ h9 => h9) rfl dX7_stop_2 ?_
  refine va_get (D := D) (ci := 6) (v := .int 0) (C := RX6) (T := TX6) (N := 2) hx hb hts hiX6 hown hK hP 0 rfl rfl 1 (by decide) (hts _ (List.mem_of_getElem? (i := 2) rfl)) (fun _ h9 => h9) rfl dX7_stop_5 ?_
  refine lv_aload_n hx hb dX7_stop_8 rfl (lv_at hl 0 rfl) ?_
  refine va_get (D := D) (ci := 7) (v := .int 200) (C := RX7) (T := TX7) (N := 10) hx hb hts hiX7 hown hK hP 1 rfl rfl 1 (by decide) (hts _ (List.mem_of_getElem? (i := 3) rfl)) (fun _ h9 => h9) rfl dX7_stop_9 ?_
  refine lv_icmp_le (tgt := 19) hx hb dX7_stop_12 (by decide) (fun _ => ?_) (fun h9 => absurd (by decide) h9)
  refine lv_iconst (v := 0) hx hb dX7_stop_19 (by decide) ?_
  refine va_put (D := D) (ci := 7) (v := .int 0) (ty := tyX7 3) (C := RX7) (T := TX7) (N := 10) hx hb hts hiX7 tyX7 tyX7_ok nmX7 hown hK hP hD hS 1 rfl rfl 3 (by decide) (hts _ (List.mem_of_getElem? (i := 4) rfl)) (fun _ h9 => h9) rfl (tyX7_ok 3 (by decide)) rfl rfl (Nat.le_of_ble_eq_true rfl) dX7_stop_20 (fun H locs hP hD hS => ?_)
  have hP : va_P D vwCl [(a 4, .inr (6, [.ref (a 26), .int 0])), (a 5, .inr (7, [.ref (a 4), .int 200, .int 0, .int 0, .int 0, .int 0, .long 0, .ref (ad 0), .int 0, .int 0]))] H := hP
  have hD : va_D A [(a 4, .inr (6, [.ref (a 26), .int 0])), (a 5, .inr (7, [.ref (a 4), .int 200, .int 0, .int 0, .int 0, .int 0, .long 0, .ref (ad 0), .int 0, .int 0]))] := hD
  refine lv_aload_n hx hb dX7_stop_23 rfl (lv_at hl 0 rfl) ?_
  refine lv_aload_n hx hb dX7_stop_24 rfl (lv_at hl 0 rfl) ?_
  refine va_get (D := D) (ci := 7) (v := .ref (a 4)) (C := RX7) (T := TX7) (N := 10) hx hb hts hiX7 hown hK hP 1 rfl rfl 0 (by decide) (hts _ (List.mem_of_getElem? (i := 1) rfl)) (fun _ h9 => h9) rfl dX7_stop_25 ?_
  refine va_get (D := D) (ci := 6) (v := .int 0) (C := RX6) (T := TX6) (N := 2) hx hb hts hiX6 hown hK hP 0 rfl rfl 1 (by decide) (hts _ (List.mem_of_getElem? (i := 2) rfl)) (fun _ h9 => h9) rfl dX7_stop_28 ?_
  refine lv_aload_n hx hb dX7_stop_31 rfl (lv_at hl 0 rfl) ?_
  refine va_get (D := D) (ci := 7) (v := .int 200) (C := RX7) (T := TX7) (N := 10) hx hb hts hiX7 hown hK hP 1 rfl rfl 1 (by decide) (hts _ (List.mem_of_getElem? (i := 3) rfl)) (fun _ h9 => h9) rfl dX7_stop_32 ?_
  refine va_mmin hx hb (by rw [hml]; exact hl.1.symm) hown (hts _ (List.mem_of_getElem? (i := 5) rfl)) (hts _ (List.mem_of_getElem? (i := 6) rfl)) (hts _ (List.mem_of_getElem? (i := 7) rfl)) (hts _ (List.mem_of_getElem? (i := 8) rfl)) (Nat.le_of_ble_eq_true rfl) (Nat.le_of_ble_eq_true rfl) (Nat.le_of_ble_eq_true rfl) (Nat.le_of_ble_eq_true rfl) dX7_stop_35 ?_
  refine lv_topi (fun y_1 ey_1 => ?_)
  obtain rfl : y_1 = 0 := ey_1.trans (by decide)
  refine va_put (D := D) (ci := 7) (v := .int 0) (ty := tyX7 4) (C := RX7) (T := TX7) (N := 10) hx hb hts hiX7 tyX7 tyX7_ok nmX7 hown hK hP hD hS 1 rfl rfl 4 (by decide) (hts _ (List.mem_of_getElem? (i := 9) rfl)) (fun _ h9 => h9) rfl (tyX7_ok 4 (by decide)) rfl rfl (Nat.le_of_ble_eq_true rfl) dX7_stop_38 (fun H locs hP hD hS => ?_)
  have hP : va_P D vwCl [(a 4, .inr (6, [.ref (a 26), .int 0])), (a 5, .inr (7, [.ref (a 4), .int 200, .int 0, .int 0, .int 0, .int 0, .long 0, .ref (ad 0), .int 0, .int 0]))] H := hP
  have hD : va_D A [(a 4, .inr (6, [.ref (a 26), .int 0])), (a 5, .inr (7, [.ref (a 4), .int 200, .int 0, .int 0, .int 0, .int 0, .long 0, .ref (ad 0), .int 0, .int 0]))] := hD
  refine lv_aload_n hx hb dX7_stop_41 rfl (lv_at hl 0 rfl) ?_
  refine lv_aload_n hx hb dX7_stop_42 rfl (lv_at hl 0 rfl) ?_
  refine va_get (D := D) (ci := 7) (v := .ref (a 4)) (C := RX7) (T := TX7) (N := 10) hx hb hts hiX7 hown hK hP 1 rfl rfl 0 (by decide) (hts _ (List.mem_of_getElem? (i := 1) rfl)) (fun _ h9 => h9) rfl dX7_stop_43 ?_
  refine va_get (D := D) (ci := 6) (v := .int 0) (C := RX6) (T := TX6) (N := 2) hx hb hts hiX6 hown hK hP 0 rfl rfl 1 (by decide) (hts _ (List.mem_of_getElem? (i := 2) rfl)) (fun _ h9 => h9) rfl dX7_stop_46 ?_
  refine va_put (D := D) (ci := 7) (v := .int 0) (ty := tyX7 2) (C := RX7) (T := TX7) (N := 10) hx hb hts hiX7 tyX7 tyX7_ok nmX7 hown hK hP hD hS 1 rfl rfl 2 (by decide) (hts _ (List.mem_of_getElem? (i := 10) rfl)) (fun _ h9 => h9) rfl (tyX7_ok 2 (by decide)) rfl rfl (Nat.le_of_ble_eq_true rfl) dX7_stop_49 (fun H locs hP hD hS => ?_)
  have hP : va_P D vwCl [(a 4, .inr (6, [.ref (a 26), .int 0])), (a 5, .inr (7, [.ref (a 4), .int 200, .int 0, .int 0, .int 0, .int 0, .long 0, .ref (ad 0), .int 0, .int 0]))] H := hP
  have hD : va_D A [(a 4, .inr (6, [.ref (a 26), .int 0])), (a 5, .inr (7, [.ref (a 4), .int 200, .int 0, .int 0, .int 0, .int 0, .long 0, .ref (ad 0), .int 0, .int 0]))] := hD
  refine W.widen (k := 0) (n := 0) (by decide) (by decide) ?_
  exact hret ([(a 4, .inr (6, [.ref (a 26), .int 0])), (a 5, .inr (7, [.ref (a 4), .int 200, .int 0, .int 0, .int 0, .int 0, .long 0, .ref (ad 0), .int 0, .int 0]))], []) _ _ _ _ dX7_stop_52 rfl (hP.sub [0, 1] rfl) (hK.sub [] rfl) (hD.sub [0, 1] (by decide +kernel) rfl) hS

set_option maxHeartbeats 8000000 in
set_option maxRecDepth 100000 in
theorem k_X7_advance200 (l : Launch) (D : va_G) (ad : Nat → Nat) (a : Nat → Nat)  : z_Mv l yX7_advance wsX7_advance { frames := 2, cells := 0, slots := 0, locals := 41 } D ad [.ref (a 5)] [(a 4, .inr (6, [.ref (a 26), .int 0])), (a 5, .inr (7, [.ref (a 4), .int 200, .int 0, .int 0, .int 0, .int 0, .long 0, .ref (ad 0), .int 0, .int 0]))] [] 0 0 (fun u9 => u9 = ([(a 4, .inr (6, [.ref (a 26), .int 0])), (a 5, .inr (7, [.ref (a 4), .int 200, .int 0, .int 0, .int 0, .int 0, .long 0, .ref (ad 0), .int 0, .int 0]))], [])) := by
  refine z_ofV (cc := cX7_advance) (maxL := 2) (by decide) rfl (Nat.le_of_ble_eq_true rfl) ?_
  intro p e s m below meth c Q A ls hx hb hml hown hts hin hK hP hD hA hE hO hS hl hret
  have hown : s.vm.findClass RX7 = some m.cls := hown
  have hiX7 : ∀ w ∈ wsX70, w ∈ wsX7_advance := fun _ h9 => List.mem_cons_of_mem _ (List.mem_append_left _ (List.mem_append_right _ h9))
  have hiX6 : ∀ w ∈ wsX60, w ∈ wsX7_advance := fun _ h9 => List.mem_cons_of_mem _ (List.mem_append_right _ h9)
  have hl : lv_has ls 2 [(0, .ref (a 5))] := hl
  refine lv_aload_n hx hb dX7_advance_0 rfl (lv_at hl 0 rfl) ?_
  refine va_get (D := D) (ci := 7) (v := .int 0) (C := RX7) (T := TX7) (N := 10) hx hb hts hiX7 hown hK hP 1 rfl rfl 2 (by decide) (hts _ (List.mem_of_getElem? (i := 1) rfl)) (fun _ h9 => h9) rfl dX7_advance_1 ?_
  refine lv_istore_n (lv' := [(1, .int 0), (0, .ref (a 5))]) hx hb dX7_advance_4 rfl hl (by decide) rfl (fun ls hl => ?_)
  refine lv_iload_n hx hb dX7_advance_5 rfl (lv_at hl 0 rfl) ?_
  refine lv_aload_n hx hb dX7_advance_6 rfl (lv_at hl 1 rfl) ?_
  refine va_get (D := D) (ci := 7) (v := .ref (a 4)) (C := RX7) (T := TX7) (N := 10) hx hb hts hiX7 hown hK hP 1 rfl rfl 0 (by decide) (hts _ (List.mem_of_getElem? (i := 2) rfl)) (fun _ h9 => h9) rfl dX7_advance_7 ?_
  refine va_get (D := D) (ci := 6) (v := .int 0) (C := RX6) (T := TX6) (N := 2) hx hb hts hiX6 hown hK hP 0 rfl rfl 1 (by decide) (hts _ (List.mem_of_getElem? (i := 3) rfl)) (fun _ h9 => h9) rfl dX7_advance_10 ?_
  refine lv_icmp_ge (tgt := 36) hx hb dX7_advance_13 (by decide) (fun _ => ?_) (fun h9 => absurd (by decide) h9)
  refine lv_aload_n hx hb dX7_advance_36 rfl (lv_at hl 1 rfl) ?_
  refine va_gets (v := .ref (ad 0)) hx hb (hE.1 0 (by decide)).1 hS hown (hts _ (List.mem_of_getElem? (i := 4) rfl)) (fun _ h9 => h9) dX7_advance_37 ?_
  refine va_put (D := D) (ci := 7) (v := .ref (ad 0)) (ty := tyX7 7) (C := RX7) (T := TX7) (N := 10) hx hb hts hiX7 tyX7 tyX7_ok nmX7 hown hK hP hD hS 1 rfl rfl 7 (by decide) (hts _ (List.mem_of_getElem? (i := 5) rfl)) (fun _ h9 => h9) rfl (tyX7_ok 7 (by decide)) rfl rfl (Nat.le_of_ble_eq_true rfl) dX7_advance_40 (fun H locs hP hD hS => ?_)
  have hP : va_P D vwCl [(a 4, .inr (6, [.ref (a 26), .int 0])), (a 5, .inr (7, [.ref (a 4), .int 200, .int 0, .int 0, .int 0, .int 0, .long 0, .ref (ad 0), .int 0, .int 0]))] H := hP
  have hD : va_D A [(a 4, .inr (6, [.ref (a 26), .int 0])), (a 5, .inr (7, [.ref (a 4), .int 200, .int 0, .int 0, .int 0, .int 0, .long 0, .ref (ad 0), .int 0, .int 0]))] := hD
  refine lv_aload_n hx hb dX7_advance_43 rfl (lv_at hl 1 rfl) ?_
  refine lv_iconst (v := 0) hx hb dX7_advance_44 (by decide) ?_
  refine va_put (D := D) (ci := 7) (v := .int 0) (ty := tyX7 5) (C := RX7) (T := TX7) (N := 10) hx hb hts hiX7 tyX7 tyX7_ok nmX7 hown hK hP hD hS 1 rfl rfl 5 (by decide) (hts _ (List.mem_of_getElem? (i := 6) rfl)) (fun _ h9 => h9) rfl (tyX7_ok 5 (by decide)) rfl rfl (Nat.le_of_ble_eq_true rfl) dX7_advance_45 (fun H locs hP hD hS => ?_)
  have hP : va_P D vwCl [(a 4, .inr (6, [.ref (a 26), .int 0])), (a 5, .inr (7, [.ref (a 4), .int 200, .int 0, .int 0, .int 0, .int 0, .long 0, .ref (ad 0), .int 0, .int 0]))] H := hP
  have hD : va_D A [(a 4, .inr (6, [.ref (a 26), .int 0])), (a 5, .inr (7, [.ref (a 4), .int 200, .int 0, .int 0, .int 0, .int 0, .long 0, .ref (ad 0), .int 0, .int 0]))] := hD
  refine lv_aload_n hx hb dX7_advance_48 rfl (lv_at hl 1 rfl) ?_
  refine lv_lconst (v := 0) hx hb dX7_advance_49 (by decide) ?_
  refine va_put (D := D) (ci := 7) (v := .long 0) (ty := tyX7 6) (C := RX7) (T := TX7) (N := 10) hx hb hts hiX7 tyX7 tyX7_ok nmX7 hown hK hP hD hS 1 rfl rfl 6 (by decide) (hts _ (List.mem_of_getElem? (i := 7) rfl)) (fun _ h9 => h9) rfl (tyX7_ok 6 (by decide)) rfl rfl (Nat.le_of_ble_eq_true rfl) dX7_advance_50 (fun H locs hP hD hS => ?_)
  have hP : va_P D vwCl [(a 4, .inr (6, [.ref (a 26), .int 0])), (a 5, .inr (7, [.ref (a 4), .int 200, .int 0, .int 0, .int 0, .int 0, .long 0, .ref (ad 0), .int 0, .int 0]))] H := hP
  have hD : va_D A [(a 4, .inr (6, [.ref (a 26), .int 0])), (a 5, .inr (7, [.ref (a 4), .int 200, .int 0, .int 0, .int 0, .int 0, .long 0, .ref (ad 0), .int 0, .int 0]))] := hD
  refine lv_iload_n hx hb dX7_advance_53 rfl (lv_at hl 0 rfl) ?_
  refine lv_aload_n hx hb dX7_advance_54 rfl (lv_at hl 1 rfl) ?_
  refine va_get (D := D) (ci := 7) (v := .ref (a 4)) (C := RX7) (T := TX7) (N := 10) hx hb hts hiX7 hown hK hP 1 rfl rfl 0 (by decide) (hts _ (List.mem_of_getElem? (i := 2) rfl)) (fun _ h9 => h9) rfl dX7_advance_55 ?_
  refine va_get (D := D) (ci := 6) (v := .int 0) (C := RX6) (T := TX6) (N := 2) hx hb hts hiX6 hown hK hP 0 rfl rfl 1 (by decide) (hts _ (List.mem_of_getElem? (i := 3) rfl)) (fun _ h9 => h9) rfl dX7_advance_58 ?_
  refine lv_icmp_ge (tgt := 72) hx hb dX7_advance_61 (by decide) (fun _ => ?_) (fun h9 => absurd (by decide) h9)
  refine lv_aload_n hx hb dX7_advance_72 rfl (lv_at hl 1 rfl) ?_
  have hc9 := (k_X7_stop200 l D ad a )
  refine z_callv (w0 := [(a 4, .inr (6, [.ref (a 26), .int 0])), (a 5, .inr (7, [.ref (a 4), .int 200, .int 0, .int 0, .int 0, .int 0, .long 0, .ref (ad 0), .int 0, .int 0]))]) (wr := []) (va_runV (As := []) (rest := []) ⟨hx, hb, hml, hown, hts⟩ (hc9 _) (cwV 0 hts gX7_advance_X7_stop rfl rfl rfl (by decide +kernel) ⟨Nat.le_of_ble_eq_true rfl, Nat.le_of_ble_eq_true rfl⟩) (z_preV hP hD hK hS hA hE hO [0, 1] [] rfl (by decide +kernel) rfl 1 7 rfl rfl rfl) rfl rfl hl.1 rfl (lv_room (Nat.le_of_ble_eq_true rfl)) dX7_advance_73 ⟨Nat.le_of_ble_eq_true rfl, Nat.le_of_ble_eq_true rfl⟩) hP hD hK hS hA [0, 1] [] rfl rfl (by decide +kernel) (by decide +kernel) (fun u9 H locs hw hP hD hK hS => ?_)
  obtain ⟨rfl⟩ := hw
  have hP : va_P D vwCl [(a 4, .inr (6, [.ref (a 26), .int 0])), (a 5, .inr (7, [.ref (a 4), .int 200, .int 0, .int 0, .int 0, .int 0, .long 0, .ref (ad 0), .int 0, .int 0]))] H := hP
  have hD : va_D A [(a 4, .inr (6, [.ref (a 26), .int 0])), (a 5, .inr (7, [.ref (a 4), .int 200, .int 0, .int 0, .int 0, .int 0, .long 0, .ref (ad 0), .int 0, .int 0]))] := hD
  have hK : va_K D vwCl [] s := hK
  refine W.cs (cells' := 0) (slots' := 0) rfl rfl ?_
  refine lv_goto (tgt := 120) hx hb dX7_advance_76 (by decide) ?_
  refine W.widen (k := 0) (n := 0) (by decide) (by decide) ?_
  exact hret ([(a 4, .inr (6, [.ref (a 26), .int 0])), (a 5, .inr (7, [.ref (a 4), .int 200, .int 0, .int 0, .int 0, .int 0, .long 0, .ref (ad 0), .int 0, .int 0]))], []) _ _ _ _ dX7_advance_120 rfl (hP.sub [0, 1] rfl) (hK.sub [] rfl) (hD.sub [0, 1] (by decide +kernel) rfl) hS

set_option maxHeartbeats 8000000 in
set_option maxRecDepth 100000 in
theorem k_X7_start200 (l : Launch) (D : va_G) (ad : Nat → Nat) (a : Nat → Nat)  : z_Mv l yX7_start wsX7_start { frames := 3, cells := 0, slots := 0, locals := 62 } D ad [.ref (a 5), .int 200] [(a 4, .inr (6, [.ref (a 26), .int 0])), (a 5, .inr (7, [.ref (a 4), .int 0, .int 0, .int 0, .int 0, .int 0, .long 0, .ref (ad 0), .int 0, .int 0]))] [] 0 0 (fun u9 => u9 = ([(a 4, .inr (6, [.ref (a 26), .int 0])), (a 5, .inr (7, [.ref (a 4), .int 200, .int 0, .int 0, .int 0, .int 0, .long 0, .ref (ad 0), .int 0, .int 0]))], [])) := by
  refine z_ofV (cc := cX7_start) (maxL := 2) (by decide) rfl (Nat.le_of_ble_eq_true rfl) ?_
  intro p e s m below meth c Q A ls hx hb hml hown hts hin hK hP hD hA hE hO hS hl hret
  have hown : s.vm.findClass RX7 = some m.cls := hown
  have hiX7 : ∀ w ∈ wsX70, w ∈ wsX7_start := fun _ h9 => List.mem_cons_of_mem _ (List.mem_append_left _ (List.mem_append_right _ h9))
  have hiX6 : ∀ w ∈ wsX60, w ∈ wsX7_start := fun _ h9 => List.mem_cons_of_mem _ (List.mem_append_right _ h9)
  have hl : lv_has ls 2 [(0, .ref (a 5)), (1, .int 200)] := hl
  refine lv_aload_n hx hb dX7_start_0 rfl (lv_at hl 0 rfl) ?_
  refine lv_iload_n hx hb dX7_start_1 rfl (lv_at hl 1 rfl) ?_
  refine va_put (D := D) (ci := 7) (v := .int 200) (ty := tyX7 1) (C := RX7) (T := TX7) (N := 10) hx hb hts hiX7 tyX7 tyX7_ok nmX7 hown hK hP hD hS 1 rfl rfl 1 (by decide) (hts _ (List.mem_of_getElem? (i := 1) rfl)) (fun _ h9 => h9) rfl (tyX7_ok 1 (by decide)) rfl rfl (Nat.le_of_ble_eq_true rfl) dX7_start_2 (fun H locs hP hD hS => ?_)
  have hP : va_P D vwCl [(a 4, .inr (6, [.ref (a 26), .int 0])), (a 5, .inr (7, [.ref (a 4), .int 200, .int 0, .int 0, .int 0, .int 0, .long 0, .ref (ad 0), .int 0, .int 0]))] H := hP
  have hD : va_D A [(a 4, .inr (6, [.ref (a 26), .int 0])), (a 5, .inr (7, [.ref (a 4), .int 200, .int 0, .int 0, .int 0, .int 0, .long 0, .ref (ad 0), .int 0, .int 0]))] := hD
  refine lv_aload_n hx hb dX7_start_5 rfl (lv_at hl 0 rfl) ?_
  refine lv_iconst (v := 0) hx hb dX7_start_6 (by decide) ?_
  refine va_put (D := D) (ci := 7) (v := .int 0) (ty := tyX7 2) (C := RX7) (T := TX7) (N := 10) hx hb hts hiX7 tyX7 tyX7_ok nmX7 hown hK hP hD hS 1 rfl rfl 2 (by decide) (hts _ (List.mem_of_getElem? (i := 2) rfl)) (fun _ h9 => h9) rfl (tyX7_ok 2 (by decide)) rfl rfl (Nat.le_of_ble_eq_true rfl) dX7_start_7 (fun H locs hP hD hS => ?_)
  have hP : va_P D vwCl [(a 4, .inr (6, [.ref (a 26), .int 0])), (a 5, .inr (7, [.ref (a 4), .int 200, .int 0, .int 0, .int 0, .int 0, .long 0, .ref (ad 0), .int 0, .int 0]))] H := hP
  have hD : va_D A [(a 4, .inr (6, [.ref (a 26), .int 0])), (a 5, .inr (7, [.ref (a 4), .int 200, .int 0, .int 0, .int 0, .int 0, .long 0, .ref (ad 0), .int 0, .int 0]))] := hD
  refine lv_aload_n hx hb dX7_start_10 rfl (lv_at hl 0 rfl) ?_
  refine lv_iconst (v := 0) hx hb dX7_start_11 (by decide) ?_
  refine va_put (D := D) (ci := 7) (v := .int 0) (ty := tyX7 8) (C := RX7) (T := TX7) (N := 10) hx hb hts hiX7 tyX7 tyX7_ok nmX7 hown hK hP hD hS 1 rfl rfl 8 (by decide) (hts _ (List.mem_of_getElem? (i := 3) rfl)) (fun _ h9 => h9) rfl (tyX7_ok 8 (by decide)) rfl rfl (Nat.le_of_ble_eq_true rfl) dX7_start_12 (fun H locs hP hD hS => ?_)
  have hP : va_P D vwCl [(a 4, .inr (6, [.ref (a 26), .int 0])), (a 5, .inr (7, [.ref (a 4), .int 200, .int 0, .int 0, .int 0, .int 0, .long 0, .ref (ad 0), .int 0, .int 0]))] H := hP
  have hD : va_D A [(a 4, .inr (6, [.ref (a 26), .int 0])), (a 5, .inr (7, [.ref (a 4), .int 200, .int 0, .int 0, .int 0, .int 0, .long 0, .ref (ad 0), .int 0, .int 0]))] := hD
  refine lv_aload_n hx hb dX7_start_15 rfl (lv_at hl 0 rfl) ?_
  refine lv_iconst (v := 0) hx hb dX7_start_16 (by decide) ?_
  refine va_put (D := D) (ci := 7) (v := .int 0) (ty := tyX7 9) (C := RX7) (T := TX7) (N := 10) hx hb hts hiX7 tyX7 tyX7_ok nmX7 hown hK hP hD hS 1 rfl rfl 9 (by decide) (hts _ (List.mem_of_getElem? (i := 4) rfl)) (fun _ h9 => h9) rfl (tyX7_ok 9 (by decide)) rfl rfl (Nat.le_of_ble_eq_true rfl) dX7_start_17 (fun H locs hP hD hS => ?_)
  have hP : va_P D vwCl [(a 4, .inr (6, [.ref (a 26), .int 0])), (a 5, .inr (7, [.ref (a 4), .int 200, .int 0, .int 0, .int 0, .int 0, .long 0, .ref (ad 0), .int 0, .int 0]))] H := hP
  have hD : va_D A [(a 4, .inr (6, [.ref (a 26), .int 0])), (a 5, .inr (7, [.ref (a 4), .int 200, .int 0, .int 0, .int 0, .int 0, .long 0, .ref (ad 0), .int 0, .int 0]))] := hD
  refine lv_aload_n hx hb dX7_start_20 rfl (lv_at hl 0 rfl) ?_
  have hc9 := (k_X7_advance200 l D ad a )
  refine z_callv (w0 := [(a 4, .inr (6, [.ref (a 26), .int 0])), (a 5, .inr (7, [.ref (a 4), .int 200, .int 0, .int 0, .int 0, .int 0, .long 0, .ref (ad 0), .int 0, .int 0]))]) (wr := []) (va_runV (As := []) (rest := []) ⟨hx, hb, hml, hown, hts⟩ (hc9 _) (cwV 0 hts gX7_start_X7_advance rfl rfl rfl (by decide +kernel) ⟨Nat.le_of_ble_eq_true rfl, Nat.le_of_ble_eq_true rfl⟩) (z_preV hP hD hK hS hA hE hO [0, 1] [] rfl (by decide +kernel) rfl 1 7 rfl rfl rfl) rfl rfl hl.1 rfl (lv_room (Nat.le_of_ble_eq_true rfl)) dX7_start_21 ⟨Nat.le_of_ble_eq_true rfl, Nat.le_of_ble_eq_true rfl⟩) hP hD hK hS hA [0, 1] [] rfl rfl (by decide +kernel) (by decide +kernel) (fun u9 H locs hw hP hD hK hS => ?_)
  obtain ⟨rfl⟩ := hw
  have hP : va_P D vwCl [(a 4, .inr (6, [.ref (a 26), .int 0])), (a 5, .inr (7, [.ref (a 4), .int 200, .int 0, .int 0, .int 0, .int 0, .long 0, .ref (ad 0), .int 0, .int 0]))] H := hP
  have hD : va_D A [(a 4, .inr (6, [.ref (a 26), .int 0])), (a 5, .inr (7, [.ref (a 4), .int 200, .int 0, .int 0, .int 0, .int 0, .long 0, .ref (ad 0), .int 0, .int 0]))] := hD
  have hK : va_K D vwCl [] s := hK
  refine W.cs (cells' := 0) (slots' := 0) rfl rfl ?_
  refine W.widen (k := 0) (n := 0) (by decide) (by decide) ?_
  exact hret ([(a 4, .inr (6, [.ref (a 26), .int 0])), (a 5, .inr (7, [.ref (a 4), .int 200, .int 0, .int 0, .int 0, .int 0, .long 0, .ref (ad 0), .int 0, .int 0]))], []) _ _ _ _ dX7_start_24 rfl (hP.sub [0, 1] rfl) (hK.sub [] rfl) (hD.sub [0, 1] (by decide +kernel) rfl) hS

set_option maxHeartbeats 8000000 in
set_option maxRecDepth 100000 in
theorem k_X7_isEnd (l : Launch) (D : va_G) (ad : Nat → Nat) (a : Nat → Nat) (mo : Int32)  : z_Mi l yX7_isEnd wsX7_isEnd { frames := 0, cells := 0, slots := 0, locals := 0 } D ad [.ref (a 5)] [(a 5, .inr (7, [.ref (a 4), .int mo, .int 0, .int 0, .int 0, .int 0, .long 0, .ref (ad 0), .int 0, .int 0]))] [] 0 0 (fun r9 u9 => r9 = 1 ∧ u9 = ([(a 5, .inr (7, [.ref (a 4), .int mo, .int 0, .int 0, .int 0, .int 0, .long 0, .ref (ad 0), .int 0, .int 0]))], [])) := by
  refine z_ofI (cc := cX7_isEnd) (maxL := 1) (rt := .boolean) (by decide) rfl (Nat.le_of_ble_eq_true rfl) ?_
  intro p e s m below meth c Q A ls hx hb hml hown hts hin hK hP hD hA hE hO hS hl hret
  have hown : s.vm.findClass RX7 = some m.cls := hown
  have hiX7 : ∀ w ∈ wsX70, w ∈ wsX7_isEnd := fun _ h9 => List.mem_cons_of_mem _ (List.mem_append_right _ h9)
  have hl : lv_has ls 1 [(0, .ref (a 5))] := hl
  refine lv_aload_n hx hb dX7_isEnd_0 rfl (lv_at hl 0 rfl) ?_
  refine va_get (D := D) (ci := 7) (v := .int 0) (C := RX7) (T := TX7) (N := 10) hx hb hts hiX7 hown hK hP 0 rfl rfl 3 (by decide) (hts _ (List.mem_of_getElem? (i := 1) rfl)) (fun _ h9 => h9) rfl dX7_isEnd_1 ?_
  refine lv_if_ne (tgt := 11) hx hb dX7_isEnd_4 (by decide) (fun h9 => absurd (by decide) h9) (fun _ => ?_)
  refine lv_iconst (v := 1) hx hb dX7_isEnd_7 (by decide) ?_
  refine lv_goto (tgt := 12) hx hb dX7_isEnd_8 (by decide) ?_
  refine W.widen (k := 0) (n := 0) (by decide) (by decide) ?_
  exact hret 1 ([(a 5, .inr (7, [.ref (a 4), .int mo, .int 0, .int 0, .int 0, .int 0, .long 0, .ref (ad 0), .int 0, .int 0]))], []) _ _ _ _ dX7_isEnd_12 (by decide) ⟨rfl, rfl⟩ (hP.sub [0] rfl) (hK.sub [] rfl) (hD.sub [0] (by decide +kernel) rfl) hS

set_option maxHeartbeats 8000000 in
set_option maxRecDepth 100000 in
theorem k_X7_isSign (l : Launch) (D : va_G) (ad : Nat → Nat) (a : Nat → Nat) (mo : Int32)  : z_Mi l yX7_isSign wsX7_isSign { frames := 0, cells := 0, slots := 0, locals := 0 } D ad [.ref (a 5), .int 40] [(a 5, .inr (7, [.ref (a 4), .int mo, .int 0, .int 0, .int 0, .int 0, .long 0, .ref (ad 0), .int 0, .int 0]))] [] 0 0 (fun r9 u9 => r9 = 0 ∧ u9 = ([(a 5, .inr (7, [.ref (a 4), .int mo, .int 0, .int 0, .int 0, .int 0, .long 0, .ref (ad 0), .int 0, .int 0]))], [])) := by
  refine z_ofI (cc := cX7_isSign) (maxL := 2) (rt := .boolean) (by decide) rfl (Nat.le_of_ble_eq_true rfl) ?_
  intro p e s m below meth c Q A ls hx hb hml hown hts hin hK hP hD hA hE hO hS hl hret
  have hown : s.vm.findClass RX7 = some m.cls := hown
  have hiX7 : ∀ w ∈ wsX70, w ∈ wsX7_isSign := fun _ h9 => List.mem_cons_of_mem _ (List.mem_append_right _ h9)
  have hl : lv_has ls 2 [(0, .ref (a 5)), (1, .int 40)] := hl
  refine lv_aload_n hx hb dX7_isSign_0 rfl (lv_at hl 0 rfl) ?_
  refine va_get (D := D) (ci := 7) (v := .int 0) (C := RX7) (T := TX7) (N := 10) hx hb hts hiX7 hown hK hP 0 rfl rfl 3 (by decide) (hts _ (List.mem_of_getElem? (i := 1) rfl)) (fun _ h9 => h9) rfl dX7_isSign_1 ?_
  refine lv_iconst (v := 2) hx hb dX7_isSign_4 (by decide) ?_
  refine lv_icmp_ne (tgt := 20) hx hb dX7_isSign_5 (by decide) (fun _ => ?_) (fun h9 => absurd h9 (by decide))
  refine lv_iconst (v := 0) hx hb dX7_isSign_20 (by decide) ?_
  refine W.widen (k := 0) (n := 0) (by decide) (by decide) ?_
  exact hret 0 ([(a 5, .inr (7, [.ref (a 4), .int mo, .int 0, .int 0, .int 0, .int 0, .long 0, .ref (ad 0), .int 0, .int 0]))], []) _ _ _ _ dX7_isSign_21 (by decide) ⟨rfl, rfl⟩ (hP.sub [0] rfl) (hK.sub [] rfl) (hD.sub [0] (by decide +kernel) rfl) hS

set_option maxHeartbeats 8000000 in
set_option maxRecDepth 100000 in
theorem k_X7_wordHere (l : Launch) (D : va_G) (ad : Nat → Nat) (a : Nat → Nat) (mo : Int32)  : z_Mr l yX7_wordHere wsX7_wordHere { frames := 0, cells := 0, slots := 0, locals := 0 } D ad [.ref (a 5)] [(a 5, .inr (7, [.ref (a 4), .int mo, .int 0, .int 0, .int 0, .int 0, .long 0, .ref (ad 0), .int 0, .int 0]))] [] 0 0 (fun u9 => u9 = (ad 0, [(a 5, .inr (7, [.ref (a 4), .int mo, .int 0, .int 0, .int 0, .int 0, .long 0, .ref (ad 0), .int 0, .int 0]))], [])) := by
  refine z_ofR (cc := cX7_wordHere) (maxL := 1) (C := z_E) (by decide) rfl (Nat.le_of_ble_eq_true rfl) ?_
  intro p e s m below meth c Q A ls hx hb hml hown hts hin hK hP hD hA hE hO hS hl hret
  have hown : s.vm.findClass RX7 = some m.cls := hown
  have hiX7 : ∀ w ∈ wsX70, w ∈ wsX7_wordHere := fun _ h9 => List.mem_cons_of_mem _ (List.mem_append_right _ h9)
  have hl : lv_has ls 1 [(0, .ref (a 5))] := hl
  refine lv_aload_n hx hb dX7_wordHere_0 rfl (lv_at hl 0 rfl) ?_
  refine va_get (D := D) (ci := 7) (v := .ref (ad 0)) (C := RX7) (T := TX7) (N := 10) hx hb hts hiX7 hown hK hP 0 rfl rfl 7 (by decide) (hts _ (List.mem_of_getElem? (i := 1) rfl)) (fun _ h9 => h9) rfl dX7_wordHere_1 ?_
  refine W.widen (k := 0) (n := 0) (by decide) (by decide) ?_
  exact hret ((ad 0), [(a 5, .inr (7, [.ref (a 4), .int mo, .int 0, .int 0, .int 0, .int 0, .long 0, .ref (ad 0), .int 0, .int 0]))], []) _ _ _ _ dX7_wordHere_4 rfl (hP.sub [0] rfl) (hK.sub [] rfl) (hD.sub [0] (by decide +kernel) rfl) hS

set_option maxHeartbeats 8000000 in
set_option maxRecDepth 100000 in
theorem k_X7_fails (l : Launch) (D : va_G) (ad : Nat → Nat) (a : Nat → Nat) (mo : Int32)  : z_Mi l yX7_fails wsX7_fails { frames := 0, cells := 0, slots := 0, locals := 0 } D ad [.ref (a 5), .int 1] [(a 5, .inr (7, [.ref (a 4), .int mo, .int 0, .int 0, .int 0, .int 0, .long 0, .ref (ad 0), .int 0, .int 0]))] [] 0 0 (fun r9 u9 => r9 = 0 ∧ u9 = ([(a 5, .inr (7, [.ref (a 4), .int mo, .int 0, .int 0, .int 0, .int 0, .long 0, .ref (ad 0), .int 1, .int 0]))], [])) := by
  refine z_ofI (cc := cX7_fails) (maxL := 2) (rt := .boolean) (by decide) rfl (Nat.le_of_ble_eq_true rfl) ?_
  intro p e s m below meth c Q A ls hx hb hml hown hts hin hK hP hD hA hE hO hS hl hret
  have hown : s.vm.findClass RX7 = some m.cls := hown
  have hiX7 : ∀ w ∈ wsX70, w ∈ wsX7_fails := fun _ h9 => List.mem_cons_of_mem _ (List.mem_append_right _ h9)
  have hl : lv_has ls 2 [(0, .ref (a 5)), (1, .int 1)] := hl
  refine lv_aload_n hx hb dX7_fails_0 rfl (lv_at hl 0 rfl) ?_
  refine va_get (D := D) (ci := 7) (v := .int 0) (C := RX7) (T := TX7) (N := 10) hx hb hts hiX7 hown hK hP 0 rfl rfl 8 (by decide) (hts _ (List.mem_of_getElem? (i := 1) rfl)) (fun _ h9 => h9) rfl dX7_fails_1 ?_
  refine lv_if_ne (tgt := 20) hx hb dX7_fails_4 (by decide) (fun h9 => absurd (by decide) h9) (fun _ => ?_)
  refine lv_aload_n hx hb dX7_fails_7 rfl (lv_at hl 0 rfl) ?_
  refine lv_iload_n hx hb dX7_fails_8 rfl (lv_at hl 1 rfl) ?_
  refine va_put (D := D) (ci := 7) (v := .int 1) (ty := tyX7 8) (C := RX7) (T := TX7) (N := 10) hx hb hts hiX7 tyX7 tyX7_ok nmX7 hown hK hP hD hS 0 rfl rfl 8 (by decide) (hts _ (List.mem_of_getElem? (i := 1) rfl)) (fun _ h9 => h9) rfl (tyX7_ok 8 (by decide)) rfl rfl (Nat.le_of_ble_eq_true rfl) dX7_fails_9 (fun H locs hP hD hS => ?_)
  have hP : va_P D vwCl [(a 5, .inr (7, [.ref (a 4), .int mo, .int 0, .int 0, .int 0, .int 0, .long 0, .ref (ad 0), .int 1, .int 0]))] H := hP
  have hD : va_D A [(a 5, .inr (7, [.ref (a 4), .int mo, .int 0, .int 0, .int 0, .int 0, .long 0, .ref (ad 0), .int 1, .int 0]))] := hD
  refine lv_aload_n hx hb dX7_fails_12 rfl (lv_at hl 0 rfl) ?_
  refine lv_aload_n hx hb dX7_fails_13 rfl (lv_at hl 0 rfl) ?_
  refine va_get (D := D) (ci := 7) (v := .int 0) (C := RX7) (T := TX7) (N := 10) hx hb hts hiX7 hown hK hP 0 rfl rfl 4 (by decide) (hts _ (List.mem_of_getElem? (i := 2) rfl)) (fun _ h9 => h9) rfl dX7_fails_14 ?_
  refine va_put (D := D) (ci := 7) (v := .int 0) (ty := tyX7 9) (C := RX7) (T := TX7) (N := 10) hx hb hts hiX7 tyX7 tyX7_ok nmX7 hown hK hP hD hS 0 rfl rfl 9 (by decide) (hts _ (List.mem_of_getElem? (i := 3) rfl)) (fun _ h9 => h9) rfl (tyX7_ok 9 (by decide)) rfl rfl (Nat.le_of_ble_eq_true rfl) dX7_fails_17 (fun H locs hP hD hS => ?_)
  have hP : va_P D vwCl [(a 5, .inr (7, [.ref (a 4), .int mo, .int 0, .int 0, .int 0, .int 0, .long 0, .ref (ad 0), .int 1, .int 0]))] H := hP
  have hD : va_D A [(a 5, .inr (7, [.ref (a 4), .int mo, .int 0, .int 0, .int 0, .int 0, .long 0, .ref (ad 0), .int 1, .int 0]))] := hD
  refine lv_iconst (v := 0) hx hb dX7_fails_20 (by decide) ?_
  refine W.widen (k := 0) (n := 0) (by decide) (by decide) ?_
  exact hret 0 ([(a 5, .inr (7, [.ref (a 4), .int mo, .int 0, .int 0, .int 0, .int 0, .long 0, .ref (ad 0), .int 1, .int 0]))], []) _ _ _ _ dX7_fails_21 (by decide) ⟨rfl, rfl⟩ (hP.sub [0] rfl) (hK.sub [] rfl) (hD.sub [0] (by decide +kernel) rfl) hS

set_option maxHeartbeats 8000000 in
set_option maxRecDepth 100000 in
theorem k_X9_countsSomething (l : Launch) (D : va_G) (ad : Nat → Nat)   : z_Mi l yX9_countsSomething wsX9_countsSomething { frames := 0, cells := 0, slots := 0, locals := 0 } D ad [.ref (ad 0)] [] [] 0 0 (fun r9 u9 => r9 = 0 ∧ u9 = ([], [])) := by
  refine z_ofI (cc := cX9_countsSomething) (maxL := 1) (rt := .boolean) (by decide) rfl (Nat.le_of_ble_eq_true rfl) ?_
  intro p e s m below meth c Q A ls hx hb hml hown hts hin hK hP hD hA hE hO hS hl hret
  have hown : s.vm.findClass RX9 = some m.cls := hown
  have hl : lv_has ls 1 [(0, .ref (ad 0))] := hl
  refine lv_aload_n hx hb dX9_countsSomething_0 rfl (lv_at hl 0 rfl) ?_
  refine va_gets (v := .ref (ad 19)) hx hb (hE.1 19 (by decide)).1 hS hown (hts _ (List.mem_of_getElem? (i := 1) rfl)) (fun _ h9 => h9) dX9_countsSomething_1 ?_
  refine W.eq (g2 := F0 m 4 ls (va_rf (some (ad 19)) :: va_rf (some (ad 0)) :: [])) rfl ?_
  refine lv_acmp_eq (tgt := 21) hx hb dX9_countsSomething_4 (by decide) (fun h9 => absurd (hE.2 0 19 (by decide) (by decide) (Option.some.inj h9)) (by decide)) (fun _ => ?_)
  refine lv_aload_n hx hb dX9_countsSomething_7 rfl (lv_at hl 0 rfl) ?_
  refine va_gets (v := .ref (ad 20)) hx hb (hE.1 20 (by decide)).1 hS hown (hts _ (List.mem_of_getElem? (i := 2) rfl)) (fun _ h9 => h9) dX9_countsSomething_8 ?_
  refine W.eq (g2 := F0 m 11 ls (va_rf (some (ad 20)) :: va_rf (some (ad 0)) :: [])) rfl ?_
  refine lv_acmp_eq (tgt := 21) hx hb dX9_countsSomething_11 (by decide) (fun h9 => absurd (hE.2 0 20 (by decide) (by decide) (Option.some.inj h9)) (by decide)) (fun _ => ?_)
  refine lv_aload_n hx hb dX9_countsSomething_14 rfl (lv_at hl 0 rfl) ?_
  refine va_gets (v := .ref (ad 21)) hx hb (hE.1 21 (by decide)).1 hS hown (hts _ (List.mem_of_getElem? (i := 3) rfl)) (fun _ h9 => h9) dX9_countsSomething_15 ?_
  refine W.eq (g2 := F0 m 18 ls (va_rf (some (ad 21)) :: va_rf (some (ad 0)) :: [])) rfl ?_
  refine lv_acmp_ne (tgt := 25) hx hb dX9_countsSomething_18 (by decide) (fun _ => ?_) (fun h9 => absurd (hE.2 0 21 (by decide) (by decide) (Option.some.inj h9)) (by decide))
  refine lv_iconst (v := 0) hx hb dX9_countsSomething_25 (by decide) ?_
  refine W.widen (k := 0) (n := 0) (by decide) (by decide) ?_
  exact hret 0 ([], []) _ _ _ _ dX9_countsSomething_26 (by decide) ⟨rfl, rfl⟩ (hP.sub [] rfl) (hK.sub [] rfl) (hD.sub [] (by decide +kernel) rfl) hS

set_option maxHeartbeats 8000000 in
set_option maxRecDepth 100000 in
theorem k_X9_beginsOne (l : Launch) (D : va_G) (ad : Nat → Nat)   : z_Mi l yX9_beginsOne wsX9_beginsOne { frames := 1, cells := 0, slots := 0, locals := 20 } D ad [.ref (ad 0)] [] [] 0 0 (fun r9 u9 => r9 = 0 ∧ u9 = ([], [])) := by
  refine z_ofI (cc := cX9_beginsOne) (maxL := 1) (rt := .boolean) (by decide) rfl (Nat.le_of_ble_eq_true rfl) ?_
  intro p e s m below meth c Q A ls hx hb hml hown hts hin hK hP hD hA hE hO hS hl hret
  have hown : s.vm.findClass RX9 = some m.cls := hown
  have hl : lv_has ls 1 [(0, .ref (ad 0))] := hl
  refine lv_aload_n hx hb dX9_beginsOne_0 rfl (lv_at hl 0 rfl) ?_
  refine va_gets (v := .ref (ad 14)) hx hb (hE.1 14 (by decide)).1 hS hown (hts _ (List.mem_of_getElem? (i := 1) rfl)) (fun _ h9 => h9) dX9_beginsOne_1 ?_
  refine W.eq (g2 := F0 m 4 ls (va_rf (some (ad 14)) :: va_rf (some (ad 0)) :: [])) rfl ?_
  refine lv_acmp_eq (tgt := 49) hx hb dX9_beginsOne_4 (by decide) (fun h9 => absurd (hE.2 0 14 (by decide) (by decide) (Option.some.inj h9)) (by decide)) (fun _ => ?_)
  refine lv_aload_n hx hb dX9_beginsOne_7 rfl (lv_at hl 0 rfl) ?_
  refine va_gets (v := .ref (ad 3)) hx hb (hE.1 3 (by decide)).1 hS hown (hts _ (List.mem_of_getElem? (i := 2) rfl)) (fun _ h9 => h9) dX9_beginsOne_8 ?_
  refine W.eq (g2 := F0 m 11 ls (va_rf (some (ad 3)) :: va_rf (some (ad 0)) :: [])) rfl ?_
  refine lv_acmp_eq (tgt := 49) hx hb dX9_beginsOne_11 (by decide) (fun h9 => absurd (hE.2 0 3 (by decide) (by decide) (Option.some.inj h9)) (by decide)) (fun _ => ?_)
  refine lv_aload_n hx hb dX9_beginsOne_14 rfl (lv_at hl 0 rfl) ?_
  refine va_gets (v := .ref (ad 15)) hx hb (hE.1 15 (by decide)).1 hS hown (hts _ (List.mem_of_getElem? (i := 3) rfl)) (fun _ h9 => h9) dX9_beginsOne_15 ?_
  refine W.eq (g2 := F0 m 18 ls (va_rf (some (ad 15)) :: va_rf (some (ad 0)) :: [])) rfl ?_
  refine lv_acmp_eq (tgt := 49) hx hb dX9_beginsOne_18 (by decide) (fun h9 => absurd (hE.2 0 15 (by decide) (by decide) (Option.some.inj h9)) (by decide)) (fun _ => ?_)
  refine lv_aload_n hx hb dX9_beginsOne_21 rfl (lv_at hl 0 rfl) ?_
  refine va_gets (v := .ref (ad 16)) hx hb (hE.1 16 (by decide)).1 hS hown (hts _ (List.mem_of_getElem? (i := 4) rfl)) (fun _ h9 => h9) dX9_beginsOne_22 ?_
  refine W.eq (g2 := F0 m 25 ls (va_rf (some (ad 16)) :: va_rf (some (ad 0)) :: [])) rfl ?_
  refine lv_acmp_eq (tgt := 49) hx hb dX9_beginsOne_25 (by decide) (fun h9 => absurd (hE.2 0 16 (by decide) (by decide) (Option.some.inj h9)) (by decide)) (fun _ => ?_)
  refine lv_aload_n hx hb dX9_beginsOne_28 rfl (lv_at hl 0 rfl) ?_
  refine va_gets (v := .ref (ad 17)) hx hb (hE.1 17 (by decide)).1 hS hown (hts _ (List.mem_of_getElem? (i := 5) rfl)) (fun _ h9 => h9) dX9_beginsOne_29 ?_
  refine W.eq (g2 := F0 m 32 ls (va_rf (some (ad 17)) :: va_rf (some (ad 0)) :: [])) rfl ?_
  refine lv_acmp_eq (tgt := 49) hx hb dX9_beginsOne_32 (by decide) (fun h9 => absurd (hE.2 0 17 (by decide) (by decide) (Option.some.inj h9)) (by decide)) (fun _ => ?_)
  refine lv_aload_n hx hb dX9_beginsOne_35 rfl (lv_at hl 0 rfl) ?_
  refine va_gets (v := .ref (ad 18)) hx hb (hE.1 18 (by decide)).1 hS hown (hts _ (List.mem_of_getElem? (i := 6) rfl)) (fun _ h9 => h9) dX9_beginsOne_36 ?_
  refine W.eq (g2 := F0 m 39 ls (va_rf (some (ad 18)) :: va_rf (some (ad 0)) :: [])) rfl ?_
  refine lv_acmp_eq (tgt := 49) hx hb dX9_beginsOne_39 (by decide) (fun h9 => absurd (hE.2 0 18 (by decide) (by decide) (Option.some.inj h9)) (by decide)) (fun _ => ?_)
  refine lv_aload_n hx hb dX9_beginsOne_42 rfl (lv_at hl 0 rfl) ?_
  have hc9 := (k_X9_countsSomething l D ad  )
  refine z_calli (w0 := []) (wr := []) (va_runV (As := []) (rest := []) ⟨hx, hb, hml, hown, hts⟩ (hc9 _) (cwV 0 hts gX9_beginsOne_X9_countsSomething rfl rfl rfl (by decide +kernel) ⟨Nat.le_of_ble_eq_true rfl, Nat.le_of_ble_eq_true rfl⟩) (z_preE hP hD hK hS hA hE hO [] [] rfl (by decide) rfl (by decide)) rfl rfl hl.1 rfl (lv_room (Nat.le_of_ble_eq_true rfl)) dX9_beginsOne_43 ⟨Nat.le_of_ble_eq_true rfl, Nat.le_of_ble_eq_true rfl⟩) hP hD hK hS hA [] [] rfl rfl (by decide +kernel) (by decide +kernel) (fun r9 u9 H locs hw hP hD hK hS => ?_)
  obtain ⟨er9, rfl⟩ := hw
  have hP : va_P D vwCl [] H := hP
  have hD : va_D A [] := hD
  have hK : va_K D vwCl [] s := hK
  refine W.cs (cells' := 0) (slots' := 0) rfl rfl ?_
  obtain rfl := er9
  refine W.eq (g2 := F0 m 46 ls (.int 0 :: [])) rfl ?_
  refine lv_if_eq (tgt := 53) hx hb dX9_beginsOne_46 (by decide) (fun _ => ?_) (fun h9 => absurd (by decide) h9)
  refine lv_iconst (v := 0) hx hb dX9_beginsOne_53 (by decide) ?_
  refine W.widen (k := 0) (n := 0) (by decide) (by decide) ?_
  exact hret 0 ([], []) _ _ _ _ dX9_beginsOne_54 (by decide) ⟨rfl, rfl⟩ (hP.sub [] rfl) (hK.sub [] rfl) (hD.sub [] (by decide +kernel) rfl) hS
