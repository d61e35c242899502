theorem dX12_four_0 : decode cX12_four 0 = .ok (.bipush 24, 2) := by decide +kernel
theorem dX12_four_2 : decode cX12_four 2 = .ok (.istore_n 2, 1) := by decide +kernel
theorem dX12_four_3 : decode cX12_four 3 = .ok (.iload_n 2, 1) := by decide +kernel
theorem dX12_four_4 : decode cX12_four 4 = .ok (.ifCond .lt 32, 3) := by decide +kernel
theorem dX12_four_7 : decode cX12_four 7 = .ok (.aload_n 0, 1) := by decide +kernel
theorem dX12_four_8 : decode cX12_four 8 = .ok (.getfield 14, 3) := by decide +kernel
theorem dX12_four_11 : decode cX12_four 11 = .ok (.aload_n 0, 1) := by decide +kernel
theorem dX12_four_12 : decode cX12_four 12 = .ok (.getfield 7, 3) := by decide +kernel
theorem dX12_four_15 : decode cX12_four 15 = .ok (.iload_n 1, 1) := by decide +kernel
theorem dX12_four_16 : decode cX12_four 16 = .ok (.iload_n 2, 1) := by decide +kernel
theorem dX12_four_17 : decode cX12_four 17 = .ok (.ishr, 1) := by decide +kernel
theorem dX12_four_18 : decode cX12_four 18 = .ok (.i2b, 1) := by decide +kernel
theorem dX12_four_19 : decode cX12_four 19 = .ok (.bastore, 1) := by decide +kernel
theorem dX12_four_20 : decode cX12_four 20 = .ok (.aload_n 0, 1) := by decide +kernel
theorem dX12_four_21 : decode cX12_four 21 = .ok (.dup, 1) := by decide +kernel
theorem dX12_four_22 : decode cX12_four 22 = .ok (.getfield 7, 3) := by decide +kernel
theorem dX12_four_25 : decode cX12_four 25 = .ok (.iconst 1, 1) := by decide +kernel
theorem dX12_four_26 : decode cX12_four 26 = .ok (.iadd, 1) := by decide +kernel
theorem dX12_four_27 : decode cX12_four 27 = .ok (.putfield 7, 3) := by decide +kernel
theorem dX12_four_30 : decode cX12_four 30 = .ok (.iinc 2 (-8), 3) := by decide +kernel
theorem dX12_four_33 : decode cX12_four 33 = .ok (.goto (-30), 3) := by decide +kernel
theorem dX12_four_36 : decode cX12_four 36 = .ok (.return_, 1) := by decide +kernel
theorem dX12_bits_0 : decode cX12_bits 0 = .ok (.iconst 0, 1) := by decide +kernel
theorem dX12_bits_1 : decode cX12_bits 1 = .ok (.istore_n 1, 1) := by decide +kernel
theorem dX12_bits_2 : decode cX12_bits 2 = .ok (.iload_n 0, 1) := by decide +kernel
theorem dX12_bits_3 : decode cX12_bits 3 = .ok (.istore_n 2, 1) := by decide +kernel
theorem dX12_bits_4 : decode cX12_bits 4 = .ok (.iload_n 2, 1) := by decide +kernel
theorem dX12_bits_5 : decode cX12_bits 5 = .ok (.ifCond .eq 15, 3) := by decide +kernel
theorem dX12_bits_20 : decode cX12_bits 20 = .ok (.iload_n 1, 1) := by decide +kernel
theorem dX12_bits_21 : decode cX12_bits 21 = .ok (.ireturn, 1) := by decide +kernel
theorem dX12_openSet_0 : decode cX12_openSet 0 = .ok (.iconst 0, 1) := by decide +kernel
theorem dX12_openSet_1 : decode cX12_openSet 1 = .ok (.istore_n 1, 1) := by decide +kernel
theorem dX12_openSet_2 : decode cX12_openSet 2 = .ok (.iconst 0, 1) := by decide +kernel
theorem dX12_openSet_3 : decode cX12_openSet 3 = .ok (.istore_n 2, 1) := by decide +kernel
theorem dX12_openSet_4 : decode cX12_openSet 4 = .ok (.iload_n 2, 1) := by decide +kernel
theorem dX12_openSet_5 : decode cX12_openSet 5 = .ok (.aload_n 0, 1) := by decide +kernel
theorem dX12_openSet_6 : decode cX12_openSet 6 = .ok (.getfield 33, 3) := by decide +kernel
theorem dX12_openSet_9 : decode cX12_openSet 9 = .ok (.iconst 3, 1) := by decide +kernel
theorem dX12_openSet_10 : decode cX12_openSet 10 = .ok (.iaload, 1) := by decide +kernel
theorem dX12_openSet_11 : decode cX12_openSet 11 = .ok (.if_icmp .ge 27, 3) := by decide +kernel
theorem dX12_openSet_38 : decode cX12_openSet 38 = .ok (.iload_n 1, 1) := by decide +kernel
theorem dX12_openSet_39 : decode cX12_openSet 39 = .ok (.ireturn, 1) := by decide +kernel
theorem dX12_day_0 : decode cX12_day 0 = .ok (.aload_n 0, 1) := by decide +kernel
theorem dX12_day_1 : decode cX12_day 1 = .ok (.getfield 33, 3) := by decide +kernel
theorem dX12_day_4 : decode cX12_day 4 = .ok (.bipush 101, 2) := by decide +kernel
theorem dX12_day_6 : decode cX12_day 6 = .ok (.dup2, 1) := by decide +kernel
theorem dX12_day_7 : decode cX12_day 7 = .ok (.iaload, 1) := by decide +kernel
theorem dX12_day_8 : decode cX12_day 8 = .ok (.aload_n 0, 1) := by decide +kernel
theorem dX12_day_9 : decode cX12_day 9 = .ok (.invokevirtual 324, 3) := by decide +kernel
theorem dX12_day_12 : decode cX12_day 12 = .ok (.ior, 1) := by decide +kernel
theorem dX12_day_13 : decode cX12_day 13 = .ok (.iastore, 1) := by decide +kernel
theorem dX12_day_14 : decode cX12_day 14 = .ok (.aload_n 0, 1) := by decide +kernel
theorem dX12_day_15 : decode cX12_day 15 = .ok (.getfield 33, 3) := by decide +kernel
theorem dX12_day_18 : decode cX12_day 18 = .ok (.bipush 67, 2) := by decide +kernel
theorem dX12_day_20 : decode cX12_day 20 = .ok (.dup2, 1) := by decide +kernel
theorem dX12_day_21 : decode cX12_day 21 = .ok (.iaload, 1) := by decide +kernel
theorem dX12_day_22 : decode cX12_day 22 = .ok (.iconst 1, 1) := by decide +kernel
theorem dX12_day_23 : decode cX12_day 23 = .ok (.iadd, 1) := by decide +kernel
theorem dX12_day_24 : decode cX12_day 24 = .ok (.iastore, 1) := by decide +kernel
theorem dX12_day_25 : decode cX12_day 25 = .ok (.iconst 0, 1) := by decide +kernel
theorem dX12_day_26 : decode cX12_day 26 = .ok (.istore_n 1, 1) := by decide +kernel
theorem dX12_day_27 : decode cX12_day 27 = .ok (.iload_n 1, 1) := by decide +kernel
theorem dX12_day_28 : decode cX12_day 28 = .ok (.aload_n 0, 1) := by decide +kernel
theorem dX12_day_29 : decode cX12_day 29 = .ok (.getfield 33, 3) := by decide +kernel
theorem dX12_day_32 : decode cX12_day 32 = .ok (.iconst 2, 1) := by decide +kernel
theorem dX12_day_33 : decode cX12_day 33 = .ok (.iaload, 1) := by decide +kernel
theorem dX12_day_34 : decode cX12_day 34 = .ok (.if_icmp .ge 71, 3) := by decide +kernel
theorem dX12_day_105 : decode cX12_day 105 = .ok (.return_, 1) := by decide +kernel
theorem dX12_goesOn_0 : decode cX12_goesOn 0 = .ok (.iconst 0, 1) := by decide +kernel
theorem dX12_goesOn_1 : decode cX12_goesOn 1 = .ok (.istore_n 2, 1) := by decide +kernel
theorem dX12_goesOn_2 : decode cX12_goesOn 2 = .ok (.iload_n 2, 1) := by decide +kernel
theorem dX12_goesOn_3 : decode cX12_goesOn 3 = .ok (.iload_n 1, 1) := by decide +kernel
theorem dX12_goesOn_4 : decode cX12_goesOn 4 = .ok (.if_icmp .ge 26, 3) := by decide +kernel
theorem dX12_goesOn_7 : decode cX12_goesOn 7 = .ok (.aload_n 0, 1) := by decide +kernel
theorem dX12_goesOn_8 : decode cX12_goesOn 8 = .ok (.getfield 33, 3) := by decide +kernel
theorem dX12_goesOn_11 : decode cX12_goesOn 11 = .ok (.bipush 67, 2) := by decide +kernel
theorem dX12_goesOn_13 : decode cX12_goesOn 13 = .ok (.iaload, 1) := by decide +kernel
theorem dX12_goesOn_14 : decode cX12_goesOn 14 = .ok (.sipush 200, 3) := by decide +kernel
theorem dX12_goesOn_17 : decode cX12_goesOn 17 = .ok (.if_icmp .ge 13, 3) := by decide +kernel
theorem dX12_goesOn_20 : decode cX12_goesOn 20 = .ok (.aload_n 0, 1) := by decide +kernel
theorem dX12_goesOn_21 : decode cX12_goesOn 21 = .ok (.invokevirtual 327, 3) := by decide +kernel
theorem dX12_goesOn_24 : decode cX12_goesOn 24 = .ok (.iinc 2 1, 3) := by decide +kernel
theorem dX12_goesOn_27 : decode cX12_goesOn 27 = .ok (.goto (-25), 3) := by decide +kernel
theorem dX12_goesOn_30 : decode cX12_goesOn 30 = .ok (.iload_n 2, 1) := by decide +kernel
theorem dX12_goesOn_31 : decode cX12_goesOn 31 = .ok (.ireturn, 1) := by decide +kernel
theorem dX12_isCover_0 : decode cX12_isCover 0 = .ok (.iconst 1, 1) := by decide +kernel
theorem dX12_isCover_1 : decode cX12_isCover 1 = .ok (.istore_n 2, 1) := by decide +kernel
theorem dX12_isCover_2 : decode cX12_isCover 2 = .ok (.iconst 0, 1) := by decide +kernel
theorem dX12_isCover_3 : decode cX12_isCover 3 = .ok (.istore_n 3, 1) := by decide +kernel
theorem dX12_isCover_4 : decode cX12_isCover 4 = .ok (.iload_n 3, 1) := by decide +kernel
theorem dX12_isCover_5 : decode cX12_isCover 5 = .ok (.aload_n 0, 1) := by decide +kernel
theorem dX12_isCover_6 : decode cX12_isCover 6 = .ok (.getfield 33, 3) := by decide +kernel
theorem dX12_isCover_9 : decode cX12_isCover 9 = .ok (.iconst 0, 1) := by decide +kernel
theorem dX12_isCover_10 : decode cX12_isCover 10 = .ok (.iaload, 1) := by decide +kernel
theorem dX12_isCover_11 : decode cX12_isCover 11 = .ok (.if_icmp .ge 144, 3) := by decide +kernel
theorem dX12_isCover_155 : decode cX12_isCover 155 = .ok (.iload_n 2, 1) := by decide +kernel
theorem dX12_isCover_156 : decode cX12_isCover 156 = .ok (.ireturn, 1) := by decide +kernel
set_option maxRecDepth 20000 in
theorem ggX12_day_X12_sparing : GoodIn wsX12_day wsX12_sparing := goodIn_r _ [6, 1, 7, 8, 5, 9, 10, 11, 12, 13, 14, 15, 16, 17, 18, 19, 20, 21, 22, 23, 24, 25, 26, 27, 28, 29, 30, 31, 32, 33, 34, 35, 36, 37, 38, 39, 40, 41, 42, 43, 44, 45, 46, 47, 48, 49, 50, 51, 52, 53, 54, 55, 56, 57, 58, 59, 60, 61, 62, 63, 64, 65, 66, 67, 68, 69, 70, 71, 72, 73, 74, 75, 76, 77, 78, 79, 80, 81, 82, 83, 84, 85, 86, 87, 88, 89, 90, 91, 92, 93, 94, 95, 96, 97, 98, 99, 100, 101] (by decide +kernel) (by decide +kernel)
set_option maxRecDepth 20000 in
theorem gX12_day_X12_sparing : GoodIn wsX12_day (wsV RX12 324 RX12 yX12_sparing wsX12_sparing) := goodIn_app (goodIn_of _ (by decide +kernel)) ggX12_day_X12_sparing
set_option maxRecDepth 20000 in
theorem ggX12_goesOn_X12_day : GoodIn wsX12_goesOn wsX12_day := goodIn_r _ [6, 1, 7, 8, 9, 5, 10, 11, 12, 13, 14, 15, 16, 17, 18, 19, 20, 21, 22, 23, 24, 25, 26, 27, 28, 29, 30, 31, 32, 33, 34, 35, 36, 37, 38, 39, 40, 41, 42, 43, 44, 45, 46, 47, 48, 49, 50, 51, 52, 53, 54, 55, 56, 57, 58, 59, 60, 61, 62, 63, 64, 65, 66, 67, 68, 69, 70, 71, 72, 73, 74, 75, 76, 77, 78, 79, 80, 81, 82, 83, 84, 85, 86, 87, 88, 89, 90, 91, 92, 93, 94, 95, 96, 97, 98, 99, 100, 101, 102, 103, 104, 105] (by decide +kernel) (by decide +kernel)
set_option maxRecDepth 20000 in
theorem gX12_goesOn_X12_day : GoodIn wsX12_goesOn (wsV RX12 327 RX12 yX12_day wsX12_day) := goodIn_app (goodIn_of _ (by decide +kernel)) ggX12_goesOn_X12_day
set_option maxHeartbeats 8000000 in
set_option maxRecDepth 100000 in
theorem k_X12_day (l : Launch) (D : va_G) (ad : Nat → Nat) (am : Nat → Nat) (tm : Nat → ClassId) (f_s : Nat → Int32) (k : Nat) (u_0 : Int32) (u_1 : Nat) (u_2 : Int32) (u_3 : Int32) (u_4 : Int32) (u_5 : Int32) (u_7 : Nat) (u_8 : Nat) (u_9 : Nat) (u_10 : Nat) (u_11 : Int32) (u_12 : Int32) (u_13 : Int32) (u_14 : Int32) (u_15 : Int32) (u_16 : Int32) (u_17 : Int64) (u_18 : Int32) (u_19 : Int32) (u_20 : Int32) (u_21 : Nat) (u_22 : Nat) (u_23 : Int32) (u_24 : Int32) (u_25 : Int32) (u_26 : Int32) (u_27 : Nat) (u_28 : Int32) (u_29 : Nat) (u_30 : Int32) (u_31 : Int32) (u_32 : Nat) (u_33 : Int32) (u_34 : Nat) (u_35 : Nat) (u_36 : Int32) (u_37 : Int32) (u_38 : Nat) (u_39 : Int32) (u_40 : Int32) (u_41 : Int32) (u_42 : Nat) (u_43 : Int32) (u_44 : Nat) (u_45 : Int32) (u_46 : Int32) (u_47 : Int32) (u_48 : Int32) (u_49 : Int32) (u_50 : Nat) (u_51 : Nat) (u_52 : Nat) (u_53 : Nat) (h1 : f_s 1 = 0) (h2 : f_s 2 = 0) (h67 : f_s 67 = nI k) : z_Mv l yX12_day wsX12_day { frames := 1, cells := 0, slots := 0, locals := 24 } D ad [.ref (am 18)] [(am 1, .inl (tm 1, 283, .inl f_s)), (am 18, .inr (11, [.int u_0, .ref u_1, .int u_2, .int u_3, .int u_4, .int u_5, .ref (am 1), .ref u_7, .ref u_8, .ref u_9, .ref u_10, .int u_11, .int u_12, .int u_13, .int u_14, .int u_15, .int u_16, .long u_17, .int u_18, .int u_19, .int u_20, .ref u_21, .ref u_22, .int u_23, .int u_24, .int u_25, .int u_26, .ref u_27, .int u_28, .ref u_29, .int u_30, .int u_31, .ref u_32, .int u_33, .ref u_34, .ref u_35, .int u_36, .int u_37, .ref u_38, .int u_39, .int u_40, .int u_41, .ref u_42, .int u_43, .ref u_44, .int u_45, .int u_46, .int u_47, .int u_48, .int u_49, .ref u_50, .ref u_51, .ref u_52, .ref u_53]))] [(tm 1, .int)] 0 0 (fun u9 => ∃ (f9 : Nat → Int32), f9 1 = 0 ∧ f9 2 = 0 ∧ f9 67 = nI (k + 1) ∧ u9 = ([(am 1, .inl (tm 1, 283, .inl f9)), (am 18, .inr (11, [.int u_0, .ref u_1, .int u_2, .int u_3, .int u_4, .int u_5, .ref (am 1), .ref u_7, .ref u_8, .ref u_9, .ref u_10, .int u_11, .int u_12, .int u_13, .int u_14, .int u_15, .int u_16, .long u_17, .int u_18, .int u_19, .int u_20, .ref u_21, .ref u_22, .int u_23, .int u_24, .int u_25, .int u_26, .ref u_27, .int u_28, .ref u_29, .int u_30, .int u_31, .ref u_32, .int u_33, .ref u_34, .ref u_35, .int u_36, .int u_37, .ref u_38, .int u_39, .int u_40, .int u_41, .ref u_42, .int u_43, .ref u_44, .int u_45, .int u_46, .int u_47, .int u_48, .int u_49, .ref u_50, .ref u_51, .ref u_52, .ref u_53]))], [])) := by
  refine z_ofV (cc := cX12_day) (maxL := 2) (by decide) rfl (Nat.le_of_ble_eq_true rfl) ?_
  intro p e s m below meth c Q A ls hx hb hml hown hts hin hK hP hD hA hE hO hS hl hret
  have hown : s.vm.findClass RX12 = some m.cls := hown
  have hiX12 : ∀ w ∈ wsX120, w ∈ wsX12_day := fun _ h9 => List.mem_cons_of_mem _ (List.mem_append_right _ h9)
  have hl : lv_has ls 2 [(0, .ref (am 18))] := hl
  refine lv_aload_n hx hb dX12_day_0 rfl (lv_at hl 0 rfl) ?_
  refine va_get (D := D) (ci := 11) (v := .ref (am 1)) (C := RX12) (T := TX12) (N := 54) hx hb hts hiX12 hown hK hP 1 rfl rfl 6 (by decide) (hts _ (List.mem_of_getElem? (i := 1) rfl)) (fun _ h9 => h9) rfl dX12_day_1 ?_
  refine lv_bipush (v := 101) hx hb dX12_day_4 (by decide) ?_
  refine lv_dup2_11 hx hb dX12_day_6 rfl rfl ?_
  refine va_iald hx hb hK hP 0 0 rfl rfl (show ¬ (_ ∨ _) by decide) dX12_day_7 ?_
  refine lv_topi (fun y_1 ey_1 => ?_)
  refine lv_aload_n hx hb dX12_day_8 rfl (lv_at hl 0 rfl) ?_
  have hc9 := (k_X12_sparing l D ad am tm f_s u_0 u_1 u_2 u_3 u_4 u_5 u_7 u_8 u_9 u_10 u_11 u_12 u_13 u_14 u_15 u_16 u_17 u_18 u_19 u_20 u_21 u_22 u_23 u_24 u_25 u_26 u_27 u_28 u_29 u_30 u_31 u_32 u_33 u_34 u_35 u_36 u_37 u_38 u_39 u_40 u_41 u_42 u_43 u_44 u_45 u_46 u_47 u_48 u_49 u_50 u_51 u_52 u_53 (h1))
  refine z_calli (w0 := [(am 1, .inl (tm 1, 283, .inl f_s)), (am 18, .inr (11, [.int u_0, .ref u_1, .int u_2, .int u_3, .int u_4, .int u_5, .ref (am 1), .ref u_7, .ref u_8, .ref u_9, .ref u_10, .int u_11, .int u_12, .int u_13, .int u_14, .int u_15, .int u_16, .long u_17, .int u_18, .int u_19, .int u_20, .ref u_21, .ref u_22, .int u_23, .int u_24, .int u_25, .int u_26, .ref u_27, .int u_28, .ref u_29, .int u_30, .int u_31, .ref u_32, .int u_33, .ref u_34, .ref u_35, .int u_36, .int u_37, .ref u_38, .int u_39, .int u_40, .int u_41, .ref u_42, .int u_43, .ref u_44, .int u_45, .int u_46, .int u_47, .int u_48, .int u_49, .ref u_50, .ref u_51, .ref u_52, .ref u_53]))]) (wr := []) (va_runV (As := []) (rest := [.int y_1, .int 101, .ref (am 1)]) ⟨hx, hb, hml, hown, hts⟩ (hc9 _) (cwV 0 hts gX12_day_X12_sparing rfl rfl rfl (by decide +kernel) ⟨Nat.le_of_ble_eq_true rfl, Nat.le_of_ble_eq_true rfl⟩) (z_preV hP hD hK hS hA hE hO [0, 1] [0] rfl (by decide +kernel) rfl 1 11 rfl rfl rfl) rfl rfl hl.1 rfl (lv_room (Nat.le_of_ble_eq_true rfl)) dX12_day_9 ⟨Nat.le_of_ble_eq_true rfl, Nat.le_of_ble_eq_true rfl⟩) hP hD hK hS hA [0, 1] [] rfl rfl (by decide +kernel) (by decide +kernel) (fun r9 u9 H locs hw hP hD hK hS => ?_)
  obtain ⟨er9, rfl⟩ := hw
  have hP : va_P D vwCl [(am 1, .inl (tm 1, 283, .inl f_s)), (am 18, .inr (11, [.int u_0, .ref u_1, .int u_2, .int u_3, .int u_4, .int u_5, .ref (am 1), .ref u_7, .ref u_8, .ref u_9, .ref u_10, .int u_11, .int u_12, .int u_13, .int u_14, .int u_15, .int u_16, .long u_17, .int u_18, .int u_19, .int u_20, .ref u_21, .ref u_22, .int u_23, .int u_24, .int u_25, .int u_26, .ref u_27, .int u_28, .ref u_29, .int u_30, .int u_31, .ref u_32, .int u_33, .ref u_34, .ref u_35, .int u_36, .int u_37, .ref u_38, .int u_39, .int u_40, .int u_41, .ref u_42, .int u_43, .ref u_44, .int u_45, .int u_46, .int u_47, .int u_48, .int u_49, .ref u_50, .ref u_51, .ref u_52, .ref u_53]))] H := hP
  have hD : va_D A [(am 1, .inl (tm 1, 283, .inl f_s)), (am 18, .inr (11, [.int u_0, .ref u_1, .int u_2, .int u_3, .int u_4, .int u_5, .ref (am 1), .ref u_7, .ref u_8, .ref u_9, .ref u_10, .int u_11, .int u_12, .int u_13, .int u_14, .int u_15, .int u_16, .long u_17, .int u_18, .int u_19, .int u_20, .ref u_21, .ref u_22, .int u_23, .int u_24, .int u_25, .int u_26, .ref u_27, .int u_28, .ref u_29, .int u_30, .int u_31, .ref u_32, .int u_33, .ref u_34, .ref u_35, .int u_36, .int u_37, .ref u_38, .int u_39, .int u_40, .int u_41, .ref u_42, .int u_43, .ref u_44, .int u_45, .int u_46, .int u_47, .int u_48, .int u_49, .ref u_50, .ref u_51, .ref u_52, .ref u_53]))] := hD
  have hK : va_K D vwCl [(tm 1, .int)] s := hK
  refine W.cs (cells' := 0) (slots' := 0) rfl rfl ?_
  obtain rfl := er9
  refine W.eq (g2 := F0 m 12 ls (.int 0 :: [.int y_1, .int 101, .ref (am 1)])) rfl ?_
  refine lv_ior hx hb dX12_day_12 ?_
  refine lv_topi (fun y_2 ey_2 => ?_)
  refine va_iast hx hb hK hP hD hS 0 0 rfl rfl (show ¬ (_ ∨ _) by decide) dX12_day_13 (fun H locs hP hD hS => ?_)
  have hP : va_P D vwCl [(am 1, .inl (tm 1, 283, .inl (upd f_s 101 y_2))), (am 18, .inr (11, [.int u_0, .ref u_1, .int u_2, .int u_3, .int u_4, .int u_5, .ref (am 1), .ref u_7, .ref u_8, .ref u_9, .ref u_10, .int u_11, .int u_12, .int u_13, .int u_14, .int u_15, .int u_16, .long u_17, .int u_18, .int u_19, .int u_20, .ref u_21, .ref u_22, .int u_23, .int u_24, .int u_25, .int u_26, .ref u_27, .int u_28, .ref u_29, .int u_30, .int u_31, .ref u_32, .int u_33, .ref u_34, .ref u_35, .int u_36, .int u_37, .ref u_38, .int u_39, .int u_40, .int u_41, .ref u_42, .int u_43, .ref u_44, .int u_45, .int u_46, .int u_47, .int u_48, .int u_49, .ref u_50, .ref u_51, .ref u_52, .ref u_53]))] H := hP
  have hD : va_D A [(am 1, .inl (tm 1, 283, .inl (upd f_s 101 y_2))), (am 18, .inr (11, [.int u_0, .ref u_1, .int u_2, .int u_3, .int u_4, .int u_5, .ref (am 1), .ref u_7, .ref u_8, .ref u_9, .ref u_10, .int u_11, .int u_12, .int u_13, .int u_14, .int u_15, .int u_16, .long u_17, .int u_18, .int u_19, .int u_20, .ref u_21, .ref u_22, .int u_23, .int u_24, .int u_25, .int u_26, .ref u_27, .int u_28, .ref u_29, .int u_30, .int u_31, .ref u_32, .int u_33, .ref u_34, .ref u_35, .int u_36, .int u_37, .ref u_38, .int u_39, .int u_40, .int u_41, .ref u_42, .int u_43, .ref u_44, .int u_45, .int u_46, .int u_47, .int u_48, .int u_49, .ref u_50, .ref u_51, .ref u_52, .ref u_53]))] := hD
  refine lv_aload_n hx hb dX12_day_14 rfl (lv_at hl 0 rfl) ?_
  refine va_get (D := D) (ci := 11) (v := .ref (am 1)) (C := RX12) (T := TX12) (N := 54) hx hb hts hiX12 hown hK hP 1 rfl rfl 6 (by decide) (hts _ (List.mem_of_getElem? (i := 1) rfl)) (fun _ h9 => h9) rfl dX12_day_15 ?_
  refine lv_bipush (v := 67) hx hb dX12_day_18 (by decide) ?_
  refine lv_dup2_11 hx hb dX12_day_20 rfl rfl ?_
  refine va_iald hx hb hK hP 0 0 rfl rfl (show ¬ (_ ∨ _) by decide) dX12_day_21 ?_
  refine lv_topi (fun y_3 ey_3 => ?_)
  obtain rfl : y_3 = nI k := ey_3.trans (show _ = _ from h67)
  refine lv_iconst (v := 1) hx hb dX12_day_22 (by decide) ?_
  refine lv_iadd hx hb dX12_day_23 ?_
  refine lv_topi (fun y_4 ey_4 => ?_)
  obtain rfl : y_4 = nI (k + 1) := ey_4.trans (nI_add k 1)
  refine va_iast hx hb hK hP hD hS 0 0 rfl rfl (show ¬ (_ ∨ _) by decide) dX12_day_24 (fun H locs hP hD hS => ?_)
  have hP : va_P D vwCl [(am 1, .inl (tm 1, 283, .inl (upd (upd f_s 101 y_2) 67 (nI (k + 1))))), (am 18, .inr (11, [.int u_0, .ref u_1, .int u_2, .int u_3, .int u_4, .int u_5, .ref (am 1), .ref u_7, .ref u_8, .ref u_9, .ref u_10, .int u_11, .int u_12, .int u_13, .int u_14, .int u_15, .int u_16, .long u_17, .int u_18, .int u_19, .int u_20, .ref u_21, .ref u_22, .int u_23, .int u_24, .int u_25, .int u_26, .ref u_27, .int u_28, .ref u_29, .int u_30, .int u_31, .ref u_32, .int u_33, .ref u_34, .ref u_35, .int u_36, .int u_37, .ref u_38, .int u_39, .int u_40, .int u_41, .ref u_42, .int u_43, .ref u_44, .int u_45, .int u_46, .int u_47, .int u_48, .int u_49, .ref u_50, .ref u_51, .ref u_52, .ref u_53]))] H := hP
  have hD : va_D A [(am 1, .inl (tm 1, 283, .inl (upd (upd f_s 101 y_2) 67 (nI (k + 1))))), (am 18, .inr (11, [.int u_0, .ref u_1, .int u_2, .int u_3, .int u_4, .int u_5, .ref (am 1), .ref u_7, .ref u_8, .ref u_9, .ref u_10, .int u_11, .int u_12, .int u_13, .int u_14, .int u_15, .int u_16, .long u_17, .int u_18, .int u_19, .int u_20, .ref u_21, .ref u_22, .int u_23, .int u_24, .int u_25, .int u_26, .ref u_27, .int u_28, .ref u_29, .int u_30, .int u_31, .ref u_32, .int u_33, .ref u_34, .ref u_35, .int u_36, .int u_37, .ref u_38, .int u_39, .int u_40, .int u_41, .ref u_42, .int u_43, .ref u_44, .int u_45, .int u_46, .int u_47, .int u_48, .int u_49, .ref u_50, .ref u_51, .ref u_52, .ref u_53]))] := hD
  refine lv_iconst (v := 0) hx hb dX12_day_25 (by decide) ?_
  refine lv_istore_n (lv' := [(1, .int 0), (0, .ref (am 18))]) hx hb dX12_day_26 rfl hl (by decide) rfl (fun ls hl => ?_)
  refine lv_iload_n hx hb dX12_day_27 rfl (lv_at hl 0 rfl) ?_
  refine lv_aload_n hx hb dX12_day_28 rfl (lv_at hl 1 rfl) ?_
  refine va_get (D := D) (ci := 11) (v := .ref (am 1)) (C := RX12) (T := TX12) (N := 54) hx hb hts hiX12 hown hK hP 1 rfl rfl 6 (by decide) (hts _ (List.mem_of_getElem? (i := 1) rfl)) (fun _ h9 => h9) rfl dX12_day_29 ?_
  refine lv_iconst (v := 2) hx hb dX12_day_32 (by decide) ?_
  refine va_iald hx hb hK hP 0 0 rfl rfl (show ¬ (_ ∨ _) by decide) dX12_day_33 ?_
  refine lv_topi (fun y_5 ey_5 => ?_)
  obtain rfl : y_5 = 0 := ey_5.trans (show _ = _ from h2)
  refine lv_icmp_ge (tgt := 105) hx hb dX12_day_34 (by decide) (fun _ => ?_) (fun h9 => absurd (by decide) h9)
  obtain ⟨f9, ef9⟩ : ∃ f : Nat → Int32, f = (upd (upd f_s 101 y_2) 67 (nI (k + 1))) := ⟨_, rfl⟩
  rw [← ef9] at hP hD
  refine W.widen (k := 0) (n := 0) (by decide) (by decide) ?_
  exact hret ([(am 1, .inl (tm 1, 283, .inl f9)), (am 18, .inr (11, [.int u_0, .ref u_1, .int u_2, .int u_3, .int u_4, .int u_5, .ref (am 1), .ref u_7, .ref u_8, .ref u_9, .ref u_10, .int u_11, .int u_12, .int u_13, .int u_14, .int u_15, .int u_16, .long u_17, .int u_18, .int u_19, .int u_20, .ref u_21, .ref u_22, .int u_23, .int u_24, .int u_25, .int u_26, .ref u_27, .int u_28, .ref u_29, .int u_30, .int u_31, .ref u_32, .int u_33, .ref u_34, .ref u_35, .int u_36, .int u_37, .ref u_38, .int u_39, .int u_40, .int u_41, .ref u_42, .int u_43, .ref u_44, .int u_45, .int u_46, .int u_47, .int u_48, .int u_49, .ref u_50, .ref u_51, .ref u_52, .ref u_53]))], []) _ _ _ _ dX12_day_105 ⟨f9, by rw [ef9]; exact h1, by rw [ef9]; exact h2, by rw [ef9]; rfl, rfl⟩ (hP.sub [0, 1] rfl) (hK.sub [] rfl) (hD.sub [0, 1] (by decide +kernel) rfl) hS

set_option maxHeartbeats 8000000 in
set_option maxRecDepth 100000 in
theorem k_X12_goesOn (l : Launch) (D : va_G) (ad : Nat → Nat) (am : Nat → Nat) (tm : Nat → ClassId) (f_s : Nat → Int32) (n0 : Nat) (u_0 : Int32) (u_1 : Nat) (u_2 : Int32) (u_3 : Int32) (u_4 : Int32) (u_5 : Int32) (u_7 : Nat) (u_8 : Nat) (u_9 : Nat) (u_10 : Nat) (u_11 : Int32) (u_12 : Int32) (u_13 : Int32) (u_14 : Int32) (u_15 : Int32) (u_16 : Int32) (u_17 : Int64) (u_18 : Int32) (u_19 : Int32) (u_20 : Int32) (u_21 : Nat) (u_22 : Nat) (u_23 : Int32) (u_24 : Int32) (u_25 : Int32) (u_26 : Int32) (u_27 : Nat) (u_28 : Int32) (u_29 : Nat) (u_30 : Int32) (u_31 : Int32) (u_32 : Nat) (u_33 : Int32) (u_34 : Nat) (u_35 : Nat) (u_36 : Int32) (u_37 : Int32) (u_38 : Nat) (u_39 : Int32) (u_40 : Int32) (u_41 : Int32) (u_42 : Nat) (u_43 : Int32) (u_44 : Nat) (u_45 : Int32) (u_46 : Int32) (u_47 : Int32) (u_48 : Int32) (u_49 : Int32) (u_50 : Nat) (u_51 : Nat) (u_52 : Nat) (u_53 : Nat) (hn0 : n0 ≤ 60) (h1 : f_s 1 = 0) (h2 : f_s 2 = 0) (h67 : f_s 67 = 0) : z_Mi l yX12_goesOn wsX12_goesOn { frames := 2, cells := 0, slots := 0, locals := 45 } D ad [.ref (am 18), .int (nI n0)] [(am 1, .inl (tm 1, 283, .inl f_s)), (am 18, .inr (11, [.int u_0, .ref u_1, .int u_2, .int u_3, .int u_4, .int u_5, .ref (am 1), .ref u_7, .ref u_8, .ref u_9, .ref u_10, .int u_11, .int u_12, .int u_13, .int u_14, .int u_15, .int u_16, .long u_17, .int u_18, .int u_19, .int u_20, .ref u_21, .ref u_22, .int u_23, .int u_24, .int u_25, .int u_26, .ref u_27, .int u_28, .ref u_29, .int u_30, .int u_31, .ref u_32, .int u_33, .ref u_34, .ref u_35, .int u_36, .int u_37, .ref u_38, .int u_39, .int u_40, .int u_41, .ref u_42, .int u_43, .ref u_44, .int u_45, .int u_46, .int u_47, .int u_48, .int u_49, .ref u_50, .ref u_51, .ref u_52, .ref u_53]))] [(tm 1, .int)] 0 0 (fun r9 u9 => ∃ (g1_0 : Nat → Int32), r9 = nI n0 ∧ g1_0 1 = 0 ∧ u9 = ([(am 1, .inl (tm 1, 283, .inl g1_0)), (am 18, .inr (11, [.int u_0, .ref u_1, .int u_2, .int u_3, .int u_4, .int u_5, .ref (am 1), .ref u_7, .ref u_8, .ref u_9, .ref u_10, .int u_11, .int u_12, .int u_13, .int u_14, .int u_15, .int u_16, .long u_17, .int u_18, .int u_19, .int u_20, .ref u_21, .ref u_22, .int u_23, .int u_24, .int u_25, .int u_26, .ref u_27, .int u_28, .ref u_29, .int u_30, .int u_31, .ref u_32, .int u_33, .ref u_34, .ref u_35, .int u_36, .int u_37, .ref u_38, .int u_39, .int u_40, .int u_41, .ref u_42, .int u_43, .ref u_44, .int u_45, .int u_46, .int u_47, .int u_48, .int u_49, .ref u_50, .ref u_51, .ref u_52, .ref u_53]))], [])) := by
  refine z_ofI (cc := cX12_goesOn) (maxL := 3) (rt := .int) (by decide) rfl (Nat.le_of_ble_eq_true rfl) ?_
  intro p e s m below meth c Q A ls hx hb hml hown hts hin hK hP hD hA hE hO hS hl hret
  have hown : s.vm.findClass RX12 = some m.cls := hown
  have hiX12 : ∀ w ∈ wsX120, w ∈ wsX12_goesOn := fun _ h9 => List.mem_cons_of_mem _ (List.mem_append_right _ h9)
  have hl : lv_has ls 3 [(0, .ref (am 18)), (1, .int (nI n0))] := hl
  refine lv_iconst (v := 0) hx hb dX12_goesOn_0 (by decide) ?_
  refine lv_istore_n (lv' := [(2, .int 0), (0, .ref (am 18)), (1, .int (nI n0))]) hx hb dX12_goesOn_1 rfl hl (by decide) rfl (fun ls hl => ?_)
  have LP1 : ∀ (n k1 : Nat) (g1_0 : Nat → Int32) (H : Heap) (locs : List Loc) (ls : Array Slot), k1 ≤ n0 → n0 < k1 + n → (g1_0 1 = 0) → (g1_0 2 = 0) → (g1_0 67 = nI k1) → va_P D vwCl [(am 1, .inl (tm 1, 283, .inl g1_0)), (am 18, .inr (11, [.int u_0, .ref u_1, .int u_2, .int u_3, .int u_4, .int u_5, .ref (am 1), .ref u_7, .ref u_8, .ref u_9, .ref u_10, .int u_11, .int u_12, .int u_13, .int u_14, .int u_15, .int u_16, .long u_17, .int u_18, .int u_19, .int u_20, .ref u_21, .ref u_22, .int u_23, .int u_24, .int u_25, .int u_26, .ref u_27, .int u_28, .ref u_29, .int u_30, .int u_31, .ref u_32, .int u_33, .ref u_34, .ref u_35, .int u_36, .int u_37, .ref u_38, .int u_39, .int u_40, .int u_41, .ref u_42, .int u_43, .ref u_44, .int u_45, .int u_46, .int u_47, .int u_48, .int u_49, .ref u_50, .ref u_51, .ref u_52, .ref u_53]))] H → va_D A [(am 1, .inl (tm 1, 283, .inl g1_0)), (am 18, .inr (11, [.int u_0, .ref u_1, .int u_2, .int u_3, .int u_4, .int u_5, .ref (am 1), .ref u_7, .ref u_8, .ref u_9, .ref u_10, .int u_11, .int u_12, .int u_13, .int u_14, .int u_15, .int u_16, .long u_17, .int u_18, .int u_19, .int u_20, .ref u_21, .ref u_22, .int u_23, .int u_24, .int u_25, .int u_26, .ref u_27, .int u_28, .ref u_29, .int u_30, .int u_31, .ref u_32, .int u_33, .ref u_34, .ref u_35, .int u_36, .int u_37, .ref u_38, .int u_39, .int u_40, .int u_41, .ref u_42, .int u_43, .ref u_44, .int u_45, .int u_46, .int u_47, .int u_48, .int u_49, .ref u_50, .ref u_51, .ref u_52, .ref u_53]))] → va_S A s.heap H locs → lv_has ls 3 [(2, .int (nI k1)), (0, .ref (am 18)), (1, .int (nI n0))] → W p l e ({ frames := 2, cells := 0, slots := 0, locals := 45 }) s m ([.ref (am 18), .int (nI n0)] : List Value).toArray below meth c H locs 0 0 Q (F0 m 2 ls []) := by
    intro n
    induction n with
    | zero => intro k1 g1_0 H locs ls h1 h2; exact absurd h2 (by omega)
    | succ n ih1 =>
      intro k1 g1_0 H locs ls hk1 hn1 h11 h21 h671 hP hD hS hl
      refine lv_iload_n hx hb dX12_goesOn_2 rfl (lv_at hl 0 rfl) ?_
      refine lv_iload_n hx hb dX12_goesOn_3 rfl (lv_at hl 2 rfl) ?_
      refine lv_icmp_ge (tgt := 30) hx hb dX12_goesOn_4 (by decide) (fun c_1 => ?_) (fun c_1 => ?_)
      · have hek1 : k1 = n0 := by
          rcases Nat.lt_or_ge k1 n0 with q | q
          · exact absurd c_1 (nI_ge q (by omega))
          · omega
        rw [hek1] at hl
        refine lv_iload_n hx hb dX12_goesOn_30 rfl (lv_at hl 0 rfl) ?_
        refine W.widen (k := 0) (n := 0) (by decide) (by decide) ?_
        exact hret (nI n0) ([(am 1, .inl (tm 1, 283, .inl g1_0)), (am 18, .inr (11, [.int u_0, .ref u_1, .int u_2, .int u_3, .int u_4, .int u_5, .ref (am 1), .ref u_7, .ref u_8, .ref u_9, .ref u_10, .int u_11, .int u_12, .int u_13, .int u_14, .int u_15, .int u_16, .long u_17, .int u_18, .int u_19, .int u_20, .ref u_21, .ref u_22, .int u_23, .int u_24, .int u_25, .int u_26, .ref u_27, .int u_28, .ref u_29, .int u_30, .int u_31, .ref u_32, .int u_33, .ref u_34, .ref u_35, .int u_36, .int u_37, .ref u_38, .int u_39, .int u_40, .int u_41, .ref u_42, .int u_43, .ref u_44, .int u_45, .int u_46, .int u_47, .int u_48, .int u_49, .ref u_50, .ref u_51, .ref u_52, .ref u_53]))], []) _ _ _ _ dX12_goesOn_31 rfl ⟨g1_0, rfl, h11, rfl⟩ (hP.sub [0, 1] rfl) (hK.sub [] rfl) (hD.sub [0, 1] (by decide +kernel) rfl) hS
      · have hlt1 : k1 < n0 := by
          rcases Nat.lt_or_ge k1 n0 with q | q
          · exact q
          · exact absurd (nI_le q (by omega)) c_1
        refine lv_aload_n hx hb dX12_goesOn_7 rfl (lv_at hl 1 rfl) ?_
        refine va_get (D := D) (ci := 11) (v := .ref (am 1)) (C := RX12) (T := TX12) (N := 54) hx hb hts hiX12 hown hK hP 1 rfl rfl 6 (by decide) (hts _ (List.mem_of_getElem? (i := 1) rfl)) (fun _ h9 => h9) rfl dX12_goesOn_8 ?_
        refine lv_bipush (v := 67) hx hb dX12_goesOn_11 (by decide) ?_
        refine va_iald hx hb hK hP 0 0 rfl rfl (show ¬ (_ ∨ _) by decide) dX12_goesOn_13 ?_
        refine lv_topi (fun y_2 ey_2 => ?_)
        obtain rfl : y_2 = nI k1 := ey_2.trans (show _ = _ from h671)
        refine lv_sipush (v := 200) hx hb dX12_goesOn_14 (by decide) ?_
        refine lv_icmp_ge (tgt := 30) hx hb dX12_goesOn_17 (by decide) (fun h9 => absurd h9 (nI_ge (a := k1) (b := 200) (by omega) (by decide))) (fun _ => ?_)
        refine lv_aload_n hx hb dX12_goesOn_20 rfl (lv_at hl 1 rfl) ?_
        have hc9 := (k_X12_day l D ad am tm g1_0 k1 u_0 u_1 u_2 u_3 u_4 u_5 u_7 u_8 u_9 u_10 u_11 u_12 u_13 u_14 u_15 u_16 u_17 u_18 u_19 u_20 u_21 u_22 u_23 u_24 u_25 u_26 u_27 u_28 u_29 u_30 u_31 u_32 u_33 u_34 u_35 u_36 u_37 u_38 u_39 u_40 u_41 u_42 u_43 u_44 u_45 u_46 u_47 u_48 u_49 u_50 u_51 u_52 u_53 (h11) (h21) (h671))
        refine z_callv (w0 := [(am 1, .inl (tm 1, 283, .inl g1_0)), (am 18, .inr (11, [.int u_0, .ref u_1, .int u_2, .int u_3, .int u_4, .int u_5, .ref (am 1), .ref u_7, .ref u_8, .ref u_9, .ref u_10, .int u_11, .int u_12, .int u_13, .int u_14, .int u_15, .int u_16, .long u_17, .int u_18, .int u_19, .int u_20, .ref u_21, .ref u_22, .int u_23, .int u_24, .int u_25, .int u_26, .ref u_27, .int u_28, .ref u_29, .int u_30, .int u_31, .ref u_32, .int u_33, .ref u_34, .ref u_35, .int u_36, .int u_37, .ref u_38, .int u_39, .int u_40, .int u_41, .ref u_42, .int u_43, .ref u_44, .int u_45, .int u_46, .int u_47, .int u_48, .int u_49, .ref u_50, .ref u_51, .ref u_52, .ref u_53]))]) (wr := []) (va_runV (As := []) (rest := []) ⟨hx, hb, hml, hown, hts⟩ (hc9 _) (cwV 0 hts gX12_goesOn_X12_day rfl rfl rfl (by decide +kernel) ⟨Nat.le_of_ble_eq_true rfl, Nat.le_of_ble_eq_true rfl⟩) (z_preV hP hD hK hS hA hE hO [0, 1] [0] rfl (by decide +kernel) rfl 1 11 rfl rfl rfl) rfl rfl hl.1 rfl (lv_room (Nat.le_of_ble_eq_true rfl)) dX12_goesOn_21 ⟨Nat.le_of_ble_eq_true rfl, Nat.le_of_ble_eq_true rfl⟩) hP hD hK hS hA [0, 1] [] rfl rfl (by decide +kernel) (by decide +kernel) (fun u9 H locs hw hP hD hK hS => ?_)
        obtain ⟨f9_3, h_4, h_5, h_6, rfl⟩ := hw
        have hP : va_P D vwCl [(am 1, .inl (tm 1, 283, .inl f9_3)), (am 18, .inr (11, [.int u_0, .ref u_1, .int u_2, .int u_3, .int u_4, .int u_5, .ref (am 1), .ref u_7, .ref u_8, .ref u_9, .ref u_10, .int u_11, .int u_12, .int u_13, .int u_14, .int u_15, .int u_16, .long u_17, .int u_18, .int u_19, .int u_20, .ref u_21, .ref u_22, .int u_23, .int u_24, .int u_25, .int u_26, .ref u_27, .int u_28, .ref u_29, .int u_30, .int u_31, .ref u_32, .int u_33, .ref u_34, .ref u_35, .int u_36, .int u_37, .ref u_38, .int u_39, .int u_40, .int u_41, .ref u_42, .int u_43, .ref u_44, .int u_45, .int u_46, .int u_47, .int u_48, .int u_49, .ref u_50, .ref u_51, .ref u_52, .ref u_53]))] H := hP
        have hD : va_D A [(am 1, .inl (tm 1, 283, .inl f9_3)), (am 18, .inr (11, [.int u_0, .ref u_1, .int u_2, .int u_3, .int u_4, .int u_5, .ref (am 1), .ref u_7, .ref u_8, .ref u_9, .ref u_10, .int u_11, .int u_12, .int u_13, .int u_14, .int u_15, .int u_16, .long u_17, .int u_18, .int u_19, .int u_20, .ref u_21, .ref u_22, .int u_23, .int u_24, .int u_25, .int u_26, .ref u_27, .int u_28, .ref u_29, .int u_30, .int u_31, .ref u_32, .int u_33, .ref u_34, .ref u_35, .int u_36, .int u_37, .ref u_38, .int u_39, .int u_40, .int u_41, .ref u_42, .int u_43, .ref u_44, .int u_45, .int u_46, .int u_47, .int u_48, .int u_49, .ref u_50, .ref u_51, .ref u_52, .ref u_53]))] := hD
        have hK : va_K D vwCl [(tm 1, .int)] s := hK
        refine W.cs (cells' := 0) (slots' := 0) rfl rfl ?_
        refine lv_iinc (v := nI (k1 + 1)) (lv' := [(2, .int (nI (k1 + 1))), (0, .ref (am 18)), (1, .int (nI n0))]) hx hb dX12_goesOn_24 hl (k := 0) rfl (nI_1 k1) (by decide) rfl (fun ls hl => ?_)
        refine lv_goto (tgt := 2) hx hb dX12_goesOn_27 (by decide) ?_
        exact ih1 (k1 + 1) f9_3 _ _ _ (by omega) (by omega) (h_4) (h_5) (h_6) hP hD hS (lv_sub hl [0, 1, 2] rfl)
  exact LP1 (n0 + 1) 0 f_s _ _ _ (by omega) (by omega) (h1) (h2) (h67) hP hD hS hl

set_option maxHeartbeats 8000000 in
set_option maxRecDepth 100000 in
theorem k_X12_openSet (l : Launch) (D : va_G) (ad : Nat → Nat) (am : Nat → Nat) (tm : Nat → ClassId) (u_0 : Int32) (u_1 : Nat) (u_2 : Int32) (u_3 : Int32) (u_4 : Int32) (u_5 : Int32) (u_7 : Nat) (u_8 : Nat) (u_9 : Nat) (u_10 : Nat) (u_11 : Int32) (u_12 : Int32) (u_13 : Int32) (u_14 : Int32) (u_15 : Int32) (u_16 : Int32) (u_17 : Int64) (u_18 : Int32) (u_19 : Int32) (u_20 : Int32) (u_21 : Nat) (u_22 : Nat) (u_23 : Int32) (u_24 : Int32) (u_25 : Int32) (u_26 : Int32) (u_27 : Nat) (u_28 : Int32) (u_29 : Nat) (u_30 : Int32) (u_31 : Int32) (u_32 : Nat) (u_33 : Int32) (u_34 : Nat) (u_35 : Nat) (u_36 : Int32) (u_37 : Int32) (u_38 : Nat) (u_39 : Int32) (u_40 : Int32) (u_41 : Int32) (u_42 : Nat) (u_43 : Int32) (u_44 : Nat) (u_45 : Int32) (u_46 : Int32) (u_47 : Int32) (u_48 : Int32) (u_49 : Int32) (u_50 : Nat) (u_51 : Nat) (u_52 : Nat) (u_53 : Nat)  : z_Mi l yX12_openSet wsX12_openSet { frames := 0, cells := 0, slots := 0, locals := 0 } D ad [.ref (am 18)] [(am 1, .inl (tm 1, 283, .inl (upd (fun _ => 0) 4 2))), (am 18, .inr (11, [.int u_0, .ref u_1, .int u_2, .int u_3, .int u_4, .int u_5, .ref (am 1), .ref u_7, .ref u_8, .ref u_9, .ref u_10, .int u_11, .int u_12, .int u_13, .int u_14, .int u_15, .int u_16, .long u_17, .int u_18, .int u_19, .int u_20, .ref u_21, .ref u_22, .int u_23, .int u_24, .int u_25, .int u_26, .ref u_27, .int u_28, .ref u_29, .int u_30, .int u_31, .ref u_32, .int u_33, .ref u_34, .ref u_35, .int u_36, .int u_37, .ref u_38, .int u_39, .int u_40, .int u_41, .ref u_42, .int u_43, .ref u_44, .int u_45, .int u_46, .int u_47, .int u_48, .int u_49, .ref u_50, .ref u_51, .ref u_52, .ref u_53]))] [(tm 1, .int)] 0 0 (fun r9 u9 => r9 = 0 ∧ u9 = ([(am 1, .inl (tm 1, 283, .inl (upd (fun _ => 0) 4 2))), (am 18, .inr (11, [.int u_0, .ref u_1, .int u_2, .int u_3, .int u_4, .int u_5, .ref (am 1), .ref u_7, .ref u_8, .ref u_9, .ref u_10, .int u_11, .int u_12, .int u_13, .int u_14, .int u_15, .int u_16, .long u_17, .int u_18, .int u_19, .int u_20, .ref u_21, .ref u_22, .int u_23, .int u_24, .int u_25, .int u_26, .ref u_27, .int u_28, .ref u_29, .int u_30, .int u_31, .ref u_32, .int u_33, .ref u_34, .ref u_35, .int u_36, .int u_37, .ref u_38, .int u_39, .int u_40, .int u_41, .ref u_42, .int u_43, .ref u_44, .int u_45, .int u_46, .int u_47, .int u_48, .int u_49, .ref u_50, .ref u_51, .ref u_52, .ref u_53]))], [])) := by
  refine z_ofI (cc := cX12_openSet) (maxL := 3) (rt := .int) (by decide) rfl (Nat.le_of_ble_eq_true rfl) ?_
  intro p e s m below meth c Q A ls hx hb hml hown hts hin hK hP hD hA hE hO hS hl hret
  have hown : s.vm.findClass RX12 = some m.cls := hown
  have hiX12 : ∀ w ∈ wsX120, w ∈ wsX12_openSet := fun _ h9 => List.mem_cons_of_mem _ (List.mem_append_right _ h9)
  have hl : lv_has ls 3 [(0, .ref (am 18))] := hl
  refine lv_iconst (v := 0) hx hb dX12_openSet_0 (by decide) ?_
  refine lv_istore_n (lv' := [(1, .int 0), (0, .ref (am 18))]) hx hb dX12_openSet_1 rfl hl (by decide) rfl (fun ls hl => ?_)
  refine lv_iconst (v := 0) hx hb dX12_openSet_2 (by decide) ?_
  refine lv_istore_n (lv' := [(2, .int 0), (1, .int 0), (0, .ref (am 18))]) hx hb dX12_openSet_3 rfl hl (by decide) rfl (fun ls hl => ?_)
  refine lv_iload_n hx hb dX12_openSet_4 rfl (lv_at hl 0 rfl) ?_
  refine lv_aload_n hx hb dX12_openSet_5 rfl (lv_at hl 2 rfl) ?_
  refine va_get (D := D) (ci := 11) (v := .ref (am 1)) (C := RX12) (T := TX12) (N := 54) hx hb hts hiX12 hown hK hP 1 rfl rfl 6 (by decide) (hts _ (List.mem_of_getElem? (i := 1) rfl)) (fun _ h9 => h9) rfl dX12_openSet_6 ?_
  refine lv_iconst (v := 3) hx hb dX12_openSet_9 (by decide) ?_
  refine va_iald hx hb hK hP 0 0 rfl rfl (show ¬ (_ ∨ _) by decide) dX12_openSet_10 ?_
  refine W.eq (g2 := F0 m 11 ls (.int 0 :: [.int 0])) rfl ?_
  refine lv_icmp_ge (tgt := 38) hx hb dX12_openSet_11 (by decide) (fun _ => ?_) (fun h9 => absurd (by decide) h9)
  refine lv_iload_n hx hb dX12_openSet_38 rfl (lv_at hl 1 rfl) ?_
  refine W.widen (k := 0) (n := 0) (by decide) (by decide) ?_
  exact hret 0 ([(am 1, .inl (tm 1, 283, .inl (upd (fun _ => 0) 4 2))), (am 18, .inr (11, [.int u_0, .ref u_1, .int u_2, .int u_3, .int u_4, .int u_5, .ref (am 1), .ref u_7, .ref u_8, .ref u_9, .ref u_10, .int u_11, .int u_12, .int u_13, .int u_14, .int u_15, .int u_16, .long u_17, .int u_18, .int u_19, .int u_20, .ref u_21, .ref u_22, .int u_23, .int u_24, .int u_25, .int u_26, .ref u_27, .int u_28, .ref u_29, .int u_30, .int u_31, .ref u_32, .int u_33, .ref u_34, .ref u_35, .int u_36, .int u_37, .ref u_38, .int u_39, .int u_40, .int u_41, .ref u_42, .int u_43, .ref u_44, .int u_45, .int u_46, .int u_47, .int u_48, .int u_49, .ref u_50, .ref u_51, .ref u_52, .ref u_53]))], []) _ _ _ _ dX12_openSet_39 rfl ⟨rfl, rfl⟩ (hP.sub [0, 1] rfl) (hK.sub [] rfl) (hD.sub [0, 1] (by decide +kernel) rfl) hS

set_option maxHeartbeats 8000000 in
set_option maxRecDepth 100000 in
theorem k_X12_bits (l : Launch) (D : va_G) (ad : Nat → Nat)   : z_Mi l yX12_bits wsX12_bits { frames := 0, cells := 0, slots := 0, locals := 0 } D ad [.int 0] [] [] 0 0 (fun r9 u9 => r9 = 0 ∧ u9 = ([], [])) := by
  refine z_ofI (cc := cX12_bits) (maxL := 3) (rt := .int) (by decide) rfl (Nat.le_of_ble_eq_true rfl) ?_
  intro p e s m below meth c Q A ls hx hb hml hown hts hin hK hP hD hA hE hO hS hl hret
  have hown : s.vm.findClass RX12 = some m.cls := hown
  have hl : lv_has ls 3 [(0, .int 0)] := hl
  refine lv_iconst (v := 0) hx hb dX12_bits_0 (by decide) ?_
  refine lv_istore_n (lv' := [(1, .int 0), (0, .int 0)]) hx hb dX12_bits_1 rfl hl (by decide) rfl (fun ls hl => ?_)
  refine lv_iload_n hx hb dX12_bits_2 rfl (lv_at hl 1 rfl) ?_
  refine lv_istore_n (lv' := [(2, .int 0), (1, .int 0), (0, .int 0)]) hx hb dX12_bits_3 rfl hl (by decide) rfl (fun ls hl => ?_)
  refine lv_iload_n hx hb dX12_bits_4 rfl (lv_at hl 0 rfl) ?_
  refine lv_if_eq (tgt := 20) hx hb dX12_bits_5 (by decide) (fun _ => ?_) (fun h9 => absurd (by decide) h9)
  refine lv_iload_n hx hb dX12_bits_20 rfl (lv_at hl 1 rfl) ?_
  refine W.widen (k := 0) (n := 0) (by decide) (by decide) ?_
  exact hret 0 ([], []) _ _ _ _ dX12_bits_21 rfl ⟨rfl, rfl⟩ (hP.sub [] rfl) (hK.sub [] rfl) (hD.sub [] (by decide +kernel) rfl) hS

set_option maxHeartbeats 8000000 in
set_option maxRecDepth 100000 in
theorem k_X12_isCover (l : Launch) (D : va_G) (ad : Nat → Nat) (am : Nat → Nat) (tm : Nat → ClassId) (u_0 : Int32) (u_1 : Nat) (u_2 : Int32) (u_3 : Int32) (u_4 : Int32) (u_5 : Int32) (u_7 : Nat) (u_8 : Nat) (u_9 : Nat) (u_10 : Nat) (u_11 : Int32) (u_12 : Int32) (u_13 : Int32) (u_14 : Int32) (u_15 : Int32) (u_16 : Int32) (u_17 : Int64) (u_18 : Int32) (u_19 : Int32) (u_20 : Int32) (u_21 : Nat) (u_22 : Nat) (u_23 : Int32) (u_24 : Int32) (u_25 : Int32) (u_26 : Int32) (u_27 : Nat) (u_28 : Int32) (u_29 : Nat) (u_30 : Int32) (u_31 : Int32) (u_32 : Nat) (u_33 : Int32) (u_34 : Nat) (u_35 : Nat) (u_36 : Int32) (u_37 : Int32) (u_38 : Nat) (u_39 : Int32) (u_40 : Int32) (u_41 : Int32) (u_42 : Nat) (u_43 : Int32) (u_44 : Nat) (u_45 : Int32) (u_46 : Int32) (u_47 : Int32) (u_48 : Int32) (u_49 : Int32) (u_50 : Nat) (u_51 : Nat) (u_52 : Nat) (u_53 : Nat)  : z_Mi l yX12_isCover wsX12_isCover { frames := 0, cells := 0, slots := 0, locals := 0 } D ad [.ref (am 18), .int 0] [(am 1, .inl (tm 1, 283, .inl (upd (fun _ => 0) 4 2))), (am 18, .inr (11, [.int u_0, .ref u_1, .int u_2, .int u_3, .int u_4, .int u_5, .ref (am 1), .ref u_7, .ref u_8, .ref u_9, .ref u_10, .int u_11, .int u_12, .int u_13, .int u_14, .int u_15, .int u_16, .long u_17, .int u_18, .int u_19, .int u_20, .ref u_21, .ref u_22, .int u_23, .int u_24, .int u_25, .int u_26, .ref u_27, .int u_28, .ref u_29, .int u_30, .int u_31, .ref u_32, .int u_33, .ref u_34, .ref u_35, .int u_36, .int u_37, .ref u_38, .int u_39, .int u_40, .int u_41, .ref u_42, .int u_43, .ref u_44, .int u_45, .int u_46, .int u_47, .int u_48, .int u_49, .ref u_50, .ref u_51, .ref u_52, .ref u_53]))] [(tm 1, .int)] 0 0 (fun r9 u9 => r9 = 1 ∧ u9 = ([(am 1, .inl (tm 1, 283, .inl (upd (fun _ => 0) 4 2))), (am 18, .inr (11, [.int u_0, .ref u_1, .int u_2, .int u_3, .int u_4, .int u_5, .ref (am 1), .ref u_7, .ref u_8, .ref u_9, .ref u_10, .int u_11, .int u_12, .int u_13, .int u_14, .int u_15, .int u_16, .long u_17, .int u_18, .int u_19, .int u_20, .ref u_21, .ref u_22, .int u_23, .int u_24, .int u_25, .int u_26, .ref u_27, .int u_28, .ref u_29, .int u_30, .int u_31, .ref u_32, .int u_33, .ref u_34, .ref u_35, .int u_36, .int u_37, .ref u_38, .int u_39, .int u_40, .int u_41, .ref u_42, .int u_43, .ref u_44, .int u_45, .int u_46, .int u_47, .int u_48, .int u_49, .ref u_50, .ref u_51, .ref u_52, .ref u_53]))], [])) := by
  refine z_ofI (cc := cX12_isCover) (maxL := 7) (rt := .boolean) (by decide) rfl (Nat.le_of_ble_eq_true rfl) ?_
  intro p e s m below meth c Q A ls hx hb hml hown hts hin hK hP hD hA hE hO hS hl hret
  have hown : s.vm.findClass RX12 = some m.cls := hown
  have hiX12 : ∀ w ∈ wsX120, w ∈ wsX12_isCover := fun _ h9 => List.mem_cons_of_mem _ (List.mem_append_right _ h9)
  have hl : lv_has ls 7 [(0, .ref (am 18)), (1, .int 0)] := hl
  refine lv_iconst (v := 1) hx hb dX12_isCover_0 (by decide) ?_
  refine lv_istore_n (lv' := [(2, .int 1), (0, .ref (am 18)), (1, .int 0)]) hx hb dX12_isCover_1 rfl hl (by decide) rfl (fun ls hl => ?_)
  refine lv_iconst (v := 0) hx hb dX12_isCover_2 (by decide) ?_
  refine lv_istore_n (lv' := [(3, .int 0), (2, .int 1), (0, .ref (am 18)), (1, .int 0)]) hx hb dX12_isCover_3 rfl hl (by decide) rfl (fun ls hl => ?_)
  refine lv_iload_n hx hb dX12_isCover_4 rfl (lv_at hl 0 rfl) ?_
  refine lv_aload_n hx hb dX12_isCover_5 rfl (lv_at hl 2 rfl) ?_
  refine va_get (D := D) (ci := 11) (v := .ref (am 1)) (C := RX12) (T := TX12) (N := 54) hx hb hts hiX12 hown hK hP 1 rfl rfl 6 (by decide) (hts _ (List.mem_of_getElem? (i := 1) rfl)) (fun _ h9 => h9) rfl dX12_isCover_6 ?_
  refine lv_iconst (v := 0) hx hb dX12_isCover_9 (by decide) ?_
  refine va_iald hx hb hK hP 0 0 rfl rfl (show ¬ (_ ∨ _) by decide) dX12_isCover_10 ?_
  refine W.eq (g2 := F0 m 11 ls (.int 0 :: [.int 0])) rfl ?_
  refine lv_icmp_ge (tgt := 155) hx hb dX12_isCover_11 (by decide) (fun _ => ?_) (fun h9 => absurd (by decide) h9)
  refine lv_iload_n hx hb dX12_isCover_155 rfl (lv_at hl 1 rfl) ?_
  refine W.widen (k := 0) (n := 0) (by decide) (by decide) ?_
  exact hret 1 ([(am 1, .inl (tm 1, 283, .inl (upd (fun _ => 0) 4 2))), (am 18, .inr (11, [.int u_0, .ref u_1, .int u_2, .int u_3, .int u_4, .int u_5, .ref (am 1), .ref u_7, .ref u_8, .ref u_9, .ref u_10, .int u_11, .int u_12, .int u_13, .int u_14, .int u_15, .int u_16, .long u_17, .int u_18, .int u_19, .int u_20, .ref u_21, .ref u_22, .int u_23, .int u_24, .int u_25, .int u_26, .ref u_27, .int u_28, .ref u_29, .int u_30, .int u_31, .ref u_32, .int u_33, .ref u_34, .ref u_35, .int u_36, .int u_37, .ref u_38, .int u_39, .int u_40, .int u_41, .ref u_42, .int u_43, .ref u_44, .int u_45, .int u_46, .int u_47, .int u_48, .int u_49, .ref u_50, .ref u_51, .ref u_52, .ref u_53]))], []) _ _ _ _ dX12_isCover_156 (by decide) ⟨rfl, rfl⟩ (hP.sub [0, 1] rfl) (hK.sub [] rfl) (hD.sub [0, 1] (by decide +kernel) rfl) hS

set_option maxHeartbeats 8000000 in
set_option maxRecDepth 100000 in
theorem k_X12_four (l : Launch) (D : va_G) (ad : Nat → Nat) (am : Nat → Nat) (tm : Nat → ClassId) (p0 : Int32) (f_b : Nat → Int32) (n : Nat) (u_0 : Int32) (u_3 : Int32) (u_4 : Int32) (u_5 : Int32) (u_6 : Nat) (u_7 : Nat) (u_8 : Nat) (u_9 : Nat) (u_10 : Nat) (u_11 : Int32) (u_12 : Int32) (u_13 : Int32) (u_14 : Int32) (u_15 : Int32) (u_16 : Int32) (u_17 : Int64) (u_18 : Int32) (u_19 : Int32) (u_20 : Int32) (u_21 : Nat) (u_22 : Nat) (u_23 : Int32) (u_24 : Int32) (u_25 : Int32) (u_26 : Int32) (u_27 : Nat) (u_28 : Int32) (u_29 : Nat) (u_30 : Int32) (u_31 : Int32) (u_32 : Nat) (u_33 : Int32) (u_34 : Nat) (u_35 : Nat) (u_36 : Int32) (u_37 : Int32) (u_38 : Nat) (u_39 : Int32) (u_40 : Int32) (u_41 : Int32) (u_42 : Nat) (u_43 : Int32) (u_44 : Nat) (u_45 : Int32) (u_46 : Int32) (u_47 : Int32) (u_48 : Int32) (u_49 : Int32) (u_50 : Nat) (u_51 : Nat) (u_52 : Nat) (u_53 : Nat) (hn : n + 4 ≤ 940) : z_Mv l yX12_four wsX12_four { frames := 0, cells := 0, slots := 0, locals := 0 } D ad [.ref (am 18), .int p0] [(am 0, .inl (tm 0, 940, .inl f_b)), (am 18, .inr (11, [.int u_0, .ref (am 0), .int (nI n), .int u_3, .int u_4, .int u_5, .ref u_6, .ref u_7, .ref u_8, .ref u_9, .ref u_10, .int u_11, .int u_12, .int u_13, .int u_14, .int u_15, .int u_16, .long u_17, .int u_18, .int u_19, .int u_20, .ref u_21, .ref u_22, .int u_23, .int u_24, .int u_25, .int u_26, .ref u_27, .int u_28, .ref u_29, .int u_30, .int u_31, .ref u_32, .int u_33, .ref u_34, .ref u_35, .int u_36, .int u_37, .ref u_38, .int u_39, .int u_40, .int u_41, .ref u_42, .int u_43, .ref u_44, .int u_45, .int u_46, .int u_47, .int u_48, .int u_49, .ref u_50, .ref u_51, .ref u_52, .ref u_53]))] [(tm 0, .byte)] 0 0 (fun u9 => ∃ (f_15 : Nat → Int32), u9 = ([(am 0, .inl (tm 0, 940, .inl f_15)), (am 18, .inr (11, [.int u_0, .ref (am 0), .int (nI ((((n + 1) + 1) + 1) + 1)), .int u_3, .int u_4, .int u_5, .ref u_6, .ref u_7, .ref u_8, .ref u_9, .ref u_10, .int u_11, .int u_12, .int u_13, .int u_14, .int u_15, .int u_16, .long u_17, .int u_18, .int u_19, .int u_20, .ref u_21, .ref u_22, .int u_23, .int u_24, .int u_25, .int u_26, .ref u_27, .int u_28, .ref u_29, .int u_30, .int u_31, .ref u_32, .int u_33, .ref u_34, .ref u_35, .int u_36, .int u_37, .ref u_38, .int u_39, .int u_40, .int u_41, .ref u_42, .int u_43, .ref u_44, .int u_45, .int u_46, .int u_47, .int u_48, .int u_49, .ref u_50, .ref u_51, .ref u_52, .ref u_53]))], [])) := by
  refine z_ofV (cc := cX12_four) (maxL := 3) (by decide) rfl (Nat.le_of_ble_eq_true rfl) ?_
  intro p e s m below meth c Q A ls hx hb hml hown hts hin hK hP hD hA hE hO hS hl hret
  have hown : s.vm.findClass RX12 = some m.cls := hown
  have hiX12 : ∀ w ∈ wsX120, w ∈ wsX12_four := fun _ h9 => List.mem_cons_of_mem _ (List.mem_append_right _ h9)
  have hl : lv_has ls 3 [(0, .ref (am 18)), (1, .int p0)] := hl
  refine lv_bipush (v := 24) hx hb dX12_four_0 (by decide) ?_
  refine lv_istore_n (lv' := [(2, .int 24), (0, .ref (am 18)), (1, .int p0)]) hx hb dX12_four_2 rfl hl (by decide) rfl (fun ls hl => ?_)
  refine lv_iload_n hx hb dX12_four_3 rfl (lv_at hl 0 rfl) ?_
  refine lv_if_lt (tgt := 36) hx hb dX12_four_4 (by decide) (fun h9 => absurd h9 (by decide)) (fun _ => ?_)
  refine lv_aload_n hx hb dX12_four_7 rfl (lv_at hl 1 rfl) ?_
  refine va_get (D := D) (ci := 11) (v := .ref (am 0)) (C := RX12) (T := TX12) (N := 54) hx hb hts hiX12 hown hK hP 1 rfl rfl 1 (by decide) (hts _ (List.mem_of_getElem? (i := 1) rfl)) (fun _ h9 => h9) rfl dX12_four_8 ?_
  refine lv_aload_n hx hb dX12_four_11 rfl (lv_at hl 1 rfl) ?_
  refine va_get (D := D) (ci := 11) (v := .int (nI n)) (C := RX12) (T := TX12) (N := 54) hx hb hts hiX12 hown hK hP 1 rfl rfl 2 (by decide) (hts _ (List.mem_of_getElem? (i := 2) rfl)) (fun _ h9 => h9) rfl dX12_four_12 ?_
  refine lv_iload_n hx hb dX12_four_15 rfl (lv_at hl 2 rfl) ?_
  refine lv_iload_n hx hb dX12_four_16 rfl (lv_at hl 0 rfl) ?_
  refine lv_ishr hx hb dX12_four_17 ?_
  refine lv_topi (fun y_1 ey_1 => ?_)
  refine lv_i2b hx hb dX12_four_18 rfl ?_
  refine lv_topi (fun y_2 ey_2 => ?_)
  refine va_bast hx hb hK hP hD hS 0 0 rfl rfl (vp_in_nI (show n < 940 by omega) (by decide)) dX12_four_19 (fun H locs hP hD hS => ?_)
  rw [nI_clamp (show n < 2 ^ 31 by omega)] at hP hD
  have hP : va_P D vwCl [(am 0, .inl (tm 0, 940, .inl (upd f_b n (vp_nar .byte y_2)))), (am 18, .inr (11, [.int u_0, .ref (am 0), .int (nI n), .int u_3, .int u_4, .int u_5, .ref u_6, .ref u_7, .ref u_8, .ref u_9, .ref u_10, .int u_11, .int u_12, .int u_13, .int u_14, .int u_15, .int u_16, .long u_17, .int u_18, .int u_19, .int u_20, .ref u_21, .ref u_22, .int u_23, .int u_24, .int u_25, .int u_26, .ref u_27, .int u_28, .ref u_29, .int u_30, .int u_31, .ref u_32, .int u_33, .ref u_34, .ref u_35, .int u_36, .int u_37, .ref u_38, .int u_39, .int u_40, .int u_41, .ref u_42, .int u_43, .ref u_44, .int u_45, .int u_46, .int u_47, .int u_48, .int u_49, .ref u_50, .ref u_51, .ref u_52, .ref u_53]))] H := hP
  have hD : va_D A [(am 0, .inl (tm 0, 940, .inl (upd f_b n (vp_nar .byte y_2)))), (am 18, .inr (11, [.int u_0, .ref (am 0), .int (nI n), .int u_3, .int u_4, .int u_5, .ref u_6, .ref u_7, .ref u_8, .ref u_9, .ref u_10, .int u_11, .int u_12, .int u_13, .int u_14, .int u_15, .int u_16, .long u_17, .int u_18, .int u_19, .int u_20, .ref u_21, .ref u_22, .int u_23, .int u_24, .int u_25, .int u_26, .ref u_27, .int u_28, .ref u_29, .int u_30, .int u_31, .ref u_32, .int u_33, .ref u_34, .ref u_35, .int u_36, .int u_37, .ref u_38, .int u_39, .int u_40, .int u_41, .ref u_42, .int u_43, .ref u_44, .int u_45, .int u_46, .int u_47, .int u_48, .int u_49, .ref u_50, .ref u_51, .ref u_52, .ref u_53]))] := hD
  generalize (upd f_b n (vp_nar .byte y_2)) = f_3 at hP hD
  refine lv_aload_n hx hb dX12_four_20 rfl (lv_at hl 1 rfl) ?_
  refine lv_dup hx hb dX12_four_21 rfl ?_
  refine va_get (D := D) (ci := 11) (v := .int (nI n)) (C := RX12) (T := TX12) (N := 54) hx hb hts hiX12 hown hK hP 1 rfl rfl 2 (by decide) (hts _ (List.mem_of_getElem? (i := 2) rfl)) (fun _ h9 => h9) rfl dX12_four_22 ?_
  refine lv_iconst (v := 1) hx hb dX12_four_25 (by decide) ?_
  refine lv_iadd hx hb dX12_four_26 ?_
  refine lv_topi (fun y_4 ey_4 => ?_)
  obtain rfl : y_4 = nI (n + 1) := ey_4.trans (nI_add n 1)
  refine va_put (D := D) (ci := 11) (v := .int (nI (n + 1))) (ty := tyX12 2) (C := RX12) (T := TX12) (N := 54) hx hb hts hiX12 tyX12 tyX12_ok nmX12 hown hK hP hD hS 1 rfl rfl 2 (by decide) (hts _ (List.mem_of_getElem? (i := 2) rfl)) (fun _ h9 => h9) rfl (tyX12_ok 2 (by decide)) rfl rfl (Nat.le_of_ble_eq_true rfl) dX12_four_27 (fun H locs hP hD hS => ?_)
  have hP : va_P D vwCl [(am 0, .inl (tm 0, 940, .inl f_3)), (am 18, .inr (11, [.int u_0, .ref (am 0), .int (nI (n + 1)), .int u_3, .int u_4, .int u_5, .ref u_6, .ref u_7, .ref u_8, .ref u_9, .ref u_10, .int u_11, .int u_12, .int u_13, .int u_14, .int u_15, .int u_16, .long u_17, .int u_18, .int u_19, .int u_20, .ref u_21, .ref u_22, .int u_23, .int u_24, .int u_25, .int u_26, .ref u_27, .int u_28, .ref u_29, .int u_30, .int u_31, .ref u_32, .int u_33, .ref u_34, .ref u_35, .int u_36, .int u_37, .ref u_38, .int u_39, .int u_40, .int u_41, .ref u_42, .int u_43, .ref u_44, .int u_45, .int u_46, .int u_47, .int u_48, .int u_49, .ref u_50, .ref u_51, .ref u_52, .ref u_53]))] H := hP
  have hD : va_D A [(am 0, .inl (tm 0, 940, .inl f_3)), (am 18, .inr (11, [.int u_0, .ref (am 0), .int (nI (n + 1)), .int u_3, .int u_4, .int u_5, .ref u_6, .ref u_7, .ref u_8, .ref u_9, .ref u_10, .int u_11, .int u_12, .int u_13, .int u_14, .int u_15, .int u_16, .long u_17, .int u_18, .int u_19, .int u_20, .ref u_21, .ref u_22, .int u_23, .int u_24, .int u_25, .int u_26, .ref u_27, .int u_28, .ref u_29, .int u_30, .int u_31, .ref u_32, .int u_33, .ref u_34, .ref u_35, .int u_36, .int u_37, .ref u_38, .int u_39, .int u_40, .int u_41, .ref u_42, .int u_43, .ref u_44, .int u_45, .int u_46, .int u_47, .int u_48, .int u_49, .ref u_50, .ref u_51, .ref u_52, .ref u_53]))] := hD
  refine lv_iinc (v := 16) (lv' := [(2, .int 16), (0, .ref (am 18)), (1, .int p0)]) hx hb dX12_four_30 hl (k := 0) rfl (by decide) (by decide) rfl (fun ls hl => ?_)
  refine lv_goto (tgt := 3) hx hb dX12_four_33 (by decide) ?_
  refine lv_iload_n hx hb dX12_four_3 rfl (lv_at hl 0 rfl) ?_
  refine lv_if_lt (tgt := 36) hx hb dX12_four_4 (by decide) (fun h9 => absurd h9 (by decide)) (fun _ => ?_)
  refine lv_aload_n hx hb dX12_four_7 rfl (lv_at hl 1 rfl) ?_
  refine va_get (D := D) (ci := 11) (v := .ref (am 0)) (C := RX12) (T := TX12) (N := 54) hx hb hts hiX12 hown hK hP 1 rfl rfl 1 (by decide) (hts _ (List.mem_of_getElem? (i := 1) rfl)) (fun _ h9 => h9) rfl dX12_four_8 ?_
  refine lv_aload_n hx hb dX12_four_11 rfl (lv_at hl 1 rfl) ?_
  refine va_get (D := D) (ci := 11) (v := .int (nI (n + 1))) (C := RX12) (T := TX12) (N := 54) hx hb hts hiX12 hown hK hP 1 rfl rfl 2 (by decide) (hts _ (List.mem_of_getElem? (i := 2) rfl)) (fun _ h9 => h9) rfl dX12_four_12 ?_
  refine lv_iload_n hx hb dX12_four_15 rfl (lv_at hl 2 rfl) ?_
  refine lv_iload_n hx hb dX12_four_16 rfl (lv_at hl 0 rfl) ?_
  refine lv_ishr hx hb dX12_four_17 ?_
  refine lv_topi (fun y_5 ey_5 => ?_)
  refine lv_i2b hx hb dX12_four_18 rfl ?_
  refine lv_topi (fun y_6 ey_6 => ?_)
  refine va_bast hx hb hK hP hD hS 0 0 rfl rfl (vp_in_nI (show (n + 1) < 940 by omega) (by decide)) dX12_four_19 (fun H locs hP hD hS => ?_)
  rw [nI_clamp (show (n + 1) < 2 ^ 31 by omega)] at hP hD
  have hP : va_P D vwCl [(am 0, .inl (tm 0, 940, .inl (upd f_3 (n + 1) (vp_nar .byte y_6)))), (am 18, .inr (11, [.int u_0, .ref (am 0), .int (nI (n + 1)), .int u_3, .int u_4, .int u_5, .ref u_6, .ref u_7, .ref u_8, .ref u_9, .ref u_10, .int u_11, .int u_12, .int u_13, .int u_14, .int u_15, .int u_16, .long u_17, .int u_18, .int u_19, .int u_20, .ref u_21, .ref u_22, .int u_23, .int u_24, .int u_25, .int u_26, .ref u_27, .int u_28, .ref u_29, .int u_30, .int u_31, .ref u_32, .int u_33, .ref u_34, .ref u_35, .int u_36, .int u_37, .ref u_38, .int u_39, .int u_40, .int u_41, .ref u_42, .int u_43, .ref u_44, .int u_45, .int u_46, .int u_47, .int u_48, .int u_49, .ref u_50, .ref u_51, .ref u_52, .ref u_53]))] H := hP
  have hD : va_D A [(am 0, .inl (tm 0, 940, .inl (upd f_3 (n + 1) (vp_nar .byte y_6)))), (am 18, .inr (11, [.int u_0, .ref (am 0), .int (nI (n + 1)), .int u_3, .int u_4, .int u_5, .ref u_6, .ref u_7, .ref u_8, .ref u_9, .ref u_10, .int u_11, .int u_12, .int u_13, .int u_14, .int u_15, .int u_16, .long u_17, .int u_18, .int u_19, .int u_20, .ref u_21, .ref u_22, .int u_23, .int u_24, .int u_25, .int u_26, .ref u_27, .int u_28, .ref u_29, .int u_30, .int u_31, .ref u_32, .int u_33, .ref u_34, .ref u_35, .int u_36, .int u_37, .ref u_38, .int u_39, .int u_40, .int u_41, .ref u_42, .int u_43, .ref u_44, .int u_45, .int u_46, .int u_47, .int u_48, .int u_49, .ref u_50, .ref u_51, .ref u_52, .ref u_53]))] := hD
  generalize (upd f_3 (n + 1) (vp_nar .byte y_6)) = f_7 at hP hD
  refine lv_aload_n hx hb dX12_four_20 rfl (lv_at hl 1 rfl) ?_
  refine lv_dup hx hb dX12_four_21 rfl ?_
  refine va_get (D := D) (ci := 11) (v := .int (nI (n + 1))) (C := RX12) (T := TX12) (N := 54) hx hb hts hiX12 hown hK hP 1 rfl rfl 2 (by decide) (hts _ (List.mem_of_getElem? (i := 2) rfl)) (fun _ h9 => h9) rfl dX12_four_22 ?_
  refine lv_iconst (v := 1) hx hb dX12_four_25 (by decide) ?_
  refine lv_iadd hx hb dX12_four_26 ?_
  refine lv_topi (fun y_8 ey_8 => ?_)
  obtain rfl : y_8 = nI ((n + 1) + 1) := ey_8.trans (nI_add (n + 1) 1)
  refine va_put (D := D) (ci := 11) (v := .int (nI ((n + 1) + 1))) (ty := tyX12 2) (C := RX12) (T := TX12) (N := 54) hx hb hts hiX12 tyX12 tyX12_ok nmX12 hown hK hP hD hS 1 rfl rfl 2 (by decide) (hts _ (List.mem_of_getElem? (i := 2) rfl)) (fun _ h9 => h9) rfl (tyX12_ok 2 (by decide)) rfl rfl (Nat.le_of_ble_eq_true rfl) dX12_four_27 (fun H locs hP hD hS => ?_)
  have hP : va_P D vwCl [(am 0, .inl (tm 0, 940, .inl f_7)), (am 18, .inr (11, [.int u_0, .ref (am 0), .int (nI ((n + 1) + 1)), .int u_3, .int u_4, .int u_5, .ref u_6, .ref u_7, .ref u_8, .ref u_9, .ref u_10, .int u_11, .int u_12, .int u_13, .int u_14, .int u_15, .int u_16, .long u_17, .int u_18, .int u_19, .int u_20, .ref u_21, .ref u_22, .int u_23, .int u_24, .int u_25, .int u_26, .ref u_27, .int u_28, .ref u_29, .int u_30, .int u_31, .ref u_32, .int u_33, .ref u_34, .ref u_35, .int u_36, .int u_37, .ref u_38, .int u_39, .int u_40, .int u_41, .ref u_42, .int u_43, .ref u_44, .int u_45, .int u_46, .int u_47, .int u_48, .int u_49, .ref u_50, .ref u_51, .ref u_52, .ref u_53]))] H := hP
  have hD : va_D A [(am 0, .inl (tm 0, 940, .inl f_7)), (am 18, .inr (11, [.int u_0, .ref (am 0), .int (nI ((n + 1) + 1)), .int u_3, .int u_4, .int u_5, .ref u_6, .ref u_7, .ref u_8, .ref u_9, .ref u_10, .int u_11, .int u_12, .int u_13, .int u_14, .int u_15, .int u_16, .long u_17, .int u_18, .int u_19, .int u_20, .ref u_21, .ref u_22, .int u_23, .int u_24, .int u_25, .int u_26, .ref u_27, .int u_28, .ref u_29, .int u_30, .int u_31, .ref u_32, .int u_33, .ref u_34, .ref u_35, .int u_36, .int u_37, .ref u_38, .int u_39, .int u_40, .int u_41, .ref u_42, .int u_43, .ref u_44, .int u_45, .int u_46, .int u_47, .int u_48, .int u_49, .ref u_50, .ref u_51, .ref u_52, .ref u_53]))] := hD
  refine lv_iinc (v := 8) (lv' := [(2, .int 8), (0, .ref (am 18)), (1, .int p0)]) hx hb dX12_four_30 hl (k := 0) rfl (by decide) (by decide) rfl (fun ls hl => ?_)
  refine lv_goto (tgt := 3) hx hb dX12_four_33 (by decide) ?_
  refine lv_iload_n hx hb dX12_four_3 rfl (lv_at hl 0 rfl) ?_
  refine lv_if_lt (tgt := 36) hx hb dX12_four_4 (by decide) (fun h9 => absurd h9 (by decide)) (fun _ => ?_)
  refine lv_aload_n hx hb dX12_four_7 rfl (lv_at hl 1 rfl) ?_
  refine va_get (D := D) (ci := 11) (v := .ref (am 0)) (C := RX12) (T := TX12) (N := 54) hx hb hts hiX12 hown hK hP 1 rfl rfl 1 (by decide) (hts _ (List.mem_of_getElem? (i := 1) rfl)) (fun _ h9 => h9) rfl dX12_four_8 ?_
  refine lv_aload_n hx hb dX12_four_11 rfl (lv_at hl 1 rfl) ?_
  refine va_get (D := D) (ci := 11) (v := .int (nI ((n + 1) + 1))) (C := RX12) (T := TX12) (N := 54) hx hb hts hiX12 hown hK hP 1 rfl rfl 2 (by decide) (hts _ (List.mem_of_getElem? (i := 2) rfl)) (fun _ h9 => h9) rfl dX12_four_12 ?_
  refine lv_iload_n hx hb dX12_four_15 rfl (lv_at hl 2 rfl) ?_
  refine lv_iload_n hx hb dX12_four_16 rfl (lv_at hl 0 rfl) ?_
  refine lv_ishr hx hb dX12_four_17 ?_
  refine lv_topi (fun y_9 ey_9 => ?_)
  refine lv_i2b hx hb dX12_four_18 rfl ?_
  refine lv_topi (fun y_10 ey_10 => ?_)
  refine va_bast hx hb hK hP hD hS 0 0 rfl rfl (vp_in_nI (show ((n + 1) + 1) < 940 by omega) (by decide)) dX12_four_19 (fun H locs hP hD hS => ?_)
  rw [nI_clamp (show ((n + 1) + 1) < 2 ^ 31 by omega)] at hP hD
  have hP : va_P D vwCl [(am 0, .inl (tm 0, 940, .inl (upd f_7 ((n + 1) + 1) (vp_nar .byte y_10)))), (am 18, .inr (11, [.int u_0, .ref (am 0), .int (nI ((n + 1) + 1)), .int u_3, .int u_4, .int u_5, .ref u_6, .ref u_7, .ref u_8, .ref u_9, .ref u_10, .int u_11, .int u_12, .int u_13, .int u_14, .int u_15, .int u_16, .long u_17, .int u_18, .int u_19, .int u_20, .ref u_21, .ref u_22, .int u_23, .int u_24, .int u_25, .int u_26, .ref u_27, .int u_28, .ref u_29, .int u_30, .int u_31, .ref u_32, .int u_33, .ref u_34, .ref u_35, .int u_36, .int u_37, .ref u_38, .int u_39, .int u_40, .int u_41, .ref u_42, .int u_43, .ref u_44, .int u_45, .int u_46, .int u_47, .int u_48, .int u_49, .ref u_50, .ref u_51, .ref u_52, .ref u_53]))] H := hP
  have hD : va_D A [(am 0, .inl (tm 0, 940, .inl (upd f_7 ((n + 1) + 1) (vp_nar .byte y_10)))), (am 18, .inr (11, [.int u_0, .ref (am 0), .int (nI ((n + 1) + 1)), .int u_3, .int u_4, .int u_5, .ref u_6, .ref u_7, .ref u_8, .ref u_9, .ref u_10, .int u_11, .int u_12, .int u_13, .int u_14, .int u_15, .int u_16, .long u_17, .int u_18, .int u_19, .int u_20, .ref u_21, .ref u_22, .int u_23, .int u_24, .int u_25, .int u_26, .ref u_27, .int u_28, .ref u_29, .int u_30, .int u_31, .ref u_32, .int u_33, .ref u_34, .ref u_35, .int u_36, .int u_37, .ref u_38, .int u_39, .int u_40, .int u_41, .ref u_42, .int u_43, .ref u_44, .int u_45, .int u_46, .int u_47, .int u_48, .int u_49, .ref u_50, .ref u_51, .ref u_52, .ref u_53]))] := hD
  generalize (upd f_7 ((n + 1) + 1) (vp_nar .byte y_10)) = f_11 at hP hD
  refine lv_aload_n hx hb dX12_four_20 rfl (lv_at hl 1 rfl) ?_
  refine lv_dup hx hb dX12_four_21 rfl ?_
  refine va_get (D := D) (ci := 11) (v := .int (nI ((n + 1) + 1))) (C := RX12) (T := TX12) (N := 54) hx hb hts hiX12 hown hK hP 1 rfl rfl 2 (by decide) (hts _ (List.mem_of_getElem? (i := 2) rfl)) (fun _ h9 => h9) rfl dX12_four_22 ?_
  refine lv_iconst (v := 1) hx hb dX12_four_25 (by decide) ?_
  refine lv_iadd hx hb dX12_four_26 ?_
  refine lv_topi (fun y_12 ey_12 => ?_)
  obtain rfl : y_12 = nI (((n + 1) + 1) + 1) := ey_12.trans (nI_add ((n + 1) + 1) 1)
  refine va_put (D := D) (ci := 11) (v := .int (nI (((n + 1) + 1) + 1))) (ty := tyX12 2) (C := RX12) (T := TX12) (N := 54) hx hb hts hiX12 tyX12 tyX12_ok nmX12 hown hK hP hD hS 1 rfl rfl 2 (by decide) (hts _ (List.mem_of_getElem? (i := 2) rfl)) (fun _ h9 => h9) rfl (tyX12_ok 2 (by decide)) rfl rfl (Nat.le_of_ble_eq_true rfl) dX12_four_27 (fun H locs hP hD hS => ?_)
  have hP : va_P D vwCl [(am 0, .inl (tm 0, 940, .inl f_11)), (am 18, .inr (11, [.int u_0, .ref (am 0), .int (nI (((n + 1) + 1) + 1)), .int u_3, .int u_4, .int u_5, .ref u_6, .ref u_7, .ref u_8, .ref u_9, .ref u_10, .int u_11, .int u_12, .int u_13, .int u_14, .int u_15, .int u_16, .long u_17, .int u_18, .int u_19, .int u_20, .ref u_21, .ref u_22, .int u_23, .int u_24, .int u_25, .int u_26, .ref u_27, .int u_28, .ref u_29, .int u_30, .int u_31, .ref u_32, .int u_33, .ref u_34, .ref u_35, .int u_36, .int u_37, .ref u_38, .int u_39, .int u_40, .int u_41, .ref u_42, .int u_43, .ref u_44, .int u_45, .int u_46, .int u_47, .int u_48, .int u_49, .ref u_50, .ref u_51, .ref u_52, .ref u_53]))] H := hP
  have hD : va_D A [(am 0, .inl (tm 0, 940, .inl f_11)), (am 18, .inr (11, [.int u_0, .ref (am 0), .int (nI (((n + 1) + 1) + 1)), .int u_3, .int u_4, .int u_5, .ref u_6, .ref u_7, .ref u_8, .ref u_9, .ref u_10, .int u_11, .int u_12, .int u_13, .int u_14, .int u_15, .int u_16, .long u_17, .int u_18, .int u_19, .int u_20, .ref u_21, .ref u_22, .int u_23, .int u_24, .int u_25, .int u_26, .ref u_27, .int u_28, .ref u_29, .int u_30, .int u_31, .ref u_32, .int u_33, .ref u_34, .ref u_35, .int u_36, .int u_37, .ref u_38, .int u_39, .int u_40, .int u_41, .ref u_42, .int u_43, .ref u_44, .int u_45, .int u_46, .int u_47, .int u_48, .int u_49, .ref u_50, .ref u_51, .ref u_52, .ref u_53]))] := hD
  refine lv_iinc (v := 0) (lv' := [(2, .int 0), (0, .ref (am 18)), (1, .int p0)]) hx hb dX12_four_30 hl (k := 0) rfl (by decide) (by decide) rfl (fun ls hl => ?_)
  refine lv_goto (tgt := 3) hx hb dX12_four_33 (by decide) ?_
  refine lv_iload_n hx hb dX12_four_3 rfl (lv_at hl 0 rfl) ?_
  refine lv_if_lt (tgt := 36) hx hb dX12_four_4 (by decide) (fun h9 => absurd h9 (by decide)) (fun _ => ?_)
  refine lv_aload_n hx hb dX12_four_7 rfl (lv_at hl 1 rfl) ?_
  refine va_get (D := D) (ci := 11) (v := .ref (am 0)) (C := RX12) (T := TX12) (N := 54) hx hb hts hiX12 hown hK hP 1 rfl rfl 1 (by decide) (hts _ (List.mem_of_getElem? (i := 1) rfl)) (fun _ h9 => h9) rfl dX12_four_8 ?_
  refine lv_aload_n hx hb dX12_four_11 rfl (lv_at hl 1 rfl) ?_
  refine va_get (D := D) (ci := 11) (v := .int (nI (((n + 1) + 1) + 1))) (C := RX12) (T := TX12) (N := 54) hx hb hts hiX12 hown hK hP 1 rfl rfl 2 (by decide) (hts _ (List.mem_of_getElem? (i := 2) rfl)) (fun _ h9 => h9) rfl dX12_four_12 ?_
  refine lv_iload_n hx hb dX12_four_15 rfl (lv_at hl 2 rfl) ?_
  refine lv_iload_n hx hb dX12_four_16 rfl (lv_at hl 0 rfl) ?_
  refine lv_ishr hx hb dX12_four_17 ?_
  refine lv_topi (fun y_13 ey_13 => ?_)
  refine lv_i2b hx hb dX12_four_18 rfl ?_
  refine lv_topi (fun y_14 ey_14 => ?_)
  refine va_bast hx hb hK hP hD hS 0 0 rfl rfl (vp_in_nI (show (((n + 1) + 1) + 1) < 940 by omega) (by decide)) dX12_four_19 (fun H locs hP hD hS => ?_)
  rw [nI_clamp (show (((n + 1) + 1) + 1) < 2 ^ 31 by omega)] at hP hD
  have hP : va_P D vwCl [(am 0, .inl (tm 0, 940, .inl (upd f_11 (((n + 1) + 1) + 1) (vp_nar .byte y_14)))), (am 18, .inr (11, [.int u_0, .ref (am 0), .int (nI (((n + 1) + 1) + 1)), .int u_3, .int u_4, .int u_5, .ref u_6, .ref u_7, .ref u_8, .ref u_9, .ref u_10, .int u_11, .int u_12, .int u_13, .int u_14, .int u_15, .int u_16, .long u_17, .int u_18, .int u_19, .int u_20, .ref u_21, .ref u_22, .int u_23, .int u_24, .int u_25, .int u_26, .ref u_27, .int u_28, .ref u_29, .int u_30, .int u_31, .ref u_32, .int u_33, .ref u_34, .ref u_35, .int u_36, .int u_37, .ref u_38, .int u_39, .int u_40, .int u_41, .ref u_42, .int u_43, .ref u_44, .int u_45, .int u_46, .int u_47, .int u_48, .int u_49, .ref u_50, .ref u_51, .ref u_52, .ref u_53]))] H := hP
  have hD : va_D A [(am 0, .inl (tm 0, 940, .inl (upd f_11 (((n + 1) + 1) + 1) (vp_nar .byte y_14)))), (am 18, .inr (11, [.int u_0, .ref (am 0), .int (nI (((n + 1) + 1) + 1)), .int u_3, .int u_4, .int u_5, .ref u_6, .ref u_7, .ref u_8, .ref u_9, .ref u_10, .int u_11, .int u_12, .int u_13, .int u_14, .int u_15, .int u_16, .long u_17, .int u_18, .int u_19, .int u_20, .ref u_21, .ref u_22, .int u_23, .int u_24, .int u_25, .int u_26, .ref u_27, .int u_28, .ref u_29, .int u_30, .int u_31, .ref u_32, .int u_33, .ref u_34, .ref u_35, .int u_36, .int u_37, .ref u_38, .int u_39, .int u_40, .int u_41, .ref u_42, .int u_43, .ref u_44, .int u_45, .int u_46, .int u_47, .int u_48, .int u_49, .ref u_50, .ref u_51, .ref u_52, .ref u_53]))] := hD
  generalize (upd f_11 (((n + 1) + 1) + 1) (vp_nar .byte y_14)) = f_15 at hP hD
  refine lv_aload_n hx hb dX12_four_20 rfl (lv_at hl 1 rfl) ?_
  refine lv_dup hx hb dX12_four_21 rfl ?_
  refine va_get (D := D) (ci := 11) (v := .int (nI (((n + 1) + 1) + 1))) (C := RX12) (T := TX12) (N := 54) hx hb hts hiX12 hown hK hP 1 rfl rfl 2 (by decide) (hts _ (List.mem_of_getElem? (i := 2) rfl)) (fun _ h9 => h9) rfl dX12_four_22 ?_
  refine lv_iconst (v := 1) hx hb dX12_four_25 (by decide) ?_
  refine lv_iadd hx hb dX12_four_26 ?_
  refine lv_topi (fun y_16 ey_16 => ?_)
  obtain rfl : y_16 = nI ((((n + 1) + 1) + 1) + 1) := ey_16.trans (nI_add (((n + 1) + 1) + 1) 1)
  refine va_put (D := D) (ci := 11) (v := .int (nI ((((n + 1) + 1) + 1) + 1))) (ty := tyX12 2) (C := RX12) (T := TX12) (N := 54) hx hb hts hiX12 tyX12 tyX12_ok nmX12 hown hK hP hD hS 1 rfl rfl 2 (by decide) (hts _ (List.mem_of_getElem? (i := 2) rfl)) (fun _ h9 => h9) rfl (tyX12_ok 2 (by decide)) rfl rfl (Nat.le_of_ble_eq_true rfl) dX12_four_27 (fun H locs hP hD hS => ?_)
  have hP : va_P D vwCl [(am 0, .inl (tm 0, 940, .inl f_15)), (am 18, .inr (11, [.int u_0, .ref (am 0), .int (nI ((((n + 1) + 1) + 1) + 1)), .int u_3, .int u_4, .int u_5, .ref u_6, .ref u_7, .ref u_8, .ref u_9, .ref u_10, .int u_11, .int u_12, .int u_13, .int u_14, .int u_15, .int u_16, .long u_17, .int u_18, .int u_19, .int u_20, .ref u_21, .ref u_22, .int u_23, .int u_24, .int u_25, .int u_26, .ref u_27, .int u_28, .ref u_29, .int u_30, .int u_31, .ref u_32, .int u_33, .ref u_34, .ref u_35, .int u_36, .int u_37, .ref u_38, .int u_39, .int u_40, .int u_41, .ref u_42, .int u_43, .ref u_44, .int u_45, .int u_46, .int u_47, .int u_48, .int u_49, .ref u_50, .ref u_51, .ref u_52, .ref u_53]))] H := hP
  have hD : va_D A [(am 0, .inl (tm 0, 940, .inl f_15)), (am 18, .inr (11, [.int u_0, .ref (am 0), .int (nI ((((n + 1) + 1) + 1) + 1)), .int u_3, .int u_4, .int u_5, .ref u_6, .ref u_7, .ref u_8, .ref u_9, .ref u_10, .int u_11, .int u_12, .int u_13, .int u_14, .int u_15, .int u_16, .long u_17, .int u_18, .int u_19, .int u_20, .ref u_21, .ref u_22, .int u_23, .int u_24, .int u_25, .int u_26, .ref u_27, .int u_28, .ref u_29, .int u_30, .int u_31, .ref u_32, .int u_33, .ref u_34, .ref u_35, .int u_36, .int u_37, .ref u_38, .int u_39, .int u_40, .int u_41, .ref u_42, .int u_43, .ref u_44, .int u_45, .int u_46, .int u_47, .int u_48, .int u_49, .ref u_50, .ref u_51, .ref u_52, .ref u_53]))] := hD
  refine lv_iinc (v := (-8)) (lv' := [(2, .int (-8)), (0, .ref (am 18)), (1, .int p0)]) hx hb dX12_four_30 hl (k := 0) rfl (by decide) (by decide) rfl (fun ls hl => ?_)
  refine lv_goto (tgt := 3) hx hb dX12_four_33 (by decide) ?_
  refine lv_iload_n hx hb dX12_four_3 rfl (lv_at hl 0 rfl) ?_
  refine lv_if_lt (tgt := 36) hx hb dX12_four_4 (by decide) (fun _ => ?_) (fun h9 => absurd (by decide) h9)
  refine W.widen (k := 0) (n := 0) (by decide) (by decide) ?_
  exact hret ([(am 0, .inl (tm 0, 940, .inl f_15)), (am 18, .inr (11, [.int u_0, .ref (am 0), .int (nI ((((n + 1) + 1) + 1) + 1)), .int u_3, .int u_4, .int u_5, .ref u_6, .ref u_7, .ref u_8, .ref u_9, .ref u_10, .int u_11, .int u_12, .int u_13, .int u_14, .int u_15, .int u_16, .long u_17, .int u_18, .int u_19, .int u_20, .ref u_21, .ref u_22, .int u_23, .int u_24, .int u_25, .int u_26, .ref u_27, .int u_28, .ref u_29, .int u_30, .int u_31, .ref u_32, .int u_33, .ref u_34, .ref u_35, .int u_36, .int u_37, .ref u_38, .int u_39, .int u_40, .int u_41, .ref u_42, .int u_43, .ref u_44, .int u_45, .int u_46, .int u_47, .int u_48, .int u_49, .ref u_50, .ref u_51, .ref u_52, .ref u_53]))], []) _ _ _ _ dX12_four_36 ⟨f_15, rfl⟩ (hP.sub [0, 1] rfl) (hK.sub [] rfl) (hD.sub [0, 1] (by decide +kernel) rfl) hS
