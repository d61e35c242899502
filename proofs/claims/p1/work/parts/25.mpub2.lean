theorem dX12_days_0 : decode cX12_days 0 = .ok (.aload_n 0, 1) := by decide +kernel
theorem dX12_days_1 : decode cX12_days 1 = .ok (.iconst 0, 1) := by decide +kernel
theorem dX12_days_2 : decode cX12_days 2 = .ok (.putfield 1, 3) := by decide +kernel
theorem dX12_days_5 : decode cX12_days 5 = .ok (.iload_n 1, 1) := by decide +kernel
theorem dX12_days_6 : decode cX12_days 6 = .ok (.iconst 1, 1) := by decide +kernel
theorem dX12_days_7 : decode cX12_days 7 = .ok (.bipush 60, 2) := by decide +kernel
theorem dX12_days_9 : decode cX12_days 9 = .ok (.invokestatic 186, 3) := by decide +kernel
theorem dX12_days_12 : decode cX12_days 12 = .ok (.ifCond .ne 5, 3) := by decide +kernel
theorem dX12_days_15 : decode cX12_days 15 = .ok (.iconst (-1), 1) := by decide +kernel
theorem dX12_days_16 : decode cX12_days 16 = .ok (.ireturn, 1) := by decide +kernel
theorem dX12_days_17 : decode cX12_days 17 = .ok (.aload_n 0, 1) := by decide +kernel
theorem dX12_days_18 : decode cX12_days 18 = .ok (.getfield 33, 3) := by decide +kernel
theorem dX12_days_21 : decode cX12_days 21 = .ok (.bipush 67, 2) := by decide +kernel
theorem dX12_days_23 : decode cX12_days 23 = .ok (.iaload, 1) := by decide +kernel
theorem dX12_days_24 : decode cX12_days 24 = .ok (.sipush 200, 3) := by decide +kernel
theorem dX12_days_27 : decode cX12_days 27 = .ok (.if_icmp .ne 5, 3) := by decide +kernel
theorem dX12_days_32 : decode cX12_days 32 = .ok (.aload_n 0, 1) := by decide +kernel
theorem dX12_days_33 : decode cX12_days 33 = .ok (.invokevirtual 330, 3) := by decide +kernel
theorem dX12_days_36 : decode cX12_days 36 = .ok (.aload_n 0, 1) := by decide +kernel
theorem dX12_days_37 : decode cX12_days 37 = .ok (.iload_n 1, 1) := by decide +kernel
theorem dX12_days_38 : decode cX12_days 38 = .ok (.invokevirtual 343, 3) := by decide +kernel
theorem dX12_days_41 : decode cX12_days 41 = .ok (.ireturn, 1) := by decide +kernel
theorem dX12_weeps_0 : decode cX12_weeps 0 = .ok (.aload_n 0, 1) := by decide +kernel
theorem dX12_weeps_1 : decode cX12_weeps 1 = .ok (.iconst 0, 1) := by decide +kernel
theorem dX12_weeps_2 : decode cX12_weeps 2 = .ok (.putfield 1, 3) := by decide +kernel
theorem dX12_weeps_5 : decode cX12_weeps 5 = .ok (.iload_n 1, 1) := by decide +kernel
theorem dX12_weeps_6 : decode cX12_weeps 6 = .ok (.iconst 1, 1) := by decide +kernel
theorem dX12_weeps_7 : decode cX12_weeps 7 = .ok (.bipush 60, 2) := by decide +kernel
theorem dX12_weeps_9 : decode cX12_weeps 9 = .ok (.invokestatic 186, 3) := by decide +kernel
theorem dX12_weeps_12 : decode cX12_weeps 12 = .ok (.ifCond .ne 5, 3) := by decide +kernel
theorem dX12_weeps_15 : decode cX12_weeps 15 = .ok (.iconst (-1), 1) := by decide +kernel
theorem dX12_weeps_16 : decode cX12_weeps 16 = .ok (.ireturn, 1) := by decide +kernel
theorem dX12_weeps_17 : decode cX12_weeps 17 = .ok (.aload_n 0, 1) := by decide +kernel
theorem dX12_weeps_18 : decode cX12_weeps 18 = .ok (.invokevirtual 346, 3) := by decide +kernel
theorem dX12_weeps_21 : decode cX12_weeps 21 = .ok (.aload_n 0, 1) := by decide +kernel
theorem dX12_weeps_22 : decode cX12_weeps 22 = .ok (.invokevirtual 318, 3) := by decide +kernel
theorem dX12_weeps_25 : decode cX12_weeps 25 = .ok (.istore_n 2, 1) := by decide +kernel
theorem dX12_weeps_26 : decode cX12_weeps 26 = .ok (.aload_n 0, 1) := by decide +kernel
theorem dX12_weeps_27 : decode cX12_weeps 27 = .ok (.iload_n 1, 1) := by decide +kernel
theorem dX12_weeps_28 : decode cX12_weeps 28 = .ok (.invokevirtual 343, 3) := by decide +kernel
theorem dX12_weeps_31 : decode cX12_weeps 31 = .ok (.pop, 1) := by decide +kernel
theorem dX12_weeps_32 : decode cX12_weeps 32 = .ok (.aload_n 0, 1) := by decide +kernel
theorem dX12_weeps_33 : decode cX12_weeps 33 = .ok (.invokevirtual 318, 3) := by decide +kernel
theorem dX12_weeps_36 : decode cX12_weeps 36 = .ok (.iload_n 2, 1) := by decide +kernel
theorem dX12_weeps_37 : decode cX12_weeps 37 = .ok (.isub, 1) := by decide +kernel
theorem dX12_weeps_38 : decode cX12_weeps 38 = .ok (.istore_n 3, 1) := by decide +kernel
theorem dX12_weeps_39 : decode cX12_weeps 39 = .ok (.aload_n 0, 1) := by decide +kernel
theorem dX12_weeps_40 : decode cX12_weeps 40 = .ok (.invokevirtual 349, 3) := by decide +kernel
theorem dX12_weeps_43 : decode cX12_weeps 43 = .ok (.iload_n 3, 1) := by decide +kernel
theorem dX12_weeps_44 : decode cX12_weeps 44 = .ok (.ireturn, 1) := by decide +kernel
theorem dX12_restore_0 : decode cX12_restore 0 = .ok (.aload_n 0, 1) := by decide +kernel
theorem dX12_restore_1 : decode cX12_restore 1 = .ok (.iconst 0, 1) := by decide +kernel
theorem dX12_restore_2 : decode cX12_restore 2 = .ok (.putfield 1, 3) := by decide +kernel
theorem dX12_restore_5 : decode cX12_restore 5 = .ok (.iload_n 1, 1) := by decide +kernel
theorem dX12_restore_6 : decode cX12_restore 6 = .ok (.iconst 0, 1) := by decide +kernel
theorem dX12_restore_7 : decode cX12_restore 7 = .ok (.iconst 1, 1) := by decide +kernel
theorem dX12_restore_8 : decode cX12_restore 8 = .ok (.invokestatic 186, 3) := by decide +kernel
theorem dX12_restore_11 : decode cX12_restore 11 = .ok (.ifCond .eq 12, 3) := by decide +kernel
theorem dX12_restore_14 : decode cX12_restore 14 = .ok (.aload_n 0, 1) := by decide +kernel
theorem dX12_restore_15 : decode cX12_restore 15 = .ok (.getfield 96, 3) := by decide +kernel
theorem dX12_restore_18 : decode cX12_restore 18 = .ok (.iload_n 1, 1) := by decide +kernel
theorem dX12_restore_19 : decode cX12_restore 19 = .ok (.baload, 1) := by decide +kernel
theorem dX12_restore_20 : decode cX12_restore 20 = .ok (.ifCond .ne 5, 3) := by decide +kernel
theorem dX12_restore_23 : decode cX12_restore 23 = .ok (.iconst 0, 1) := by decide +kernel
theorem dX12_restore_24 : decode cX12_restore 24 = .ok (.ireturn, 1) := by decide +kernel
theorem dX12_count_0 : decode cX12_count 0 = .ok (.aload_n 0, 1) := by decide +kernel
theorem dX12_count_1 : decode cX12_count 1 = .ok (.iconst 0, 1) := by decide +kernel
theorem dX12_count_2 : decode cX12_count 2 = .ok (.putfield 1, 3) := by decide +kernel
theorem dX12_count_5 : decode cX12_count 5 = .ok (.iload_n 1, 1) := by decide +kernel
theorem dX12_count_6 : decode cX12_count 6 = .ok (.iconst 5, 1) := by decide +kernel
theorem dX12_count_7 : decode cX12_count 7 = .ok (.if_icmp .ne 10, 3) := by decide +kernel
theorem dX12_count_10 : decode cX12_count 10 = .ok (.aload_n 0, 1) := by decide +kernel
theorem dX12_count_11 : decode cX12_count 11 = .ok (.getfield 7, 3) := by decide +kernel
theorem dX12_count_14 : decode cX12_count 14 = .ok (.goto 22, 3) := by decide +kernel
theorem dX12_count_17 : decode cX12_count 17 = .ok (.iload_n 1, 1) := by decide +kernel
theorem dX12_count_18 : decode cX12_count 18 = .ok (.iconst 0, 1) := by decide +kernel
theorem dX12_count_19 : decode cX12_count 19 = .ok (.iconst 4, 1) := by decide +kernel
theorem dX12_count_20 : decode cX12_count 20 = .ok (.invokestatic 186, 3) := by decide +kernel
theorem dX12_count_23 : decode cX12_count 23 = .ok (.ifCond .eq 12, 3) := by decide +kernel
theorem dX12_count_26 : decode cX12_count 26 = .ok (.aload_n 0, 1) := by decide +kernel
theorem dX12_count_27 : decode cX12_count 27 = .ok (.getfield 33, 3) := by decide +kernel
theorem dX12_count_30 : decode cX12_count 30 = .ok (.iload_n 1, 1) := by decide +kernel
theorem dX12_count_31 : decode cX12_count 31 = .ok (.iaload, 1) := by decide +kernel
theorem dX12_count_32 : decode cX12_count 32 = .ok (.goto 4, 3) := by decide +kernel
theorem dX12_count_35 : decode cX12_count 35 = .ok (.iconst (-1), 1) := by decide +kernel
theorem dX12_count_36 : decode cX12_count 36 = .ok (.ireturn, 1) := by decide +kernel
set_option maxRecDepth 20000 in
theorem ggX12_days_X12_isIn : GoodIn wsX12_days wsX12_isIn := goodIn_r _ [6] (by decide +kernel) (by decide +kernel)
set_option maxRecDepth 20000 in
theorem gX12_days_X12_isIn : GoodIn wsX12_days (va_wsS RX12 186 yX12_isIn wsX12_isIn) := goodIn_app (goodIn_of _ (by decide +kernel)) ggX12_days_X12_isIn
set_option maxRecDepth 20000 in
theorem ggX12_days_X12_keep : GoodIn wsX12_days wsX12_keep := goodIn_r _ [10, 11, 12, 2, 66, 67, 68, 69, 70, 71, 72, 73, 74, 75, 76, 77, 78, 79, 80, 81, 82, 83, 84, 85, 86, 87, 88, 89, 90, 91, 92, 93, 94, 95, 96, 97, 98, 99, 100, 101, 102, 103, 104, 105, 106, 107, 108, 109, 110, 111, 112, 113, 114, 115, 116, 117, 118, 119] (by decide +kernel) (by decide +kernel)
set_option maxRecDepth 20000 in
theorem gX12_days_X12_keep : GoodIn wsX12_days (wsV RX12 330 RX12 yX12_keep wsX12_keep) := goodIn_app (goodIn_of _ (by decide +kernel)) ggX12_days_X12_keep
set_option maxRecDepth 20000 in
theorem ggX12_days_X12_goesOn : GoodIn wsX12_days wsX12_goesOn := goodIn_r _ [16, 2, 17, 18, 19, 5, 20, 21, 22, 23, 24, 25, 26, 27, 28, 29, 30, 31, 32, 33, 34, 35, 36, 37, 38, 39, 40, 41, 42, 43, 44, 45, 46, 47, 48, 49, 50, 51, 52, 53, 54, 55, 56, 57, 58, 59, 60, 61, 62, 63, 64, 65, 66, 67, 68, 69, 70, 71, 72, 73, 74, 75, 76, 77, 78, 79, 80, 81, 82, 83, 84, 85, 86, 87, 88, 89, 90, 91, 92, 93, 94, 95, 96, 97, 98, 99, 100, 101, 102, 103, 104, 105, 106, 107, 108, 109, 110, 111, 112, 113, 114, 115, 116, 117, 118, 119] (by decide +kernel) (by decide +kernel)
set_option maxRecDepth 20000 in
theorem gX12_days_X12_goesOn : GoodIn wsX12_days (wsV RX12 343 RX12 yX12_goesOn wsX12_goesOn) := goodIn_app (goodIn_of _ (by decide +kernel)) ggX12_days_X12_goesOn
set_option maxRecDepth 20000 in
theorem ggX12_weeps_X12_isIn : GoodIn wsX12_weeps wsX12_isIn := goodIn_r _ [5] (by decide +kernel) (by decide +kernel)
set_option maxRecDepth 20000 in
theorem gX12_weeps_X12_isIn : GoodIn wsX12_weeps (va_wsS RX12 186 yX12_isIn wsX12_isIn) := goodIn_app (goodIn_of _ (by decide +kernel)) ggX12_weeps_X12_isIn
set_option maxRecDepth 20000 in
theorem ggX12_weeps_X12_tries : GoodIn wsX12_weeps wsX12_tries := goodIn_r _ [9, 10, 11, 73, 74, 75, 76, 77, 78, 79, 80, 81, 82, 83, 84, 85, 86, 87, 88, 89, 90, 91, 92, 93, 94, 95, 96, 97, 98, 99, 100, 101, 102, 103, 104, 105, 106, 107, 108, 109, 110, 111, 112, 113, 114, 115, 116, 117, 118, 119, 120, 121, 122, 123, 124, 125, 126] (by decide +kernel) (by decide +kernel)
set_option maxRecDepth 20000 in
theorem gX12_weeps_X12_tries : GoodIn wsX12_weeps (wsV RX12 346 RX12 yX12_tries wsX12_tries) := goodIn_app (goodIn_of _ (by decide +kernel)) ggX12_weeps_X12_tries
set_option maxRecDepth 20000 in
theorem ggX12_weeps_X12_weptByAll : GoodIn wsX12_weeps wsX12_weptByAll := goodIn_r _ [15, 11, 73, 74, 75, 76, 77, 78, 79, 80, 81, 82, 83, 84, 85, 86, 87, 88, 89, 90, 91, 92, 93, 94, 95, 96, 97, 98, 99, 100, 101, 102, 103, 104, 105, 106, 107, 108, 109, 110, 111, 112, 113, 114, 115, 116, 117, 118, 119, 120, 121, 122, 123, 124, 125, 126] (by decide +kernel) (by decide +kernel)
set_option maxRecDepth 20000 in
theorem gX12_weeps_X12_weptByAll : GoodIn wsX12_weeps (wsV RX12 318 RX12 yX12_weptByAll wsX12_weptByAll) := goodIn_app (goodIn_of _ (by decide +kernel)) ggX12_weeps_X12_weptByAll
set_option maxRecDepth 20000 in
theorem ggX12_weeps_X12_goesOn : GoodIn wsX12_weeps wsX12_goesOn := goodIn_r _ [19, 11, 20, 21, 22, 4, 23, 24, 25, 26, 27, 28, 29, 30, 31, 32, 33, 34, 35, 36, 37, 38, 39, 40, 41, 42, 43, 44, 45, 46, 47, 48, 49, 50, 51, 52, 53, 54, 55, 56, 57, 58, 59, 60, 61, 62, 63, 64, 65, 66, 67, 68, 73, 74, 75, 76, 77, 78, 79, 80, 81, 82, 83, 84, 85, 86, 87, 88, 89, 90, 91, 92, 93, 94, 95, 96, 97, 98, 99, 100, 101, 102, 103, 104, 105, 106, 107, 108, 109, 110, 111, 112, 113, 114, 115, 116, 117, 118, 119, 120, 121, 122, 123, 124, 125, 126] (by decide +kernel) (by decide +kernel)
set_option maxRecDepth 20000 in
theorem gX12_weeps_X12_goesOn : GoodIn wsX12_weeps (wsV RX12 343 RX12 yX12_goesOn wsX12_goesOn) := goodIn_app (goodIn_of _ (by decide +kernel)) ggX12_weeps_X12_goesOn
set_option maxRecDepth 20000 in
theorem ggX12_weeps_X12_back : GoodIn wsX12_weeps wsX12_back := goodIn_r _ [72, 11, 10, 73, 74, 75, 76, 77, 78, 79, 80, 81, 82, 83, 84, 85, 86, 87, 88, 89, 90, 91, 92, 93, 94, 95, 96, 97, 98, 99, 100, 101, 102, 103, 104, 105, 106, 107, 108, 109, 110, 111, 112, 113, 114, 115, 116, 117, 118, 119, 120, 121, 122, 123, 124, 125, 126] (by decide +kernel) (by decide +kernel)
set_option maxRecDepth 20000 in
theorem gX12_weeps_X12_back : GoodIn wsX12_weeps (wsV RX12 349 RX12 yX12_back wsX12_back) := goodIn_app (goodIn_of _ (by decide +kernel)) ggX12_weeps_X12_back
set_option maxRecDepth 20000 in
theorem ggX12_restore_X12_isIn : GoodIn wsX12_restore wsX12_isIn := goodIn_r _ [11] (by decide +kernel) (by decide +kernel)
set_option maxRecDepth 20000 in
theorem gX12_restore_X12_isIn : GoodIn wsX12_restore (va_wsS RX12 186 yX12_isIn wsX12_isIn) := goodIn_app (goodIn_of _ (by decide +kernel)) ggX12_restore_X12_isIn
set_option maxRecDepth 20000 in
theorem ggX12_count_X12_isIn : GoodIn wsX12_count wsX12_isIn := goodIn_r _ [7] (by decide +kernel) (by decide +kernel)
set_option maxRecDepth 20000 in
theorem gX12_count_X12_isIn : GoodIn wsX12_count (va_wsS RX12 186 yX12_isIn wsX12_isIn) := goodIn_app (goodIn_of _ (by decide +kernel)) ggX12_count_X12_isIn
theorem z_le {x : Int32} {k n : Nat} (hk : k + 1 = n) (hn : n < 2 ^ 31) (h : x ≤ nI k) : x < nI n := by
  subst hk
  refine Int32.lt_of_le_of_lt h (nI_lt (by omega) hn)
def s_X12_days (p0 : Int32) : Int32 := if (s_X12_isIn p0 1 60) = 0 then ((-1)) else (p0)
def s_X12_weeps (p0 : Int32) : Int32 := if (s_X12_isIn p0 1 60) = 0 then ((-1)) else (0)
def s_X12_count (p0 : Int32) : Int32 := if p0 = 5 then (0) else (if (s_X12_isIn p0 0 4) = 0 then ((-1)) else (if p0 = 0 then (0) else (if p0 = 1 then (0) else (if p0 = 2 then (0) else (if p0 = 3 then (0) else (if p0 = 4 then (2) else (0)))))))
set_option maxHeartbeats 8000000 in
set_option maxRecDepth 100000 in
theorem k_X12_days (l : Launch) (D : va_G) (ad : Nat → Nat) (am : Nat → Nat) (tm : Nat → ClassId) (p0 : Int32) (u_1 : Nat) (u_2 : Int32) (u_3 : Int32) (u_4 : Int32) (u_5 : Int32) (u_7 : Nat) (u_8 : Nat) (u_9 : Nat) (u_10 : Nat) (u_11 : Int32) (u_12 : Int32) (u_13 : Int32) (u_14 : Int32) (u_15 : Int32) (u_16 : Int32) (u_17 : Int64) (u_18 : Int32) (u_19 : Int32) (u_20 : Int32) (u_22 : Nat) (u_24 : Int32) (u_25 : Int32) (u_26 : Int32) (u_27 : Nat) (u_28 : Int32) (u_29 : Nat) (u_30 : Int32) (u_31 : Int32) (u_32 : Nat) (u_33 : Int32) (u_34 : Nat) (u_35 : Nat) (u_36 : Int32) (u_37 : Int32) (u_38 : Nat) (u_39 : Int32) (u_40 : Int32) (u_41 : Int32) (u_42 : Nat) (u_43 : Int32) (u_44 : Nat) (u_45 : Int32) (u_46 : Int32) (u_47 : Int32) (u_48 : Int32) (u_49 : Int32) (u_50 : Nat) (u_51 : Nat) (u_52 : Nat) (u_53 : Nat)  : z_Mi l yX12_days wsX12_days { frames := 3, cells := 0, slots := 0, locals := 67 } D ad [.ref (am 18), .int p0] [(am 1, .inl (tm 1, 283, .inl (upd (fun _ => 0) 4 2))), (am 4, .inl (tm 4, 280, .inl (fun _ => 0))), (am 18, .inr (11, [.int 0, .ref u_1, .int u_2, .int u_3, .int u_4, .int u_5, .ref (am 1), .ref u_7, .ref u_8, .ref u_9, .ref u_10, .int u_11, .int u_12, .int u_13, .int u_14, .int u_15, .int u_16, .long u_17, .int u_18, .int u_19, .int u_20, .ref (am 4), .ref u_22, .int 0, .int u_24, .int u_25, .int u_26, .ref u_27, .int u_28, .ref u_29, .int u_30, .int u_31, .ref u_32, .int u_33, .ref u_34, .ref u_35, .int u_36, .int u_37, .ref u_38, .int u_39, .int u_40, .int u_41, .ref u_42, .int u_43, .ref u_44, .int u_45, .int u_46, .int u_47, .int u_48, .int u_49, .ref u_50, .ref u_51, .ref u_52, .ref u_53]))] [(tm 1, .int), (tm 4, .int)] 0 0 (fun r9 u9 => r9 = s_X12_days p0 ∧ u9 = ([], [])) := by
  refine z_ofI (cc := cX12_days) (maxL := 2) (rt := .int) (by decide) rfl (Nat.le_of_ble_eq_true rfl) ?_
  intro p e s m below meth c Q A ls hx hb hml hown hts hin hK hP hD hA hE hO hS hl hret
  have hown : s.vm.findClass RX12 = some m.cls := hown
  have hiX12 : ∀ w ∈ wsX120, w ∈ wsX12_days := fun _ h9 => List.mem_cons_of_mem _ (List.mem_append_right _ h9)
  have hl : lv_has ls 2 [(0, .ref (am 18)), (1, .int p0)] := hl
  refine lv_aload_n hx hb dX12_days_0 rfl (lv_at hl 0 rfl) ?_
  refine lv_iconst (v := 0) hx hb dX12_days_1 (by decide) ?_
  refine va_put (D := D) (ci := 11) (v := .int 0) (ty := tyX12 0) (C := RX12) (T := TX12) (N := 54) hx hb hts hiX12 tyX12 tyX12_ok nmX12 hown hK hP hD hS 2 rfl rfl 0 (by decide) (hts _ (List.mem_of_getElem? (i := 1) rfl)) (fun _ h9 => h9) rfl (tyX12_ok 0 (by decide)) rfl rfl (Nat.le_of_ble_eq_true rfl) dX12_days_2 (fun H locs hP hD hS => ?_)
  have hP : va_P D vwCl [(am 1, .inl (tm 1, 283, .inl (upd (fun _ => 0) 4 2))), (am 4, .inl (tm 4, 280, .inl (fun _ => 0))), (am 18, .inr (11, [.int 0, .ref u_1, .int u_2, .int u_3, .int u_4, .int u_5, .ref (am 1), .ref u_7, .ref u_8, .ref u_9, .ref u_10, .int u_11, .int u_12, .int u_13, .int u_14, .int u_15, .int u_16, .long u_17, .int u_18, .int u_19, .int u_20, .ref (am 4), .ref u_22, .int 0, .int u_24, .int u_25, .int u_26, .ref u_27, .int u_28, .ref u_29, .int u_30, .int u_31, .ref u_32, .int u_33, .ref u_34, .ref u_35, .int u_36, .int u_37, .ref u_38, .int u_39, .int u_40, .int u_41, .ref u_42, .int u_43, .ref u_44, .int u_45, .int u_46, .int u_47, .int u_48, .int u_49, .ref u_50, .ref u_51, .ref u_52, .ref u_53]))] H := hP
  have hD : va_D A [(am 1, .inl (tm 1, 283, .inl (upd (fun _ => 0) 4 2))), (am 4, .inl (tm 4, 280, .inl (fun _ => 0))), (am 18, .inr (11, [.int 0, .ref u_1, .int u_2, .int u_3, .int u_4, .int u_5, .ref (am 1), .ref u_7, .ref u_8, .ref u_9, .ref u_10, .int u_11, .int u_12, .int u_13, .int u_14, .int u_15, .int u_16, .long u_17, .int u_18, .int u_19, .int u_20, .ref (am 4), .ref u_22, .int 0, .int u_24, .int u_25, .int u_26, .ref u_27, .int u_28, .ref u_29, .int u_30, .int u_31, .ref u_32, .int u_33, .ref u_34, .ref u_35, .int u_36, .int u_37, .ref u_38, .int u_39, .int u_40, .int u_41, .ref u_42, .int u_43, .ref u_44, .int u_45, .int u_46, .int u_47, .int u_48, .int u_49, .ref u_50, .ref u_51, .ref u_52, .ref u_53]))] := hD
  refine lv_iload_n hx hb dX12_days_5 rfl (lv_at hl 1 rfl) ?_
  refine lv_iconst (v := 1) hx hb dX12_days_6 (by decide) ?_
  refine lv_bipush (v := 60) hx hb dX12_days_7 (by decide) ?_
  have hc9 := (k_X12_isIn l D ad p0 1 60 )
  refine z_calli (w0 := []) (wr := [(am 1, .inl (tm 1, 283, .inl (upd (fun _ => 0) 4 2))), (am 4, .inl (tm 4, 280, .inl (fun _ => 0))), (am 18, .inr (11, [.int 0, .ref u_1, .int u_2, .int u_3, .int u_4, .int u_5, .ref (am 1), .ref u_7, .ref u_8, .ref u_9, .ref u_10, .int u_11, .int u_12, .int u_13, .int u_14, .int u_15, .int u_16, .long u_17, .int u_18, .int u_19, .int u_20, .ref (am 4), .ref u_22, .int 0, .int u_24, .int u_25, .int u_26, .ref u_27, .int u_28, .ref u_29, .int u_30, .int u_31, .ref u_32, .int u_33, .ref u_34, .ref u_35, .int u_36, .int u_37, .ref u_38, .int u_39, .int u_40, .int u_41, .ref u_42, .int u_43, .ref u_44, .int u_45, .int u_46, .int u_47, .int u_48, .int u_49, .ref u_50, .ref u_51, .ref u_52, .ref u_53]))]) (va_runS (As := [.int p0, .int 1, .int 60]) (rest := []) ⟨hx, hb, hml, hown, hts⟩ (hc9 _) (va_cwS 3 hts gX12_days_X12_isIn rfl rfl rfl (by decide +kernel) ⟨Nat.le_of_ble_eq_true rfl, Nat.le_of_ble_eq_true rfl⟩) (z_preS hP hD hK hS hA hE hO [] [] rfl (by decide +kernel) rfl) rfl rfl hl.1 rfl (lv_room (Nat.le_of_ble_eq_true rfl)) dX12_days_9 ⟨Nat.le_of_ble_eq_true rfl, Nat.le_of_ble_eq_true rfl⟩) hP hD hK hS hA [] [0, 1, 2] rfl rfl (by decide +kernel) (by decide +kernel) (fun r9 u9 H locs hw hP hD hK hS => ?_)
  obtain ⟨er9, rfl⟩ := hw
  have hP : va_P D vwCl [(am 1, .inl (tm 1, 283, .inl (upd (fun _ => 0) 4 2))), (am 4, .inl (tm 4, 280, .inl (fun _ => 0))), (am 18, .inr (11, [.int 0, .ref u_1, .int u_2, .int u_3, .int u_4, .int u_5, .ref (am 1), .ref u_7, .ref u_8, .ref u_9, .ref u_10, .int u_11, .int u_12, .int u_13, .int u_14, .int u_15, .int u_16, .long u_17, .int u_18, .int u_19, .int u_20, .ref (am 4), .ref u_22, .int 0, .int u_24, .int u_25, .int u_26, .ref u_27, .int u_28, .ref u_29, .int u_30, .int u_31, .ref u_32, .int u_33, .ref u_34, .ref u_35, .int u_36, .int u_37, .ref u_38, .int u_39, .int u_40, .int u_41, .ref u_42, .int u_43, .ref u_44, .int u_45, .int u_46, .int u_47, .int u_48, .int u_49, .ref u_50, .ref u_51, .ref u_52, .ref u_53]))] H := hP
  have hD : va_D A [(am 1, .inl (tm 1, 283, .inl (upd (fun _ => 0) 4 2))), (am 4, .inl (tm 4, 280, .inl (fun _ => 0))), (am 18, .inr (11, [.int 0, .ref u_1, .int u_2, .int u_3, .int u_4, .int u_5, .ref (am 1), .ref u_7, .ref u_8, .ref u_9, .ref u_10, .int u_11, .int u_12, .int u_13, .int u_14, .int u_15, .int u_16, .long u_17, .int u_18, .int u_19, .int u_20, .ref (am 4), .ref u_22, .int 0, .int u_24, .int u_25, .int u_26, .ref u_27, .int u_28, .ref u_29, .int u_30, .int u_31, .ref u_32, .int u_33, .ref u_34, .ref u_35, .int u_36, .int u_37, .ref u_38, .int u_39, .int u_40, .int u_41, .ref u_42, .int u_43, .ref u_44, .int u_45, .int u_46, .int u_47, .int u_48, .int u_49, .ref u_50, .ref u_51, .ref u_52, .ref u_53]))] := hD
  have hK : va_K D vwCl [(tm 1, .int), (tm 4, .int)] s := hK
  refine W.cs (cells' := 0) (slots' := 0) rfl rfl ?_
  obtain rfl := er9
  refine W.eq (g2 := F0 m 12 ls (.int (s_X12_isIn p0 1 60) :: [])) rfl ?_
  refine lv_if_ne (tgt := 17) hx hb dX12_days_12 (by decide) (fun c_1 => ?_) (fun c_1 => ?_)
  · obtain ⟨n0, hn1, hn0, rfl⟩ := z_n60 (z_isIn c_1).1 (z_isIn c_1).2
    refine lv_aload_n hx hb dX12_days_17 rfl (lv_at hl 0 rfl) ?_
    refine va_get (D := D) (ci := 11) (v := .ref (am 1)) (C := RX12) (T := TX12) (N := 54) hx hb hts hiX12 hown hK hP 2 rfl rfl 6 (by decide) (hts _ (List.mem_of_getElem? (i := 2) rfl)) (fun _ h9 => h9) rfl dX12_days_18 ?_
    refine lv_bipush (v := 67) hx hb dX12_days_21 (by decide) ?_
    refine va_iald hx hb hK hP 0 0 rfl rfl (show ¬ (_ ∨ _) by decide) dX12_days_23 ?_
    refine W.eq (g2 := F0 m 24 ls (.int 0 :: [])) rfl ?_
    refine lv_sipush (v := 200) hx hb dX12_days_24 (by decide) ?_
    refine lv_icmp_ne (tgt := 32) hx hb dX12_days_27 (by decide) (fun _ => ?_) (fun h9 => absurd h9 (by decide))
    refine lv_aload_n hx hb dX12_days_32 rfl (lv_at hl 0 rfl) ?_
    have hc9 := (k_X12_keep l D ad am tm 0 u_1 u_2 u_3 u_4 u_5 u_7 u_8 u_9 u_10 u_11 u_12 u_13 u_14 u_15 u_16 u_17 u_18 u_19 u_20 u_22 u_24 u_25 u_26 u_27 u_28 u_29 u_30 u_31 u_32 u_33 u_34 u_35 u_36 u_37 u_38 u_39 u_40 u_41 u_42 u_43 u_44 u_45 u_46 u_47 u_48 u_49 u_50 u_51 u_52 u_53 )
    refine z_callv (w0 := [(am 1, .inl (tm 1, 283, .inl (upd (fun _ => 0) 4 2))), (am 4, .inl (tm 4, 280, .inl (fun _ => 0))), (am 18, .inr (11, [.int 0, .ref u_1, .int u_2, .int u_3, .int u_4, .int u_5, .ref (am 1), .ref u_7, .ref u_8, .ref u_9, .ref u_10, .int u_11, .int u_12, .int u_13, .int u_14, .int u_15, .int u_16, .long u_17, .int u_18, .int u_19, .int u_20, .ref (am 4), .ref u_22, .int 0, .int u_24, .int u_25, .int u_26, .ref u_27, .int u_28, .ref u_29, .int u_30, .int u_31, .ref u_32, .int u_33, .ref u_34, .ref u_35, .int u_36, .int u_37, .ref u_38, .int u_39, .int u_40, .int u_41, .ref u_42, .int u_43, .ref u_44, .int u_45, .int u_46, .int u_47, .int u_48, .int u_49, .ref u_50, .ref u_51, .ref u_52, .ref u_53]))]) (wr := []) (va_runV (As := []) (rest := []) ⟨hx, hb, hml, hown, hts⟩ (hc9 _) (cwV 0 hts gX12_days_X12_keep rfl rfl rfl (by decide +kernel) ⟨Nat.le_of_ble_eq_true rfl, Nat.le_of_ble_eq_true rfl⟩) (z_preV hP hD hK hS hA hE hO [0, 1, 2] [0, 1] rfl (by decide +kernel) rfl 2 11 rfl rfl rfl) rfl rfl hl.1 rfl (lv_room (Nat.le_of_ble_eq_true rfl)) dX12_days_33 ⟨Nat.le_of_ble_eq_true rfl, Nat.le_of_ble_eq_true rfl⟩) hP hD hK hS hA [0, 1, 2] [] rfl rfl (by decide +kernel) (by decide +kernel) (fun u9 H locs hw hP hD hK hS => ?_)
    obtain ⟨g1_2, rfl⟩ := hw
    have hP : va_P D vwCl [(am 1, .inl (tm 1, 283, .inl (upd (fun _ => 0) 4 2))), (am 4, .inl (tm 4, 280, .inl g1_2)), (am 18, .inr (11, [.int 0, .ref u_1, .int u_2, .int u_3, .int u_4, .int u_5, .ref (am 1), .ref u_7, .ref u_8, .ref u_9, .ref u_10, .int u_11, .int u_12, .int u_13, .int u_14, .int u_15, .int u_16, .long u_17, .int u_18, .int u_19, .int u_20, .ref (am 4), .ref u_22, .int 1, .int u_24, .int u_25, .int u_26, .ref u_27, .int u_28, .ref u_29, .int u_30, .int u_31, .ref u_32, .int u_33, .ref u_34, .ref u_35, .int u_36, .int u_37, .ref u_38, .int u_39, .int u_40, .int u_41, .ref u_42, .int u_43, .ref u_44, .int u_45, .int u_46, .int u_47, .int u_48, .int u_49, .ref u_50, .ref u_51, .ref u_52, .ref u_53]))] H := hP
    have hD : va_D A [(am 1, .inl (tm 1, 283, .inl (upd (fun _ => 0) 4 2))), (am 4, .inl (tm 4, 280, .inl g1_2)), (am 18, .inr (11, [.int 0, .ref u_1, .int u_2, .int u_3, .int u_4, .int u_5, .ref (am 1), .ref u_7, .ref u_8, .ref u_9, .ref u_10, .int u_11, .int u_12, .int u_13, .int u_14, .int u_15, .int u_16, .long u_17, .int u_18, .int u_19, .int u_20, .ref (am 4), .ref u_22, .int 1, .int u_24, .int u_25, .int u_26, .ref u_27, .int u_28, .ref u_29, .int u_30, .int u_31, .ref u_32, .int u_33, .ref u_34, .ref u_35, .int u_36, .int u_37, .ref u_38, .int u_39, .int u_40, .int u_41, .ref u_42, .int u_43, .ref u_44, .int u_45, .int u_46, .int u_47, .int u_48, .int u_49, .ref u_50, .ref u_51, .ref u_52, .ref u_53]))] := hD
    have hK : va_K D vwCl [(tm 1, .int), (tm 4, .int)] s := hK
    refine W.cs (cells' := 0) (slots' := 0) rfl rfl ?_
    refine lv_aload_n hx hb dX12_days_36 rfl (lv_at hl 0 rfl) ?_
    refine lv_iload_n hx hb dX12_days_37 rfl (lv_at hl 1 rfl) ?_
    have hc9 := (k_X12_goesOn l D ad am tm (upd (fun _ => 0) 4 2) n0 0 u_1 u_2 u_3 u_4 u_5 u_7 u_8 u_9 u_10 u_11 u_12 u_13 u_14 u_15 u_16 u_17 u_18 u_19 u_20 (am 4) u_22 1 u_24 u_25 u_26 u_27 u_28 u_29 u_30 u_31 u_32 u_33 u_34 u_35 u_36 u_37 u_38 u_39 u_40 u_41 u_42 u_43 u_44 u_45 u_46 u_47 u_48 u_49 u_50 u_51 u_52 u_53 (by omega) (rfl) (rfl) (rfl))
    refine z_calli (w0 := [(am 1, .inl (tm 1, 283, .inl (upd (fun _ => 0) 4 2))), (am 18, .inr (11, [.int 0, .ref u_1, .int u_2, .int u_3, .int u_4, .int u_5, .ref (am 1), .ref u_7, .ref u_8, .ref u_9, .ref u_10, .int u_11, .int u_12, .int u_13, .int u_14, .int u_15, .int u_16, .long u_17, .int u_18, .int u_19, .int u_20, .ref (am 4), .ref u_22, .int 1, .int u_24, .int u_25, .int u_26, .ref u_27, .int u_28, .ref u_29, .int u_30, .int u_31, .ref u_32, .int u_33, .ref u_34, .ref u_35, .int u_36, .int u_37, .ref u_38, .int u_39, .int u_40, .int u_41, .ref u_42, .int u_43, .ref u_44, .int u_45, .int u_46, .int u_47, .int u_48, .int u_49, .ref u_50, .ref u_51, .ref u_52, .ref u_53]))]) (wr := [(am 4, .inl (tm 4, 280, .inl g1_2))]) (va_runV (As := [.int (nI n0)]) (rest := []) ⟨hx, hb, hml, hown, hts⟩ (hc9 _) (cwV 1 hts gX12_days_X12_goesOn rfl rfl rfl (by decide +kernel) ⟨Nat.le_of_ble_eq_true rfl, Nat.le_of_ble_eq_true rfl⟩) (z_preV hP hD hK hS hA hE hO [0, 2] [0] rfl (by decide +kernel) rfl 2 11 rfl rfl rfl) rfl rfl hl.1 rfl (lv_room (Nat.le_of_ble_eq_true rfl)) dX12_days_38 ⟨Nat.le_of_ble_eq_true rfl, Nat.le_of_ble_eq_true rfl⟩) hP hD hK hS hA [0, 2] [1] rfl rfl (by decide +kernel) (by decide +kernel) (fun r9 u9 H locs hw hP hD hK hS => ?_)
    obtain ⟨g1_3, er9, h_4, rfl⟩ := hw
    have hP : va_P D vwCl [(am 4, .inl (tm 4, 280, .inl g1_2)), (am 1, .inl (tm 1, 283, .inl g1_3)), (am 18, .inr (11, [.int 0, .ref u_1, .int u_2, .int u_3, .int u_4, .int u_5, .ref (am 1), .ref u_7, .ref u_8, .ref u_9, .ref u_10, .int u_11, .int u_12, .int u_13, .int u_14, .int u_15, .int u_16, .long u_17, .int u_18, .int u_19, .int u_20, .ref (am 4), .ref u_22, .int 1, .int u_24, .int u_25, .int u_26, .ref u_27, .int u_28, .ref u_29, .int u_30, .int u_31, .ref u_32, .int u_33, .ref u_34, .ref u_35, .int u_36, .int u_37, .ref u_38, .int u_39, .int u_40, .int u_41, .ref u_42, .int u_43, .ref u_44, .int u_45, .int u_46, .int u_47, .int u_48, .int u_49, .ref u_50, .ref u_51, .ref u_52, .ref u_53]))] H := hP
    have hD : va_D A [(am 4, .inl (tm 4, 280, .inl g1_2)), (am 1, .inl (tm 1, 283, .inl g1_3)), (am 18, .inr (11, [.int 0, .ref u_1, .int u_2, .int u_3, .int u_4, .int u_5, .ref (am 1), .ref u_7, .ref u_8, .ref u_9, .ref u_10, .int u_11, .int u_12, .int u_13, .int u_14, .int u_15, .int u_16, .long u_17, .int u_18, .int u_19, .int u_20, .ref (am 4), .ref u_22, .int 1, .int u_24, .int u_25, .int u_26, .ref u_27, .int u_28, .ref u_29, .int u_30, .int u_31, .ref u_32, .int u_33, .ref u_34, .ref u_35, .int u_36, .int u_37, .ref u_38, .int u_39, .int u_40, .int u_41, .ref u_42, .int u_43, .ref u_44, .int u_45, .int u_46, .int u_47, .int u_48, .int u_49, .ref u_50, .ref u_51, .ref u_52, .ref u_53]))] := hD
    have hK : va_K D vwCl [(tm 1, .int), (tm 4, .int)] s := hK
    refine W.cs (cells' := 0) (slots' := 0) rfl rfl ?_
    obtain rfl := er9
    refine W.eq (g2 := F0 m 41 ls (.int (nI n0) :: [])) rfl ?_
    refine W.widen (k := 0) (n := 0) (by decide) (by decide) ?_
    exact hret (nI n0) ([], []) _ _ _ _ dX12_days_41 rfl ⟨by unfold s_X12_days; rw [if_neg c_1], rfl⟩ (hP.sub [] rfl) (hK.sub [] rfl) (hD.sub [] (by decide +kernel) rfl) hS
  · refine lv_iconst (v := (-1)) hx hb dX12_days_15 (by decide) ?_
    refine W.widen (k := 0) (n := 0) (by decide) (by decide) ?_
    exact hret (-1) ([], []) _ _ _ _ dX12_days_16 rfl ⟨by unfold s_X12_days; rw [if_pos c_1], rfl⟩ (hP.sub [] rfl) (hK.sub [] rfl) (hD.sub [] (by decide +kernel) rfl) hS

set_option maxHeartbeats 8000000 in
set_option maxRecDepth 100000 in
theorem k_X12_weeps (l : Launch) (D : va_G) (ad : Nat → Nat) (am : Nat → Nat) (tm : Nat → ClassId) (p0 : Int32) (u_1 : Nat) (u_2 : Int32) (u_3 : Int32) (u_4 : Int32) (u_5 : Int32) (u_7 : Nat) (u_8 : Nat) (u_9 : Nat) (u_10 : Nat) (u_11 : Int32) (u_12 : Int32) (u_13 : Int32) (u_14 : Int32) (u_15 : Int32) (u_16 : Int32) (u_17 : Int64) (u_18 : Int32) (u_19 : Int32) (u_20 : Int32) (u_21 : Nat) (u_23 : Int32) (u_24 : Int32) (u_25 : Int32) (u_26 : Int32) (u_27 : Nat) (u_28 : Int32) (u_29 : Nat) (u_30 : Int32) (u_31 : Int32) (u_32 : Nat) (u_33 : Int32) (u_34 : Nat) (u_35 : Nat) (u_36 : Int32) (u_37 : Int32) (u_38 : Nat) (u_39 : Int32) (u_40 : Int32) (u_41 : Int32) (u_42 : Nat) (u_43 : Int32) (u_44 : Nat) (u_45 : Int32) (u_46 : Int32) (u_47 : Int32) (u_48 : Int32) (u_49 : Int32) (u_50 : Nat) (u_51 : Nat) (u_52 : Nat) (u_53 : Nat)  : z_Mi l yX12_weeps wsX12_weeps { frames := 3, cells := 0, slots := 0, locals := 67 } D ad [.ref (am 18), .int p0] [(am 1, .inl (tm 1, 283, .inl (upd (fun _ => 0) 4 2))), (am 5, .inl (tm 5, 35, .inl (fun _ => 0))), (am 18, .inr (11, [.int 0, .ref u_1, .int u_2, .int u_3, .int u_4, .int u_5, .ref (am 1), .ref u_7, .ref u_8, .ref u_9, .ref u_10, .int u_11, .int u_12, .int u_13, .int u_14, .int u_15, .int u_16, .long u_17, .int u_18, .int u_19, .int u_20, .ref u_21, .ref (am 5), .int u_23, .int u_24, .int u_25, .int u_26, .ref u_27, .int u_28, .ref u_29, .int u_30, .int u_31, .ref u_32, .int u_33, .ref u_34, .ref u_35, .int u_36, .int u_37, .ref u_38, .int u_39, .int u_40, .int u_41, .ref u_42, .int u_43, .ref u_44, .int u_45, .int u_46, .int u_47, .int u_48, .int u_49, .ref u_50, .ref u_51, .ref u_52, .ref u_53]))] [(tm 1, .int), (tm 5, .int)] 0 0 (fun r9 u9 => r9 = s_X12_weeps p0 ∧ u9 = ([], [])) := by
  refine z_ofI (cc := cX12_weeps) (maxL := 4) (rt := .int) (by decide) rfl (Nat.le_of_ble_eq_true rfl) ?_
  intro p e s m below meth c Q A ls hx hb hml hown hts hin hK hP hD hA hE hO hS hl hret
  have hown : s.vm.findClass RX12 = some m.cls := hown
  have hiX12 : ∀ w ∈ wsX120, w ∈ wsX12_weeps := fun _ h9 => List.mem_cons_of_mem _ (List.mem_append_right _ h9)
  have hl : lv_has ls 4 [(0, .ref (am 18)), (1, .int p0)] := hl
  refine lv_aload_n hx hb dX12_weeps_0 rfl (lv_at hl 0 rfl) ?_
  refine lv_iconst (v := 0) hx hb dX12_weeps_1 (by decide) ?_
  refine va_put (D := D) (ci := 11) (v := .int 0) (ty := tyX12 0) (C := RX12) (T := TX12) (N := 54) hx hb hts hiX12 tyX12 tyX12_ok nmX12 hown hK hP hD hS 2 rfl rfl 0 (by decide) (hts _ (List.mem_of_getElem? (i := 1) rfl)) (fun _ h9 => h9) rfl (tyX12_ok 0 (by decide)) rfl rfl (Nat.le_of_ble_eq_true rfl) dX12_weeps_2 (fun H locs hP hD hS => ?_)
  have hP : va_P D vwCl [(am 1, .inl (tm 1, 283, .inl (upd (fun _ => 0) 4 2))), (am 5, .inl (tm 5, 35, .inl (fun _ => 0))), (am 18, .inr (11, [.int 0, .ref u_1, .int u_2, .int u_3, .int u_4, .int u_5, .ref (am 1), .ref u_7, .ref u_8, .ref u_9, .ref u_10, .int u_11, .int u_12, .int u_13, .int u_14, .int u_15, .int u_16, .long u_17, .int u_18, .int u_19, .int u_20, .ref u_21, .ref (am 5), .int u_23, .int u_24, .int u_25, .int u_26, .ref u_27, .int u_28, .ref u_29, .int u_30, .int u_31, .ref u_32, .int u_33, .ref u_34, .ref u_35, .int u_36, .int u_37, .ref u_38, .int u_39, .int u_40, .int u_41, .ref u_42, .int u_43, .ref u_44, .int u_45, .int u_46, .int u_47, .int u_48, .int u_49, .ref u_50, .ref u_51, .ref u_52, .ref u_53]))] H := hP
  have hD : va_D A [(am 1, .inl (tm 1, 283, .inl (upd (fun _ => 0) 4 2))), (am 5, .inl (tm 5, 35, .inl (fun _ => 0))), (am 18, .inr (11, [.int 0, .ref u_1, .int u_2, .int u_3, .int u_4, .int u_5, .ref (am 1), .ref u_7, .ref u_8, .ref u_9, .ref u_10, .int u_11, .int u_12, .int u_13, .int u_14, .int u_15, .int u_16, .long u_17, .int u_18, .int u_19, .int u_20, .ref u_21, .ref (am 5), .int u_23, .int u_24, .int u_25, .int u_26, .ref u_27, .int u_28, .ref u_29, .int u_30, .int u_31, .ref u_32, .int u_33, .ref u_34, .ref u_35, .int u_36, .int u_37, .ref u_38, .int u_39, .int u_40, .int u_41, .ref u_42, .int u_43, .ref u_44, .int u_45, .int u_46, .int u_47, .int u_48, .int u_49, .ref u_50, .ref u_51, .ref u_52, .ref u_53]))] := hD
  refine lv_iload_n hx hb dX12_weeps_5 rfl (lv_at hl 1 rfl) ?_
  refine lv_iconst (v := 1) hx hb dX12_weeps_6 (by decide) ?_
  refine lv_bipush (v := 60) hx hb dX12_weeps_7 (by decide) ?_
  have hc9 := (k_X12_isIn l D ad p0 1 60 )
  refine z_calli (w0 := []) (wr := [(am 1, .inl (tm 1, 283, .inl (upd (fun _ => 0) 4 2))), (am 5, .inl (tm 5, 35, .inl (fun _ => 0))), (am 18, .inr (11, [.int 0, .ref u_1, .int u_2, .int u_3, .int u_4, .int u_5, .ref (am 1), .ref u_7, .ref u_8, .ref u_9, .ref u_10, .int u_11, .int u_12, .int u_13, .int u_14, .int u_15, .int u_16, .long u_17, .int u_18, .int u_19, .int u_20, .ref u_21, .ref (am 5), .int u_23, .int u_24, .int u_25, .int u_26, .ref u_27, .int u_28, .ref u_29, .int u_30, .int u_31, .ref u_32, .int u_33, .ref u_34, .ref u_35, .int u_36, .int u_37, .ref u_38, .int u_39, .int u_40, .int u_41, .ref u_42, .int u_43, .ref u_44, .int u_45, .int u_46, .int u_47, .int u_48, .int u_49, .ref u_50, .ref u_51, .ref u_52, .ref u_53]))]) (va_runS (As := [.int p0, .int 1, .int 60]) (rest := []) ⟨hx, hb, hml, hown, hts⟩ (hc9 _) (va_cwS 3 hts gX12_weeps_X12_isIn rfl rfl rfl (by decide +kernel) ⟨Nat.le_of_ble_eq_true rfl, Nat.le_of_ble_eq_true rfl⟩) (z_preS hP hD hK hS hA hE hO [] [] rfl (by decide +kernel) rfl) rfl rfl hl.1 rfl (lv_room (Nat.le_of_ble_eq_true rfl)) dX12_weeps_9 ⟨Nat.le_of_ble_eq_true rfl, Nat.le_of_ble_eq_true rfl⟩) hP hD hK hS hA [] [0, 1, 2] rfl rfl (by decide +kernel) (by decide +kernel) (fun r9 u9 H locs hw hP hD hK hS => ?_)
  obtain ⟨er9, rfl⟩ := hw
  have hP : va_P D vwCl [(am 1, .inl (tm 1, 283, .inl (upd (fun _ => 0) 4 2))), (am 5, .inl (tm 5, 35, .inl (fun _ => 0))), (am 18, .inr (11, [.int 0, .ref u_1, .int u_2, .int u_3, .int u_4, .int u_5, .ref (am 1), .ref u_7, .ref u_8, .ref u_9, .ref u_10, .int u_11, .int u_12, .int u_13, .int u_14, .int u_15, .int u_16, .long u_17, .int u_18, .int u_19, .int u_20, .ref u_21, .ref (am 5), .int u_23, .int u_24, .int u_25, .int u_26, .ref u_27, .int u_28, .ref u_29, .int u_30, .int u_31, .ref u_32, .int u_33, .ref u_34, .ref u_35, .int u_36, .int u_37, .ref u_38, .int u_39, .int u_40, .int u_41, .ref u_42, .int u_43, .ref u_44, .int u_45, .int u_46, .int u_47, .int u_48, .int u_49, .ref u_50, .ref u_51, .ref u_52, .ref u_53]))] H := hP
  have hD : va_D A [(am 1, .inl (tm 1, 283, .inl (upd (fun _ => 0) 4 2))), (am 5, .inl (tm 5, 35, .inl (fun _ => 0))), (am 18, .inr (11, [.int 0, .ref u_1, .int u_2, .int u_3, .int u_4, .int u_5, .ref (am 1), .ref u_7, .ref u_8, .ref u_9, .ref u_10, .int u_11, .int u_12, .int u_13, .int u_14, .int u_15, .int u_16, .long u_17, .int u_18, .int u_19, .int u_20, .ref u_21, .ref (am 5), .int u_23, .int u_24, .int u_25, .int u_26, .ref u_27, .int u_28, .ref u_29, .int u_30, .int u_31, .ref u_32, .int u_33, .ref u_34, .ref u_35, .int u_36, .int u_37, .ref u_38, .int u_39, .int u_40, .int u_41, .ref u_42, .int u_43, .ref u_44, .int u_45, .int u_46, .int u_47, .int u_48, .int u_49, .ref u_50, .ref u_51, .ref u_52, .ref u_53]))] := hD
  have hK : va_K D vwCl [(tm 1, .int), (tm 5, .int)] s := hK
  refine W.cs (cells' := 0) (slots' := 0) rfl rfl ?_
  obtain rfl := er9
  refine W.eq (g2 := F0 m 12 ls (.int (s_X12_isIn p0 1 60) :: [])) rfl ?_
  refine lv_if_ne (tgt := 17) hx hb dX12_weeps_12 (by decide) (fun c_1 => ?_) (fun c_1 => ?_)
  · obtain ⟨n0, hn1, hn0, rfl⟩ := z_n60 (z_isIn c_1).1 (z_isIn c_1).2
    refine lv_aload_n hx hb dX12_weeps_17 rfl (lv_at hl 0 rfl) ?_
    have hc9 := (k_X12_tries l D ad am tm 0 u_1 u_2 u_3 u_4 u_5 u_7 u_8 u_9 u_10 u_11 u_12 u_13 u_14 u_15 u_16 u_17 u_18 u_19 u_20 u_21 u_23 u_24 u_25 u_26 u_27 u_28 u_29 u_30 u_31 u_32 u_33 u_34 u_35 u_36 u_37 u_38 u_39 u_40 u_41 u_42 u_43 u_44 u_45 u_46 u_47 u_48 u_49 u_50 u_51 u_52 u_53 )
    refine z_callv (w0 := [(am 1, .inl (tm 1, 283, .inl (upd (fun _ => 0) 4 2))), (am 5, .inl (tm 5, 35, .inl (fun _ => 0))), (am 18, .inr (11, [.int 0, .ref u_1, .int u_2, .int u_3, .int u_4, .int u_5, .ref (am 1), .ref u_7, .ref u_8, .ref u_9, .ref u_10, .int u_11, .int u_12, .int u_13, .int u_14, .int u_15, .int u_16, .long u_17, .int u_18, .int u_19, .int u_20, .ref u_21, .ref (am 5), .int u_23, .int u_24, .int u_25, .int u_26, .ref u_27, .int u_28, .ref u_29, .int u_30, .int u_31, .ref u_32, .int u_33, .ref u_34, .ref u_35, .int u_36, .int u_37, .ref u_38, .int u_39, .int u_40, .int u_41, .ref u_42, .int u_43, .ref u_44, .int u_45, .int u_46, .int u_47, .int u_48, .int u_49, .ref u_50, .ref u_51, .ref u_52, .ref u_53]))]) (wr := []) (va_runV (As := []) (rest := []) ⟨hx, hb, hml, hown, hts⟩ (hc9 _) (cwV 0 hts gX12_weeps_X12_tries rfl rfl rfl (by decide +kernel) ⟨Nat.le_of_ble_eq_true rfl, Nat.le_of_ble_eq_true rfl⟩) (z_preV hP hD hK hS hA hE hO [0, 1, 2] [0, 1] rfl (by decide +kernel) rfl 2 11 rfl rfl rfl) rfl rfl hl.1 rfl (lv_room (Nat.le_of_ble_eq_true rfl)) dX12_weeps_18 ⟨Nat.le_of_ble_eq_true rfl, Nat.le_of_ble_eq_true rfl⟩) hP hD hK hS hA [0, 1, 2] [] rfl rfl (by decide +kernel) (by decide +kernel) (fun u9 H locs hw hP hD hK hS => ?_)
    obtain ⟨g1_2, rfl⟩ := hw
    have hP : va_P D vwCl [(am 1, .inl (tm 1, 283, .inl (upd (fun _ => 0) 4 2))), (am 5, .inl (tm 5, 35, .inl g1_2)), (am 18, .inr (11, [.int 0, .ref u_1, .int u_2, .int u_3, .int u_4, .int u_5, .ref (am 1), .ref u_7, .ref u_8, .ref u_9, .ref u_10, .int u_11, .int u_12, .int u_13, .int u_14, .int u_15, .int u_16, .long u_17, .int u_18, .int u_19, .int u_20, .ref u_21, .ref (am 5), .int u_23, .int u_24, .int u_25, .int u_26, .ref u_27, .int u_28, .ref u_29, .int u_30, .int u_31, .ref u_32, .int u_33, .ref u_34, .ref u_35, .int u_36, .int u_37, .ref u_38, .int u_39, .int u_40, .int u_41, .ref u_42, .int u_43, .ref u_44, .int u_45, .int u_46, .int u_47, .int u_48, .int u_49, .ref u_50, .ref u_51, .ref u_52, .ref u_53]))] H := hP
    have hD : va_D A [(am 1, .inl (tm 1, 283, .inl (upd (fun _ => 0) 4 2))), (am 5, .inl (tm 5, 35, .inl g1_2)), (am 18, .inr (11, [.int 0, .ref u_1, .int u_2, .int u_3, .int u_4, .int u_5, .ref (am 1), .ref u_7, .ref u_8, .ref u_9, .ref u_10, .int u_11, .int u_12, .int u_13, .int u_14, .int u_15, .int u_16, .long u_17, .int u_18, .int u_19, .int u_20, .ref u_21, .ref (am 5), .int u_23, .int u_24, .int u_25, .int u_26, .ref u_27, .int u_28, .ref u_29, .int u_30, .int u_31, .ref u_32, .int u_33, .ref u_34, .ref u_35, .int u_36, .int u_37, .ref u_38, .int u_39, .int u_40, .int u_41, .ref u_42, .int u_43, .ref u_44, .int u_45, .int u_46, .int u_47, .int u_48, .int u_49, .ref u_50, .ref u_51, .ref u_52, .ref u_53]))] := hD
    have hK : va_K D vwCl [(tm 1, .int), (tm 5, .int)] s := hK
    refine W.cs (cells' := 0) (slots' := 0) rfl rfl ?_
    refine lv_aload_n hx hb dX12_weeps_21 rfl (lv_at hl 0 rfl) ?_
    have hc9 := (k_X12_weptByAll l D ad am tm (upd (fun _ => 0) 4 2) 0 u_1 u_2 u_3 u_4 u_5 u_7 u_8 u_9 u_10 u_11 u_12 u_13 u_14 u_15 u_16 u_17 u_18 u_19 u_20 u_21 (am 5) u_23 u_24 u_25 u_26 u_27 u_28 u_29 u_30 u_31 u_32 u_33 u_34 u_35 u_36 u_37 u_38 u_39 u_40 u_41 u_42 u_43 u_44 u_45 u_46 u_47 u_48 u_49 u_50 u_51 u_52 u_53 (rfl))
    refine z_calli (w0 := [(am 1, .inl (tm 1, 283, .inl (upd (fun _ => 0) 4 2))), (am 18, .inr (11, [.int 0, .ref u_1, .int u_2, .int u_3, .int u_4, .int u_5, .ref (am 1), .ref u_7, .ref u_8, .ref u_9, .ref u_10, .int u_11, .int u_12, .int u_13, .int u_14, .int u_15, .int u_16, .long u_17, .int u_18, .int u_19, .int u_20, .ref u_21, .ref (am 5), .int u_23, .int u_24, .int u_25, .int u_26, .ref u_27, .int u_28, .ref u_29, .int u_30, .int u_31, .ref u_32, .int u_33, .ref u_34, .ref u_35, .int u_36, .int u_37, .ref u_38, .int u_39, .int u_40, .int u_41, .ref u_42, .int u_43, .ref u_44, .int u_45, .int u_46, .int u_47, .int u_48, .int u_49, .ref u_50, .ref u_51, .ref u_52, .ref u_53]))]) (wr := [(am 5, .inl (tm 5, 35, .inl g1_2))]) (va_runV (As := []) (rest := []) ⟨hx, hb, hml, hown, hts⟩ (hc9 _) (cwV 0 hts gX12_weeps_X12_weptByAll rfl rfl rfl (by decide +kernel) ⟨Nat.le_of_ble_eq_true rfl, Nat.le_of_ble_eq_true rfl⟩) (z_preV hP hD hK hS hA hE hO [0, 2] [0] rfl (by decide +kernel) rfl 2 11 rfl rfl rfl) rfl rfl hl.1 rfl (lv_room (Nat.le_of_ble_eq_true rfl)) dX12_weeps_22 ⟨Nat.le_of_ble_eq_true rfl, Nat.le_of_ble_eq_true rfl⟩) hP hD hK hS hA [0, 2] [1] rfl rfl (by decide +kernel) (by decide +kernel) (fun r9 u9 H locs hw hP hD hK hS => ?_)
    obtain ⟨er9, rfl⟩ := hw
    have hP : va_P D vwCl [(am 5, .inl (tm 5, 35, .inl g1_2)), (am 1, .inl (tm 1, 283, .inl (upd (fun _ => 0) 4 2))), (am 18, .inr (11, [.int 0, .ref u_1, .int u_2, .int u_3, .int u_4, .int u_5, .ref (am 1), .ref u_7, .ref u_8, .ref u_9, .ref u_10, .int u_11, .int u_12, .int u_13, .int u_14, .int u_15, .int u_16, .long u_17, .int u_18, .int u_19, .int u_20, .ref u_21, .ref (am 5), .int u_23, .int u_24, .int u_25, .int u_26, .ref u_27, .int u_28, .ref u_29, .int u_30, .int u_31, .ref u_32, .int u_33, .ref u_34, .ref u_35, .int u_36, .int u_37, .ref u_38, .int u_39, .int u_40, .int u_41, .ref u_42, .int u_43, .ref u_44, .int u_45, .int u_46, .int u_47, .int u_48, .int u_49, .ref u_50, .ref u_51, .ref u_52, .ref u_53]))] H := hP
    have hD : va_D A [(am 5, .inl (tm 5, 35, .inl g1_2)), (am 1, .inl (tm 1, 283, .inl (upd (fun _ => 0) 4 2))), (am 18, .inr (11, [.int 0, .ref u_1, .int u_2, .int u_3, .int u_4, .int u_5, .ref (am 1), .ref u_7, .ref u_8, .ref u_9, .ref u_10, .int u_11, .int u_12, .int u_13, .int u_14, .int u_15, .int u_16, .long u_17, .int u_18, .int u_19, .int u_20, .ref u_21, .ref (am 5), .int u_23, .int u_24, .int u_25, .int u_26, .ref u_27, .int u_28, .ref u_29, .int u_30, .int u_31, .ref u_32, .int u_33, .ref u_34, .ref u_35, .int u_36, .int u_37, .ref u_38, .int u_39, .int u_40, .int u_41, .ref u_42, .int u_43, .ref u_44, .int u_45, .int u_46, .int u_47, .int u_48, .int u_49, .ref u_50, .ref u_51, .ref u_52, .ref u_53]))] := hD
    have hK : va_K D vwCl [(tm 1, .int), (tm 5, .int)] s := hK
    refine W.cs (cells' := 0) (slots' := 0) rfl rfl ?_
    obtain rfl := er9
    refine W.eq (g2 := F0 m 25 ls (.int 0 :: [])) rfl ?_
    refine lv_istore_n (lv' := [(2, .int 0), (0, .ref (am 18)), (1, .int (nI n0))]) hx hb dX12_weeps_25 rfl hl (by decide) rfl (fun ls hl => ?_)
    refine lv_aload_n hx hb dX12_weeps_26 rfl (lv_at hl 1 rfl) ?_
    refine lv_iload_n hx hb dX12_weeps_27 rfl (lv_at hl 2 rfl) ?_
    have hc9 := (k_X12_goesOn l D ad am tm (upd (fun _ => 0) 4 2) n0 0 u_1 u_2 u_3 u_4 u_5 u_7 u_8 u_9 u_10 u_11 u_12 u_13 u_14 u_15 u_16 u_17 u_18 u_19 u_20 u_21 (am 5) u_23 u_24 u_25 u_26 u_27 u_28 u_29 u_30 u_31 u_32 u_33 u_34 u_35 u_36 u_37 u_38 u_39 u_40 u_41 u_42 u_43 u_44 u_45 u_46 u_47 u_48 u_49 u_50 u_51 u_52 u_53 (by omega) (rfl) (rfl) (rfl))
    refine z_calli (w0 := [(am 1, .inl (tm 1, 283, .inl (upd (fun _ => 0) 4 2))), (am 18, .inr (11, [.int 0, .ref u_1, .int u_2, .int u_3, .int u_4, .int u_5, .ref (am 1), .ref u_7, .ref u_8, .ref u_9, .ref u_10, .int u_11, .int u_12, .int u_13, .int u_14, .int u_15, .int u_16, .long u_17, .int u_18, .int u_19, .int u_20, .ref u_21, .ref (am 5), .int u_23, .int u_24, .int u_25, .int u_26, .ref u_27, .int u_28, .ref u_29, .int u_30, .int u_31, .ref u_32, .int u_33, .ref u_34, .ref u_35, .int u_36, .int u_37, .ref u_38, .int u_39, .int u_40, .int u_41, .ref u_42, .int u_43, .ref u_44, .int u_45, .int u_46, .int u_47, .int u_48, .int u_49, .ref u_50, .ref u_51, .ref u_52, .ref u_53]))]) (wr := [(am 5, .inl (tm 5, 35, .inl g1_2))]) (va_runV (As := [.int (nI n0)]) (rest := []) ⟨hx, hb, hml, hown, hts⟩ (hc9 _) (cwV 1 hts gX12_weeps_X12_goesOn rfl rfl rfl (by decide +kernel) ⟨Nat.le_of_ble_eq_true rfl, Nat.le_of_ble_eq_true rfl⟩) (z_preV hP hD hK hS hA hE hO [1, 2] [0] rfl (by decide +kernel) rfl 2 11 rfl rfl rfl) rfl rfl hl.1 rfl (lv_room (Nat.le_of_ble_eq_true rfl)) dX12_weeps_28 ⟨Nat.le_of_ble_eq_true rfl, Nat.le_of_ble_eq_true rfl⟩) hP hD hK hS hA [1, 2] [0] rfl rfl (by decide +kernel) (by decide +kernel) (fun r9 u9 H locs hw hP hD hK hS => ?_)
    obtain ⟨g1_3, er9, h_4, rfl⟩ := hw
    have hP : va_P D vwCl [(am 5, .inl (tm 5, 35, .inl g1_2)), (am 1, .inl (tm 1, 283, .inl g1_3)), (am 18, .inr (11, [.int 0, .ref u_1, .int u_2, .int u_3, .int u_4, .int u_5, .ref (am 1), .ref u_7, .ref u_8, .ref u_9, .ref u_10, .int u_11, .int u_12, .int u_13, .int u_14, .int u_15, .int u_16, .long u_17, .int u_18, .int u_19, .int u_20, .ref u_21, .ref (am 5), .int u_23, .int u_24, .int u_25, .int u_26, .ref u_27, .int u_28, .ref u_29, .int u_30, .int u_31, .ref u_32, .int u_33, .ref u_34, .ref u_35, .int u_36, .int u_37, .ref u_38, .int u_39, .int u_40, .int u_41, .ref u_42, .int u_43, .ref u_44, .int u_45, .int u_46, .int u_47, .int u_48, .int u_49, .ref u_50, .ref u_51, .ref u_52, .ref u_53]))] H := hP
    have hD : va_D A [(am 5, .inl (tm 5, 35, .inl g1_2)), (am 1, .inl (tm 1, 283, .inl g1_3)), (am 18, .inr (11, [.int 0, .ref u_1, .int u_2, .int u_3, .int u_4, .int u_5, .ref (am 1), .ref u_7, .ref u_8, .ref u_9, .ref u_10, .int u_11, .int u_12, .int u_13, .int u_14, .int u_15, .int u_16, .long u_17, .int u_18, .int u_19, .int u_20, .ref u_21, .ref (am 5), .int u_23, .int u_24, .int u_25, .int u_26, .ref u_27, .int u_28, .ref u_29, .int u_30, .int u_31, .ref u_32, .int u_33, .ref u_34, .ref u_35, .int u_36, .int u_37, .ref u_38, .int u_39, .int u_40, .int u_41, .ref u_42, .int u_43, .ref u_44, .int u_45, .int u_46, .int u_47, .int u_48, .int u_49, .ref u_50, .ref u_51, .ref u_52, .ref u_53]))] := hD
    have hK : va_K D vwCl [(tm 1, .int), (tm 5, .int)] s := hK
    refine W.cs (cells' := 0) (slots' := 0) rfl rfl ?_
    obtain rfl := er9
    refine W.eq (g2 := F0 m 31 ls (.int (nI n0) :: [])) rfl ?_
    refine lv_pop hx hb dX12_weeps_31 rfl ?_
    refine lv_aload_n hx hb dX12_weeps_32 rfl (lv_at hl 1 rfl) ?_
    have hc9 := (k_X12_weptByAll l D ad am tm g1_3 0 u_1 u_2 u_3 u_4 u_5 u_7 u_8 u_9 u_10 u_11 u_12 u_13 u_14 u_15 u_16 u_17 u_18 u_19 u_20 u_21 (am 5) u_23 u_24 u_25 u_26 u_27 u_28 u_29 u_30 u_31 u_32 u_33 u_34 u_35 u_36 u_37 u_38 u_39 u_40 u_41 u_42 u_43 u_44 u_45 u_46 u_47 u_48 u_49 u_50 u_51 u_52 u_53 (h_4))
    refine z_calli (w0 := [(am 1, .inl (tm 1, 283, .inl g1_3)), (am 18, .inr (11, [.int 0, .ref u_1, .int u_2, .int u_3, .int u_4, .int u_5, .ref (am 1), .ref u_7, .ref u_8, .ref u_9, .ref u_10, .int u_11, .int u_12, .int u_13, .int u_14, .int u_15, .int u_16, .long u_17, .int u_18, .int u_19, .int u_20, .ref u_21, .ref (am 5), .int u_23, .int u_24, .int u_25, .int u_26, .ref u_27, .int u_28, .ref u_29, .int u_30, .int u_31, .ref u_32, .int u_33, .ref u_34, .ref u_35, .int u_36, .int u_37, .ref u_38, .int u_39, .int u_40, .int u_41, .ref u_42, .int u_43, .ref u_44, .int u_45, .int u_46, .int u_47, .int u_48, .int u_49, .ref u_50, .ref u_51, .ref u_52, .ref u_53]))]) (wr := [(am 5, .inl (tm 5, 35, .inl g1_2))]) (va_runV (As := []) (rest := []) ⟨hx, hb, hml, hown, hts⟩ (hc9 _) (cwV 0 hts gX12_weeps_X12_weptByAll rfl rfl rfl (by decide +kernel) ⟨Nat.le_of_ble_eq_true rfl, Nat.le_of_ble_eq_true rfl⟩) (z_preV hP hD hK hS hA hE hO [1, 2] [0] rfl (by decide +kernel) rfl 2 11 rfl rfl rfl) rfl rfl hl.1 rfl (lv_room (Nat.le_of_ble_eq_true rfl)) dX12_weeps_33 ⟨Nat.le_of_ble_eq_true rfl, Nat.le_of_ble_eq_true rfl⟩) hP hD hK hS hA [1, 2] [0] rfl rfl (by decide +kernel) (by decide +kernel) (fun r9 u9 H locs hw hP hD hK hS => ?_)
    obtain ⟨er9, rfl⟩ := hw
    have hP : va_P D vwCl [(am 5, .inl (tm 5, 35, .inl g1_2)), (am 1, .inl (tm 1, 283, .inl g1_3)), (am 18, .inr (11, [.int 0, .ref u_1, .int u_2, .int u_3, .int u_4, .int u_5, .ref (am 1), .ref u_7, .ref u_8, .ref u_9, .ref u_10, .int u_11, .int u_12, .int u_13, .int u_14, .int u_15, .int u_16, .long u_17, .int u_18, .int u_19, .int u_20, .ref u_21, .ref (am 5), .int u_23, .int u_24, .int u_25, .int u_26, .ref u_27, .int u_28, .ref u_29, .int u_30, .int u_31, .ref u_32, .int u_33, .ref u_34, .ref u_35, .int u_36, .int u_37, .ref u_38, .int u_39, .int u_40, .int u_41, .ref u_42, .int u_43, .ref u_44, .int u_45, .int u_46, .int u_47, .int u_48, .int u_49, .ref u_50, .ref u_51, .ref u_52, .ref u_53]))] H := hP
    have hD : va_D A [(am 5, .inl (tm 5, 35, .inl g1_2)), (am 1, .inl (tm 1, 283, .inl g1_3)), (am 18, .inr (11, [.int 0, .ref u_1, .int u_2, .int u_3, .int u_4, .int u_5, .ref (am 1), .ref u_7, .ref u_8, .ref u_9, .ref u_10, .int u_11, .int u_12, .int u_13, .int u_14, .int u_15, .int u_16, .long u_17, .int u_18, .int u_19, .int u_20, .ref u_21, .ref (am 5), .int u_23, .int u_24, .int u_25, .int u_26, .ref u_27, .int u_28, .ref u_29, .int u_30, .int u_31, .ref u_32, .int u_33, .ref u_34, .ref u_35, .int u_36, .int u_37, .ref u_38, .int u_39, .int u_40, .int u_41, .ref u_42, .int u_43, .ref u_44, .int u_45, .int u_46, .int u_47, .int u_48, .int u_49, .ref u_50, .ref u_51, .ref u_52, .ref u_53]))] := hD
    have hK : va_K D vwCl [(tm 1, .int), (tm 5, .int)] s := hK
    refine W.cs (cells' := 0) (slots' := 0) rfl rfl ?_
    obtain rfl := er9
    refine W.eq (g2 := F0 m 36 ls (.int 0 :: [])) rfl ?_
    refine lv_iload_n hx hb dX12_weeps_36 rfl (lv_at hl 0 rfl) ?_
    refine lv_isub hx hb dX12_weeps_37 ?_
    refine lv_topi (fun y_5 ey_5 => ?_)
    obtain rfl : y_5 = 0 := ey_5.trans (by decide)
    refine lv_istore_n (lv' := [(3, .int 0), (2, .int 0), (0, .ref (am 18)), (1, .int (nI n0))]) hx hb dX12_weeps_38 rfl hl (by decide) rfl (fun ls hl => ?_)
    refine lv_aload_n hx hb dX12_weeps_39 rfl (lv_at hl 2 rfl) ?_
    have hc9 := (k_X12_back l D ad am tm g1_3 g1_2 0 u_1 u_2 u_3 u_4 u_5 u_7 u_8 u_9 u_10 u_11 u_12 u_13 u_14 u_15 u_16 u_17 u_18 u_19 u_20 u_21 u_23 u_24 u_25 u_26 u_27 u_28 u_29 u_30 u_31 u_32 u_33 u_34 u_35 u_36 u_37 u_38 u_39 u_40 u_41 u_42 u_43 u_44 u_45 u_46 u_47 u_48 u_49 u_50 u_51 u_52 u_53 )
    refine z_callv (w0 := [(am 1, .inl (tm 1, 283, .inl g1_3)), (am 5, .inl (tm 5, 35, .inl g1_2)), (am 18, .inr (11, [.int 0, .ref u_1, .int u_2, .int u_3, .int u_4, .int u_5, .ref (am 1), .ref u_7, .ref u_8, .ref u_9, .ref u_10, .int u_11, .int u_12, .int u_13, .int u_14, .int u_15, .int u_16, .long u_17, .int u_18, .int u_19, .int u_20, .ref u_21, .ref (am 5), .int u_23, .int u_24, .int u_25, .int u_26, .ref u_27, .int u_28, .ref u_29, .int u_30, .int u_31, .ref u_32, .int u_33, .ref u_34, .ref u_35, .int u_36, .int u_37, .ref u_38, .int u_39, .int u_40, .int u_41, .ref u_42, .int u_43, .ref u_44, .int u_45, .int u_46, .int u_47, .int u_48, .int u_49, .ref u_50, .ref u_51, .ref u_52, .ref u_53]))]) (wr := []) (va_runV (As := []) (rest := []) ⟨hx, hb, hml, hown, hts⟩ (hc9 _) (cwV 0 hts gX12_weeps_X12_back rfl rfl rfl (by decide +kernel) ⟨Nat.le_of_ble_eq_true rfl, Nat.le_of_ble_eq_true rfl⟩) (z_preV hP hD hK hS hA hE hO [1, 0, 2] [0, 1] rfl (by decide +kernel) rfl 2 11 rfl rfl rfl) rfl rfl hl.1 rfl (lv_room (Nat.le_of_ble_eq_true rfl)) dX12_weeps_40 ⟨Nat.le_of_ble_eq_true rfl, Nat.le_of_ble_eq_true rfl⟩) hP hD hK hS hA [1, 0, 2] [] rfl rfl (by decide +kernel) (by decide +kernel) (fun u9 H locs hw hP hD hK hS => ?_)
    obtain ⟨g1_6, rfl⟩ := hw
    have hP : va_P D vwCl [(am 1, .inl (tm 1, 283, .inl g1_6)), (am 5, .inl (tm 5, 35, .inl g1_2)), (am 18, .inr (11, [.int 0, .ref u_1, .int u_2, .int u_3, .int u_4, .int u_5, .ref (am 1), .ref u_7, .ref u_8, .ref u_9, .ref u_10, .int u_11, .int u_12, .int u_13, .int u_14, .int u_15, .int u_16, .long u_17, .int u_18, .int u_19, .int u_20, .ref u_21, .ref (am 5), .int u_23, .int u_24, .int u_25, .int u_26, .ref u_27, .int u_28, .ref u_29, .int u_30, .int u_31, .ref u_32, .int u_33, .ref u_34, .ref u_35, .int u_36, .int u_37, .ref u_38, .int u_39, .int u_40, .int u_41, .ref u_42, .int u_43, .ref u_44, .int u_45, .int u_46, .int u_47, .int u_48, .int u_49, .ref u_50, .ref u_51, .ref u_52, .ref u_53]))] H := hP
    have hD : va_D A [(am 1, .inl (tm 1, 283, .inl g1_6)), (am 5, .inl (tm 5, 35, .inl g1_2)), (am 18, .inr (11, [.int 0, .ref u_1, .int u_2, .int u_3, .int u_4, .int u_5, .ref (am 1), .ref u_7, .ref u_8, .ref u_9, .ref u_10, .int u_11, .int u_12, .int u_13, .int u_14, .int u_15, .int u_16, .long u_17, .int u_18, .int u_19, .int u_20, .ref u_21, .ref (am 5), .int u_23, .int u_24, .int u_25, .int u_26, .ref u_27, .int u_28, .ref u_29, .int u_30, .int u_31, .ref u_32, .int u_33, .ref u_34, .ref u_35, .int u_36, .int u_37, .ref u_38, .int u_39, .int u_40, .int u_41, .ref u_42, .int u_43, .ref u_44, .int u_45, .int u_46, .int u_47, .int u_48, .int u_49, .ref u_50, .ref u_51, .ref u_52, .ref u_53]))] := hD
    have hK : va_K D vwCl [(tm 1, .int), (tm 5, .int)] s := hK
    refine W.cs (cells' := 0) (slots' := 0) rfl rfl ?_
    refine lv_iload_n hx hb dX12_weeps_43 rfl (lv_at hl 0 rfl) ?_
    refine W.widen (k := 0) (n := 0) (by decide) (by decide) ?_
    exact hret 0 ([], []) _ _ _ _ dX12_weeps_44 rfl ⟨by unfold s_X12_weeps; rw [if_neg c_1], rfl⟩ (hP.sub [] rfl) (hK.sub [] rfl) (hD.sub [] (by decide +kernel) rfl) hS
  · refine lv_iconst (v := (-1)) hx hb dX12_weeps_15 (by decide) ?_
    refine W.widen (k := 0) (n := 0) (by decide) (by decide) ?_
    exact hret (-1) ([], []) _ _ _ _ dX12_weeps_16 rfl ⟨by unfold s_X12_weeps; rw [if_pos c_1], rfl⟩ (hP.sub [] rfl) (hK.sub [] rfl) (hD.sub [] (by decide +kernel) rfl) hS

set_option maxHeartbeats 8000000 in
set_option maxRecDepth 100000 in
theorem k_X12_restore (l : Launch) (D : va_G) (ad : Nat → Nat) (am : Nat → Nat) (tm : Nat → ClassId) (p0 : Int32) (u_1 : Nat) (u_2 : Int32) (u_3 : Int32) (u_4 : Int32) (u_5 : Int32) (u_6 : Nat) (u_7 : Nat) (u_8 : Nat) (u_9 : Nat) (u_10 : Nat) (u_11 : Int32) (u_12 : Int32) (u_13 : Int32) (u_14 : Int32) (u_15 : Int32) (u_16 : Int32) (u_17 : Int64) (u_18 : Int32) (u_19 : Int32) (u_20 : Int32) (u_21 : Nat) (u_22 : Nat) (u_23 : Int32) (u_24 : Int32) (u_25 : Int32) (u_26 : Int32) (u_27 : Nat) (u_28 : Int32) (u_29 : Nat) (u_30 : Int32) (u_31 : Int32) (u_32 : Nat) (u_33 : Int32) (u_34 : Nat) (u_35 : Nat) (u_36 : Int32) (u_37 : Int32) (u_38 : Nat) (u_39 : Int32) (u_40 : Int32) (u_41 : Int32) (u_42 : Nat) (u_43 : Int32) (u_44 : Nat) (u_45 : Int32) (u_46 : Int32) (u_47 : Int32) (u_48 : Int32) (u_49 : Int32) (u_50 : Nat) (u_51 : Nat) (u_52 : Nat)  : z_Mi l yX12_restore wsX12_restore { frames := 1, cells := 0, slots := 0, locals := 22 } D ad [.ref (am 18), .int p0] [(am 17, .inl (tm 17, 2, .inl (fun _ => 0))), (am 18, .inr (11, [.int 0, .ref u_1, .int u_2, .int u_3, .int u_4, .int u_5, .ref u_6, .ref u_7, .ref u_8, .ref u_9, .ref u_10, .int u_11, .int u_12, .int u_13, .int u_14, .int u_15, .int u_16, .long u_17, .int u_18, .int u_19, .int u_20, .ref u_21, .ref u_22, .int u_23, .int u_24, .int u_25, .int u_26, .ref u_27, .int u_28, .ref u_29, .int u_30, .int u_31, .ref u_32, .int u_33, .ref u_34, .ref u_35, .int u_36, .int u_37, .ref u_38, .int u_39, .int u_40, .int u_41, .ref u_42, .int u_43, .ref u_44, .int u_45, .int u_46, .int u_47, .int u_48, .int u_49, .ref u_50, .ref u_51, .ref u_52, .ref (am 17)]))] [(tm 17, .boolean)] 0 0 (fun r9 u9 => r9 = 0 ∧ u9 = ([], [])) := by
  refine z_ofI (cc := cX12_restore) (maxL := 3) (rt := .boolean) (by decide) rfl (Nat.le_of_ble_eq_true rfl) ?_
  intro p e s m below meth c Q A ls hx hb hml hown hts hin hK hP hD hA hE hO hS hl hret
  have hown : s.vm.findClass RX12 = some m.cls := hown
  have hiX12 : ∀ w ∈ wsX120, w ∈ wsX12_restore := fun _ h9 => List.mem_cons_of_mem _ (List.mem_append_right _ h9)
  have hl : lv_has ls 3 [(0, .ref (am 18)), (1, .int p0)] := hl
  refine lv_aload_n hx hb dX12_restore_0 rfl (lv_at hl 0 rfl) ?_
  refine lv_iconst (v := 0) hx hb dX12_restore_1 (by decide) ?_
  refine va_put (D := D) (ci := 11) (v := .int 0) (ty := tyX12 0) (C := RX12) (T := TX12) (N := 54) hx hb hts hiX12 tyX12 tyX12_ok nmX12 hown hK hP hD hS 1 rfl rfl 0 (by decide) (hts _ (List.mem_of_getElem? (i := 1) rfl)) (fun _ h9 => h9) rfl (tyX12_ok 0 (by decide)) rfl rfl (Nat.le_of_ble_eq_true rfl) dX12_restore_2 (fun H locs hP hD hS => ?_)
  have hP : va_P D vwCl [(am 17, .inl (tm 17, 2, .inl (fun _ => 0))), (am 18, .inr (11, [.int 0, .ref u_1, .int u_2, .int u_3, .int u_4, .int u_5, .ref u_6, .ref u_7, .ref u_8, .ref u_9, .ref u_10, .int u_11, .int u_12, .int u_13, .int u_14, .int u_15, .int u_16, .long u_17, .int u_18, .int u_19, .int u_20, .ref u_21, .ref u_22, .int u_23, .int u_24, .int u_25, .int u_26, .ref u_27, .int u_28, .ref u_29, .int u_30, .int u_31, .ref u_32, .int u_33, .ref u_34, .ref u_35, .int u_36, .int u_37, .ref u_38, .int u_39, .int u_40, .int u_41, .ref u_42, .int u_43, .ref u_44, .int u_45, .int u_46, .int u_47, .int u_48, .int u_49, .ref u_50, .ref u_51, .ref u_52, .ref (am 17)]))] H := hP
  have hD : va_D A [(am 17, .inl (tm 17, 2, .inl (fun _ => 0))), (am 18, .inr (11, [.int 0, .ref u_1, .int u_2, .int u_3, .int u_4, .int u_5, .ref u_6, .ref u_7, .ref u_8, .ref u_9, .ref u_10, .int u_11, .int u_12, .int u_13, .int u_14, .int u_15, .int u_16, .long u_17, .int u_18, .int u_19, .int u_20, .ref u_21, .ref u_22, .int u_23, .int u_24, .int u_25, .int u_26, .ref u_27, .int u_28, .ref u_29, .int u_30, .int u_31, .ref u_32, .int u_33, .ref u_34, .ref u_35, .int u_36, .int u_37, .ref u_38, .int u_39, .int u_40, .int u_41, .ref u_42, .int u_43, .ref u_44, .int u_45, .int u_46, .int u_47, .int u_48, .int u_49, .ref u_50, .ref u_51, .ref u_52, .ref (am 17)]))] := hD
  refine lv_iload_n hx hb dX12_restore_5 rfl (lv_at hl 1 rfl) ?_
  refine lv_iconst (v := 0) hx hb dX12_restore_6 (by decide) ?_
  refine lv_iconst (v := 1) hx hb dX12_restore_7 (by decide) ?_
  have hc9 := (k_X12_isIn l D ad p0 0 1 )
  refine z_calli (w0 := []) (wr := [(am 17, .inl (tm 17, 2, .inl (fun _ => 0))), (am 18, .inr (11, [.int 0, .ref u_1, .int u_2, .int u_3, .int u_4, .int u_5, .ref u_6, .ref u_7, .ref u_8, .ref u_9, .ref u_10, .int u_11, .int u_12, .int u_13, .int u_14, .int u_15, .int u_16, .long u_17, .int u_18, .int u_19, .int u_20, .ref u_21, .ref u_22, .int u_23, .int u_24, .int u_25, .int u_26, .ref u_27, .int u_28, .ref u_29, .int u_30, .int u_31, .ref u_32, .int u_33, .ref u_34, .ref u_35, .int u_36, .int u_37, .ref u_38, .int u_39, .int u_40, .int u_41, .ref u_42, .int u_43, .ref u_44, .int u_45, .int u_46, .int u_47, .int u_48, .int u_49, .ref u_50, .ref u_51, .ref u_52, .ref (am 17)]))]) (va_runS (As := [.int p0, .int 0, .int 1]) (rest := []) ⟨hx, hb, hml, hown, hts⟩ (hc9 _) (va_cwS 3 hts gX12_restore_X12_isIn rfl rfl rfl (by decide +kernel) ⟨Nat.le_of_ble_eq_true rfl, Nat.le_of_ble_eq_true rfl⟩) (z_preS hP hD hK hS hA hE hO [] [] rfl (by decide +kernel) rfl) rfl rfl hl.1 rfl (lv_room (Nat.le_of_ble_eq_true rfl)) dX12_restore_8 ⟨Nat.le_of_ble_eq_true rfl, Nat.le_of_ble_eq_true rfl⟩) hP hD hK hS hA [] [0, 1] rfl rfl (by decide +kernel) (by decide +kernel) (fun r9 u9 H locs hw hP hD hK hS => ?_)
  obtain ⟨er9, rfl⟩ := hw
  have hP : va_P D vwCl [(am 17, .inl (tm 17, 2, .inl (fun _ => 0))), (am 18, .inr (11, [.int 0, .ref u_1, .int u_2, .int u_3, .int u_4, .int u_5, .ref u_6, .ref u_7, .ref u_8, .ref u_9, .ref u_10, .int u_11, .int u_12, .int u_13, .int u_14, .int u_15, .int u_16, .long u_17, .int u_18, .int u_19, .int u_20, .ref u_21, .ref u_22, .int u_23, .int u_24, .int u_25, .int u_26, .ref u_27, .int u_28, .ref u_29, .int u_30, .int u_31, .ref u_32, .int u_33, .ref u_34, .ref u_35, .int u_36, .int u_37, .ref u_38, .int u_39, .int u_40, .int u_41, .ref u_42, .int u_43, .ref u_44, .int u_45, .int u_46, .int u_47, .int u_48, .int u_49, .ref u_50, .ref u_51, .ref u_52, .ref (am 17)]))] H := hP
  have hD : va_D A [(am 17, .inl (tm 17, 2, .inl (fun _ => 0))), (am 18, .inr (11, [.int 0, .ref u_1, .int u_2, .int u_3, .int u_4, .int u_5, .ref u_6, .ref u_7, .ref u_8, .ref u_9, .ref u_10, .int u_11, .int u_12, .int u_13, .int u_14, .int u_15, .int u_16, .long u_17, .int u_18, .int u_19, .int u_20, .ref u_21, .ref u_22, .int u_23, .int u_24, .int u_25, .int u_26, .ref u_27, .int u_28, .ref u_29, .int u_30, .int u_31, .ref u_32, .int u_33, .ref u_34, .ref u_35, .int u_36, .int u_37, .ref u_38, .int u_39, .int u_40, .int u_41, .ref u_42, .int u_43, .ref u_44, .int u_45, .int u_46, .int u_47, .int u_48, .int u_49, .ref u_50, .ref u_51, .ref u_52, .ref (am 17)]))] := hD
  have hK : va_K D vwCl [(tm 17, .boolean)] s := hK
  refine W.cs (cells' := 0) (slots' := 0) rfl rfl ?_
  obtain rfl := er9
  refine W.eq (g2 := F0 m 11 ls (.int (s_X12_isIn p0 0 1) :: [])) rfl ?_
  refine lv_if_eq (tgt := 23) hx hb dX12_restore_11 (by decide) (fun c_1 => ?_) (fun c_1 => ?_)
  · refine lv_iconst (v := 0) hx hb dX12_restore_23 (by decide) ?_
    refine W.widen (k := 0) (n := 0) (by decide) (by decide) ?_
    exact hret 0 ([], []) _ _ _ _ dX12_restore_24 (by decide) ⟨rfl, rfl⟩ (hP.sub [] rfl) (hK.sub [] rfl) (hD.sub [] (by decide +kernel) rfl) hS
  · obtain ⟨j9, hj9, rfl⟩ := z_ix 2 (by decide) (z_isIn c_1).1 (z_le (k := 1) (n := 2) rfl (by decide) (z_isIn c_1).2)
    rcases (show j9 = 0 ∨ j9 = 1 by omega) with rfl | rfl
    · refine lv_aload_n hx hb dX12_restore_14 rfl (lv_at hl 0 rfl) ?_
      refine va_get (D := D) (ci := 11) (v := .ref (am 17)) (C := RX12) (T := TX12) (N := 54) hx hb hts hiX12 hown hK hP 1 rfl rfl 53 (by decide) (hts _ (List.mem_of_getElem? (i := 2) rfl)) (fun _ h9 => h9) rfl dX12_restore_15 ?_
      refine lv_iload_n hx hb dX12_restore_18 rfl (lv_at hl 1 rfl) ?_
      refine va_zald hx hb hK hP 0 0 rfl rfl (show ¬ (_ ∨ _) by decide) dX12_restore_19 ?_
      refine W.eq (g2 := F0 m 20 ls (.int 0 :: [])) rfl ?_
      refine lv_if_ne (tgt := 25) hx hb dX12_restore_20 (by decide) (fun h9 => absurd (by decide) h9) (fun _ => ?_)
      refine lv_iconst (v := 0) hx hb dX12_restore_23 (by decide) ?_
      refine W.widen (k := 0) (n := 0) (by decide) (by decide) ?_
      exact hret 0 ([], []) _ _ _ _ dX12_restore_24 (by decide) ⟨rfl, rfl⟩ (hP.sub [] rfl) (hK.sub [] rfl) (hD.sub [] (by decide +kernel) rfl) hS
    · refine lv_aload_n hx hb dX12_restore_14 rfl (lv_at hl 0 rfl) ?_
      refine va_get (D := D) (ci := 11) (v := .ref (am 17)) (C := RX12) (T := TX12) (N := 54) hx hb hts hiX12 hown hK hP 1 rfl rfl 53 (by decide) (hts _ (List.mem_of_getElem? (i := 2) rfl)) (fun _ h9 => h9) rfl dX12_restore_15 ?_
      refine lv_iload_n hx hb dX12_restore_18 rfl (lv_at hl 1 rfl) ?_
      refine va_zald hx hb hK hP 0 0 rfl rfl (show ¬ (_ ∨ _) by decide) dX12_restore_19 ?_
      refine W.eq (g2 := F0 m 20 ls (.int 0 :: [])) rfl ?_
      refine lv_if_ne (tgt := 25) hx hb dX12_restore_20 (by decide) (fun h9 => absurd (by decide) h9) (fun _ => ?_)
      refine lv_iconst (v := 0) hx hb dX12_restore_23 (by decide) ?_
      refine W.widen (k := 0) (n := 0) (by decide) (by decide) ?_
      exact hret 0 ([], []) _ _ _ _ dX12_restore_24 (by decide) ⟨rfl, rfl⟩ (hP.sub [] rfl) (hK.sub [] rfl) (hD.sub [] (by decide +kernel) rfl) hS

set_option maxHeartbeats 8000000 in
set_option maxRecDepth 100000 in
theorem k_X12_count (l : Launch) (D : va_G) (ad : Nat → Nat) (am : Nat → Nat) (tm : Nat → ClassId) (p0 : Int32) (u_1 : Nat) (u_3 : Int32) (u_4 : Int32) (u_5 : Int32) (u_7 : Nat) (u_8 : Nat) (u_9 : Nat) (u_10 : Nat) (u_11 : Int32) (u_12 : Int32) (u_13 : Int32) (u_14 : Int32) (u_15 : Int32) (u_16 : Int32) (u_17 : Int64) (u_18 : Int32) (u_19 : Int32) (u_20 : Int32) (u_21 : Nat) (u_22 : Nat) (u_23 : Int32) (u_24 : Int32) (u_25 : Int32) (u_26 : Int32) (u_27 : Nat) (u_28 : Int32) (u_29 : Nat) (u_30 : Int32) (u_31 : Int32) (u_32 : Nat) (u_33 : Int32) (u_34 : Nat) (u_35 : Nat) (u_36 : Int32) (u_37 : Int32) (u_38 : Nat) (u_39 : Int32) (u_40 : Int32) (u_41 : Int32) (u_42 : Nat) (u_43 : Int32) (u_44 : Nat) (u_45 : Int32) (u_46 : Int32) (u_47 : Int32) (u_48 : Int32) (u_49 : Int32) (u_50 : Nat) (u_51 : Nat) (u_52 : Nat) (u_53 : Nat)  : z_Mi l yX12_count wsX12_count { frames := 1, cells := 0, slots := 0, locals := 22 } D ad [.ref (am 18), .int p0] [(am 1, .inl (tm 1, 283, .inl (upd (fun _ => 0) 4 2))), (am 18, .inr (11, [.int 0, .ref u_1, .int 0, .int u_3, .int u_4, .int u_5, .ref (am 1), .ref u_7, .ref u_8, .ref u_9, .ref u_10, .int u_11, .int u_12, .int u_13, .int u_14, .int u_15, .int u_16, .long u_17, .int u_18, .int u_19, .int u_20, .ref u_21, .ref u_22, .int u_23, .int u_24, .int u_25, .int u_26, .ref u_27, .int u_28, .ref u_29, .int u_30, .int u_31, .ref u_32, .int u_33, .ref u_34, .ref u_35, .int u_36, .int u_37, .ref u_38, .int u_39, .int u_40, .int u_41, .ref u_42, .int u_43, .ref u_44, .int u_45, .int u_46, .int u_47, .int u_48, .int u_49, .ref u_50, .ref u_51, .ref u_52, .ref u_53]))] [(tm 1, .int)] 0 0 (fun r9 u9 => r9 = s_X12_count p0 ∧ u9 = ([], [])) := by
  refine z_ofI (cc := cX12_count) (maxL := 2) (rt := .int) (by decide) rfl (Nat.le_of_ble_eq_true rfl) ?_
  intro p e s m below meth c Q A ls hx hb hml hown hts hin hK hP hD hA hE hO hS hl hret
  have hown : s.vm.findClass RX12 = some m.cls := hown
  have hiX12 : ∀ w ∈ wsX120, w ∈ wsX12_count := fun _ h9 => List.mem_cons_of_mem _ (List.mem_append_right _ h9)
  have hl : lv_has ls 2 [(0, .ref (am 18)), (1, .int p0)] := hl
  refine lv_aload_n hx hb dX12_count_0 rfl (lv_at hl 0 rfl) ?_
  refine lv_iconst (v := 0) hx hb dX12_count_1 (by decide) ?_
  refine va_put (D := D) (ci := 11) (v := .int 0) (ty := tyX12 0) (C := RX12) (T := TX12) (N := 54) hx hb hts hiX12 tyX12 tyX12_ok nmX12 hown hK hP hD hS 1 rfl rfl 0 (by decide) (hts _ (List.mem_of_getElem? (i := 1) rfl)) (fun _ h9 => h9) rfl (tyX12_ok 0 (by decide)) rfl rfl (Nat.le_of_ble_eq_true rfl) dX12_count_2 (fun H locs hP hD hS => ?_)
  have hP : va_P D vwCl [(am 1, .inl (tm 1, 283, .inl (upd (fun _ => 0) 4 2))), (am 18, .inr (11, [.int 0, .ref u_1, .int 0, .int u_3, .int u_4, .int u_5, .ref (am 1), .ref u_7, .ref u_8, .ref u_9, .ref u_10, .int u_11, .int u_12, .int u_13, .int u_14, .int u_15, .int u_16, .long u_17, .int u_18, .int u_19, .int u_20, .ref u_21, .ref u_22, .int u_23, .int u_24, .int u_25, .int u_26, .ref u_27, .int u_28, .ref u_29, .int u_30, .int u_31, .ref u_32, .int u_33, .ref u_34, .ref u_35, .int u_36, .int u_37, .ref u_38, .int u_39, .int u_40, .int u_41, .ref u_42, .int u_43, .ref u_44, .int u_45, .int u_46, .int u_47, .int u_48, .int u_49, .ref u_50, .ref u_51, .ref u_52, .ref u_53]))] H := hP
  have hD : va_D A [(am 1, .inl (tm 1, 283, .inl (upd (fun _ => 0) 4 2))), (am 18, .inr (11, [.int 0, .ref u_1, .int 0, .int u_3, .int u_4, .int u_5, .ref (am 1), .ref u_7, .ref u_8, .ref u_9, .ref u_10, .int u_11, .int u_12, .int u_13, .int u_14, .int u_15, .int u_16, .long u_17, .int u_18, .int u_19, .int u_20, .ref u_21, .ref u_22, .int u_23, .int u_24, .int u_25, .int u_26, .ref u_27, .int u_28, .ref u_29, .int u_30, .int u_31, .ref u_32, .int u_33, .ref u_34, .ref u_35, .int u_36, .int u_37, .ref u_38, .int u_39, .int u_40, .int u_41, .ref u_42, .int u_43, .ref u_44, .int u_45, .int u_46, .int u_47, .int u_48, .int u_49, .ref u_50, .ref u_51, .ref u_52, .ref u_53]))] := hD
  refine lv_iload_n hx hb dX12_count_5 rfl (lv_at hl 1 rfl) ?_
  refine lv_iconst (v := 5) hx hb dX12_count_6 (by decide) ?_
  refine lv_icmp_ne (tgt := 17) hx hb dX12_count_7 (by decide) (fun c_1 => ?_) (fun c_1 => ?_)
  · refine lv_iload_n hx hb dX12_count_17 rfl (lv_at hl 1 rfl) ?_
    refine lv_iconst (v := 0) hx hb dX12_count_18 (by decide) ?_
    refine lv_iconst (v := 4) hx hb dX12_count_19 (by decide) ?_
    have hc9 := (k_X12_isIn l D ad p0 0 4 )
    refine z_calli (w0 := []) (wr := [(am 1, .inl (tm 1, 283, .inl (upd (fun _ => 0) 4 2))), (am 18, .inr (11, [.int 0, .ref u_1, .int 0, .int u_3, .int u_4, .int u_5, .ref (am 1), .ref u_7, .ref u_8, .ref u_9, .ref u_10, .int u_11, .int u_12, .int u_13, .int u_14, .int u_15, .int u_16, .long u_17, .int u_18, .int u_19, .int u_20, .ref u_21, .ref u_22, .int u_23, .int u_24, .int u_25, .int u_26, .ref u_27, .int u_28, .ref u_29, .int u_30, .int u_31, .ref u_32, .int u_33, .ref u_34, .ref u_35, .int u_36, .int u_37, .ref u_38, .int u_39, .int u_40, .int u_41, .ref u_42, .int u_43, .ref u_44, .int u_45, .int u_46, .int u_47, .int u_48, .int u_49, .ref u_50, .ref u_51, .ref u_52, .ref u_53]))]) (va_runS (As := [.int p0, .int 0, .int 4]) (rest := []) ⟨hx, hb, hml, hown, hts⟩ (hc9 _) (va_cwS 3 hts gX12_count_X12_isIn rfl rfl rfl (by decide +kernel) ⟨Nat.le_of_ble_eq_true rfl, Nat.le_of_ble_eq_true rfl⟩) (z_preS hP hD hK hS hA hE hO [] [] rfl (by decide +kernel) rfl) rfl rfl hl.1 rfl (lv_room (Nat.le_of_ble_eq_true rfl)) dX12_count_20 ⟨Nat.le_of_ble_eq_true rfl, Nat.le_of_ble_eq_true rfl⟩) hP hD hK hS hA [] [0, 1] rfl rfl (by decide +kernel) (by decide +kernel) (fun r9 u9 H locs hw hP hD hK hS => ?_)
    obtain ⟨er9, rfl⟩ := hw
    have hP : va_P D vwCl [(am 1, .inl (tm 1, 283, .inl (upd (fun _ => 0) 4 2))), (am 18, .inr (11, [.int 0, .ref u_1, .int 0, .int u_3, .int u_4, .int u_5, .ref (am 1), .ref u_7, .ref u_8, .ref u_9, .ref u_10, .int u_11, .int u_12, .int u_13, .int u_14, .int u_15, .int u_16, .long u_17, .int u_18, .int u_19, .int u_20, .ref u_21, .ref u_22, .int u_23, .int u_24, .int u_25, .int u_26, .ref u_27, .int u_28, .ref u_29, .int u_30, .int u_31, .ref u_32, .int u_33, .ref u_34, .ref u_35, .int u_36, .int u_37, .ref u_38, .int u_39, .int u_40, .int u_41, .ref u_42, .int u_43, .ref u_44, .int u_45, .int u_46, .int u_47, .int u_48, .int u_49, .ref u_50, .ref u_51, .ref u_52, .ref u_53]))] H := hP
    have hD : va_D A [(am 1, .inl (tm 1, 283, .inl (upd (fun _ => 0) 4 2))), (am 18, .inr (11, [.int 0, .ref u_1, .int 0, .int u_3, .int u_4, .int u_5, .ref (am 1), .ref u_7, .ref u_8, .ref u_9, .ref u_10, .int u_11, .int u_12, .int u_13, .int u_14, .int u_15, .int u_16, .long u_17, .int u_18, .int u_19, .int u_20, .ref u_21, .ref u_22, .int u_23, .int u_24, .int u_25, .int u_26, .ref u_27, .int u_28, .ref u_29, .int u_30, .int u_31, .ref u_32, .int u_33, .ref u_34, .ref u_35, .int u_36, .int u_37, .ref u_38, .int u_39, .int u_40, .int u_41, .ref u_42, .int u_43, .ref u_44, .int u_45, .int u_46, .int u_47, .int u_48, .int u_49, .ref u_50, .ref u_51, .ref u_52, .ref u_53]))] := hD
    have hK : va_K D vwCl [(tm 1, .int)] s := hK
    refine W.cs (cells' := 0) (slots' := 0) rfl rfl ?_
    obtain rfl := er9
    refine W.eq (g2 := F0 m 23 ls (.int (s_X12_isIn p0 0 4) :: [])) rfl ?_
    refine lv_if_eq (tgt := 35) hx hb dX12_count_23 (by decide) (fun c_2 => ?_) (fun c_2 => ?_)
    · refine lv_iconst (v := (-1)) hx hb dX12_count_35 (by decide) ?_
      refine W.widen (k := 0) (n := 0) (by decide) (by decide) ?_
      exact hret (-1) ([], []) _ _ _ _ dX12_count_36 rfl ⟨by unfold s_X12_count; rw [if_neg c_1, if_pos c_2], rfl⟩ (hP.sub [] rfl) (hK.sub [] rfl) (hD.sub [] (by decide +kernel) rfl) hS
    · by_cases c_3 : p0 = 0
      · subst c_3
        refine lv_aload_n hx hb dX12_count_26 rfl (lv_at hl 0 rfl) ?_
        refine va_get (D := D) (ci := 11) (v := .ref (am 1)) (C := RX12) (T := TX12) (N := 54) hx hb hts hiX12 hown hK hP 1 rfl rfl 6 (by decide) (hts _ (List.mem_of_getElem? (i := 3) rfl)) (fun _ h9 => h9) rfl dX12_count_27 ?_
        refine lv_iload_n hx hb dX12_count_30 rfl (lv_at hl 1 rfl) ?_
        refine va_iald hx hb hK hP 0 0 rfl rfl (show ¬ (_ ∨ _) by decide) dX12_count_31 ?_
        refine W.eq (g2 := F0 m 32 ls (.int 0 :: [])) rfl ?_
        refine lv_goto (tgt := 36) hx hb dX12_count_32 (by decide) ?_
        refine W.widen (k := 0) (n := 0) (by decide) (by decide) ?_
        exact hret 0 ([], []) _ _ _ _ dX12_count_36 rfl ⟨by unfold s_X12_count; rw [if_neg c_1, if_neg c_2, if_pos rfl], rfl⟩ (hP.sub [] rfl) (hK.sub [] rfl) (hD.sub [] (by decide +kernel) rfl) hS
      · skip
        by_cases c_4 : p0 = 1
        · subst c_4
          refine lv_aload_n hx hb dX12_count_26 rfl (lv_at hl 0 rfl) ?_
          refine va_get (D := D) (ci := 11) (v := .ref (am 1)) (C := RX12) (T := TX12) (N := 54) hx hb hts hiX12 hown hK hP 1 rfl rfl 6 (by decide) (hts _ (List.mem_of_getElem? (i := 3) rfl)) (fun _ h9 => h9) rfl dX12_count_27 ?_
          refine lv_iload_n hx hb dX12_count_30 rfl (lv_at hl 1 rfl) ?_
          refine va_iald hx hb hK hP 0 0 rfl rfl (show ¬ (_ ∨ _) by decide) dX12_count_31 ?_
          refine W.eq (g2 := F0 m 32 ls (.int 0 :: [])) rfl ?_
          refine lv_goto (tgt := 36) hx hb dX12_count_32 (by decide) ?_
          refine W.widen (k := 0) (n := 0) (by decide) (by decide) ?_
          exact hret 0 ([], []) _ _ _ _ dX12_count_36 rfl ⟨by unfold s_X12_count; rw [if_neg c_1, if_neg c_2, if_neg c_3, if_pos rfl], rfl⟩ (hP.sub [] rfl) (hK.sub [] rfl) (hD.sub [] (by decide +kernel) rfl) hS
        · skip
          by_cases c_5 : p0 = 2
          · subst c_5
            refine lv_aload_n hx hb dX12_count_26 rfl (lv_at hl 0 rfl) ?_
            refine va_get (D := D) (ci := 11) (v := .ref (am 1)) (C := RX12) (T := TX12) (N := 54) hx hb hts hiX12 hown hK hP 1 rfl rfl 6 (by decide) (hts _ (List.mem_of_getElem? (i := 3) rfl)) (fun _ h9 => h9) rfl dX12_count_27 ?_
            refine lv_iload_n hx hb dX12_count_30 rfl (lv_at hl 1 rfl) ?_
            refine va_iald hx hb hK hP 0 0 rfl rfl (show ¬ (_ ∨ _) by decide) dX12_count_31 ?_
            refine W.eq (g2 := F0 m 32 ls (.int 0 :: [])) rfl ?_
            refine lv_goto (tgt := 36) hx hb dX12_count_32 (by decide) ?_
            refine W.widen (k := 0) (n := 0) (by decide) (by decide) ?_
            exact hret 0 ([], []) _ _ _ _ dX12_count_36 rfl ⟨by unfold s_X12_count; rw [if_neg c_1, if_neg c_2, if_neg c_3, if_neg c_4, if_pos rfl], rfl⟩ (hP.sub [] rfl) (hK.sub [] rfl) (hD.sub [] (by decide +kernel) rfl) hS
          · skip
            by_cases c_6 : p0 = 3
            · subst c_6
              refine lv_aload_n hx hb dX12_count_26 rfl (lv_at hl 0 rfl) ?_
              refine va_get (D := D) (ci := 11) (v := .ref (am 1)) (C := RX12) (T := TX12) (N := 54) hx hb hts hiX12 hown hK hP 1 rfl rfl 6 (by decide) (hts _ (List.mem_of_getElem? (i := 3) rfl)) (fun _ h9 => h9) rfl dX12_count_27 ?_
              refine lv_iload_n hx hb dX12_count_30 rfl (lv_at hl 1 rfl) ?_
              refine va_iald hx hb hK hP 0 0 rfl rfl (show ¬ (_ ∨ _) by decide) dX12_count_31 ?_
              refine W.eq (g2 := F0 m 32 ls (.int 0 :: [])) rfl ?_
              refine lv_goto (tgt := 36) hx hb dX12_count_32 (by decide) ?_
              refine W.widen (k := 0) (n := 0) (by decide) (by decide) ?_
              exact hret 0 ([], []) _ _ _ _ dX12_count_36 rfl ⟨by unfold s_X12_count; rw [if_neg c_1, if_neg c_2, if_neg c_3, if_neg c_4, if_neg c_5, if_pos rfl], rfl⟩ (hP.sub [] rfl) (hK.sub [] rfl) (hD.sub [] (by decide +kernel) rfl) hS
            · skip
              by_cases c_7 : p0 = 4
              · subst c_7
                refine lv_aload_n hx hb dX12_count_26 rfl (lv_at hl 0 rfl) ?_
                refine va_get (D := D) (ci := 11) (v := .ref (am 1)) (C := RX12) (T := TX12) (N := 54) hx hb hts hiX12 hown hK hP 1 rfl rfl 6 (by decide) (hts _ (List.mem_of_getElem? (i := 3) rfl)) (fun _ h9 => h9) rfl dX12_count_27 ?_
                refine lv_iload_n hx hb dX12_count_30 rfl (lv_at hl 1 rfl) ?_
                refine va_iald hx hb hK hP 0 0 rfl rfl (show ¬ (_ ∨ _) by decide) dX12_count_31 ?_
                refine W.eq (g2 := F0 m 32 ls (.int 2 :: [])) rfl ?_
                refine lv_goto (tgt := 36) hx hb dX12_count_32 (by decide) ?_
                refine W.widen (k := 0) (n := 0) (by decide) (by decide) ?_
                exact hret 2 ([], []) _ _ _ _ dX12_count_36 rfl ⟨by unfold s_X12_count; rw [if_neg c_1, if_neg c_2, if_neg c_3, if_neg c_4, if_neg c_5, if_neg c_6, if_pos rfl], rfl⟩ (hP.sub [] rfl) (hK.sub [] rfl) (hD.sub [] (by decide +kernel) rfl) hS
              · skip
                exact absurd (z_ix 5 (by decide) (z_isIn c_2).1 (z_le (k := 4) (n := 5) rfl (by decide) (z_isIn c_2).2)) (fun ⟨j9, hj9, e9⟩ => by rcases (show j9 = 0 ∨ j9 = 1 ∨ j9 = 2 ∨ j9 = 3 ∨ j9 = 4 by omega) with rfl | rfl | rfl | rfl | rfl <;> first | exact c_3 e9 | exact c_4 e9 | exact c_5 e9 | exact c_6 e9 | exact c_7 e9)
  · refine lv_aload_n hx hb dX12_count_10 rfl (lv_at hl 0 rfl) ?_
    refine va_get (D := D) (ci := 11) (v := .int 0) (C := RX12) (T := TX12) (N := 54) hx hb hts hiX12 hown hK hP 1 rfl rfl 2 (by decide) (hts _ (List.mem_of_getElem? (i := 2) rfl)) (fun _ h9 => h9) rfl dX12_count_11 ?_
    refine lv_goto (tgt := 36) hx hb dX12_count_14 (by decide) ?_
    refine W.widen (k := 0) (n := 0) (by decide) (by decide) ?_
    exact hret 0 ([], []) _ _ _ _ dX12_count_36 rfl ⟨by unfold s_X12_count; rw [if_pos c_1], rfl⟩ (hP.sub [] rfl) (hK.sub [] rfl) (hD.sub [] (by decide +kernel) rfl) hS
