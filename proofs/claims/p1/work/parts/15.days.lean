theorem dX4_fated_0 : decode cX4_fated 0 = .ok (.iconst 0, 1) := by decide +kernel
theorem dX4_fated_1 : decode cX4_fated 1 = .ok (.istore_n 2, 1) := by decide +kernel
theorem dX4_fated_2 : decode cX4_fated 2 = .ok (.iconst 0, 1) := by decide +kernel
theorem dX4_fated_3 : decode cX4_fated 3 = .ok (.istore_n 3, 1) := by decide +kernel
theorem dX4_fated_4 : decode cX4_fated 4 = .ok (.iload_n 3, 1) := by decide +kernel
theorem dX4_fated_5 : decode cX4_fated 5 = .ok (.aload_n 0, 1) := by decide +kernel
theorem dX4_fated_6 : decode cX4_fated 6 = .ok (.getfield 24, 3) := by decide +kernel
theorem dX4_fated_9 : decode cX4_fated 9 = .ok (.getfield 70, 3) := by decide +kernel
theorem dX4_fated_12 : decode cX4_fated 12 = .ok (.if_icmp .ge 21, 3) := by decide +kernel
theorem dX4_fated_33 : decode cX4_fated 33 = .ok (.iload_n 2, 1) := by decide +kernel
theorem dX4_fated_34 : decode cX4_fated 34 = .ok (.ireturn, 1) := by decide +kernel
theorem dX4_weptByAll_0 : decode cX4_weptByAll 0 = .ok (.aload_n 0, 1) := by decide +kernel
theorem dX4_weptByAll_1 : decode cX4_weptByAll 1 = .ok (.iconst 2, 1) := by decide +kernel
theorem dX4_weptByAll_2 : decode cX4_weptByAll 2 = .ok (.invokevirtual 89, 3) := by decide +kernel
theorem dX4_weptByAll_5 : decode cX4_weptByAll 5 = .ok (.ireturn, 1) := by decide +kernel
theorem dX4_sumOf_0 : decode cX4_sumOf 0 = .ok (.iconst 0, 1) := by decide +kernel
theorem dX4_sumOf_1 : decode cX4_sumOf 1 = .ok (.istore_n 2, 1) := by decide +kernel
theorem dX4_sumOf_2 : decode cX4_sumOf 2 = .ok (.iconst 0, 1) := by decide +kernel
theorem dX4_sumOf_3 : decode cX4_sumOf 3 = .ok (.istore_n 3, 1) := by decide +kernel
theorem dX4_sumOf_4 : decode cX4_sumOf 4 = .ok (.iload_n 3, 1) := by decide +kernel
theorem dX4_sumOf_5 : decode cX4_sumOf 5 = .ok (.aload_n 0, 1) := by decide +kernel
theorem dX4_sumOf_6 : decode cX4_sumOf 6 = .ok (.getfield 24, 3) := by decide +kernel
theorem dX4_sumOf_9 : decode cX4_sumOf 9 = .ok (.getfield 70, 3) := by decide +kernel
theorem dX4_sumOf_12 : decode cX4_sumOf 12 = .ok (.if_icmp .ge 30, 3) := by decide +kernel
theorem dX4_sumOf_42 : decode cX4_sumOf 42 = .ok (.iload_n 2, 1) := by decide +kernel
theorem dX4_sumOf_43 : decode cX4_sumOf 43 = .ok (.ireturn, 1) := by decide +kernel
theorem dX4_carriedOnes_0 : decode cX4_carriedOnes 0 = .ok (.iconst 0, 1) := by decide +kernel
theorem dX4_carriedOnes_1 : decode cX4_carriedOnes 1 = .ok (.istore_n 1, 1) := by decide +kernel
theorem dX4_carriedOnes_2 : decode cX4_carriedOnes 2 = .ok (.iconst 0, 1) := by decide +kernel
theorem dX4_carriedOnes_3 : decode cX4_carriedOnes 3 = .ok (.istore_n 2, 1) := by decide +kernel
theorem dX4_carriedOnes_4 : decode cX4_carriedOnes 4 = .ok (.iload_n 2, 1) := by decide +kernel
theorem dX4_carriedOnes_5 : decode cX4_carriedOnes 5 = .ok (.aload_n 0, 1) := by decide +kernel
theorem dX4_carriedOnes_6 : decode cX4_carriedOnes 6 = .ok (.getfield 24, 3) := by decide +kernel
theorem dX4_carriedOnes_9 : decode cX4_carriedOnes 9 = .ok (.getfield 52, 3) := by decide +kernel
theorem dX4_carriedOnes_12 : decode cX4_carriedOnes 12 = .ok (.getfield 44, 3) := by decide +kernel
theorem dX4_carriedOnes_15 : decode cX4_carriedOnes 15 = .ok (.if_icmp .ge 25, 3) := by decide +kernel
theorem dX4_carriedOnes_40 : decode cX4_carriedOnes 40 = .ok (.iload_n 1, 1) := by decide +kernel
theorem dX4_carriedOnes_41 : decode cX4_carriedOnes 41 = .ok (.ireturn, 1) := by decide +kernel
theorem dX4_meantOnes_0 : decode cX4_meantOnes 0 = .ok (.iconst 0, 1) := by decide +kernel
theorem dX4_meantOnes_1 : decode cX4_meantOnes 1 = .ok (.istore_n 1, 1) := by decide +kernel
theorem dX4_meantOnes_2 : decode cX4_meantOnes 2 = .ok (.iconst 0, 1) := by decide +kernel
theorem dX4_meantOnes_3 : decode cX4_meantOnes 3 = .ok (.istore_n 2, 1) := by decide +kernel
theorem dX4_meantOnes_4 : decode cX4_meantOnes 4 = .ok (.iload_n 2, 1) := by decide +kernel
theorem dX4_meantOnes_5 : decode cX4_meantOnes 5 = .ok (.aload_n 0, 1) := by decide +kernel
theorem dX4_meantOnes_6 : decode cX4_meantOnes 6 = .ok (.getfield 24, 3) := by decide +kernel
theorem dX4_meantOnes_9 : decode cX4_meantOnes 9 = .ok (.getfield 38, 3) := by decide +kernel
theorem dX4_meantOnes_12 : decode cX4_meantOnes 12 = .ok (.getfield 44, 3) := by decide +kernel
theorem dX4_meantOnes_15 : decode cX4_meantOnes 15 = .ok (.if_icmp .ge 23, 3) := by decide +kernel
theorem dX4_meantOnes_38 : decode cX4_meantOnes 38 = .ok (.iload_n 1, 1) := by decide +kernel
theorem dX4_meantOnes_39 : decode cX4_meantOnes 39 = .ok (.ireturn, 1) := by decide +kernel
theorem dX4_passDays_0 : decode cX4_passDays 0 = .ok (.iload_n 1, 1) := by decide +kernel
theorem dX4_passDays_1 : decode cX4_passDays 1 = .ok (.sipush 200, 3) := by decide +kernel
theorem dX4_passDays_4 : decode cX4_passDays 4 = .ok (.aload_n 0, 1) := by decide +kernel
theorem dX4_passDays_5 : decode cX4_passDays 5 = .ok (.getfield 28, 3) := by decide +kernel
theorem dX4_passDays_8 : decode cX4_passDays 8 = .ok (.isub, 1) := by decide +kernel
theorem dX4_passDays_9 : decode cX4_passDays 9 = .ok (.invokestatic 80, 3) := by decide +kernel
theorem dX4_passDays_12 : decode cX4_passDays 12 = .ok (.istore_n 2, 1) := by decide +kernel
theorem dX4_passDays_13 : decode cX4_passDays 13 = .ok (.iconst 0, 1) := by decide +kernel
theorem dX4_passDays_14 : decode cX4_passDays 14 = .ok (.istore_n 3, 1) := by decide +kernel
theorem dX4_passDays_15 : decode cX4_passDays 15 = .ok (.iload_n 3, 1) := by decide +kernel
theorem dX4_passDays_16 : decode cX4_passDays 16 = .ok (.iload_n 2, 1) := by decide +kernel
theorem dX4_passDays_17 : decode cX4_passDays 17 = .ok (.if_icmp .ge 13, 3) := by decide +kernel
theorem dX4_passDays_20 : decode cX4_passDays 20 = .ok (.aload_n 0, 1) := by decide +kernel
theorem dX4_passDays_21 : decode cX4_passDays 21 = .ok (.invokevirtual 133, 3) := by decide +kernel
theorem dX4_passDays_24 : decode cX4_passDays 24 = .ok (.iinc 3 1, 3) := by decide +kernel
theorem dX4_passDays_27 : decode cX4_passDays 27 = .ok (.goto (-12), 3) := by decide +kernel
theorem dX4_passDays_30 : decode cX4_passDays 30 = .ok (.iload_n 2, 1) := by decide +kernel
theorem dX4_passDays_31 : decode cX4_passDays 31 = .ok (.ireturn, 1) := by decide +kernel
theorem dX4_passDay_0 : decode cX4_passDay 0 = .ok (.iconst 0, 1) := by decide +kernel
theorem dX4_passDay_1 : decode cX4_passDay 1 = .ok (.istore_n 1, 1) := by decide +kernel
theorem dX4_passDay_2 : decode cX4_passDay 2 = .ok (.iload_n 1, 1) := by decide +kernel
theorem dX4_passDay_3 : decode cX4_passDay 3 = .ok (.aload_n 0, 1) := by decide +kernel
theorem dX4_passDay_4 : decode cX4_passDay 4 = .ok (.getfield 24, 3) := by decide +kernel
theorem dX4_passDay_7 : decode cX4_passDay 7 = .ok (.getfield 38, 3) := by decide +kernel
theorem dX4_passDay_10 : decode cX4_passDay 10 = .ok (.getfield 44, 3) := by decide +kernel
theorem dX4_passDay_13 : decode cX4_passDay 13 = .ok (.if_icmp .ge 43, 3) := by decide +kernel
theorem dX4_passDay_56 : decode cX4_passDay 56 = .ok (.aload_n 0, 1) := by decide +kernel
theorem dX4_passDay_57 : decode cX4_passDay 57 = .ok (.dup, 1) := by decide +kernel
theorem dX4_passDay_58 : decode cX4_passDay 58 = .ok (.getfield 28, 3) := by decide +kernel
theorem dX4_passDay_61 : decode cX4_passDay 61 = .ok (.iconst 1, 1) := by decide +kernel
theorem dX4_passDay_62 : decode cX4_passDay 62 = .ok (.iadd, 1) := by decide +kernel
theorem dX4_passDay_63 : decode cX4_passDay 63 = .ok (.putfield 28, 3) := by decide +kernel
theorem dX4_passDay_66 : decode cX4_passDay 66 = .ok (.return_, 1) := by decide +kernel
set_option maxRecDepth 20000 in
theorem ggX4_weptByAll_X4_sumOf : GoodIn wsX4_weptByAll wsX4_sumOf := goodIn_r _ [5, 6, 7, 8, 9, 10, 11, 4, 12, 13, 14, 15, 16, 17, 18, 19, 20, 21, 22, 23, 24, 25, 26, 27, 28, 29, 30, 31, 32, 33, 34, 35] (by decide +kernel) (by decide +kernel)
set_option maxRecDepth 20000 in
theorem gX4_weptByAll_X4_sumOf : GoodIn wsX4_weptByAll (wsV RX4 89 RX4 yX4_sumOf wsX4_sumOf) := goodIn_app (goodIn_of _ (by decide +kernel)) ggX4_weptByAll_X4_sumOf
set_option maxRecDepth 20000 in
theorem ggX4_passDays_X4_passDay : GoodIn wsX4_passDays wsX4_passDay := goodIn_r _ [10, 11, 12, 13, 14, 1, 15, 16, 17, 18, 19, 20, 21, 22, 23, 9, 24, 25, 26, 27, 28, 29, 30, 31, 32, 33, 34, 35, 4, 36, 37, 38, 39, 40, 41, 42, 43, 44, 45, 46, 47, 48, 49, 50, 51, 52, 53, 54, 55, 56, 57, 58, 59, 60, 61, 62, 63, 64, 65, 66, 67, 68, 69, 70, 71, 72, 73, 74, 75, 76, 77, 78, 79, 80, 81, 82] (by decide +kernel) (by decide +kernel)
set_option maxRecDepth 20000 in
theorem gX4_passDays_X4_passDay : GoodIn wsX4_passDays (wsV RX4 133 RX4 yX4_passDay wsX4_passDay) := goodIn_app (goodIn_of _ (by decide +kernel)) ggX4_passDays_X4_passDay
set_option maxHeartbeats 8000000 in
set_option maxRecDepth 100000 in
theorem k_X4_passDay (l : Launch) (D : va_G) (ad : Nat → Nat) (a : Nat → Nat) (k : Nat)  : z_Mv l yX4_passDay wsX4_passDay { frames := 0, cells := 0, slots := 0, locals := 0 } D ad [.ref (a 8)] [(a 7, .inr (8, [.ref (a 28), .ref (a 29), .ref (a 30), .int 0, .ref (a 31), .ref (a 32), .ref (a 33), .int 0, .ref (a 34), .ref (a 35), .ref (a 36), .int 2])), (a 8, .inr (4, [.ref (a 7), .int (nI k), .int 0, .int 0, .ref (a 37), .ref (a 38), .ref (a 39), .ref (a 40)])), (a 29, .inr (2, [.ref (a 78), .int 0]))] [] 0 0 (fun u9 => u9 = ([(a 7, .inr (8, [.ref (a 28), .ref (a 29), .ref (a 30), .int 0, .ref (a 31), .ref (a 32), .ref (a 33), .int 0, .ref (a 34), .ref (a 35), .ref (a 36), .int 2])), (a 8, .inr (4, [.ref (a 7), .int (nI (k + 1)), .int 0, .int 0, .ref (a 37), .ref (a 38), .ref (a 39), .ref (a 40)])), (a 29, .inr (2, [.ref (a 78), .int 0]))], [])) := by
  refine z_ofV (cc := cX4_passDay) (maxL := 2) (by decide) rfl (Nat.le_of_ble_eq_true rfl) ?_
  intro p e s m below meth c Q A ls hx hb hml hown hts hin hK hP hD hA hE hO hS hl hret
  have hown : s.vm.findClass RX4 = some m.cls := hown
  have hiX4 : ∀ w ∈ wsX40, w ∈ wsX4_passDay := fun _ h9 => List.mem_cons_of_mem _ (List.mem_append_left _ (List.mem_append_left _ (List.mem_append_right _ h9)))
  have hiX8 : ∀ w ∈ wsX80, w ∈ wsX4_passDay := fun _ h9 => List.mem_cons_of_mem _ (List.mem_append_left _ (List.mem_append_right _ h9))
  have hiX2 : ∀ w ∈ wsX20, w ∈ wsX4_passDay := fun _ h9 => List.mem_cons_of_mem _ (List.mem_append_right _ h9)
  have hl : lv_has ls 2 [(0, .ref (a 8))] := hl
  refine lv_iconst (v := 0) hx hb dX4_passDay_0 (by decide) ?_
  refine lv_istore_n (lv' := [(1, .int 0), (0, .ref (a 8))]) hx hb dX4_passDay_1 rfl hl (by decide) rfl (fun ls hl => ?_)
  refine lv_iload_n hx hb dX4_passDay_2 rfl (lv_at hl 0 rfl) ?_
  refine lv_aload_n hx hb dX4_passDay_3 rfl (lv_at hl 1 rfl) ?_
  refine va_get (D := D) (ci := 4) (v := .ref (a 7)) (C := RX4) (T := TX4) (N := 8) hx hb hts hiX4 hown hK hP 1 rfl rfl 0 (by decide) (hts _ (List.mem_of_getElem? (i := 1) rfl)) (fun _ h9 => h9) rfl dX4_passDay_4 ?_
  refine va_get (D := D) (ci := 8) (v := .ref (a 29)) (C := RX8) (T := TX8) (N := 12) hx hb hts hiX8 hown hK hP 0 rfl rfl 1 (by decide) (hts _ (List.mem_of_getElem? (i := 2) rfl)) (fun _ h9 => h9) rfl dX4_passDay_7 ?_
  refine va_get (D := D) (ci := 2) (v := .int 0) (C := RX2) (T := TX2) (N := 2) hx hb hts hiX2 hown hK hP 2 rfl rfl 1 (by decide) (hts _ (List.mem_of_getElem? (i := 3) rfl)) (fun _ h9 => h9) rfl dX4_passDay_10 ?_
  refine lv_icmp_ge (tgt := 56) hx hb dX4_passDay_13 (by decide) (fun _ => ?_) (fun h9 => absurd (by decide) h9)
  refine lv_aload_n hx hb dX4_passDay_56 rfl (lv_at hl 1 rfl) ?_
  refine lv_dup hx hb dX4_passDay_57 rfl ?_
  refine va_get (D := D) (ci := 4) (v := .int (nI k)) (C := RX4) (T := TX4) (N := 8) hx hb hts hiX4 hown hK hP 1 rfl rfl 1 (by decide) (hts _ (List.mem_of_getElem? (i := 5) rfl)) (fun _ h9 => h9) rfl dX4_passDay_58 ?_
  refine lv_iconst (v := 1) hx hb dX4_passDay_61 (by decide) ?_
  refine lv_iadd hx hb dX4_passDay_62 ?_
  refine lv_topi (fun y_1 ey_1 => ?_)
  obtain rfl : y_1 = nI (k + 1) := ey_1.trans (nI_add k 1)
  refine va_put (D := D) (ci := 4) (v := .int (nI (k + 1))) (ty := tyX4 1) (C := RX4) (T := TX4) (N := 8) hx hb hts hiX4 tyX4 tyX4_ok nmX4 hown hK hP hD hS 1 rfl rfl 1 (by decide) (hts _ (List.mem_of_getElem? (i := 5) rfl)) (fun _ h9 => h9) rfl (tyX4_ok 1 (by decide)) rfl rfl (Nat.le_of_ble_eq_true rfl) dX4_passDay_63 (fun H locs hP hD hS => ?_)
  have hP : va_P D vwCl [(a 7, .inr (8, [.ref (a 28), .ref (a 29), .ref (a 30), .int 0, .ref (a 31), .ref (a 32), .ref (a 33), .int 0, .ref (a 34), .ref (a 35), .ref (a 36), .int 2])), (a 8, .inr (4, [.ref (a 7), .int (nI (k + 1)), .int 0, .int 0, .ref (a 37), .ref (a 38), .ref (a 39), .ref (a 40)])), (a 29, .inr (2, [.ref (a 78), .int 0]))] H := hP
  have hD : va_D A [(a 7, .inr (8, [.ref (a 28), .ref (a 29), .ref (a 30), .int 0, .ref (a 31), .ref (a 32), .ref (a 33), .int 0, .ref (a 34), .ref (a 35), .ref (a 36), .int 2])), (a 8, .inr (4, [.ref (a 7), .int (nI (k + 1)), .int 0, .int 0, .ref (a 37), .ref (a 38), .ref (a 39), .ref (a 40)])), (a 29, .inr (2, [.ref (a 78), .int 0]))] := hD
  refine W.widen (k := 0) (n := 0) (by decide) (by decide) ?_
  exact hret ([(a 7, .inr (8, [.ref (a 28), .ref (a 29), .ref (a 30), .int 0, .ref (a 31), .ref (a 32), .ref (a 33), .int 0, .ref (a 34), .ref (a 35), .ref (a 36), .int 2])), (a 8, .inr (4, [.ref (a 7), .int (nI (k + 1)), .int 0, .int 0, .ref (a 37), .ref (a 38), .ref (a 39), .ref (a 40)])), (a 29, .inr (2, [.ref (a 78), .int 0]))], []) _ _ _ _ dX4_passDay_66 rfl (hP.sub [0, 1, 2] rfl) (hK.sub [] rfl) (hD.sub [0, 1, 2] (by decide +kernel) rfl) hS

set_option maxHeartbeats 8000000 in
set_option maxRecDepth 100000 in
theorem k_X4_passDays (l : Launch) (D : va_G) (ad : Nat → Nat) (a : Nat → Nat) (n0 : Nat) (hn0 : n0 ≤ 60) : z_Mi l yX4_passDays wsX4_passDays { frames := 1, cells := 0, slots := 0, locals := 21 } D ad [.ref (a 8), .int (nI n0)] [(a 7, .inr (8, [.ref (a 28), .ref (a 29), .ref (a 30), .int 0, .ref (a 31), .ref (a 32), .ref (a 33), .int 0, .ref (a 34), .ref (a 35), .ref (a 36), .int 2])), (a 8, .inr (4, [.ref (a 7), .int 0, .int 0, .int 0, .ref (a 37), .ref (a 38), .ref (a 39), .ref (a 40)])), (a 29, .inr (2, [.ref (a 78), .int 0]))] [] 0 0 (fun r9 u9 => r9 = nI n0 ∧ u9 = ([(a 7, .inr (8, [.ref (a 28), .ref (a 29), .ref (a 30), .int 0, .ref (a 31), .ref (a 32), .ref (a 33), .int 0, .ref (a 34), .ref (a 35), .ref (a 36), .int 2])), (a 8, .inr (4, [.ref (a 7), .int (nI n0), .int 0, .int 0, .ref (a 37), .ref (a 38), .ref (a 39), .ref (a 40)])), (a 29, .inr (2, [.ref (a 78), .int 0]))], [])) := by
  refine z_ofI (cc := cX4_passDays) (maxL := 4) (rt := .int) (by decide) rfl (Nat.le_of_ble_eq_true rfl) ?_
  intro p e s m below meth c Q A ls hx hb hml hown hts hin hK hP hD hA hE hO hS hl hret
  have hown : s.vm.findClass RX4 = some m.cls := hown
  have hiX4 : ∀ w ∈ wsX40, w ∈ wsX4_passDays := fun _ h9 => List.mem_cons_of_mem _ (List.mem_append_left _ (List.mem_append_left _ (List.mem_append_right _ h9)))
  have hiX8 : ∀ w ∈ wsX80, w ∈ wsX4_passDays := fun _ h9 => List.mem_cons_of_mem _ (List.mem_append_left _ (List.mem_append_right _ h9))
  have hiX2 : ∀ w ∈ wsX20, w ∈ wsX4_passDays := fun _ h9 => List.mem_cons_of_mem _ (List.mem_append_right _ h9)
  have hl : lv_has ls 4 [(0, .ref (a 8)), (1, .int (nI n0))] := hl
  refine lv_iload_n hx hb dX4_passDays_0 rfl (lv_at hl 1 rfl) ?_
  refine lv_sipush (v := 200) hx hb dX4_passDays_1 (by decide) ?_
  refine lv_aload_n hx hb dX4_passDays_4 rfl (lv_at hl 0 rfl) ?_
  refine va_get (D := D) (ci := 4) (v := .int 0) (C := RX4) (T := TX4) (N := 8) hx hb hts hiX4 hown hK hP 1 rfl rfl 1 (by decide) (hts _ (List.mem_of_getElem? (i := 1) rfl)) (fun _ h9 => h9) rfl dX4_passDays_5 ?_
  refine lv_isub hx hb dX4_passDays_8 ?_
  refine lv_topi (fun y_1 ey_1 => ?_)
  obtain rfl : y_1 = 200 := ey_1.trans (by decide)
  refine va_mmin hx hb (by rw [hml]; exact hl.1.symm) hown (hts _ (List.mem_of_getElem? (i := 2) rfl)) (hts _ (List.mem_of_getElem? (i := 3) rfl)) (hts _ (List.mem_of_getElem? (i := 4) rfl)) (hts _ (List.mem_of_getElem? (i := 5) rfl)) (Nat.le_of_ble_eq_true rfl) (Nat.le_of_ble_eq_true rfl) (Nat.le_of_ble_eq_true rfl) (Nat.le_of_ble_eq_true rfl) dX4_passDays_9 ?_
  refine lv_topi (fun y_2 ey_2 => ?_)
  obtain rfl : y_2 = nI n0 := ey_2.trans (if_neg (nI_nlt (a := 200) (b := n0) (by omega) (by decide)))
  refine lv_istore_n (lv' := [(2, .int (nI n0)), (0, .ref (a 8)), (1, .int (nI n0))]) hx hb dX4_passDays_12 rfl hl (by decide) rfl (fun ls hl => ?_)
  refine lv_iconst (v := 0) hx hb dX4_passDays_13 (by decide) ?_
  refine lv_istore_n (lv' := [(3, .int 0), (2, .int (nI n0)), (0, .ref (a 8)), (1, .int (nI n0))]) hx hb dX4_passDays_14 rfl hl (by decide) rfl (fun ls hl => ?_)
  have LP1 : ∀ (n k1 : Nat)  (H : Heap) (locs : List Loc) (ls : Array Slot), k1 ≤ n0 → n0 < k1 + n → va_P D vwCl [(a 7, .inr (8, [.ref (a 28), .ref (a 29), .ref (a 30), .int 0, .ref (a 31), .ref (a 32), .ref (a 33), .int 0, .ref (a 34), .ref (a 35), .ref (a 36), .int 2])), (a 8, .inr (4, [.ref (a 7), .int (nI k1), .int 0, .int 0, .ref (a 37), .ref (a 38), .ref (a 39), .ref (a 40)])), (a 29, .inr (2, [.ref (a 78), .int 0]))] H → va_D A [(a 7, .inr (8, [.ref (a 28), .ref (a 29), .ref (a 30), .int 0, .ref (a 31), .ref (a 32), .ref (a 33), .int 0, .ref (a 34), .ref (a 35), .ref (a 36), .int 2])), (a 8, .inr (4, [.ref (a 7), .int (nI k1), .int 0, .int 0, .ref (a 37), .ref (a 38), .ref (a 39), .ref (a 40)])), (a 29, .inr (2, [.ref (a 78), .int 0]))] → va_S A s.heap H locs → lv_has ls 4 [(3, .int (nI k1)), (2, .int (nI n0)), (0, .ref (a 8)), (1, .int (nI n0))] → W p l e ({ frames := 1, cells := 0, slots := 0, locals := 21 }) s m ([.ref (a 8), .int (nI n0)] : List Value).toArray below meth c H locs 0 0 Q (F0 m 15 ls []) := by
    intro n
    induction n with
    | zero => intro k1  H locs ls h1 h2; exact absurd h2 (by omega)
    | succ n ih1 =>
      intro k1  H locs ls hk1 hn1  hP hD hS hl
      refine lv_iload_n hx hb dX4_passDays_15 rfl (lv_at hl 0 rfl) ?_
      refine lv_iload_n hx hb dX4_passDays_16 rfl (lv_at hl 1 rfl) ?_
      refine lv_icmp_ge (tgt := 30) hx hb dX4_passDays_17 (by decide) (fun c_3 => ?_) (fun c_3 => ?_)
      · have hek1 : k1 = n0 := by
          rcases Nat.lt_or_ge k1 n0 with q | q
          · exact absurd c_3 (nI_ge q (by omega))
          · omega
        rw [hek1] at hP hD hl
        refine lv_iload_n hx hb dX4_passDays_30 rfl (lv_at hl 1 rfl) ?_
        refine W.widen (k := 0) (n := 0) (by decide) (by decide) ?_
        exact hret (nI n0) ([(a 7, .inr (8, [.ref (a 28), .ref (a 29), .ref (a 30), .int 0, .ref (a 31), .ref (a 32), .ref (a 33), .int 0, .ref (a 34), .ref (a 35), .ref (a 36), .int 2])), (a 8, .inr (4, [.ref (a 7), .int (nI n0), .int 0, .int 0, .ref (a 37), .ref (a 38), .ref (a 39), .ref (a 40)])), (a 29, .inr (2, [.ref (a 78), .int 0]))], []) _ _ _ _ dX4_passDays_31 rfl ⟨rfl, rfl⟩ (hP.sub [0, 1, 2] rfl) (hK.sub [] rfl) (hD.sub [0, 1, 2] (by decide +kernel) rfl) hS
      · have hlt1 : k1 < n0 := by
          rcases Nat.lt_or_ge k1 n0 with q | q
          · exact q
          · exact absurd (nI_le q (by omega)) c_3
        refine lv_aload_n hx hb dX4_passDays_20 rfl (lv_at hl 2 rfl) ?_
        have hc9 := (k_X4_passDay l D ad a k1 )
        refine z_callv (w0 := [(a 7, .inr (8, [.ref (a 28), .ref (a 29), .ref (a 30), .int 0, .ref (a 31), .ref (a 32), .ref (a 33), .int 0, .ref (a 34), .ref (a 35), .ref (a 36), .int 2])), (a 8, .inr (4, [.ref (a 7), .int (nI k1), .int 0, .int 0, .ref (a 37), .ref (a 38), .ref (a 39), .ref (a 40)])), (a 29, .inr (2, [.ref (a 78), .int 0]))]) (wr := []) (va_runV (As := []) (rest := []) ⟨hx, hb, hml, hown, hts⟩ (hc9 _) (cwV 0 hts gX4_passDays_X4_passDay rfl rfl rfl (by decide +kernel) ⟨Nat.le_of_ble_eq_true rfl, Nat.le_of_ble_eq_true rfl⟩) (z_preV hP hD hK hS hA hE hO [0, 1, 2] [] rfl (by decide +kernel) rfl 1 4 rfl rfl rfl) rfl rfl hl.1 rfl (lv_room (Nat.le_of_ble_eq_true rfl)) dX4_passDays_21 ⟨Nat.le_of_ble_eq_true rfl, Nat.le_of_ble_eq_true rfl⟩) hP hD hK hS hA [0, 1, 2] [] rfl rfl (by decide +kernel) (by decide +kernel) (fun u9 H locs hw hP hD hK hS => ?_)
        obtain ⟨rfl⟩ := hw
        have hP : va_P D vwCl [(a 7, .inr (8, [.ref (a 28), .ref (a 29), .ref (a 30), .int 0, .ref (a 31), .ref (a 32), .ref (a 33), .int 0, .ref (a 34), .ref (a 35), .ref (a 36), .int 2])), (a 8, .inr (4, [.ref (a 7), .int (nI (k1 + 1)), .int 0, .int 0, .ref (a 37), .ref (a 38), .ref (a 39), .ref (a 40)])), (a 29, .inr (2, [.ref (a 78), .int 0]))] H := hP
        have hD : va_D A [(a 7, .inr (8, [.ref (a 28), .ref (a 29), .ref (a 30), .int 0, .ref (a 31), .ref (a 32), .ref (a 33), .int 0, .ref (a 34), .ref (a 35), .ref (a 36), .int 2])), (a 8, .inr (4, [.ref (a 7), .int (nI (k1 + 1)), .int 0, .int 0, .ref (a 37), .ref (a 38), .ref (a 39), .ref (a 40)])), (a 29, .inr (2, [.ref (a 78), .int 0]))] := hD
        have hK : va_K D vwCl [] s := hK
        refine W.cs (cells' := 0) (slots' := 0) rfl rfl ?_
        refine lv_iinc (v := nI (k1 + 1)) (lv' := [(3, .int (nI (k1 + 1))), (2, .int (nI n0)), (0, .ref (a 8)), (1, .int (nI n0))]) hx hb dX4_passDays_24 hl (k := 0) rfl (nI_1 k1) (by decide) rfl (fun ls hl => ?_)
        refine lv_goto (tgt := 15) hx hb dX4_passDays_27 (by decide) ?_
        exact ih1 (k1 + 1)  _ _ _ (by omega) (by omega)  hP hD hS (lv_sub hl [0, 1, 2, 3] rfl)
  exact LP1 (n0 + 1) 0  _ _ _ (by omega) (by omega)  hP hD hS hl

set_option maxHeartbeats 8000000 in
set_option maxRecDepth 100000 in
theorem k_X4_sumOf (l : Launch) (D : va_G) (ad : Nat → Nat) (a : Nat → Nat) (k : Nat)  : z_Mi l yX4_sumOf wsX4_sumOf { frames := 0, cells := 0, slots := 0, locals := 0 } D ad [.ref (a 8), .int 2] [(a 7, .inr (8, [.ref (a 28), .ref (a 29), .ref (a 30), .int 0, .ref (a 31), .ref (a 32), .ref (a 33), .int 0, .ref (a 34), .ref (a 35), .ref (a 36), .int 2])), (a 8, .inr (4, [.ref (a 7), .int (nI k), .int 0, .int 0, .ref (a 37), .ref (a 38), .ref (a 39), .ref (a 40)]))] [] 0 0 (fun r9 u9 => r9 = 0 ∧ u9 = ([(a 7, .inr (8, [.ref (a 28), .ref (a 29), .ref (a 30), .int 0, .ref (a 31), .ref (a 32), .ref (a 33), .int 0, .ref (a 34), .ref (a 35), .ref (a 36), .int 2])), (a 8, .inr (4, [.ref (a 7), .int (nI k), .int 0, .int 0, .ref (a 37), .ref (a 38), .ref (a 39), .ref (a 40)]))], [])) := by
  refine z_ofI (cc := cX4_sumOf) (maxL := 4) (rt := .int) (by decide) rfl (Nat.le_of_ble_eq_true rfl) ?_
  intro p e s m below meth c Q A ls hx hb hml hown hts hin hK hP hD hA hE hO hS hl hret
  have hown : s.vm.findClass RX4 = some m.cls := hown
  have hiX4 : ∀ w ∈ wsX40, w ∈ wsX4_sumOf := fun _ h9 => List.mem_cons_of_mem _ (List.mem_append_left _ (List.mem_append_right _ h9))
  have hiX8 : ∀ w ∈ wsX80, w ∈ wsX4_sumOf := fun _ h9 => List.mem_cons_of_mem _ (List.mem_append_right _ h9)
  have hl : lv_has ls 4 [(0, .ref (a 8)), (1, .int 2)] := hl
  refine lv_iconst (v := 0) hx hb dX4_sumOf_0 (by decide) ?_
  refine lv_istore_n (lv' := [(2, .int 0), (0, .ref (a 8)), (1, .int 2)]) hx hb dX4_sumOf_1 rfl hl (by decide) rfl (fun ls hl => ?_)
  refine lv_iconst (v := 0) hx hb dX4_sumOf_2 (by decide) ?_
  refine lv_istore_n (lv' := [(3, .int 0), (2, .int 0), (0, .ref (a 8)), (1, .int 2)]) hx hb dX4_sumOf_3 rfl hl (by decide) rfl (fun ls hl => ?_)
  refine lv_iload_n hx hb dX4_sumOf_4 rfl (lv_at hl 0 rfl) ?_
  refine lv_aload_n hx hb dX4_sumOf_5 rfl (lv_at hl 2 rfl) ?_
  refine va_get (D := D) (ci := 4) (v := .ref (a 7)) (C := RX4) (T := TX4) (N := 8) hx hb hts hiX4 hown hK hP 1 rfl rfl 0 (by decide) (hts _ (List.mem_of_getElem? (i := 1) rfl)) (fun _ h9 => h9) rfl dX4_sumOf_6 ?_
  refine va_get (D := D) (ci := 8) (v := .int 0) (C := RX8) (T := TX8) (N := 12) hx hb hts hiX8 hown hK hP 0 rfl rfl 7 (by decide) (hts _ (List.mem_of_getElem? (i := 2) rfl)) (fun _ h9 => h9) rfl dX4_sumOf_9 ?_
  refine lv_icmp_ge (tgt := 42) hx hb dX4_sumOf_12 (by decide) (fun _ => ?_) (fun h9 => absurd (by decide) h9)
  refine lv_iload_n hx hb dX4_sumOf_42 rfl (lv_at hl 1 rfl) ?_
  refine W.widen (k := 0) (n := 0) (by decide) (by decide) ?_
  exact hret 0 ([(a 7, .inr (8, [.ref (a 28), .ref (a 29), .ref (a 30), .int 0, .ref (a 31), .ref (a 32), .ref (a 33), .int 0, .ref (a 34), .ref (a 35), .ref (a 36), .int 2])), (a 8, .inr (4, [.ref (a 7), .int (nI k), .int 0, .int 0, .ref (a 37), .ref (a 38), .ref (a 39), .ref (a 40)]))], []) _ _ _ _ dX4_sumOf_43 rfl ⟨rfl, rfl⟩ (hP.sub [0, 1] rfl) (hK.sub [] rfl) (hD.sub [0, 1] (by decide +kernel) rfl) hS

set_option maxHeartbeats 8000000 in
set_option maxRecDepth 100000 in
theorem k_X4_weptByAll (l : Launch) (D : va_G) (ad : Nat → Nat) (a : Nat → Nat) (k : Nat)  : z_Mi l yX4_weptByAll wsX4_weptByAll { frames := 1, cells := 0, slots := 0, locals := 23 } D ad [.ref (a 8)] [(a 7, .inr (8, [.ref (a 28), .ref (a 29), .ref (a 30), .int 0, .ref (a 31), .ref (a 32), .ref (a 33), .int 0, .ref (a 34), .ref (a 35), .ref (a 36), .int 2])), (a 8, .inr (4, [.ref (a 7), .int (nI k), .int 0, .int 0, .ref (a 37), .ref (a 38), .ref (a 39), .ref (a 40)]))] [] 0 0 (fun r9 u9 => r9 = 0 ∧ u9 = ([(a 7, .inr (8, [.ref (a 28), .ref (a 29), .ref (a 30), .int 0, .ref (a 31), .ref (a 32), .ref (a 33), .int 0, .ref (a 34), .ref (a 35), .ref (a 36), .int 2])), (a 8, .inr (4, [.ref (a 7), .int (nI k), .int 0, .int 0, .ref (a 37), .ref (a 38), .ref (a 39), .ref (a 40)]))], [])) := by
  refine z_ofI (cc := cX4_weptByAll) (maxL := 1) (rt := .int) (by decide) rfl (Nat.le_of_ble_eq_true rfl) ?_
  intro p e s m below meth c Q A ls hx hb hml hown hts hin hK hP hD hA hE hO hS hl hret
  have hown : s.vm.findClass RX4 = some m.cls := hown
  have hiX4 : ∀ w ∈ wsX40, w ∈ wsX4_weptByAll := fun _ h9 => List.mem_cons_of_mem _ (List.mem_append_left _ (List.mem_append_right _ h9))
  have hiX8 : ∀ w ∈ wsX80, w ∈ wsX4_weptByAll := fun _ h9 => List.mem_cons_of_mem _ (List.mem_append_right _ h9)
  have hl : lv_has ls 1 [(0, .ref (a 8))] := hl
  refine lv_aload_n hx hb dX4_weptByAll_0 rfl (lv_at hl 0 rfl) ?_
  refine lv_iconst (v := 2) hx hb dX4_weptByAll_1 (by decide) ?_
  have hc9 := (k_X4_sumOf l D ad a k )
  refine z_calli (w0 := [(a 7, .inr (8, [.ref (a 28), .ref (a 29), .ref (a 30), .int 0, .ref (a 31), .ref (a 32), .ref (a 33), .int 0, .ref (a 34), .ref (a 35), .ref (a 36), .int 2])), (a 8, .inr (4, [.ref (a 7), .int (nI k), .int 0, .int 0, .ref (a 37), .ref (a 38), .ref (a 39), .ref (a 40)]))]) (wr := []) (va_runV (As := [.int 2]) (rest := []) ⟨hx, hb, hml, hown, hts⟩ (hc9 _) (cwV 1 hts gX4_weptByAll_X4_sumOf rfl rfl rfl (by decide +kernel) ⟨Nat.le_of_ble_eq_true rfl, Nat.le_of_ble_eq_true rfl⟩) (z_preV hP hD hK hS hA hE hO [0, 1] [] rfl (by decide +kernel) rfl 1 4 rfl rfl rfl) rfl rfl hl.1 rfl (lv_room (Nat.le_of_ble_eq_true rfl)) dX4_weptByAll_2 ⟨Nat.le_of_ble_eq_true rfl, Nat.le_of_ble_eq_true rfl⟩) hP hD hK hS hA [0, 1] [] rfl rfl (by decide +kernel) (by decide +kernel) (fun r9 u9 H locs hw hP hD hK hS => ?_)
  obtain ⟨er9, rfl⟩ := hw
  have hP : va_P D vwCl [(a 7, .inr (8, [.ref (a 28), .ref (a 29), .ref (a 30), .int 0, .ref (a 31), .ref (a 32), .ref (a 33), .int 0, .ref (a 34), .ref (a 35), .ref (a 36), .int 2])), (a 8, .inr (4, [.ref (a 7), .int (nI k), .int 0, .int 0, .ref (a 37), .ref (a 38), .ref (a 39), .ref (a 40)]))] H := hP
  have hD : va_D A [(a 7, .inr (8, [.ref (a 28), .ref (a 29), .ref (a 30), .int 0, .ref (a 31), .ref (a 32), .ref (a 33), .int 0, .ref (a 34), .ref (a 35), .ref (a 36), .int 2])), (a 8, .inr (4, [.ref (a 7), .int (nI k), .int 0, .int 0, .ref (a 37), .ref (a 38), .ref (a 39), .ref (a 40)]))] := hD
  have hK : va_K D vwCl [] s := hK
  refine W.cs (cells' := 0) (slots' := 0) rfl rfl ?_
  obtain rfl := er9
  refine W.eq (g2 := F0 m 5 ls (.int 0 :: [])) rfl ?_
  refine W.widen (k := 0) (n := 0) (by decide) (by decide) ?_
  exact hret 0 ([(a 7, .inr (8, [.ref (a 28), .ref (a 29), .ref (a 30), .int 0, .ref (a 31), .ref (a 32), .ref (a 33), .int 0, .ref (a 34), .ref (a 35), .ref (a 36), .int 2])), (a 8, .inr (4, [.ref (a 7), .int (nI k), .int 0, .int 0, .ref (a 37), .ref (a 38), .ref (a 39), .ref (a 40)]))], []) _ _ _ _ dX4_weptByAll_5 rfl ⟨rfl, rfl⟩ (hP.sub [0, 1] rfl) (hK.sub [] rfl) (hD.sub [0, 1] (by decide +kernel) rfl) hS

set_option maxHeartbeats 8000000 in
set_option maxRecDepth 100000 in
theorem k_X4_passDayT (l : Launch) (D : va_G) (ad : Nat → Nat) (a : Nat → Nat) (k : Nat)  : z_Mv l yX4_passDay wsX4_passDay { frames := 0, cells := 0, slots := 0, locals := 0 } D ad [.ref (a 11)] [(a 7, .inr (8, [.ref (a 28), .ref (a 29), .ref (a 30), .int 0, .ref (a 31), .ref (a 32), .ref (a 33), .int 0, .ref (a 34), .ref (a 35), .ref (a 36), .int 2])), (a 11, .inr (4, [.ref (a 7), .int (nI k), .int 0, .int 0, .ref (a 44), .ref (a 45), .ref (a 46), .ref (a 47)])), (a 29, .inr (2, [.ref (a 78), .int 0]))] [] 0 0 (fun u9 => u9 = ([(a 7, .inr (8, [.ref (a 28), .ref (a 29), .ref (a 30), .int 0, .ref (a 31), .ref (a 32), .ref (a 33), .int 0, .ref (a 34), .ref (a 35), .ref (a 36), .int 2])), (a 11, .inr (4, [.ref (a 7), .int (nI (k + 1)), .int 0, .int 0, .ref (a 44), .ref (a 45), .ref (a 46), .ref (a 47)])), (a 29, .inr (2, [.ref (a 78), .int 0]))], [])) := by
  refine z_ofV (cc := cX4_passDay) (maxL := 2) (by decide) rfl (Nat.le_of_ble_eq_true rfl) ?_
  intro p e s m below meth c Q A ls hx hb hml hown hts hin hK hP hD hA hE hO hS hl hret
  have hown : s.vm.findClass RX4 = some m.cls := hown
  have hiX4 : ∀ w ∈ wsX40, w ∈ wsX4_passDay := fun _ h9 => List.mem_cons_of_mem _ (List.mem_append_left _ (List.mem_append_left _ (List.mem_append_right _ h9)))
  have hiX8 : ∀ w ∈ wsX80, w ∈ wsX4_passDay := fun _ h9 => List.mem_cons_of_mem _ (List.mem_append_left _ (List.mem_append_right _ h9))
  have hiX2 : ∀ w ∈ wsX20, w ∈ wsX4_passDay := fun _ h9 => List.mem_cons_of_mem _ (List.mem_append_right _ h9)
  have hl : lv_has ls 2 [(0, .ref (a 11))] := hl
  refine lv_iconst (v := 0) hx hb dX4_passDay_0 (by decide) ?_
  refine lv_istore_n (lv' := [(1, .int 0), (0, .ref (a 11))]) hx hb dX4_passDay_1 rfl hl (by decide) rfl (fun ls hl => ?_)
  refine lv_iload_n hx hb dX4_passDay_2 rfl (lv_at hl 0 rfl) ?_
  refine lv_aload_n hx hb dX4_passDay_3 rfl (lv_at hl 1 rfl) ?_
  refine va_get (D := D) (ci := 4) (v := .ref (a 7)) (C := RX4) (T := TX4) (N := 8) hx hb hts hiX4 hown hK hP 1 rfl rfl 0 (by decide) (hts _ (List.mem_of_getElem? (i := 1) rfl)) (fun _ h9 => h9) rfl dX4_passDay_4 ?_
  refine va_get (D := D) (ci := 8) (v := .ref (a 29)) (C := RX8) (T := TX8) (N := 12) hx hb hts hiX8 hown hK hP 0 rfl rfl 1 (by decide) (hts _ (List.mem_of_getElem? (i := 2) rfl)) (fun _ h9 => h9) rfl dX4_passDay_7 ?_
  refine va_get (D := D) (ci := 2) (v := .int 0) (C := RX2) (T := TX2) (N := 2) hx hb hts hiX2 hown hK hP 2 rfl rfl 1 (by decide) (hts _ (List.mem_of_getElem? (i := 3) rfl)) (fun _ h9 => h9) rfl dX4_passDay_10 ?_
  refine lv_icmp_ge (tgt := 56) hx hb dX4_passDay_13 (by decide) (fun _ => ?_) (fun h9 => absurd (by decide) h9)
  refine lv_aload_n hx hb dX4_passDay_56 rfl (lv_at hl 1 rfl) ?_
  refine lv_dup hx hb dX4_passDay_57 rfl ?_
  refine va_get (D := D) (ci := 4) (v := .int (nI k)) (C := RX4) (T := TX4) (N := 8) hx hb hts hiX4 hown hK hP 1 rfl rfl 1 (by decide) (hts _ (List.mem_of_getElem? (i := 5) rfl)) (fun _ h9 => h9) rfl dX4_passDay_58 ?_
  refine lv_iconst (v := 1) hx hb dX4_passDay_61 (by decide) ?_
  refine lv_iadd hx hb dX4_passDay_62 ?_
  refine lv_topi (fun y_1 ey_1 => ?_)
  obtain rfl : y_1 = nI (k + 1) := ey_1.trans (nI_add k 1)
  refine va_put (D := D) (ci := 4) (v := .int (nI (k + 1))) (ty := tyX4 1) (C := RX4) (T := TX4) (N := 8) hx hb hts hiX4 tyX4 tyX4_ok nmX4 hown hK hP hD hS 1 rfl rfl 1 (by decide) (hts _ (List.mem_of_getElem? (i := 5) rfl)) (fun _ h9 => h9) rfl (tyX4_ok 1 (by decide)) rfl rfl (Nat.le_of_ble_eq_true rfl) dX4_passDay_63 (fun H locs hP hD hS => ?_)
  have hP : va_P D vwCl [(a 7, .inr (8, [.ref (a 28), .ref (a 29), .ref (a 30), .int 0, .ref (a 31), .ref (a 32), .ref (a 33), .int 0, .ref (a 34), .ref (a 35), .ref (a 36), .int 2])), (a 11, .inr (4, [.ref (a 7), .int (nI (k + 1)), .int 0, .int 0, .ref (a 44), .ref (a 45), .ref (a 46), .ref (a 47)])), (a 29, .inr (2, [.ref (a 78), .int 0]))] H := hP
  have hD : va_D A [(a 7, .inr (8, [.ref (a 28), .ref (a 29), .ref (a 30), .int 0, .ref (a 31), .ref (a 32), .ref (a 33), .int 0, .ref (a 34), .ref (a 35), .ref (a 36), .int 2])), (a 11, .inr (4, [.ref (a 7), .int (nI (k + 1)), .int 0, .int 0, .ref (a 44), .ref (a 45), .ref (a 46), .ref (a 47)])), (a 29, .inr (2, [.ref (a 78), .int 0]))] := hD
  refine W.widen (k := 0) (n := 0) (by decide) (by decide) ?_
  exact hret ([(a 7, .inr (8, [.ref (a 28), .ref (a 29), .ref (a 30), .int 0, .ref (a 31), .ref (a 32), .ref (a 33), .int 0, .ref (a 34), .ref (a 35), .ref (a 36), .int 2])), (a 11, .inr (4, [.ref (a 7), .int (nI (k + 1)), .int 0, .int 0, .ref (a 44), .ref (a 45), .ref (a 46), .ref (a 47)])), (a 29, .inr (2, [.ref (a 78), .int 0]))], []) _ _ _ _ dX4_passDay_66 rfl (hP.sub [0, 1, 2] rfl) (hK.sub [] rfl) (hD.sub [0, 1, 2] (by decide +kernel) rfl) hS

set_option maxHeartbeats 8000000 in
set_option maxRecDepth 100000 in
theorem k_X4_passDaysT (l : Launch) (D : va_G) (ad : Nat → Nat) (a : Nat → Nat) (n0 : Nat) (hn0 : n0 ≤ 60) : z_Mi l yX4_passDays wsX4_passDays { frames := 1, cells := 0, slots := 0, locals := 21 } D ad [.ref (a 11), .int (nI n0)] [(a 7, .inr (8, [.ref (a 28), .ref (a 29), .ref (a 30), .int 0, .ref (a 31), .ref (a 32), .ref (a 33), .int 0, .ref (a 34), .ref (a 35), .ref (a 36), .int 2])), (a 11, .inr (4, [.ref (a 7), .int 0, .int 0, .int 0, .ref (a 44), .ref (a 45), .ref (a 46), .ref (a 47)])), (a 29, .inr (2, [.ref (a 78), .int 0]))] [] 0 0 (fun r9 u9 => r9 = nI n0 ∧ u9 = ([(a 7, .inr (8, [.ref (a 28), .ref (a 29), .ref (a 30), .int 0, .ref (a 31), .ref (a 32), .ref (a 33), .int 0, .ref (a 34), .ref (a 35), .ref (a 36), .int 2])), (a 11, .inr (4, [.ref (a 7), .int (nI n0), .int 0, .int 0, .ref (a 44), .ref (a 45), .ref (a 46), .ref (a 47)])), (a 29, .inr (2, [.ref (a 78), .int 0]))], [])) := by
  refine z_ofI (cc := cX4_passDays) (maxL := 4) (rt := .int) (by decide) rfl (Nat.le_of_ble_eq_true rfl) ?_
  intro p e s m below meth c Q A ls hx hb hml hown hts hin hK hP hD hA hE hO hS hl hret
  have hown : s.vm.findClass RX4 = some m.cls := hown
  have hiX4 : ∀ w ∈ wsX40, w ∈ wsX4_passDays := fun _ h9 => List.mem_cons_of_mem _ (List.mem_append_left _ (List.mem_append_left _ (List.mem_append_right _ h9)))
  have hiX8 : ∀ w ∈ wsX80, w ∈ wsX4_passDays := fun _ h9 => List.mem_cons_of_mem _ (List.mem_append_left _ (List.mem_append_right _ h9))
  have hiX2 : ∀ w ∈ wsX20, w ∈ wsX4_passDays := fun _ h9 => List.mem_cons_of_mem _ (List.mem_append_right _ h9)
  have hl : lv_has ls 4 [(0, .ref (a 11)), (1, .int (nI n0))] := hl
  refine lv_iload_n hx hb dX4_passDays_0 rfl (lv_at hl 1 rfl) ?_
  refine lv_sipush (v := 200) hx hb dX4_passDays_1 (by decide) ?_
  refine lv_aload_n hx hb dX4_passDays_4 rfl (lv_at hl 0 rfl) ?_
  refine va_get (D := D) (ci := 4) (v := .int 0) (C := RX4) (T := TX4) (N := 8) hx hb hts hiX4 hown hK hP 1 rfl rfl 1 (by decide) (hts _ (List.mem_of_getElem? (i := 1) rfl)) (fun _ h9 => h9) rfl dX4_passDays_5 ?_
  refine lv_isub hx hb dX4_passDays_8 ?_
  refine lv_topi (fun y_1 ey_1 => ?_)
  obtain rfl : y_1 = 200 := ey_1.trans (by decide)
  refine va_mmin hx hb (by rw [hml]; exact hl.1.symm) hown (hts _ (List.mem_of_getElem? (i := 2) rfl)) (hts _ (List.mem_of_getElem? (i := 3) rfl)) (hts _ (List.mem_of_getElem? (i := 4) rfl)) (hts _ (List.mem_of_getElem? (i := 5) rfl)) (Nat.le_of_ble_eq_true rfl) (Nat.le_of_ble_eq_true rfl) (Nat.le_of_ble_eq_true rfl) (Nat.le_of_ble_eq_true rfl) dX4_passDays_9 ?_
  refine lv_topi (fun y_2 ey_2 => ?_)
  obtain rfl : y_2 = nI n0 := ey_2.trans (if_neg (nI_nlt (a := 200) (b := n0) (by omega) (by decide)))
  refine lv_istore_n (lv' := [(2, .int (nI n0)), (0, .ref (a 11)), (1, .int (nI n0))]) hx hb dX4_passDays_12 rfl hl (by decide) rfl (fun ls hl => ?_)
  refine lv_iconst (v := 0) hx hb dX4_passDays_13 (by decide) ?_
  refine lv_istore_n (lv' := [(3, .int 0), (2, .int (nI n0)), (0, .ref (a 11)), (1, .int (nI n0))]) hx hb dX4_passDays_14 rfl hl (by decide) rfl (fun ls hl => ?_)
  have LP1 : ∀ (n k1 : Nat)  (H : Heap) (locs : List Loc) (ls : Array Slot), k1 ≤ n0 → n0 < k1 + n → va_P D vwCl [(a 7, .inr (8, [.ref (a 28), .ref (a 29), .ref (a 30), .int 0, .ref (a 31), .ref (a 32), .ref (a 33), .int 0, .ref (a 34), .ref (a 35), .ref (a 36), .int 2])), (a 11, .inr (4, [.ref (a 7), .int (nI k1), .int 0, .int 0, .ref (a 44), .ref (a 45), .ref (a 46), .ref (a 47)])), (a 29, .inr (2, [.ref (a 78), .int 0]))] H → va_D A [(a 7, .inr (8, [.ref (a 28), .ref (a 29), .ref (a 30), .int 0, .ref (a 31), .ref (a 32), .ref (a 33), .int 0, .ref (a 34), .ref (a 35), .ref (a 36), .int 2])), (a 11, .inr (4, [.ref (a 7), .int (nI k1), .int 0, .int 0, .ref (a 44), .ref (a 45), .ref (a 46), .ref (a 47)])), (a 29, .inr (2, [.ref (a 78), .int 0]))] → va_S A s.heap H locs → lv_has ls 4 [(3, .int (nI k1)), (2, .int (nI n0)), (0, .ref (a 11)), (1, .int (nI n0))] → W p l e ({ frames := 1, cells := 0, slots := 0, locals := 21 }) s m ([.ref (a 11), .int (nI n0)] : List Value).toArray below meth c H locs 0 0 Q (F0 m 15 ls []) := by
    intro n
    induction n with
    | zero => intro k1  H locs ls h1 h2; exact absurd h2 (by omega)
    | succ n ih1 =>
      intro k1  H locs ls hk1 hn1  hP hD hS hl
      refine lv_iload_n hx hb dX4_passDays_15 rfl (lv_at hl 0 rfl) ?_
      refine lv_iload_n hx hb dX4_passDays_16 rfl (lv_at hl 1 rfl) ?_
      refine lv_icmp_ge (tgt := 30) hx hb dX4_passDays_17 (by decide) (fun c_3 => ?_) (fun c_3 => ?_)
      · have hek1 : k1 = n0 := by
          rcases Nat.lt_or_ge k1 n0 with q | q
          · exact absurd c_3 (nI_ge q (by omega))
          · omega
        rw [hek1] at hP hD hl
        refine lv_iload_n hx hb dX4_passDays_30 rfl (lv_at hl 1 rfl) ?_
        refine W.widen (k := 0) (n := 0) (by decide) (by decide) ?_
        exact hret (nI n0) ([(a 7, .inr (8, [.ref (a 28), .ref (a 29), .ref (a 30), .int 0, .ref (a 31), .ref (a 32), .ref (a 33), .int 0, .ref (a 34), .ref (a 35), .ref (a 36), .int 2])), (a 11, .inr (4, [.ref (a 7), .int (nI n0), .int 0, .int 0, .ref (a 44), .ref (a 45), .ref (a 46), .ref (a 47)])), (a 29, .inr (2, [.ref (a 78), .int 0]))], []) _ _ _ _ dX4_passDays_31 rfl ⟨rfl, rfl⟩ (hP.sub [0, 1, 2] rfl) (hK.sub [] rfl) (hD.sub [0, 1, 2] (by decide +kernel) rfl) hS
      · have hlt1 : k1 < n0 := by
          rcases Nat.lt_or_ge k1 n0 with q | q
          · exact q
          · exact absurd (nI_le q (by omega)) c_3
        refine lv_aload_n hx hb dX4_passDays_20 rfl (lv_at hl 2 rfl) ?_
        have hc9 := (k_X4_passDayT l D ad a k1 )
        refine z_callv (w0 := [(a 7, .inr (8, [.ref (a 28), .ref (a 29), .ref (a 30), .int 0, .ref (a 31), .ref (a 32), .ref (a 33), .int 0, .ref (a 34), .ref (a 35), .ref (a 36), .int 2])), (a 11, .inr (4, [.ref (a 7), .int (nI k1), .int 0, .int 0, .ref (a 44), .ref (a 45), .ref (a 46), .ref (a 47)])), (a 29, .inr (2, [.ref (a 78), .int 0]))]) (wr := []) (va_runV (As := []) (rest := []) ⟨hx, hb, hml, hown, hts⟩ (hc9 _) (cwV 0 hts gX4_passDays_X4_passDay rfl rfl rfl (by decide +kernel) ⟨Nat.le_of_ble_eq_true rfl, Nat.le_of_ble_eq_true rfl⟩) (z_preV hP hD hK hS hA hE hO [0, 1, 2] [] rfl (by decide +kernel) rfl 1 4 rfl rfl rfl) rfl rfl hl.1 rfl (lv_room (Nat.le_of_ble_eq_true rfl)) dX4_passDays_21 ⟨Nat.le_of_ble_eq_true rfl, Nat.le_of_ble_eq_true rfl⟩) hP hD hK hS hA [0, 1, 2] [] rfl rfl (by decide +kernel) (by decide +kernel) (fun u9 H locs hw hP hD hK hS => ?_)
        obtain ⟨rfl⟩ := hw
        have hP : va_P D vwCl [(a 7, .inr (8, [.ref (a 28), .ref (a 29), .ref (a 30), .int 0, .ref (a 31), .ref (a 32), .ref (a 33), .int 0, .ref (a 34), .ref (a 35), .ref (a 36), .int 2])), (a 11, .inr (4, [.ref (a 7), .int (nI (k1 + 1)), .int 0, .int 0, .ref (a 44), .ref (a 45), .ref (a 46), .ref (a 47)])), (a 29, .inr (2, [.ref (a 78), .int 0]))] H := hP
        have hD : va_D A [(a 7, .inr (8, [.ref (a 28), .ref (a 29), .ref (a 30), .int 0, .ref (a 31), .ref (a 32), .ref (a 33), .int 0, .ref (a 34), .ref (a 35), .ref (a 36), .int 2])), (a 11, .inr (4, [.ref (a 7), .int (nI (k1 + 1)), .int 0, .int 0, .ref (a 44), .ref (a 45), .ref (a 46), .ref (a 47)])), (a 29, .inr (2, [.ref (a 78), .int 0]))] := hD
        have hK : va_K D vwCl [] s := hK
        refine W.cs (cells' := 0) (slots' := 0) rfl rfl ?_
        refine lv_iinc (v := nI (k1 + 1)) (lv' := [(3, .int (nI (k1 + 1))), (2, .int (nI n0)), (0, .ref (a 11)), (1, .int (nI n0))]) hx hb dX4_passDays_24 hl (k := 0) rfl (nI_1 k1) (by decide) rfl (fun ls hl => ?_)
        refine lv_goto (tgt := 15) hx hb dX4_passDays_27 (by decide) ?_
        exact ih1 (k1 + 1)  _ _ _ (by omega) (by omega)  hP hD hS (lv_sub hl [0, 1, 2, 3] rfl)
  exact LP1 (n0 + 1) 0  _ _ _ (by omega) (by omega)  hP hD hS hl

set_option maxHeartbeats 8000000 in
set_option maxRecDepth 100000 in
theorem k_X4_sumOfT (l : Launch) (D : va_G) (ad : Nat → Nat) (a : Nat → Nat) (k : Nat)  : z_Mi l yX4_sumOf wsX4_sumOf { frames := 0, cells := 0, slots := 0, locals := 0 } D ad [.ref (a 11), .int 2] [(a 7, .inr (8, [.ref (a 28), .ref (a 29), .ref (a 30), .int 0, .ref (a 31), .ref (a 32), .ref (a 33), .int 0, .ref (a 34), .ref (a 35), .ref (a 36), .int 2])), (a 11, .inr (4, [.ref (a 7), .int (nI k), .int 0, .int 0, .ref (a 44), .ref (a 45), .ref (a 46), .ref (a 47)]))] [] 0 0 (fun r9 u9 => r9 = 0 ∧ u9 = ([(a 7, .inr (8, [.ref (a 28), .ref (a 29), .ref (a 30), .int 0, .ref (a 31), .ref (a 32), .ref (a 33), .int 0, .ref (a 34), .ref (a 35), .ref (a 36), .int 2])), (a 11, .inr (4, [.ref (a 7), .int (nI k), .int 0, .int 0, .ref (a 44), .ref (a 45), .ref (a 46), .ref (a 47)]))], [])) := by
  refine z_ofI (cc := cX4_sumOf) (maxL := 4) (rt := .int) (by decide) rfl (Nat.le_of_ble_eq_true rfl) ?_
  intro p e s m below meth c Q A ls hx hb hml hown hts hin hK hP hD hA hE hO hS hl hret
  have hown : s.vm.findClass RX4 = some m.cls := hown
  have hiX4 : ∀ w ∈ wsX40, w ∈ wsX4_sumOf := fun _ h9 => List.mem_cons_of_mem _ (List.mem_append_left _ (List.mem_append_right _ h9))
  have hiX8 : ∀ w ∈ wsX80, w ∈ wsX4_sumOf := fun _ h9 => List.mem_cons_of_mem _ (List.mem_append_right _ h9)
  have hl : lv_has ls 4 [(0, .ref (a 11)), (1, .int 2)] := hl
  refine lv_iconst (v := 0) hx hb dX4_sumOf_0 (by decide) ?_
  refine lv_istore_n (lv' := [(2, .int 0), (0, .ref (a 11)), (1, .int 2)]) hx hb dX4_sumOf_1 rfl hl (by decide) rfl (fun ls hl => ?_)
  refine lv_iconst (v := 0) hx hb dX4_sumOf_2 (by decide) ?_
  refine lv_istore_n (lv' := [(3, .int 0), (2, .int 0), (0, .ref (a 11)), (1, .int 2)]) hx hb dX4_sumOf_3 rfl hl (by decide) rfl (fun ls hl => ?_)
  refine lv_iload_n hx hb dX4_sumOf_4 rfl (lv_at hl 0 rfl) ?_
  refine lv_aload_n hx hb dX4_sumOf_5 rfl (lv_at hl 2 rfl) ?_
  refine va_get (D := D) (ci := 4) (v := .ref (a 7)) (C := RX4) (T := TX4) (N := 8) hx hb hts hiX4 hown hK hP 1 rfl rfl 0 (by decide) (hts _ (List.mem_of_getElem? (i := 1) rfl)) (fun _ h9 => h9) rfl dX4_sumOf_6 ?_
  refine va_get (D := D) (ci := 8) (v := .int 0) (C := RX8) (T := TX8) (N := 12) hx hb hts hiX8 hown hK hP 0 rfl rfl 7 (by decide) (hts _ (List.mem_of_getElem? (i := 2) rfl)) (fun _ h9 => h9) rfl dX4_sumOf_9 ?_
  refine lv_icmp_ge (tgt := 42) hx hb dX4_sumOf_12 (by decide) (fun _ => ?_) (fun h9 => absurd (by decide) h9)
  refine lv_iload_n hx hb dX4_sumOf_42 rfl (lv_at hl 1 rfl) ?_
  refine W.widen (k := 0) (n := 0) (by decide) (by decide) ?_
  exact hret 0 ([(a 7, .inr (8, [.ref (a 28), .ref (a 29), .ref (a 30), .int 0, .ref (a 31), .ref (a 32), .ref (a 33), .int 0, .ref (a 34), .ref (a 35), .ref (a 36), .int 2])), (a 11, .inr (4, [.ref (a 7), .int (nI k), .int 0, .int 0, .ref (a 44), .ref (a 45), .ref (a 46), .ref (a 47)]))], []) _ _ _ _ dX4_sumOf_43 rfl ⟨rfl, rfl⟩ (hP.sub [0, 1] rfl) (hK.sub [] rfl) (hD.sub [0, 1] (by decide +kernel) rfl) hS

set_option maxHeartbeats 8000000 in
set_option maxRecDepth 100000 in
theorem k_X4_weptByAllT (l : Launch) (D : va_G) (ad : Nat → Nat) (a : Nat → Nat) (k : Nat)  : z_Mi l yX4_weptByAll wsX4_weptByAll { frames := 1, cells := 0, slots := 0, locals := 23 } D ad [.ref (a 11)] [(a 7, .inr (8, [.ref (a 28), .ref (a 29), .ref (a 30), .int 0, .ref (a 31), .ref (a 32), .ref (a 33), .int 0, .ref (a 34), .ref (a 35), .ref (a 36), .int 2])), (a 11, .inr (4, [.ref (a 7), .int (nI k), .int 0, .int 0, .ref (a 44), .ref (a 45), .ref (a 46), .ref (a 47)]))] [] 0 0 (fun r9 u9 => r9 = 0 ∧ u9 = ([(a 7, .inr (8, [.ref (a 28), .ref (a 29), .ref (a 30), .int 0, .ref (a 31), .ref (a 32), .ref (a 33), .int 0, .ref (a 34), .ref (a 35), .ref (a 36), .int 2])), (a 11, .inr (4, [.ref (a 7), .int (nI k), .int 0, .int 0, .ref (a 44), .ref (a 45), .ref (a 46), .ref (a 47)]))], [])) := by
  refine z_ofI (cc := cX4_weptByAll) (maxL := 1) (rt := .int) (by decide) rfl (Nat.le_of_ble_eq_true rfl) ?_
  intro p e s m below meth c Q A ls hx hb hml hown hts hin hK hP hD hA hE hO hS hl hret
  have hown : s.vm.findClass RX4 = some m.cls := hown
  have hiX4 : ∀ w ∈ wsX40, w ∈ wsX4_weptByAll := fun _ h9 => List.mem_cons_of_mem _ (List.mem_append_left _ (List.mem_append_right _ h9))
  have hiX8 : ∀ w ∈ wsX80, w ∈ wsX4_weptByAll := fun _ h9 => List.mem_cons_of_mem _ (List.mem_append_right _ h9)
  have hl : lv_has ls 1 [(0, .ref (a 11))] := hl
  refine lv_aload_n hx hb dX4_weptByAll_0 rfl (lv_at hl 0 rfl) ?_
  refine lv_iconst (v := 2) hx hb dX4_weptByAll_1 (by decide) ?_
  have hc9 := (k_X4_sumOfT l D ad a k )
  refine z_calli (w0 := [(a 7, .inr (8, [.ref (a 28), .ref (a 29), .ref (a 30), .int 0, .ref (a 31), .ref (a 32), .ref (a 33), .int 0, .ref (a 34), .ref (a 35), .ref (a 36), .int 2])), (a 11, .inr (4, [.ref (a 7), .int (nI k), .int 0, .int 0, .ref (a 44), .ref (a 45), .ref (a 46), .ref (a 47)]))]) (wr := []) (va_runV (As := [.int 2]) (rest := []) ⟨hx, hb, hml, hown, hts⟩ (hc9 _) (cwV 1 hts gX4_weptByAll_X4_sumOf rfl rfl rfl (by decide +kernel) ⟨Nat.le_of_ble_eq_true rfl, Nat.le_of_ble_eq_true rfl⟩) (z_preV hP hD hK hS hA hE hO [0, 1] [] rfl (by decide +kernel) rfl 1 4 rfl rfl rfl) rfl rfl hl.1 rfl (lv_room (Nat.le_of_ble_eq_true rfl)) dX4_weptByAll_2 ⟨Nat.le_of_ble_eq_true rfl, Nat.le_of_ble_eq_true rfl⟩) hP hD hK hS hA [0, 1] [] rfl rfl (by decide +kernel) (by decide +kernel) (fun r9 u9 H locs hw hP hD hK hS => ?_)
  obtain ⟨er9, rfl⟩ := hw
  have hP : va_P D vwCl [(a 7, .inr (8, [.ref (a 28), .ref (a 29), .ref (a 30), .int 0, .ref (a 31), .ref (a 32), .ref (a 33), .int 0, .ref (a 34), .ref (a 35), .ref (a 36), .int 2])), (a 11, .inr (4, [.ref (a 7), .int (nI k), .int 0, .int 0, .ref (a 44), .ref (a 45), .ref (a 46), .ref (a 47)]))] H := hP
  have hD : va_D A [(a 7, .inr (8, [.ref (a 28), .ref (a 29), .ref (a 30), .int 0, .ref (a 31), .ref (a 32), .ref (a 33), .int 0, .ref (a 34), .ref (a 35), .ref (a 36), .int 2])), (a 11, .inr (4, [.ref (a 7), .int (nI k), .int 0, .int 0, .ref (a 44), .ref (a 45), .ref (a 46), .ref (a 47)]))] := hD
  have hK : va_K D vwCl [] s := hK
  refine W.cs (cells' := 0) (slots' := 0) rfl rfl ?_
  obtain rfl := er9
  refine W.eq (g2 := F0 m 5 ls (.int 0 :: [])) rfl ?_
  refine W.widen (k := 0) (n := 0) (by decide) (by decide) ?_
  exact hret 0 ([(a 7, .inr (8, [.ref (a 28), .ref (a 29), .ref (a 30), .int 0, .ref (a 31), .ref (a 32), .ref (a 33), .int 0, .ref (a 34), .ref (a 35), .ref (a 36), .int 2])), (a 11, .inr (4, [.ref (a 7), .int (nI k), .int 0, .int 0, .ref (a 44), .ref (a 45), .ref (a 46), .ref (a 47)]))], []) _ _ _ _ dX4_weptByAll_5 rfl ⟨rfl, rfl⟩ (hP.sub [0, 1] rfl) (hK.sub [] rfl) (hD.sub [0, 1] (by decide +kernel) rfl) hS

set_option maxHeartbeats 8000000 in
set_option maxRecDepth 100000 in
theorem k_X4_carriedOnes (l : Launch) (D : va_G) (ad : Nat → Nat) (a : Nat → Nat)  : z_Mi l yX4_carriedOnes wsX4_carriedOnes { frames := 0, cells := 0, slots := 0, locals := 0 } D ad [.ref (a 8)] [(a 7, .inr (8, [.ref (a 28), .ref (a 29), .ref (a 30), .int 0, .ref (a 31), .ref (a 32), .ref (a 33), .int 0, .ref (a 34), .ref (a 35), .ref (a 36), .int 2])), (a 8, .inr (4, [.ref (a 7), .int 0, .int 0, .int 0, .ref (a 37), .ref (a 38), .ref (a 39), .ref (a 40)])), (a 30, .inr (2, [.ref (a 79), .int 0]))] [] 0 0 (fun r9 u9 => r9 = 0 ∧ u9 = ([(a 7, .inr (8, [.ref (a 28), .ref (a 29), .ref (a 30), .int 0, .ref (a 31), .ref (a 32), .ref (a 33), .int 0, .ref (a 34), .ref (a 35), .ref (a 36), .int 2])), (a 8, .inr (4, [.ref (a 7), .int 0, .int 0, .int 0, .ref (a 37), .ref (a 38), .ref (a 39), .ref (a 40)])), (a 30, .inr (2, [.ref (a 79), .int 0]))], [])) := by
  refine z_ofI (cc := cX4_carriedOnes) (maxL := 3) (rt := .int) (by decide) rfl (Nat.le_of_ble_eq_true rfl) ?_
  intro p e s m below meth c Q A ls hx hb hml hown hts hin hK hP hD hA hE hO hS hl hret
  have hown : s.vm.findClass RX4 = some m.cls := hown
  have hiX4 : ∀ w ∈ wsX40, w ∈ wsX4_carriedOnes := fun _ h9 => List.mem_cons_of_mem _ (List.mem_append_left _ (List.mem_append_left _ (List.mem_append_right _ h9)))
  have hiX8 : ∀ w ∈ wsX80, w ∈ wsX4_carriedOnes := fun _ h9 => List.mem_cons_of_mem _ (List.mem_append_left _ (List.mem_append_right _ h9))
  have hiX2 : ∀ w ∈ wsX20, w ∈ wsX4_carriedOnes := fun _ h9 => List.mem_cons_of_mem _ (List.mem_append_right _ h9)
  have hl : lv_has ls 3 [(0, .ref (a 8))] := hl
  refine lv_iconst (v := 0) hx hb dX4_carriedOnes_0 (by decide) ?_
  refine lv_istore_n (lv' := [(1, .int 0), (0, .ref (a 8))]) hx hb dX4_carriedOnes_1 rfl hl (by decide) rfl (fun ls hl => ?_)
  refine lv_iconst (v := 0) hx hb dX4_carriedOnes_2 (by decide) ?_
  refine lv_istore_n (lv' := [(2, .int 0), (1, .int 0), (0, .ref (a 8))]) hx hb dX4_carriedOnes_3 rfl hl (by decide) rfl (fun ls hl => ?_)
  refine lv_iload_n hx hb dX4_carriedOnes_4 rfl (lv_at hl 0 rfl) ?_
  refine lv_aload_n hx hb dX4_carriedOnes_5 rfl (lv_at hl 2 rfl) ?_
  refine va_get (D := D) (ci := 4) (v := .ref (a 7)) (C := RX4) (T := TX4) (N := 8) hx hb hts hiX4 hown hK hP 1 rfl rfl 0 (by decide) (hts _ (List.mem_of_getElem? (i := 1) rfl)) (fun _ h9 => h9) rfl dX4_carriedOnes_6 ?_
  refine va_get (D := D) (ci := 8) (v := .ref (a 30)) (C := RX8) (T := TX8) (N := 12) hx hb hts hiX8 hown hK hP 0 rfl rfl 2 (by decide) (hts _ (List.mem_of_getElem? (i := 2) rfl)) (fun _ h9 => h9) rfl dX4_carriedOnes_9 ?_
  refine va_get (D := D) (ci := 2) (v := .int 0) (C := RX2) (T := TX2) (N := 2) hx hb hts hiX2 hown hK hP 2 rfl rfl 1 (by decide) (hts _ (List.mem_of_getElem? (i := 3) rfl)) (fun _ h9 => h9) rfl dX4_carriedOnes_12 ?_
  refine lv_icmp_ge (tgt := 40) hx hb dX4_carriedOnes_15 (by decide) (fun _ => ?_) (fun h9 => absurd (by decide) h9)
  refine lv_iload_n hx hb dX4_carriedOnes_40 rfl (lv_at hl 1 rfl) ?_
  refine W.widen (k := 0) (n := 0) (by decide) (by decide) ?_
  exact hret 0 ([(a 7, .inr (8, [.ref (a 28), .ref (a 29), .ref (a 30), .int 0, .ref (a 31), .ref (a 32), .ref (a 33), .int 0, .ref (a 34), .ref (a 35), .ref (a 36), .int 2])), (a 8, .inr (4, [.ref (a 7), .int 0, .int 0, .int 0, .ref (a 37), .ref (a 38), .ref (a 39), .ref (a 40)])), (a 30, .inr (2, [.ref (a 79), .int 0]))], []) _ _ _ _ dX4_carriedOnes_41 rfl ⟨rfl, rfl⟩ (hP.sub [0, 1, 2] rfl) (hK.sub [] rfl) (hD.sub [0, 1, 2] (by decide +kernel) rfl) hS

set_option maxHeartbeats 8000000 in
set_option maxRecDepth 100000 in
theorem k_X4_meantOnes (l : Launch) (D : va_G) (ad : Nat → Nat) (a : Nat → Nat)  : z_Mi l yX4_meantOnes wsX4_meantOnes { frames := 0, cells := 0, slots := 0, locals := 0 } D ad [.ref (a 8)] [(a 7, .inr (8, [.ref (a 28), .ref (a 29), .ref (a 30), .int 0, .ref (a 31), .ref (a 32), .ref (a 33), .int 0, .ref (a 34), .ref (a 35), .ref (a 36), .int 2])), (a 8, .inr (4, [.ref (a 7), .int 0, .int 0, .int 0, .ref (a 37), .ref (a 38), .ref (a 39), .ref (a 40)])), (a 29, .inr (2, [.ref (a 78), .int 0]))] [] 0 0 (fun r9 u9 => r9 = 0 ∧ u9 = ([(a 7, .inr (8, [.ref (a 28), .ref (a 29), .ref (a 30), .int 0, .ref (a 31), .ref (a 32), .ref (a 33), .int 0, .ref (a 34), .ref (a 35), .ref (a 36), .int 2])), (a 8, .inr (4, [.ref (a 7), .int 0, .int 0, .int 0, .ref (a 37), .ref (a 38), .ref (a 39), .ref (a 40)])), (a 29, .inr (2, [.ref (a 78), .int 0]))], [])) := by
  refine z_ofI (cc := cX4_meantOnes) (maxL := 3) (rt := .int) (by decide) rfl (Nat.le_of_ble_eq_true rfl) ?_
  intro p e s m below meth c Q A ls hx hb hml hown hts hin hK hP hD hA hE hO hS hl hret
  have hown : s.vm.findClass RX4 = some m.cls := hown
  have hiX4 : ∀ w ∈ wsX40, w ∈ wsX4_meantOnes := fun _ h9 => List.mem_cons_of_mem _ (List.mem_append_left _ (List.mem_append_left _ (List.mem_append_right _ h9)))
  have hiX8 : ∀ w ∈ wsX80, w ∈ wsX4_meantOnes := fun _ h9 => List.mem_cons_of_mem _ (List.mem_append_left _ (List.mem_append_right _ h9))
  have hiX2 : ∀ w ∈ wsX20, w ∈ wsX4_meantOnes := fun _ h9 => List.mem_cons_of_mem _ (List.mem_append_right _ h9)
  have hl : lv_has ls 3 [(0, .ref (a 8))] := hl
  refine lv_iconst (v := 0) hx hb dX4_meantOnes_0 (by decide) ?_
  refine lv_istore_n (lv' := [(1, .int 0), (0, .ref (a 8))]) hx hb dX4_meantOnes_1 rfl hl (by decide) rfl (fun ls hl => ?_)
  refine lv_iconst (v := 0) hx hb dX4_meantOnes_2 (by decide) ?_
  refine lv_istore_n (lv' := [(2, .int 0), (1, .int 0), (0, .ref (a 8))]) hx hb dX4_meantOnes_3 rfl hl (by decide) rfl (fun ls hl => ?_)
  refine lv_iload_n hx hb dX4_meantOnes_4 rfl (lv_at hl 0 rfl) ?_
  refine lv_aload_n hx hb dX4_meantOnes_5 rfl (lv_at hl 2 rfl) ?_
  refine va_get (D := D) (ci := 4) (v := .ref (a 7)) (C := RX4) (T := TX4) (N := 8) hx hb hts hiX4 hown hK hP 1 rfl rfl 0 (by decide) (hts _ (List.mem_of_getElem? (i := 1) rfl)) (fun _ h9 => h9) rfl dX4_meantOnes_6 ?_
  refine va_get (D := D) (ci := 8) (v := .ref (a 29)) (C := RX8) (T := TX8) (N := 12) hx hb hts hiX8 hown hK hP 0 rfl rfl 1 (by decide) (hts _ (List.mem_of_getElem? (i := 2) rfl)) (fun _ h9 => h9) rfl dX4_meantOnes_9 ?_
  refine va_get (D := D) (ci := 2) (v := .int 0) (C := RX2) (T := TX2) (N := 2) hx hb hts hiX2 hown hK hP 2 rfl rfl 1 (by decide) (hts _ (List.mem_of_getElem? (i := 3) rfl)) (fun _ h9 => h9) rfl dX4_meantOnes_12 ?_
  refine lv_icmp_ge (tgt := 38) hx hb dX4_meantOnes_15 (by decide) (fun _ => ?_) (fun h9 => absurd (by decide) h9)
  refine lv_iload_n hx hb dX4_meantOnes_38 rfl (lv_at hl 1 rfl) ?_
  refine W.widen (k := 0) (n := 0) (by decide) (by decide) ?_
  exact hret 0 ([(a 7, .inr (8, [.ref (a 28), .ref (a 29), .ref (a 30), .int 0, .ref (a 31), .ref (a 32), .ref (a 33), .int 0, .ref (a 34), .ref (a 35), .ref (a 36), .int 2])), (a 8, .inr (4, [.ref (a 7), .int 0, .int 0, .int 0, .ref (a 37), .ref (a 38), .ref (a 39), .ref (a 40)])), (a 29, .inr (2, [.ref (a 78), .int 0]))], []) _ _ _ _ dX4_meantOnes_39 rfl ⟨rfl, rfl⟩ (hP.sub [0, 1, 2] rfl) (hK.sub [] rfl) (hD.sub [0, 1, 2] (by decide +kernel) rfl) hS

set_option maxHeartbeats 8000000 in
set_option maxRecDepth 100000 in
theorem k_X4_fated0 (l : Launch) (D : va_G) (ad : Nat → Nat) (a : Nat → Nat)  : z_Mi l yX4_fated wsX4_fated { frames := 0, cells := 0, slots := 0, locals := 0 } D ad [.ref (a 8), .int 0] [(a 7, .inr (8, [.ref (a 28), .ref (a 29), .ref (a 30), .int 0, .ref (a 31), .ref (a 32), .ref (a 33), .int 0, .ref (a 34), .ref (a 35), .ref (a 36), .int 2])), (a 8, .inr (4, [.ref (a 7), .int 0, .int 0, .int 0, .ref (a 37), .ref (a 38), .ref (a 39), .ref (a 40)]))] [] 0 0 (fun r9 u9 => r9 = 0 ∧ u9 = ([(a 7, .inr (8, [.ref (a 28), .ref (a 29), .ref (a 30), .int 0, .ref (a 31), .ref (a 32), .ref (a 33), .int 0, .ref (a 34), .ref (a 35), .ref (a 36), .int 2])), (a 8, .inr (4, [.ref (a 7), .int 0, .int 0, .int 0, .ref (a 37), .ref (a 38), .ref (a 39), .ref (a 40)]))], [])) := by
  refine z_ofI (cc := cX4_fated) (maxL := 4) (rt := .int) (by decide) rfl (Nat.le_of_ble_eq_true rfl) ?_
  intro p e s m below meth c Q A ls hx hb hml hown hts hin hK hP hD hA hE hO hS hl hret
  have hown : s.vm.findClass RX4 = some m.cls := hown
  have hiX4 : ∀ w ∈ wsX40, w ∈ wsX4_fated := fun _ h9 => List.mem_cons_of_mem _ (List.mem_append_left _ (List.mem_append_right _ h9))
  have hiX8 : ∀ w ∈ wsX80, w ∈ wsX4_fated := fun _ h9 => List.mem_cons_of_mem _ (List.mem_append_right _ h9)
  have hl : lv_has ls 4 [(0, .ref (a 8)), (1, .int 0)] := hl
  refine lv_iconst (v := 0) hx hb dX4_fated_0 (by decide) ?_
  refine lv_istore_n (lv' := [(2, .int 0), (0, .ref (a 8)), (1, .int 0)]) hx hb dX4_fated_1 rfl hl (by decide) rfl (fun ls hl => ?_)
  refine lv_iconst (v := 0) hx hb dX4_fated_2 (by decide) ?_
  refine lv_istore_n (lv' := [(3, .int 0), (2, .int 0), (0, .ref (a 8)), (1, .int 0)]) hx hb dX4_fated_3 rfl hl (by decide) rfl (fun ls hl => ?_)
  refine lv_iload_n hx hb dX4_fated_4 rfl (lv_at hl 0 rfl) ?_
  refine lv_aload_n hx hb dX4_fated_5 rfl (lv_at hl 2 rfl) ?_
  refine va_get (D := D) (ci := 4) (v := .ref (a 7)) (C := RX4) (T := TX4) (N := 8) hx hb hts hiX4 hown hK hP 1 rfl rfl 0 (by decide) (hts _ (List.mem_of_getElem? (i := 1) rfl)) (fun _ h9 => h9) rfl dX4_fated_6 ?_
  refine va_get (D := D) (ci := 8) (v := .int 0) (C := RX8) (T := TX8) (N := 12) hx hb hts hiX8 hown hK hP 0 rfl rfl 7 (by decide) (hts _ (List.mem_of_getElem? (i := 2) rfl)) (fun _ h9 => h9) rfl dX4_fated_9 ?_
  refine lv_icmp_ge (tgt := 33) hx hb dX4_fated_12 (by decide) (fun _ => ?_) (fun h9 => absurd (by decide) h9)
  refine lv_iload_n hx hb dX4_fated_33 rfl (lv_at hl 1 rfl) ?_
  refine W.widen (k := 0) (n := 0) (by decide) (by decide) ?_
  exact hret 0 ([(a 7, .inr (8, [.ref (a 28), .ref (a 29), .ref (a 30), .int 0, .ref (a 31), .ref (a 32), .ref (a 33), .int 0, .ref (a 34), .ref (a 35), .ref (a 36), .int 2])), (a 8, .inr (4, [.ref (a 7), .int 0, .int 0, .int 0, .ref (a 37), .ref (a 38), .ref (a 39), .ref (a 40)]))], []) _ _ _ _ dX4_fated_34 rfl ⟨rfl, rfl⟩ (hP.sub [0, 1] rfl) (hK.sub [] rfl) (hD.sub [0, 1] (by decide +kernel) rfl) hS

set_option maxHeartbeats 8000000 in
set_option maxRecDepth 100000 in
theorem k_X4_fated1 (l : Launch) (D : va_G) (ad : Nat → Nat) (a : Nat → Nat)  : z_Mi l yX4_fated wsX4_fated { frames := 0, cells := 0, slots := 0, locals := 0 } D ad [.ref (a 8), .int 1] [(a 7, .inr (8, [.ref (a 28), .ref (a 29), .ref (a 30), .int 0, .ref (a 31), .ref (a 32), .ref (a 33), .int 0, .ref (a 34), .ref (a 35), .ref (a 36), .int 2])), (a 8, .inr (4, [.ref (a 7), .int 0, .int 0, .int 0, .ref (a 37), .ref (a 38), .ref (a 39), .ref (a 40)]))] [] 0 0 (fun r9 u9 => r9 = 0 ∧ u9 = ([(a 7, .inr (8, [.ref (a 28), .ref (a 29), .ref (a 30), .int 0, .ref (a 31), .ref (a 32), .ref (a 33), .int 0, .ref (a 34), .ref (a 35), .ref (a 36), .int 2])), (a 8, .inr (4, [.ref (a 7), .int 0, .int 0, .int 0, .ref (a 37), .ref (a 38), .ref (a 39), .ref (a 40)]))], [])) := by
  refine z_ofI (cc := cX4_fated) (maxL := 4) (rt := .int) (by decide) rfl (Nat.le_of_ble_eq_true rfl) ?_
  intro p e s m below meth c Q A ls hx hb hml hown hts hin hK hP hD hA hE hO hS hl hret
  have hown : s.vm.findClass RX4 = some m.cls := hown
  have hiX4 : ∀ w ∈ wsX40, w ∈ wsX4_fated := fun _ h9 => List.mem_cons_of_mem _ (List.mem_append_left _ (List.mem_append_right _ h9))
  have hiX8 : ∀ w ∈ wsX80, w ∈ wsX4_fated := fun _ h9 => List.mem_cons_of_mem _ (List.mem_append_right _ h9)
  have hl : lv_has ls 4 [(0, .ref (a 8)), (1, .int 1)] := hl
  refine lv_iconst (v := 0) hx hb dX4_fated_0 (by decide) ?_
  refine lv_istore_n (lv' := [(2, .int 0), (0, .ref (a 8)), (1, .int 1)]) hx hb dX4_fated_1 rfl hl (by decide) rfl (fun ls hl => ?_)
  refine lv_iconst (v := 0) hx hb dX4_fated_2 (by decide) ?_
  refine lv_istore_n (lv' := [(3, .int 0), (2, .int 0), (0, .ref (a 8)), (1, .int 1)]) hx hb dX4_fated_3 rfl hl (by decide) rfl (fun ls hl => ?_)
  refine lv_iload_n hx hb dX4_fated_4 rfl (lv_at hl 0 rfl) ?_
  refine lv_aload_n hx hb dX4_fated_5 rfl (lv_at hl 2 rfl) ?_
  refine va_get (D := D) (ci := 4) (v := .ref (a 7)) (C := RX4) (T := TX4) (N := 8) hx hb hts hiX4 hown hK hP 1 rfl rfl 0 (by decide) (hts _ (List.mem_of_getElem? (i := 1) rfl)) (fun _ h9 => h9) rfl dX4_fated_6 ?_
  refine va_get (D := D) (ci := 8) (v := .int 0) (C := RX8) (T := TX8) (N := 12) hx hb hts hiX8 hown hK hP 0 rfl rfl 7 (by decide) (hts _ (List.mem_of_getElem? (i := 2) rfl)) (fun _ h9 => h9) rfl dX4_fated_9 ?_
  refine lv_icmp_ge (tgt := 33) hx hb dX4_fated_12 (by decide) (fun _ => ?_) (fun h9 => absurd (by decide) h9)
  refine lv_iload_n hx hb dX4_fated_33 rfl (lv_at hl 1 rfl) ?_
  refine W.widen (k := 0) (n := 0) (by decide) (by decide) ?_
  exact hret 0 ([(a 7, .inr (8, [.ref (a 28), .ref (a 29), .ref (a 30), .int 0, .ref (a 31), .ref (a 32), .ref (a 33), .int 0, .ref (a 34), .ref (a 35), .ref (a 36), .int 2])), (a 8, .inr (4, [.ref (a 7), .int 0, .int 0, .int 0, .ref (a 37), .ref (a 38), .ref (a 39), .ref (a 40)]))], []) _ _ _ _ dX4_fated_34 rfl ⟨rfl, rfl⟩ (hP.sub [0, 1] rfl) (hK.sub [] rfl) (hD.sub [0, 1] (by decide +kernel) rfl) hS
