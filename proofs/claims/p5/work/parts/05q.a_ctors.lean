theorem dX2_init_0 : decode cX2_init 0 = .ok (.aload_n 0, 1) := by decide +kernel
theorem dX2_init_1 : decode cX2_init 1 = .ok (.invokespecial 3, 3) := by decide +kernel
theorem dX2_init_4 : decode cX2_init 4 = .ok (.aload_n 0, 1) := by decide +kernel
theorem dX2_init_5 : decode cX2_init 5 = .ok (.iload_n 1, 1) := by decide +kernel
theorem dX2_init_6 : decode cX2_init 6 = .ok (.ifCond .ge 7, 3) := by decide +kernel
theorem dX2_init_13 : decode cX2_init 13 = .ok (.iload_n 1, 1) := by decide +kernel
theorem dX2_init_14 : decode cX2_init 14 = .ok (.newarray .long, 2) := by decide +kernel
theorem dX2_init_16 : decode cX2_init 16 = .ok (.putfield 9, 3) := by decide +kernel
theorem dX2_init_19 : decode cX2_init 19 = .ok (.return_, 1) := by decide +kernel
theorem dX4_init_0 : decode cX4_init 0 = .ok (.aload_n 0, 1) := by decide +kernel
theorem dX4_init_1 : decode cX4_init 1 = .ok (.invokespecial 3, 3) := by decide +kernel
theorem dX4_init_4 : decode cX4_init 4 = .ok (.aload_n 0, 1) := by decide +kernel
theorem dX4_init_5 : decode cX4_init 5 = .ok (.bipush 7, 2) := by decide +kernel
theorem dX4_init_7 : decode cX4_init 7 = .ok (.newarray .int, 2) := by decide +kernel
theorem dX4_init_9 : decode cX4_init 9 = .ok (.putfield 9, 3) := by decide +kernel
theorem dX4_init_12 : decode cX4_init 12 = .ok (.aload_n 0, 1) := by decide +kernel
theorem dX4_init_13 : decode cX4_init 13 = .ok (.bipush 6, 2) := by decide +kernel
theorem dX4_init_15 : decode cX4_init 15 = .ok (.newarray .int, 2) := by decide +kernel
theorem dX4_init_17 : decode cX4_init 17 = .ok (.putfield 15, 3) := by decide +kernel
theorem dX4_init_20 : decode cX4_init 20 = .ok (.aload_n 0, 1) := by decide +kernel
theorem dX4_init_21 : decode cX4_init 21 = .ok (.bipush 6, 2) := by decide +kernel
theorem dX4_init_23 : decode cX4_init 23 = .ok (.newarray .int, 2) := by decide +kernel
theorem dX4_init_25 : decode cX4_init 25 = .ok (.putfield 18, 3) := by decide +kernel
theorem dX4_init_28 : decode cX4_init 28 = .ok (.aload_n 0, 1) := by decide +kernel
theorem dX4_init_29 : decode cX4_init 29 = .ok (.bipush 6, 2) := by decide +kernel
theorem dX4_init_31 : decode cX4_init 31 = .ok (.newarray .int, 2) := by decide +kernel
theorem dX4_init_33 : decode cX4_init 33 = .ok (.putfield 21, 3) := by decide +kernel
theorem dX4_init_36 : decode cX4_init 36 = .ok (.aload_n 0, 1) := by decide +kernel
theorem dX4_init_37 : decode cX4_init 37 = .ok (.aload_n 1, 1) := by decide +kernel
theorem dX4_init_38 : decode cX4_init 38 = .ok (.putfield 24, 3) := by decide +kernel
theorem dX4_init_41 : decode cX4_init 41 = .ok (.return_, 1) := by decide +kernel
theorem dX5_init_0 : decode cX5_init 0 = .ok (.aload_n 0, 1) := by decide +kernel
theorem dX5_init_1 : decode cX5_init 1 = .ok (.invokespecial 5, 3) := by decide +kernel
theorem dX5_init_4 : decode cX5_init 4 = .ok (.aload_n 0, 1) := by decide +kernel
theorem dX5_init_5 : decode cX5_init 5 = .ok (.bipush 40, 2) := by decide +kernel
theorem dX5_init_7 : decode cX5_init 7 = .ok (.anewarray 11, 3) := by decide +kernel
theorem dX5_init_10 : decode cX5_init 10 = .ok (.putfield 13, 3) := by decide +kernel
theorem dX5_init_13 : decode cX5_init 13 = .ok (.aload_n 0, 1) := by decide +kernel
theorem dX5_init_14 : decode cX5_init 14 = .ok (.bipush 40, 2) := by decide +kernel
theorem dX5_init_16 : decode cX5_init 16 = .ok (.newarray .int, 2) := by decide +kernel
theorem dX5_init_18 : decode cX5_init 18 = .ok (.putfield 17, 3) := by decide +kernel
theorem dX5_init_21 : decode cX5_init 21 = .ok (.aload_n 0, 1) := by decide +kernel
theorem dX5_init_22 : decode cX5_init 22 = .ok (.bipush 40, 2) := by decide +kernel
theorem dX5_init_24 : decode cX5_init 24 = .ok (.newarray .int, 2) := by decide +kernel
theorem dX5_init_26 : decode cX5_init 26 = .ok (.putfield 21, 3) := by decide +kernel
theorem dX5_init_29 : decode cX5_init 29 = .ok (.aload_n 0, 1) := by decide +kernel
theorem dX5_init_30 : decode cX5_init 30 = .ok (.bipush 40, 2) := by decide +kernel
theorem dX5_init_32 : decode cX5_init 32 = .ok (.newarray .int, 2) := by decide +kernel
theorem dX5_init_34 : decode cX5_init 34 = .ok (.putfield 24, 3) := by decide +kernel
theorem dX5_init_37 : decode cX5_init 37 = .ok (.aload_n 0, 1) := by decide +kernel
theorem dX5_init_38 : decode cX5_init 38 = .ok (.bipush 40, 2) := by decide +kernel
theorem dX5_init_40 : decode cX5_init 40 = .ok (.anewarray 11, 3) := by decide +kernel
theorem dX5_init_43 : decode cX5_init 43 = .ok (.putfield 27, 3) := by decide +kernel
theorem dX5_init_46 : decode cX5_init 46 = .ok (.return_, 1) := by decide +kernel
theorem dX6_init_0 : decode cX6_init 0 = .ok (.aload_n 0, 1) := by decide +kernel
theorem dX6_init_1 : decode cX6_init 1 = .ok (.invokespecial 3, 3) := by decide +kernel
theorem dX6_init_4 : decode cX6_init 4 = .ok (.aload_n 0, 1) := by decide +kernel
theorem dX6_init_5 : decode cX6_init 5 = .ok (.iload_n 1, 1) := by decide +kernel
theorem dX6_init_6 : decode cX6_init 6 = .ok (.ifCond .ge 7, 3) := by decide +kernel
theorem dX6_init_13 : decode cX6_init 13 = .ok (.iload_n 1, 1) := by decide +kernel
theorem dX6_init_14 : decode cX6_init 14 = .ok (.newarray .byte, 2) := by decide +kernel
theorem dX6_init_16 : decode cX6_init 16 = .ok (.putfield 9, 3) := by decide +kernel
theorem dX6_init_19 : decode cX6_init 19 = .ok (.return_, 1) := by decide +kernel
theorem dX7_init_0 : decode cX7_init 0 = .ok (.aload_n 0, 1) := by decide +kernel
theorem dX7_init_1 : decode cX7_init 1 = .ok (.invokespecial 3, 3) := by decide +kernel
theorem dX7_init_4 : decode cX7_init 4 = .ok (.aload_n 0, 1) := by decide +kernel
theorem dX7_init_5 : decode cX7_init 5 = .ok (.getstatic 9, 3) := by decide +kernel
theorem dX7_init_8 : decode cX7_init 8 = .ok (.putfield 15, 3) := by decide +kernel
theorem dX7_init_11 : decode cX7_init 11 = .ok (.aload_n 0, 1) := by decide +kernel
theorem dX7_init_12 : decode cX7_init 12 = .ok (.aload_n 1, 1) := by decide +kernel
theorem dX7_init_13 : decode cX7_init 13 = .ok (.putfield 20, 3) := by decide +kernel
theorem dX7_init_16 : decode cX7_init 16 = .ok (.return_, 1) := by decide +kernel
theorem dX8_init_0 : decode cX8_init 0 = .ok (.aload_n 0, 1) := by decide +kernel
theorem dX8_init_1 : decode cX8_init 1 = .ok (.invokespecial 3, 3) := by decide +kernel
theorem dX8_init_4 : decode cX8_init 4 = .ok (.aload_n 0, 1) := by decide +kernel
theorem dX8_init_5 : decode cX8_init 5 = .ok (.new 9, 3) := by decide +kernel
theorem dX8_init_8 : decode cX8_init 8 = .ok (.dup, 1) := by decide +kernel
theorem dX8_init_9 : decode cX8_init 9 = .ok (.iconst 5, 1) := by decide +kernel
theorem dX8_init_10 : decode cX8_init 10 = .ok (.invokespecial 11, 3) := by decide +kernel
theorem dX8_init_13 : decode cX8_init 13 = .ok (.putfield 14, 3) := by decide +kernel
theorem dX8_init_16 : decode cX8_init 16 = .ok (.aload_n 0, 1) := by decide +kernel
theorem dX8_init_17 : decode cX8_init 17 = .ok (.new 9, 3) := by decide +kernel
theorem dX8_init_20 : decode cX8_init 20 = .ok (.dup, 1) := by decide +kernel
theorem dX8_init_21 : decode cX8_init 21 = .ok (.bipush 7, 2) := by decide +kernel
theorem dX8_init_23 : decode cX8_init 23 = .ok (.invokespecial 11, 3) := by decide +kernel
theorem dX8_init_26 : decode cX8_init 26 = .ok (.putfield 20, 3) := by decide +kernel
theorem dX8_init_29 : decode cX8_init 29 = .ok (.aload_n 0, 1) := by decide +kernel
theorem dX8_init_30 : decode cX8_init 30 = .ok (.new 9, 3) := by decide +kernel
theorem dX8_init_33 : decode cX8_init 33 = .ok (.dup, 1) := by decide +kernel
theorem dX8_init_34 : decode cX8_init 34 = .ok (.bipush 6, 2) := by decide +kernel
theorem dX8_init_36 : decode cX8_init 36 = .ok (.invokespecial 11, 3) := by decide +kernel
theorem dX8_init_39 : decode cX8_init 39 = .ok (.putfield 23, 3) := by decide +kernel
theorem dX8_init_42 : decode cX8_init 42 = .ok (.aload_n 0, 1) := by decide +kernel
theorem dX8_init_43 : decode cX8_init 43 = .ok (.bipush 7, 2) := by decide +kernel
theorem dX8_init_45 : decode cX8_init 45 = .ok (.newarray .int, 2) := by decide +kernel
theorem dX8_init_47 : decode cX8_init 47 = .ok (.putfield 26, 3) := by decide +kernel
theorem dX8_init_50 : decode cX8_init 50 = .ok (.aload_n 0, 1) := by decide +kernel
theorem dX8_init_51 : decode cX8_init 51 = .ok (.bipush 6, 2) := by decide +kernel
theorem dX8_init_53 : decode cX8_init 53 = .ok (.newarray .int, 2) := by decide +kernel
theorem dX8_init_55 : decode cX8_init 55 = .ok (.putfield 30, 3) := by decide +kernel
theorem dX8_init_58 : decode cX8_init 58 = .ok (.aload_n 0, 1) := by decide +kernel
theorem dX8_init_59 : decode cX8_init 59 = .ok (.bipush 6, 2) := by decide +kernel
theorem dX8_init_61 : decode cX8_init 61 = .ok (.newarray .int, 2) := by decide +kernel
theorem dX8_init_63 : decode cX8_init 63 = .ok (.putfield 33, 3) := by decide +kernel
theorem dX8_init_66 : decode cX8_init 66 = .ok (.aload_n 0, 1) := by decide +kernel
theorem dX8_init_67 : decode cX8_init 67 = .ok (.bipush 14, 2) := by decide +kernel
theorem dX8_init_69 : decode cX8_init 69 = .ok (.newarray .int, 2) := by decide +kernel
theorem dX8_init_71 : decode cX8_init 71 = .ok (.putfield 36, 3) := by decide +kernel
theorem dX8_init_74 : decode cX8_init 74 = .ok (.aload_n 0, 1) := by decide +kernel
theorem dX8_init_75 : decode cX8_init 75 = .ok (.bipush 14, 2) := by decide +kernel
theorem dX8_init_77 : decode cX8_init 77 = .ok (.newarray .int, 2) := by decide +kernel
theorem dX8_init_79 : decode cX8_init 79 = .ok (.putfield 39, 3) := by decide +kernel
theorem dX8_init_82 : decode cX8_init 82 = .ok (.aload_n 0, 1) := by decide +kernel
theorem dX8_init_83 : decode cX8_init 83 = .ok (.bipush 14, 2) := by decide +kernel
theorem dX8_init_85 : decode cX8_init 85 = .ok (.newarray .int, 2) := by decide +kernel
theorem dX8_init_87 : decode cX8_init 87 = .ok (.putfield 42, 3) := by decide +kernel
theorem dX8_init_90 : decode cX8_init 90 = .ok (.aload_n 0, 1) := by decide +kernel
theorem dX8_init_91 : decode cX8_init 91 = .ok (.iconst 2, 1) := by decide +kernel
theorem dX8_init_92 : decode cX8_init 92 = .ok (.putfield 45, 3) := by decide +kernel
theorem dX8_init_95 : decode cX8_init 95 = .ok (.return_, 1) := by decide +kernel
set_option maxRecDepth 20000 in
theorem ggX8_init_X2_init : GoodIn wsX8_init wsX2_init := goodIn_r _ [20, 21, 2, 3, 22, 23, 24, 25] rfl (by decide +kernel)
set_option maxRecDepth 20000 in
theorem gX8_init_X2_init : GoodIn wsX8_init (wsX2_init) := ggX8_init_X2_init
set_option maxHeartbeats 8000000 in
set_option maxRecDepth 100000 in
theorem k_X6_init940 (l : Launch) (D : va_G) (ad : Nat → Nat) (h0 : Nat)  : z_Mv l yX6_init wsX6_init { frames := 1, cells := 1, slots := 940, locals := 20 } D ad [.ref h0, .int 940] [(h0, .inr (6, [.null, .int 0]))] [] 1 940 (fun u9 => ∃ (q_1 : Nat) (t_2 : ClassId), u9 = ([(h0, .inr (6, [.ref q_1, .int 0])), (q_1, .inl (t_2, 940, .inl (fun _ => 0)))], [(t_2, .byte)])) := by
  refine z_ofV (cc := cX6_init) (maxL := 2) (by decide) rfl (Nat.le_of_ble_eq_true rfl) ?_
  intro p e s m below meth c Q A ls hx hb hml hown hts hin hK hP hD hA hE hO hS hl hret
  have hown : s.vm.findClass RX6 = some m.cls := hown
  have hin : meth.name = "<init>" := hin
  have hiX6 : ∀ w ∈ wsX60, w ∈ wsX6_init := fun _ h9 => List.mem_cons_of_mem _ (List.mem_append_right _ h9)
  have hl : lv_has ls 2 [(0, .ref h0), (1, .int 940)] := hl
  refine lv_aload_n hx hb dX6_init_0 rfl (lv_at hl 0 rfl) ?_
  refine W.objInit hx hb hown (hts _ (List.mem_of_getElem? (i := 1) rfl)) (hts _ (List.mem_of_getElem? (i := 2) rfl)) (hts _ (List.mem_of_getElem? (i := 3) rfl)) rfl (by rw [hml]; exact hl.1) rfl dX6_init_1 (Nat.le_of_ble_eq_true rfl) (Nat.le_of_ble_eq_true rfl) ?_
  refine W.eq (g2 := F0 m 4 ls []) rfl ?_
  refine lv_aload_n hx hb dX6_init_4 rfl (lv_at hl 0 rfl) ?_
  refine lv_iload_n hx hb dX6_init_5 rfl (lv_at hl 1 rfl) ?_
  refine lv_if_ge (tgt := 13) hx hb dX6_init_6 (by decide) (fun _ => ?_) (fun h9 => absurd (by decide) h9)
  refine lv_iload_n hx hb dX6_init_13 rfl (lv_at hl 1 rfl) ?_
  refine va_newa (a0 := (940, .inl (fun _ => 0))) (ty := .byte) (N' := 940) hx hb (hts _ (List.mem_of_getElem? (i := 4) rfl)) rfl hK hP hD hS hA (fun _ => rfl) (by decide) (by decide) (by decide) (Nat.le_of_ble_eq_true rfl) (Nat.le_of_ble_eq_true rfl) dX6_init_14 (fun q_1 t_2 H hK hP hD hS => ?_)
  have hP : va_P D vwCl [(h0, .inr (6, [.null, .int 0])), (q_1, .inl (t_2, 940, .inl (fun _ => 0)))] H := hP
  have hD : va_D A [(h0, .inr (6, [.null, .int 0])), (q_1, .inl (t_2, 940, .inl (fun _ => 0)))] := hD
  have hK : va_K D vwCl [(t_2, .byte)] s := hK
  refine W.cs (cells' := 1) (slots' := 940) rfl rfl ?_
  refine va_putF (D := D) (ci := 6) (v := .ref q_1) (ty := tyX6 0) (C := RX6) (T := TX6) (N := 2) hx hb hts hiX6 tyX6 tyX6_ok nmX6 hown hK hP hD hS 0 rfl rfl 0 (by decide) (hts _ (List.mem_of_getElem? (i := 5) rfl)) (fun _ h9 => h9) rfl hin rfl (tyX6_ok 0 (by decide)) rfl rfl (Nat.le_of_ble_eq_true rfl) dX6_init_16 (fun H locs hP hD hS => ?_)
  have hP : va_P D vwCl [(h0, .inr (6, [.ref q_1, .int 0])), (q_1, .inl (t_2, 940, .inl (fun _ => 0)))] H := hP
  have hD : va_D A [(h0, .inr (6, [.ref q_1, .int 0])), (q_1, .inl (t_2, 940, .inl (fun _ => 0)))] := hD
  refine W.widen (k := 1) (n := 940) (by decide) (by decide) ?_
  exact hret ([(h0, .inr (6, [.ref q_1, .int 0])), (q_1, .inl (t_2, 940, .inl (fun _ => 0)))], [(t_2, .byte)]) _ _ _ _ dX6_init_19 ⟨q_1, t_2, rfl⟩ (hP.sub [0, 1] rfl) (hK.sub [0] rfl) (hD.sub [0, 1] (by decide +kernel) rfl) hS

set_option maxHeartbeats 8000000 in
set_option maxRecDepth 100000 in
theorem k_X6_init28 (l : Launch) (D : va_G) (ad : Nat → Nat) (h0 : Nat)  : z_Mv l yX6_init wsX6_init { frames := 1, cells := 1, slots := 28, locals := 20 } D ad [.ref h0, .int 28] [(h0, .inr (6, [.null, .int 0]))] [] 1 28 (fun u9 => ∃ (q_1 : Nat) (t_2 : ClassId), u9 = ([(h0, .inr (6, [.ref q_1, .int 0])), (q_1, .inl (t_2, 28, .inl (fun _ => 0)))], [(t_2, .byte)])) := by
  refine z_ofV (cc := cX6_init) (maxL := 2) (by decide) rfl (Nat.le_of_ble_eq_true rfl) ?_
  intro p e s m below meth c Q A ls hx hb hml hown hts hin hK hP hD hA hE hO hS hl hret
  have hown : s.vm.findClass RX6 = some m.cls := hown
  have hin : meth.name = "<init>" := hin
  have hiX6 : ∀ w ∈ wsX60, w ∈ wsX6_init := fun _ h9 => List.mem_cons_of_mem _ (List.mem_append_right _ h9)
  have hl : lv_has ls 2 [(0, .ref h0), (1, .int 28)] := hl
  refine lv_aload_n hx hb dX6_init_0 rfl (lv_at hl 0 rfl) ?_
  refine W.objInit hx hb hown (hts _ (List.mem_of_getElem? (i := 1) rfl)) (hts _ (List.mem_of_getElem? (i := 2) rfl)) (hts _ (List.mem_of_getElem? (i := 3) rfl)) rfl (by rw [hml]; exact hl.1) rfl dX6_init_1 (Nat.le_of_ble_eq_true rfl) (Nat.le_of_ble_eq_true rfl) ?_
  refine W.eq (g2 := F0 m 4 ls []) rfl ?_
  refine lv_aload_n hx hb dX6_init_4 rfl (lv_at hl 0 rfl) ?_
  refine lv_iload_n hx hb dX6_init_5 rfl (lv_at hl 1 rfl) ?_
  refine lv_if_ge (tgt := 13) hx hb dX6_init_6 (by decide) (fun _ => ?_) (fun h9 => absurd (by decide) h9)
  refine lv_iload_n hx hb dX6_init_13 rfl (lv_at hl 1 rfl) ?_
  refine va_newa (a0 := (28, .inl (fun _ => 0))) (ty := .byte) (N' := 28) hx hb (hts _ (List.mem_of_getElem? (i := 4) rfl)) rfl hK hP hD hS hA (fun _ => rfl) (by decide) (by decide) (by decide) (Nat.le_of_ble_eq_true rfl) (Nat.le_of_ble_eq_true rfl) dX6_init_14 (fun q_1 t_2 H hK hP hD hS => ?_)
  have hP : va_P D vwCl [(h0, .inr (6, [.null, .int 0])), (q_1, .inl (t_2, 28, .inl (fun _ => 0)))] H := hP
  have hD : va_D A [(h0, .inr (6, [.null, .int 0])), (q_1, .inl (t_2, 28, .inl (fun _ => 0)))] := hD
  have hK : va_K D vwCl [(t_2, .byte)] s := hK
  refine W.cs (cells' := 1) (slots' := 28) rfl rfl ?_
  refine va_putF (D := D) (ci := 6) (v := .ref q_1) (ty := tyX6 0) (C := RX6) (T := TX6) (N := 2) hx hb hts hiX6 tyX6 tyX6_ok nmX6 hown hK hP hD hS 0 rfl rfl 0 (by decide) (hts _ (List.mem_of_getElem? (i := 5) rfl)) (fun _ h9 => h9) rfl hin rfl (tyX6_ok 0 (by decide)) rfl rfl (Nat.le_of_ble_eq_true rfl) dX6_init_16 (fun H locs hP hD hS => ?_)
  have hP : va_P D vwCl [(h0, .inr (6, [.ref q_1, .int 0])), (q_1, .inl (t_2, 28, .inl (fun _ => 0)))] H := hP
  have hD : va_D A [(h0, .inr (6, [.ref q_1, .int 0])), (q_1, .inl (t_2, 28, .inl (fun _ => 0)))] := hD
  refine W.widen (k := 1) (n := 28) (by decide) (by decide) ?_
  exact hret ([(h0, .inr (6, [.ref q_1, .int 0])), (q_1, .inl (t_2, 28, .inl (fun _ => 0)))], [(t_2, .byte)]) _ _ _ _ dX6_init_19 ⟨q_1, t_2, rfl⟩ (hP.sub [0, 1] rfl) (hK.sub [0] rfl) (hD.sub [0, 1] (by decide +kernel) rfl) hS

set_option maxHeartbeats 8000000 in
set_option maxRecDepth 100000 in
theorem k_X6_get (l : Launch) (D : va_G) (ad : Nat → Nat) (h0 : Nat) (hb0 : Nat) (p0 : Int32)  : z_Mi l yX6_get wsX6_get { frames := 0, cells := 0, slots := 0, locals := 0 } D ad [.ref h0, .int p0] [(h0, .inr (6, [.ref hb0, .int 0]))] [] 0 0 (fun r9 u9 => r9 = (-1) ∧ u9 = ([(h0, .inr (6, [.ref hb0, .int 0]))], [])) := by
  refine z_ofI (cc := cX6_get) (maxL := 2) (rt := .int) (by decide) rfl (Nat.le_of_ble_eq_true rfl) ?_
  intro p e s m below meth c Q A ls hx hb hml hown hts hin hK hP hD hA hE hO hS hl hret
  have hown : s.vm.findClass RX6 = some m.cls := hown
  have hiX6 : ∀ w ∈ wsX60, w ∈ wsX6_get := fun _ h9 => List.mem_cons_of_mem _ (List.mem_append_right _ h9)
  have hl : lv_has ls 2 [(0, .ref h0), (1, .int p0)] := hl
  refine lv_iload_n hx hb dX6_get_0 rfl (lv_at hl 1 rfl) ?_
  refine lv_if_lt (tgt := 21) hx hb dX6_get_1 (by decide) (fun c_1 => ?_) (fun c_1 => ?_)
  · refine lv_iconst (v := (-1)) hx hb dX6_get_21 (by decide) ?_
    refine lv_goto (tgt := 35) hx hb dX6_get_22 (by decide) ?_
    refine W.widen (k := 0) (n := 0) (by decide) (by decide) ?_
    exact hret (-1) ([(h0, .inr (6, [.ref hb0, .int 0]))], []) _ _ _ _ dX6_get_35 rfl ⟨rfl, rfl⟩ (hP.sub [0] rfl) (hK.sub [] rfl) (hD.sub [0] (by decide +kernel) rfl) hS
  · refine lv_iload_n hx hb dX6_get_4 rfl (lv_at hl 1 rfl) ?_
    refine lv_aload_n hx hb dX6_get_5 rfl (lv_at hl 0 rfl) ?_
    refine va_get (D := D) (ci := 6) (v := .int 0) (C := RX6) (T := TX6) (N := 2) hx hb hts hiX6 hown hK hP 0 rfl rfl 1 (by decide) (hts _ (List.mem_of_getElem? (i := 1) rfl)) (fun _ h9 => h9) rfl dX6_get_6 ?_
    refine lv_icmp_ge (tgt := 21) hx hb dX6_get_9 (by decide) (fun _ => ?_) (fun h9 => absurd (Int32.not_lt.mp c_1) h9)
    refine lv_iconst (v := (-1)) hx hb dX6_get_21 (by decide) ?_
    refine lv_goto (tgt := 35) hx hb dX6_get_22 (by decide) ?_
    refine W.widen (k := 0) (n := 0) (by decide) (by decide) ?_
    exact hret (-1) ([(h0, .inr (6, [.ref hb0, .int 0]))], []) _ _ _ _ dX6_get_35 rfl ⟨rfl, rfl⟩ (hP.sub [0] rfl) (hK.sub [] rfl) (hD.sub [0] (by decide +kernel) rfl) hS

set_option maxHeartbeats 8000000 in
set_option maxRecDepth 100000 in
theorem k_X7_init (l : Launch) (D : va_G) (ad : Nat → Nat) (h0 : Nat) (tp : Nat)  : z_Mv l yX7_init wsX7_init { frames := 1, cells := 0, slots := 0, locals := 20 } D ad [.ref h0, .ref tp] [(h0, .inr (7, [.null, .int 0, .int 0, .int 0, .int 0, .int 0, .long 0, .null, .int 0, .int 0]))] [] 0 0 (fun u9 => u9 = ([(h0, .inr (7, [.ref tp, .int 0, .int 0, .int 0, .int 0, .int 0, .long 0, .ref (ad 0), .int 0, .int 0]))], [])) := by
  refine z_ofV (cc := cX7_init) (maxL := 2) (by decide) rfl (Nat.le_of_ble_eq_true rfl) ?_
  intro p e s m below meth c Q A ls hx hb hml hown hts hin hK hP hD hA hE hO hS hl hret
  have hown : s.vm.findClass RX7 = some m.cls := hown
  have hin : meth.name = "<init>" := hin
  have hiX7 : ∀ w ∈ wsX70, w ∈ wsX7_init := fun _ h9 => List.mem_cons_of_mem _ (List.mem_append_right _ h9)
  have hl : lv_has ls 2 [(0, .ref h0), (1, .ref tp)] := hl
  refine lv_aload_n hx hb dX7_init_0 rfl (lv_at hl 0 rfl) ?_
  refine W.objInit hx hb hown (hts _ (List.mem_of_getElem? (i := 1) rfl)) (hts _ (List.mem_of_getElem? (i := 2) rfl)) (hts _ (List.mem_of_getElem? (i := 3) rfl)) rfl (by rw [hml]; exact hl.1) rfl dX7_init_1 (Nat.le_of_ble_eq_true rfl) (Nat.le_of_ble_eq_true rfl) ?_
  refine W.eq (g2 := F0 m 4 ls []) rfl ?_
  refine lv_aload_n hx hb dX7_init_4 rfl (lv_at hl 0 rfl) ?_
  refine va_gets (v := .ref (ad 0)) hx hb (hE.1.1 0 (by decide)).1 hS hown (hts _ (List.mem_of_getElem? (i := 4) rfl)) (fun _ h9 => h9) dX7_init_5 ?_
  refine va_put (D := D) (ci := 7) (v := .ref (ad 0)) (ty := tyX7 7) (C := RX7) (T := TX7) (N := 10) hx hb hts hiX7 tyX7 tyX7_ok nmX7 hown hK hP hD hS 0 rfl rfl 7 (by decide) (hts _ (List.mem_of_getElem? (i := 5) rfl)) (fun _ h9 => h9) rfl (tyX7_ok 7 (by decide)) rfl rfl (Nat.le_of_ble_eq_true rfl) dX7_init_8 (fun H locs hP hD hS => ?_)
  have hP : va_P D vwCl [(h0, .inr (7, [.null, .int 0, .int 0, .int 0, .int 0, .int 0, .long 0, .ref (ad 0), .int 0, .int 0]))] H := hP
  have hD : va_D A [(h0, .inr (7, [.null, .int 0, .int 0, .int 0, .int 0, .int 0, .long 0, .ref (ad 0), .int 0, .int 0]))] := hD
  refine lv_aload_n hx hb dX7_init_11 rfl (lv_at hl 0 rfl) ?_
  refine lv_aload_n hx hb dX7_init_12 rfl (lv_at hl 1 rfl) ?_
  refine va_putF (D := D) (ci := 7) (v := .ref tp) (ty := tyX7 0) (C := RX7) (T := TX7) (N := 10) hx hb hts hiX7 tyX7 tyX7_ok nmX7 hown hK hP hD hS 0 rfl rfl 0 (by decide) (hts _ (List.mem_of_getElem? (i := 6) rfl)) (fun _ h9 => h9) rfl hin rfl (tyX7_ok 0 (by decide)) rfl rfl (Nat.le_of_ble_eq_true rfl) dX7_init_13 (fun H locs hP hD hS => ?_)
  have hP : va_P D vwCl [(h0, .inr (7, [.ref tp, .int 0, .int 0, .int 0, .int 0, .int 0, .long 0, .ref (ad 0), .int 0, .int 0]))] H := hP
  have hD : va_D A [(h0, .inr (7, [.ref tp, .int 0, .int 0, .int 0, .int 0, .int 0, .long 0, .ref (ad 0), .int 0, .int 0]))] := hD
  refine W.widen (k := 0) (n := 0) (by decide) (by decide) ?_
  exact hret ([(h0, .inr (7, [.ref tp, .int 0, .int 0, .int 0, .int 0, .int 0, .long 0, .ref (ad 0), .int 0, .int 0]))], []) _ _ _ _ dX7_init_16 rfl (hP.sub [0] rfl) (hK.sub [] rfl) (hD.sub [0] (by decide +kernel) rfl) hS

set_option maxHeartbeats 8000000 in
set_option maxRecDepth 100000 in
theorem k_X2_init5 (l : Launch) (D : va_G) (ad : Nat → Nat) (h0 : Nat)  : z_Mv l yX2_init wsX2_init { frames := 1, cells := 1, slots := 5, locals := 20 } D ad [.ref h0, .int 5] [(h0, .inr (2, [.null, .int 0]))] [] 1 5 (fun u9 => ∃ (q_1 : Nat) (t_2 : ClassId), u9 = ([(h0, .inr (2, [.ref q_1, .int 0])), (q_1, .inl (t_2, 5, .inr (.inl (fun _ => 0))))], [(t_2, .long)])) := by
  refine z_ofV (cc := cX2_init) (maxL := 2) (by decide) rfl (Nat.le_of_ble_eq_true rfl) ?_
  intro p e s m below meth c Q A ls hx hb hml hown hts hin hK hP hD hA hE hO hS hl hret
  have hown : s.vm.findClass RX2 = some m.cls := hown
  have hin : meth.name = "<init>" := hin
  have hiX2 : ∀ w ∈ wsX20, w ∈ wsX2_init := fun _ h9 => List.mem_cons_of_mem _ (List.mem_append_right _ h9)
  have hl : lv_has ls 2 [(0, .ref h0), (1, .int 5)] := hl
  refine lv_aload_n hx hb dX2_init_0 rfl (lv_at hl 0 rfl) ?_
  refine W.objInit hx hb hown (hts _ (List.mem_of_getElem? (i := 1) rfl)) (hts _ (List.mem_of_getElem? (i := 2) rfl)) (hts _ (List.mem_of_getElem? (i := 3) rfl)) rfl (by rw [hml]; exact hl.1) rfl dX2_init_1 (Nat.le_of_ble_eq_true rfl) (Nat.le_of_ble_eq_true rfl) ?_
  refine W.eq (g2 := F0 m 4 ls []) rfl ?_
  refine lv_aload_n hx hb dX2_init_4 rfl (lv_at hl 0 rfl) ?_
  refine lv_iload_n hx hb dX2_init_5 rfl (lv_at hl 1 rfl) ?_
  refine lv_if_ge (tgt := 13) hx hb dX2_init_6 (by decide) (fun _ => ?_) (fun h9 => absurd (by decide) h9)
  refine lv_iload_n hx hb dX2_init_13 rfl (lv_at hl 1 rfl) ?_
  refine va_newa (a0 := (5, .inr (.inl (fun _ => 0)))) (ty := .long) (N' := 5) hx hb (hts _ (List.mem_of_getElem? (i := 4) rfl)) rfl hK hP hD hS hA (fun _ => rfl) (by decide) (by decide) (by decide) (Nat.le_of_ble_eq_true rfl) (Nat.le_of_ble_eq_true rfl) dX2_init_14 (fun q_1 t_2 H hK hP hD hS => ?_)
  have hP : va_P D vwCl [(h0, .inr (2, [.null, .int 0])), (q_1, .inl (t_2, 5, .inr (.inl (fun _ => 0))))] H := hP
  have hD : va_D A [(h0, .inr (2, [.null, .int 0])), (q_1, .inl (t_2, 5, .inr (.inl (fun _ => 0))))] := hD
  have hK : va_K D vwCl [(t_2, .long)] s := hK
  refine W.cs (cells' := 1) (slots' := 5) rfl rfl ?_
  refine va_putF (D := D) (ci := 2) (v := .ref q_1) (ty := tyX2 0) (C := RX2) (T := TX2) (N := 2) hx hb hts hiX2 tyX2 tyX2_ok nmX2 hown hK hP hD hS 0 rfl rfl 0 (by decide) (hts _ (List.mem_of_getElem? (i := 5) rfl)) (fun _ h9 => h9) rfl hin rfl (tyX2_ok 0 (by decide)) rfl rfl (Nat.le_of_ble_eq_true rfl) dX2_init_16 (fun H locs hP hD hS => ?_)
  have hP : va_P D vwCl [(h0, .inr (2, [.ref q_1, .int 0])), (q_1, .inl (t_2, 5, .inr (.inl (fun _ => 0))))] H := hP
  have hD : va_D A [(h0, .inr (2, [.ref q_1, .int 0])), (q_1, .inl (t_2, 5, .inr (.inl (fun _ => 0))))] := hD
  refine W.widen (k := 1) (n := 5) (by decide) (by decide) ?_
  exact hret ([(h0, .inr (2, [.ref q_1, .int 0])), (q_1, .inl (t_2, 5, .inr (.inl (fun _ => 0))))], [(t_2, .long)]) _ _ _ _ dX2_init_19 ⟨q_1, t_2, rfl⟩ (hP.sub [0, 1] rfl) (hK.sub [0] rfl) (hD.sub [0, 1] (by decide +kernel) rfl) hS

set_option maxHeartbeats 8000000 in
set_option maxRecDepth 100000 in
theorem k_X2_init7 (l : Launch) (D : va_G) (ad : Nat → Nat) (h0 : Nat)  : z_Mv l yX2_init wsX2_init { frames := 1, cells := 1, slots := 7, locals := 20 } D ad [.ref h0, .int 7] [(h0, .inr (2, [.null, .int 0]))] [] 1 7 (fun u9 => ∃ (q_1 : Nat) (t_2 : ClassId), u9 = ([(h0, .inr (2, [.ref q_1, .int 0])), (q_1, .inl (t_2, 7, .inr (.inl (fun _ => 0))))], [(t_2, .long)])) := by
  refine z_ofV (cc := cX2_init) (maxL := 2) (by decide) rfl (Nat.le_of_ble_eq_true rfl) ?_
  intro p e s m below meth c Q A ls hx hb hml hown hts hin hK hP hD hA hE hO hS hl hret
  have hown : s.vm.findClass RX2 = some m.cls := hown
  have hin : meth.name = "<init>" := hin
  have hiX2 : ∀ w ∈ wsX20, w ∈ wsX2_init := fun _ h9 => List.mem_cons_of_mem _ (List.mem_append_right _ h9)
  have hl : lv_has ls 2 [(0, .ref h0), (1, .int 7)] := hl
  refine lv_aload_n hx hb dX2_init_0 rfl (lv_at hl 0 rfl) ?_
  refine W.objInit hx hb hown (hts _ (List.mem_of_getElem? (i := 1) rfl)) (hts _ (List.mem_of_getElem? (i := 2) rfl)) (hts _ (List.mem_of_getElem? (i := 3) rfl)) rfl (by rw [hml]; exact hl.1) rfl dX2_init_1 (Nat.le_of_ble_eq_true rfl) (Nat.le_of_ble_eq_true rfl) ?_
  refine W.eq (g2 := F0 m 4 ls []) rfl ?_
  refine lv_aload_n hx hb dX2_init_4 rfl (lv_at hl 0 rfl) ?_
  refine lv_iload_n hx hb dX2_init_5 rfl (lv_at hl 1 rfl) ?_
  refine lv_if_ge (tgt := 13) hx hb dX2_init_6 (by decide) (fun _ => ?_) (fun h9 => absurd (by decide) h9)
  refine lv_iload_n hx hb dX2_init_13 rfl (lv_at hl 1 rfl) ?_
  refine va_newa (a0 := (7, .inr (.inl (fun _ => 0)))) (ty := .long) (N' := 7) hx hb (hts _ (List.mem_of_getElem? (i := 4) rfl)) rfl hK hP hD hS hA (fun _ => rfl) (by decide) (by decide) (by decide) (Nat.le_of_ble_eq_true rfl) (Nat.le_of_ble_eq_true rfl) dX2_init_14 (fun q_1 t_2 H hK hP hD hS => ?_)
  have hP : va_P D vwCl [(h0, .inr (2, [.null, .int 0])), (q_1, .inl (t_2, 7, .inr (.inl (fun _ => 0))))] H := hP
  have hD : va_D A [(h0, .inr (2, [.null, .int 0])), (q_1, .inl (t_2, 7, .inr (.inl (fun _ => 0))))] := hD
  have hK : va_K D vwCl [(t_2, .long)] s := hK
  refine W.cs (cells' := 1) (slots' := 7) rfl rfl ?_
  refine va_putF (D := D) (ci := 2) (v := .ref q_1) (ty := tyX2 0) (C := RX2) (T := TX2) (N := 2) hx hb hts hiX2 tyX2 tyX2_ok nmX2 hown hK hP hD hS 0 rfl rfl 0 (by decide) (hts _ (List.mem_of_getElem? (i := 5) rfl)) (fun _ h9 => h9) rfl hin rfl (tyX2_ok 0 (by decide)) rfl rfl (Nat.le_of_ble_eq_true rfl) dX2_init_16 (fun H locs hP hD hS => ?_)
  have hP : va_P D vwCl [(h0, .inr (2, [.ref q_1, .int 0])), (q_1, .inl (t_2, 7, .inr (.inl (fun _ => 0))))] H := hP
  have hD : va_D A [(h0, .inr (2, [.ref q_1, .int 0])), (q_1, .inl (t_2, 7, .inr (.inl (fun _ => 0))))] := hD
  refine W.widen (k := 1) (n := 7) (by decide) (by decide) ?_
  exact hret ([(h0, .inr (2, [.ref q_1, .int 0])), (q_1, .inl (t_2, 7, .inr (.inl (fun _ => 0))))], [(t_2, .long)]) _ _ _ _ dX2_init_19 ⟨q_1, t_2, rfl⟩ (hP.sub [0, 1] rfl) (hK.sub [0] rfl) (hD.sub [0, 1] (by decide +kernel) rfl) hS

set_option maxHeartbeats 8000000 in
set_option maxRecDepth 100000 in
theorem k_X2_init6 (l : Launch) (D : va_G) (ad : Nat → Nat) (h0 : Nat)  : z_Mv l yX2_init wsX2_init { frames := 1, cells := 1, slots := 6, locals := 20 } D ad [.ref h0, .int 6] [(h0, .inr (2, [.null, .int 0]))] [] 1 6 (fun u9 => ∃ (q_1 : Nat) (t_2 : ClassId), u9 = ([(h0, .inr (2, [.ref q_1, .int 0])), (q_1, .inl (t_2, 6, .inr (.inl (fun _ => 0))))], [(t_2, .long)])) := by
  refine z_ofV (cc := cX2_init) (maxL := 2) (by decide) rfl (Nat.le_of_ble_eq_true rfl) ?_
  intro p e s m below meth c Q A ls hx hb hml hown hts hin hK hP hD hA hE hO hS hl hret
  have hown : s.vm.findClass RX2 = some m.cls := hown
  have hin : meth.name = "<init>" := hin
  have hiX2 : ∀ w ∈ wsX20, w ∈ wsX2_init := fun _ h9 => List.mem_cons_of_mem _ (List.mem_append_right _ h9)
  have hl : lv_has ls 2 [(0, .ref h0), (1, .int 6)] := hl
  refine lv_aload_n hx hb dX2_init_0 rfl (lv_at hl 0 rfl) ?_
  refine W.objInit hx hb hown (hts _ (List.mem_of_getElem? (i := 1) rfl)) (hts _ (List.mem_of_getElem? (i := 2) rfl)) (hts _ (List.mem_of_getElem? (i := 3) rfl)) rfl (by rw [hml]; exact hl.1) rfl dX2_init_1 (Nat.le_of_ble_eq_true rfl) (Nat.le_of_ble_eq_true rfl) ?_
  refine W.eq (g2 := F0 m 4 ls []) rfl ?_
  refine lv_aload_n hx hb dX2_init_4 rfl (lv_at hl 0 rfl) ?_
  refine lv_iload_n hx hb dX2_init_5 rfl (lv_at hl 1 rfl) ?_
  refine lv_if_ge (tgt := 13) hx hb dX2_init_6 (by decide) (fun _ => ?_) (fun h9 => absurd (by decide) h9)
  refine lv_iload_n hx hb dX2_init_13 rfl (lv_at hl 1 rfl) ?_
  refine va_newa (a0 := (6, .inr (.inl (fun _ => 0)))) (ty := .long) (N' := 6) hx hb (hts _ (List.mem_of_getElem? (i := 4) rfl)) rfl hK hP hD hS hA (fun _ => rfl) (by decide) (by decide) (by decide) (Nat.le_of_ble_eq_true rfl) (Nat.le_of_ble_eq_true rfl) dX2_init_14 (fun q_1 t_2 H hK hP hD hS => ?_)
  have hP : va_P D vwCl [(h0, .inr (2, [.null, .int 0])), (q_1, .inl (t_2, 6, .inr (.inl (fun _ => 0))))] H := hP
  have hD : va_D A [(h0, .inr (2, [.null, .int 0])), (q_1, .inl (t_2, 6, .inr (.inl (fun _ => 0))))] := hD
  have hK : va_K D vwCl [(t_2, .long)] s := hK
  refine W.cs (cells' := 1) (slots' := 6) rfl rfl ?_
  refine va_putF (D := D) (ci := 2) (v := .ref q_1) (ty := tyX2 0) (C := RX2) (T := TX2) (N := 2) hx hb hts hiX2 tyX2 tyX2_ok nmX2 hown hK hP hD hS 0 rfl rfl 0 (by decide) (hts _ (List.mem_of_getElem? (i := 5) rfl)) (fun _ h9 => h9) rfl hin rfl (tyX2_ok 0 (by decide)) rfl rfl (Nat.le_of_ble_eq_true rfl) dX2_init_16 (fun H locs hP hD hS => ?_)
  have hP : va_P D vwCl [(h0, .inr (2, [.ref q_1, .int 0])), (q_1, .inl (t_2, 6, .inr (.inl (fun _ => 0))))] H := hP
  have hD : va_D A [(h0, .inr (2, [.ref q_1, .int 0])), (q_1, .inl (t_2, 6, .inr (.inl (fun _ => 0))))] := hD
  refine W.widen (k := 1) (n := 6) (by decide) (by decide) ?_
  exact hret ([(h0, .inr (2, [.ref q_1, .int 0])), (q_1, .inl (t_2, 6, .inr (.inl (fun _ => 0))))], [(t_2, .long)]) _ _ _ _ dX2_init_19 ⟨q_1, t_2, rfl⟩ (hP.sub [0, 1] rfl) (hK.sub [0] rfl) (hD.sub [0, 1] (by decide +kernel) rfl) hS

set_option maxHeartbeats 8000000 in
set_option maxRecDepth 100000 in
theorem k_X8_init (l : Launch) (D : va_G) (ad : Nat → Nat) (h0 : Nat)  : z_Mv l yX8_init wsX8_init { frames := 2, cells := 12, slots := 85, locals := 41 } D ad [.ref h0] [(h0, .inr (8, [.null, .null, .null, .int 0, .null, .null, .null, .int 0, .null, .null, .null, .int 0]))] [] 12 85 (fun u9 => ∃ (q_1 : Nat) (q_2 : Nat) (t_3 : ClassId) (q_4 : Nat) (q_5 : Nat) (t_6 : ClassId) (q_7 : Nat) (q_8 : Nat) (t_9 : ClassId) (q_10 : Nat) (t_11 : ClassId) (q_12 : Nat) (t_13 : ClassId) (q_14 : Nat) (t_15 : ClassId) (q_16 : Nat) (t_17 : ClassId) (q_18 : Nat) (t_19 : ClassId) (q_20 : Nat) (t_21 : ClassId), u9 = ([(h0, .inr (8, [.ref q_1, .ref q_4, .ref q_7, .int 0, .ref q_10, .ref q_12, .ref q_14, .int 0, .ref q_16, .ref q_18, .ref q_20, .int 2])), (q_1, .inr (2, [.ref q_2, .int 0])), (q_2, .inl (t_3, 5, .inr (.inl (fun _ => 0)))), (q_4, .inr (2, [.ref q_5, .int 0])), (q_5, .inl (t_6, 7, .inr (.inl (fun _ => 0)))), (q_7, .inr (2, [.ref q_8, .int 0])), (q_8, .inl (t_9, 6, .inr (.inl (fun _ => 0)))), (q_10, .inl (t_11, 7, .inl (fun _ => 0))), (q_12, .inl (t_13, 6, .inl (fun _ => 0))), (q_14, .inl (t_15, 6, .inl (fun _ => 0))), (q_16, .inl (t_17, 14, .inl (fun _ => 0))), (q_18, .inl (t_19, 14, .inl (fun _ => 0))), (q_20, .inl (t_21, 14, .inl (fun _ => 0)))], [(t_3, .long), (t_6, .long), (t_9, .long), (t_11, .int), (t_13, .int), (t_15, .int), (t_17, .int), (t_19, .int), (t_21, .int)])) := by
  refine z_ofV (cc := cX8_init) (maxL := 1) (by decide) rfl (Nat.le_of_ble_eq_true rfl) ?_
  intro p e s m below meth c Q A ls hx hb hml hown hts hin hK hP hD hA hE hO hS hl hret
  have hown : s.vm.findClass RX8 = some m.cls := hown
  have hin : meth.name = "<init>" := hin
  have hiX2 : ∀ w ∈ wsX20, w ∈ wsX8_init := fun _ h9 => List.mem_cons_of_mem _ (List.mem_append_left _ (List.mem_append_right _ h9))
  have hiX8 : ∀ w ∈ wsX80, w ∈ wsX8_init := fun _ h9 => List.mem_cons_of_mem _ (List.mem_append_right _ h9)
  have hl : lv_has ls 1 [(0, .ref h0)] := hl
  refine lv_aload_n hx hb dX8_init_0 rfl (lv_at hl 0 rfl) ?_
  refine W.objInit hx hb hown (hts _ (List.mem_of_getElem? (i := 1) rfl)) (hts _ (List.mem_of_getElem? (i := 2) rfl)) (hts _ (List.mem_of_getElem? (i := 3) rfl)) rfl (by rw [hml]; exact hl.1) rfl dX8_init_1 (Nat.le_of_ble_eq_true rfl) (Nat.le_of_ble_eq_true rfl) ?_
  refine W.eq (g2 := F0 m 4 ls []) rfl ?_
  refine lv_aload_n hx hb dX8_init_4 rfl (lv_at hl 0 rfl) ?_
  refine va_new (ci := 2) (fs := [.null, .int 0]) (C := RX2) (T := TX2) (N := 2) hx hb hts hiX2 tyX2 tyX2_ok hown (hts _ (List.mem_of_getElem? (i := 4) rfl)) (hts _ (List.mem_of_getElem? (i := 5) rfl)) (hts _ (List.mem_of_getElem? (i := 6) rfl)) hK hP hD hS hA rfl (fun j hj => by rcases (show j = 0 ∨ j = 1 by omega) with rfl | rfl <;> rfl) (Nat.le_of_ble_eq_true rfl) (Nat.le_of_ble_eq_true rfl) dX8_init_5 (fun q_1 H hP hD hS => ?_)
  have hP : va_P D vwCl [(h0, .inr (8, [.null, .null, .null, .int 0, .null, .null, .null, .int 0, .null, .null, .null, .int 0])), (q_1, .inr (2, [.null, .int 0]))] H := hP
  have hD : va_D A [(h0, .inr (8, [.null, .null, .null, .int 0, .null, .null, .null, .int 0, .null, .null, .null, .int 0])), (q_1, .inr (2, [.null, .int 0]))] := hD
  refine W.cs (cells' := 1) (slots' := 2) rfl rfl ?_
  refine lv_dup hx hb dX8_init_8 rfl ?_
  refine lv_iconst (v := 5) hx hb dX8_init_9 (by decide) ?_
  have hc9 := (k_X2_init5 l D ad q_1 )
  refine z_callv (w0 := [(q_1, .inr (2, [.null, .int 0]))]) (wr := [(h0, .inr (8, [.null, .null, .null, .int 0, .null, .null, .null, .int 0, .null, .null, .null, .int 0]))]) (va_runI (As := [.int 5]) (rest := [.ref q_1, .ref h0]) ⟨hx, hb, hml, hown, hts⟩ (hc9 _) (cwI 1 hts gX8_init_X2_init rfl rfl rfl (hts _ (List.mem_of_getElem? (i := 6) rfl)) (hts _ (List.mem_of_getElem? (i := 18) rfl)) (hts _ (List.mem_of_getElem? (i := 19) rfl)) rfl (by decide +kernel) ⟨Nat.le_of_ble_eq_true rfl, Nat.le_of_ble_eq_true rfl⟩) (z_preS hP hD hK hS hA hE hO [1] [] rfl (by decide +kernel) rfl) rfl rfl hl.1 rfl (lv_room (Nat.le_of_ble_eq_true rfl)) dX8_init_10 ⟨Nat.le_of_ble_eq_true rfl, Nat.le_of_ble_eq_true rfl⟩) hP hD hK hS hA [1] [0] rfl rfl (by decide +kernel) (by decide +kernel) (fun u9 H locs hw hP hD hK hS => ?_)
  obtain ⟨q_2, t_3, rfl⟩ := hw
  have hP : va_P D vwCl [(h0, .inr (8, [.null, .null, .null, .int 0, .null, .null, .null, .int 0, .null, .null, .null, .int 0])), (q_1, .inr (2, [.ref q_2, .int 0])), (q_2, .inl (t_3, 5, .inr (.inl (fun _ => 0))))] H := hP
  have hD : va_D A [(h0, .inr (8, [.null, .null, .null, .int 0, .null, .null, .null, .int 0, .null, .null, .null, .int 0])), (q_1, .inr (2, [.ref q_2, .int 0])), (q_2, .inl (t_3, 5, .inr (.inl (fun _ => 0))))] := hD
  have hK : va_K D vwCl [(t_3, .long)] s := hK
  refine W.cs (cells' := 2) (slots' := 7) rfl rfl ?_
  refine va_putF (D := D) (ci := 8) (v := .ref q_1) (ty := tyX8 0) (C := RX8) (T := TX8) (N := 12) hx hb hts hiX8 tyX8 tyX8_ok nmX8 hown hK hP hD hS 0 rfl rfl 0 (by decide) (hts _ (List.mem_of_getElem? (i := 7) rfl)) (fun _ h9 => h9) rfl hin rfl (tyX8_ok 0 (by decide)) rfl rfl (Nat.le_of_ble_eq_true rfl) dX8_init_13 (fun H locs hP hD hS => ?_)
  have hP : va_P D vwCl [(h0, .inr (8, [.ref q_1, .null, .null, .int 0, .null, .null, .null, .int 0, .null, .null, .null, .int 0])), (q_1, .inr (2, [.ref q_2, .int 0])), (q_2, .inl (t_3, 5, .inr (.inl (fun _ => 0))))] H := hP
  have hD : va_D A [(h0, .inr (8, [.ref q_1, .null, .null, .int 0, .null, .null, .null, .int 0, .null, .null, .null, .int 0])), (q_1, .inr (2, [.ref q_2, .int 0])), (q_2, .inl (t_3, 5, .inr (.inl (fun _ => 0))))] := hD
  refine lv_aload_n hx hb dX8_init_16 rfl (lv_at hl 0 rfl) ?_
  refine va_new (ci := 2) (fs := [.null, .int 0]) (C := RX2) (T := TX2) (N := 2) hx hb hts hiX2 tyX2 tyX2_ok hown (hts _ (List.mem_of_getElem? (i := 4) rfl)) (hts _ (List.mem_of_getElem? (i := 5) rfl)) (hts _ (List.mem_of_getElem? (i := 6) rfl)) hK hP hD hS hA rfl (fun j hj => by rcases (show j = 0 ∨ j = 1 by omega) with rfl | rfl <;> rfl) (Nat.le_of_ble_eq_true rfl) (Nat.le_of_ble_eq_true rfl) dX8_init_17 (fun q_4 H hP hD hS => ?_)
  have hP : va_P D vwCl [(h0, .inr (8, [.ref q_1, .null, .null, .int 0, .null, .null, .null, .int 0, .null, .null, .null, .int 0])), (q_1, .inr (2, [.ref q_2, .int 0])), (q_2, .inl (t_3, 5, .inr (.inl (fun _ => 0)))), (q_4, .inr (2, [.null, .int 0]))] H := hP
  have hD : va_D A [(h0, .inr (8, [.ref q_1, .null, .null, .int 0, .null, .null, .null, .int 0, .null, .null, .null, .int 0])), (q_1, .inr (2, [.ref q_2, .int 0])), (q_2, .inl (t_3, 5, .inr (.inl (fun _ => 0)))), (q_4, .inr (2, [.null, .int 0]))] := hD
  refine W.cs (cells' := 3) (slots' := 9) rfl rfl ?_
  refine lv_dup hx hb dX8_init_20 rfl ?_
  refine lv_bipush (v := 7) hx hb dX8_init_21 (by decide) ?_
  have hc9 := (k_X2_init7 l D ad q_4 )
  refine z_callv (w0 := [(q_4, .inr (2, [.null, .int 0]))]) (wr := [(h0, .inr (8, [.ref q_1, .null, .null, .int 0, .null, .null, .null, .int 0, .null, .null, .null, .int 0])), (q_1, .inr (2, [.ref q_2, .int 0])), (q_2, .inl (t_3, 5, .inr (.inl (fun _ => 0))))]) (va_runI (As := [.int 7]) (rest := [.ref q_4, .ref h0]) ⟨hx, hb, hml, hown, hts⟩ (hc9 _) (cwI 1 hts gX8_init_X2_init rfl rfl rfl (hts _ (List.mem_of_getElem? (i := 6) rfl)) (hts _ (List.mem_of_getElem? (i := 18) rfl)) (hts _ (List.mem_of_getElem? (i := 19) rfl)) rfl (by decide +kernel) ⟨Nat.le_of_ble_eq_true rfl, Nat.le_of_ble_eq_true rfl⟩) (z_preS hP hD hK hS hA hE hO [3] [] rfl (by decide +kernel) rfl) rfl rfl hl.1 rfl (lv_room (Nat.le_of_ble_eq_true rfl)) dX8_init_23 ⟨Nat.le_of_ble_eq_true rfl, Nat.le_of_ble_eq_true rfl⟩) hP hD hK hS hA [3] [0, 1, 2] rfl rfl (by decide +kernel) (by decide +kernel) (fun u9 H locs hw hP hD hK hS => ?_)
  obtain ⟨q_5, t_6, rfl⟩ := hw
  have hP : va_P D vwCl [(h0, .inr (8, [.ref q_1, .null, .null, .int 0, .null, .null, .null, .int 0, .null, .null, .null, .int 0])), (q_1, .inr (2, [.ref q_2, .int 0])), (q_2, .inl (t_3, 5, .inr (.inl (fun _ => 0)))), (q_4, .inr (2, [.ref q_5, .int 0])), (q_5, .inl (t_6, 7, .inr (.inl (fun _ => 0))))] H := hP
  have hD : va_D A [(h0, .inr (8, [.ref q_1, .null, .null, .int 0, .null, .null, .null, .int 0, .null, .null, .null, .int 0])), (q_1, .inr (2, [.ref q_2, .int 0])), (q_2, .inl (t_3, 5, .inr (.inl (fun _ => 0)))), (q_4, .inr (2, [.ref q_5, .int 0])), (q_5, .inl (t_6, 7, .inr (.inl (fun _ => 0))))] := hD
  have hK : va_K D vwCl [(t_3, .long), (t_6, .long)] s := hK
  refine W.cs (cells' := 4) (slots' := 16) rfl rfl ?_
  refine va_putF (D := D) (ci := 8) (v := .ref q_4) (ty := tyX8 1) (C := RX8) (T := TX8) (N := 12) hx hb hts hiX8 tyX8 tyX8_ok nmX8 hown hK hP hD hS 0 rfl rfl 1 (by decide) (hts _ (List.mem_of_getElem? (i := 8) rfl)) (fun _ h9 => h9) rfl hin rfl (tyX8_ok 1 (by decide)) rfl rfl (Nat.le_of_ble_eq_true rfl) dX8_init_26 (fun H locs hP hD hS => ?_)
  have hP : va_P D vwCl [(h0, .inr (8, [.ref q_1, .ref q_4, .null, .int 0, .null, .null, .null, .int 0, .null, .null, .null, .int 0])), (q_1, .inr (2, [.ref q_2, .int 0])), (q_2, .inl (t_3, 5, .inr (.inl (fun _ => 0)))), (q_4, .inr (2, [.ref q_5, .int 0])), (q_5, .inl (t_6, 7, .inr (.inl (fun _ => 0))))] H := hP
  have hD : va_D A [(h0, .inr (8, [.ref q_1, .ref q_4, .null, .int 0, .null, .null, .null, .int 0, .null, .null, .null, .int 0])), (q_1, .inr (2, [.ref q_2, .int 0])), (q_2, .inl (t_3, 5, .inr (.inl (fun _ => 0)))), (q_4, .inr (2, [.ref q_5, .int 0])), (q_5, .inl (t_6, 7, .inr (.inl (fun _ => 0))))] := hD
  refine lv_aload_n hx hb dX8_init_29 rfl (lv_at hl 0 rfl) ?_
  refine va_new (ci := 2) (fs := [.null, .int 0]) (C := RX2) (T := TX2) (N := 2) hx hb hts hiX2 tyX2 tyX2_ok hown (hts _ (List.mem_of_getElem? (i := 4) rfl)) (hts _ (List.mem_of_getElem? (i := 5) rfl)) (hts _ (List.mem_of_getElem? (i := 6) rfl)) hK hP hD hS hA rfl (fun j hj => by rcases (show j = 0 ∨ j = 1 by omega) with rfl | rfl <;> rfl) (Nat.le_of_ble_eq_true rfl) (Nat.le_of_ble_eq_true rfl) dX8_init_30 (fun q_7 H hP hD hS => ?_)
  have hP : va_P D vwCl [(h0, .inr (8, [.ref q_1, .ref q_4, .null, .int 0, .null, .null, .null, .int 0, .null, .null, .null, .int 0])), (q_1, .inr (2, [.ref q_2, .int 0])), (q_2, .inl (t_3, 5, .inr (.inl (fun _ => 0)))), (q_4, .inr (2, [.ref q_5, .int 0])), (q_5, .inl (t_6, 7, .inr (.inl (fun _ => 0)))), (q_7, .inr (2, [.null, .int 0]))] H := hP
  have hD : va_D A [(h0, .inr (8, [.ref q_1, .ref q_4, .null, .int 0, .null, .null, .null, .int 0, .null, .null, .null, .int 0])), (q_1, .inr (2, [.ref q_2, .int 0])), (q_2, .inl (t_3, 5, .inr (.inl (fun _ => 0)))), (q_4, .inr (2, [.ref q_5, .int 0])), (q_5, .inl (t_6, 7, .inr (.inl (fun _ => 0)))), (q_7, .inr (2, [.null, .int 0]))] := hD
  refine W.cs (cells' := 5) (slots' := 18) rfl rfl ?_
  refine lv_dup hx hb dX8_init_33 rfl ?_
  refine lv_bipush (v := 6) hx hb dX8_init_34 (by decide) ?_
  have hc9 := (k_X2_init6 l D ad q_7 )
  refine z_callv (w0 := [(q_7, .inr (2, [.null, .int 0]))]) (wr := [(h0, .inr (8, [.ref q_1, .ref q_4, .null, .int 0, .null, .null, .null, .int 0, .null, .null, .null, .int 0])), (q_1, .inr (2, [.ref q_2, .int 0])), (q_2, .inl (t_3, 5, .inr (.inl (fun _ => 0)))), (q_4, .inr (2, [.ref q_5, .int 0])), (q_5, .inl (t_6, 7, .inr (.inl (fun _ => 0))))]) (va_runI (As := [.int 6]) (rest := [.ref q_7, .ref h0]) ⟨hx, hb, hml, hown, hts⟩ (hc9 _) (cwI 1 hts gX8_init_X2_init rfl rfl rfl (hts _ (List.mem_of_getElem? (i := 6) rfl)) (hts _ (List.mem_of_getElem? (i := 18) rfl)) (hts _ (List.mem_of_getElem? (i := 19) rfl)) rfl (by decide +kernel) ⟨Nat.le_of_ble_eq_true rfl, Nat.le_of_ble_eq_true rfl⟩) (z_preS hP hD hK hS hA hE hO [5] [] rfl (by decide +kernel) rfl) rfl rfl hl.1 rfl (lv_room (Nat.le_of_ble_eq_true rfl)) dX8_init_36 ⟨Nat.le_of_ble_eq_true rfl, Nat.le_of_ble_eq_true rfl⟩) hP hD hK hS hA [5] [0, 1, 2, 3, 4] rfl rfl (by decide +kernel) (by decide +kernel) (fun u9 H locs hw hP hD hK hS => ?_)
  obtain ⟨q_8, t_9, rfl⟩ := hw
  have hP : va_P D vwCl [(h0, .inr (8, [.ref q_1, .ref q_4, .null, .int 0, .null, .null, .null, .int 0, .null, .null, .null, .int 0])), (q_1, .inr (2, [.ref q_2, .int 0])), (q_2, .inl (t_3, 5, .inr (.inl (fun _ => 0)))), (q_4, .inr (2, [.ref q_5, .int 0])), (q_5, .inl (t_6, 7, .inr (.inl (fun _ => 0)))), (q_7, .inr (2, [.ref q_8, .int 0])), (q_8, .inl (t_9, 6, .inr (.inl (fun _ => 0))))] H := hP
  have hD : va_D A [(h0, .inr (8, [.ref q_1, .ref q_4, .null, .int 0, .null, .null, .null, .int 0, .null, .null, .null, .int 0])), (q_1, .inr (2, [.ref q_2, .int 0])), (q_2, .inl (t_3, 5, .inr (.inl (fun _ => 0)))), (q_4, .inr (2, [.ref q_5, .int 0])), (q_5, .inl (t_6, 7, .inr (.inl (fun _ => 0)))), (q_7, .inr (2, [.ref q_8, .int 0])), (q_8, .inl (t_9, 6, .inr (.inl (fun _ => 0))))] := hD
  have hK : va_K D vwCl [(t_3, .long), (t_6, .long), (t_9, .long)] s := hK
  refine W.cs (cells' := 6) (slots' := 24) rfl rfl ?_
  refine va_putF (D := D) (ci := 8) (v := .ref q_7) (ty := tyX8 2) (C := RX8) (T := TX8) (N := 12) hx hb hts hiX8 tyX8 tyX8_ok nmX8 hown hK hP hD hS 0 rfl rfl 2 (by decide) (hts _ (List.mem_of_getElem? (i := 9) rfl)) (fun _ h9 => h9) rfl hin rfl (tyX8_ok 2 (by decide)) rfl rfl (Nat.le_of_ble_eq_true rfl) dX8_init_39 (fun H locs hP hD hS => ?_)
  have hP : va_P D vwCl [(h0, .inr (8, [.ref q_1, .ref q_4, .ref q_7, .int 0, .null, .null, .null, .int 0, .null, .null, .null, .int 0])), (q_1, .inr (2, [.ref q_2, .int 0])), (q_2, .inl (t_3, 5, .inr (.inl (fun _ => 0)))), (q_4, .inr (2, [.ref q_5, .int 0])), (q_5, .inl (t_6, 7, .inr (.inl (fun _ => 0)))), (q_7, .inr (2, [.ref q_8, .int 0])), (q_8, .inl (t_9, 6, .inr (.inl (fun _ => 0))))] H := hP
  have hD : va_D A [(h0, .inr (8, [.ref q_1, .ref q_4, .ref q_7, .int 0, .null, .null, .null, .int 0, .null, .null, .null, .int 0])), (q_1, .inr (2, [.ref q_2, .int 0])), (q_2, .inl (t_3, 5, .inr (.inl (fun _ => 0)))), (q_4, .inr (2, [.ref q_5, .int 0])), (q_5, .inl (t_6, 7, .inr (.inl (fun _ => 0)))), (q_7, .inr (2, [.ref q_8, .int 0])), (q_8, .inl (t_9, 6, .inr (.inl (fun _ => 0))))] := hD
  refine lv_aload_n hx hb dX8_init_42 rfl (lv_at hl 0 rfl) ?_
  refine lv_bipush (v := 7) hx hb dX8_init_43 (by decide) ?_
  refine va_newa (a0 := (7, .inl (fun _ => 0))) (ty := .int) (N' := 7) hx hb (hts _ (List.mem_of_getElem? (i := 10) rfl)) rfl hK hP hD hS hA (fun _ => rfl) (by decide) (by decide) (by decide) (Nat.le_of_ble_eq_true rfl) (Nat.le_of_ble_eq_true rfl) dX8_init_45 (fun q_10 t_11 H hK hP hD hS => ?_)
  have hP : va_P D vwCl [(h0, .inr (8, [.ref q_1, .ref q_4, .ref q_7, .int 0, .null, .null, .null, .int 0, .null, .null, .null, .int 0])), (q_1, .inr (2, [.ref q_2, .int 0])), (q_2, .inl (t_3, 5, .inr (.inl (fun _ => 0)))), (q_4, .inr (2, [.ref q_5, .int 0])), (q_5, .inl (t_6, 7, .inr (.inl (fun _ => 0)))), (q_7, .inr (2, [.ref q_8, .int 0])), (q_8, .inl (t_9, 6, .inr (.inl (fun _ => 0)))), (q_10, .inl (t_11, 7, .inl (fun _ => 0)))] H := hP
  have hD : va_D A [(h0, .inr (8, [.ref q_1, .ref q_4, .ref q_7, .int 0, .null, .null, .null, .int 0, .null, .null, .null, .int 0])), (q_1, .inr (2, [.ref q_2, .int 0])), (q_2, .inl (t_3, 5, .inr (.inl (fun _ => 0)))), (q_4, .inr (2, [.ref q_5, .int 0])), (q_5, .inl (t_6, 7, .inr (.inl (fun _ => 0)))), (q_7, .inr (2, [.ref q_8, .int 0])), (q_8, .inl (t_9, 6, .inr (.inl (fun _ => 0)))), (q_10, .inl (t_11, 7, .inl (fun _ => 0)))] := hD
  have hK : va_K D vwCl [(t_3, .long), (t_6, .long), (t_9, .long), (t_11, .int)] s := hK
  refine W.cs (cells' := 7) (slots' := 31) rfl rfl ?_
  refine va_putF (D := D) (ci := 8) (v := .ref q_10) (ty := tyX8 4) (C := RX8) (T := TX8) (N := 12) hx hb hts hiX8 tyX8 tyX8_ok nmX8 hown hK hP hD hS 0 rfl rfl 4 (by decide) (hts _ (List.mem_of_getElem? (i := 11) rfl)) (fun _ h9 => h9) rfl hin rfl (tyX8_ok 4 (by decide)) rfl rfl (Nat.le_of_ble_eq_true rfl) dX8_init_47 (fun H locs hP hD hS => ?_)
  have hP : va_P D vwCl [(h0, .inr (8, [.ref q_1, .ref q_4, .ref q_7, .int 0, .ref q_10, .null, .null, .int 0, .null, .null, .null, .int 0])), (q_1, .inr (2, [.ref q_2, .int 0])), (q_2, .inl (t_3, 5, .inr (.inl (fun _ => 0)))), (q_4, .inr (2, [.ref q_5, .int 0])), (q_5, .inl (t_6, 7, .inr (.inl (fun _ => 0)))), (q_7, .inr (2, [.ref q_8, .int 0])), (q_8, .inl (t_9, 6, .inr (.inl (fun _ => 0)))), (q_10, .inl (t_11, 7, .inl (fun _ => 0)))] H := hP
  have hD : va_D A [(h0, .inr (8, [.ref q_1, .ref q_4, .ref q_7, .int 0, .ref q_10, .null, .null, .int 0, .null, .null, .null, .int 0])), (q_1, .inr (2, [.ref q_2, .int 0])), (q_2, .inl (t_3, 5, .inr (.inl (fun _ => 0)))), (q_4, .inr (2, [.ref q_5, .int 0])), (q_5, .inl (t_6, 7, .inr (.inl (fun _ => 0)))), (q_7, .inr (2, [.ref q_8, .int 0])), (q_8, .inl (t_9, 6, .inr (.inl (fun _ => 0)))), (q_10, .inl (t_11, 7, .inl (fun _ => 0)))] := hD
  refine lv_aload_n hx hb dX8_init_50 rfl (lv_at hl 0 rfl) ?_
  refine lv_bipush (v := 6) hx hb dX8_init_51 (by decide) ?_
  refine va_newa (a0 := (6, .inl (fun _ => 0))) (ty := .int) (N' := 6) hx hb (hts _ (List.mem_of_getElem? (i := 10) rfl)) rfl hK hP hD hS hA (fun _ => rfl) (by decide) (by decide) (by decide) (Nat.le_of_ble_eq_true rfl) (Nat.le_of_ble_eq_true rfl) dX8_init_53 (fun q_12 t_13 H hK hP hD hS => ?_)
  have hP : va_P D vwCl [(h0, .inr (8, [.ref q_1, .ref q_4, .ref q_7, .int 0, .ref q_10, .null, .null, .int 0, .null, .null, .null, .int 0])), (q_1, .inr (2, [.ref q_2, .int 0])), (q_2, .inl (t_3, 5, .inr (.inl (fun _ => 0)))), (q_4, .inr (2, [.ref q_5, .int 0])), (q_5, .inl (t_6, 7, .inr (.inl (fun _ => 0)))), (q_7, .inr (2, [.ref q_8, .int 0])), (q_8, .inl (t_9, 6, .inr (.inl (fun _ => 0)))), (q_10, .inl (t_11, 7, .inl (fun _ => 0))), (q_12, .inl (t_13, 6, .inl (fun _ => 0)))] H := hP
  have hD : va_D A [(h0, .inr (8, [.ref q_1, .ref q_4, .ref q_7, .int 0, .ref q_10, .null, .null, .int 0, .null, .null, .null, .int 0])), (q_1, .inr (2, [.ref q_2, .int 0])), (q_2, .inl (t_3, 5, .inr (.inl (fun _ => 0)))), (q_4, .inr (2, [.ref q_5, .int 0])), (q_5, .inl (t_6, 7, .inr (.inl (fun _ => 0)))), (q_7, .inr (2, [.ref q_8, .int 0])), (q_8, .inl (t_9, 6, .inr (.inl (fun _ => 0)))), (q_10, .inl (t_11, 7, .inl (fun _ => 0))), (q_12, .inl (t_13, 6, .inl (fun _ => 0)))] := hD
  have hK : va_K D vwCl [(t_3, .long), (t_6, .long), (t_9, .long), (t_11, .int), (t_13, .int)] s := hK
  refine W.cs (cells' := 8) (slots' := 37) rfl rfl ?_
  refine va_putF (D := D) (ci := 8) (v := .ref q_12) (ty := tyX8 5) (C := RX8) (T := TX8) (N := 12) hx hb hts hiX8 tyX8 tyX8_ok nmX8 hown hK hP hD hS 0 rfl rfl 5 (by decide) (hts _ (List.mem_of_getElem? (i := 12) rfl)) (fun _ h9 => h9) rfl hin rfl (tyX8_ok 5 (by decide)) rfl rfl (Nat.le_of_ble_eq_true rfl) dX8_init_55 (fun H locs hP hD hS => ?_)
  have hP : va_P D vwCl [(h0, .inr (8, [.ref q_1, .ref q_4, .ref q_7, .int 0, .ref q_10, .ref q_12, .null, .int 0, .null, .null, .null, .int 0])), (q_1, .inr (2, [.ref q_2, .int 0])), (q_2, .inl (t_3, 5, .inr (.inl (fun _ => 0)))), (q_4, .inr (2, [.ref q_5, .int 0])), (q_5, .inl (t_6, 7, .inr (.inl (fun _ => 0)))), (q_7, .inr (2, [.ref q_8, .int 0])), (q_8, .inl (t_9, 6, .inr (.inl (fun _ => 0)))), (q_10, .inl (t_11, 7, .inl (fun _ => 0))), (q_12, .inl (t_13, 6, .inl (fun _ => 0)))] H := hP
  have hD : va_D A [(h0, .inr (8, [.ref q_1, .ref q_4, .ref q_7, .int 0, .ref q_10, .ref q_12, .null, .int 0, .null, .null, .null, .int 0])), (q_1, .inr (2, [.ref q_2, .int 0])), (q_2, .inl (t_3, 5, .inr (.inl (fun _ => 0)))), (q_4, .inr (2, [.ref q_5, .int 0])), (q_5, .inl (t_6, 7, .inr (.inl (fun _ => 0)))), (q_7, .inr (2, [.ref q_8, .int 0])), (q_8, .inl (t_9, 6, .inr (.inl (fun _ => 0)))), (q_10, .inl (t_11, 7, .inl (fun _ => 0))), (q_12, .inl (t_13, 6, .inl (fun _ => 0)))] := hD
  refine lv_aload_n hx hb dX8_init_58 rfl (lv_at hl 0 rfl) ?_
  refine lv_bipush (v := 6) hx hb dX8_init_59 (by decide) ?_
  refine va_newa (a0 := (6, .inl (fun _ => 0))) (ty := .int) (N' := 6) hx hb (hts _ (List.mem_of_getElem? (i := 10) rfl)) rfl hK hP hD hS hA (fun _ => rfl) (by decide) (by decide) (by decide) (Nat.le_of_ble_eq_true rfl) (Nat.le_of_ble_eq_true rfl) dX8_init_61 (fun q_14 t_15 H hK hP hD hS => ?_)
  have hP : va_P D vwCl [(h0, .inr (8, [.ref q_1, .ref q_4, .ref q_7, .int 0, .ref q_10, .ref q_12, .null, .int 0, .null, .null, .null, .int 0])), (q_1, .inr (2, [.ref q_2, .int 0])), (q_2, .inl (t_3, 5, .inr (.inl (fun _ => 0)))), (q_4, .inr (2, [.ref q_5, .int 0])), (q_5, .inl (t_6, 7, .inr (.inl (fun _ => 0)))), (q_7, .inr (2, [.ref q_8, .int 0])), (q_8, .inl (t_9, 6, .inr (.inl (fun _ => 0)))), (q_10, .inl (t_11, 7, .inl (fun _ => 0))), (q_12, .inl (t_13, 6, .inl (fun _ => 0))), (q_14, .inl (t_15, 6, .inl (fun _ => 0)))] H := hP
  have hD : va_D A [(h0, .inr (8, [.ref q_1, .ref q_4, .ref q_7, .int 0, .ref q_10, .ref q_12, .null, .int 0, .null, .null, .null, .int 0])), (q_1, .inr (2, [.ref q_2, .int 0])), (q_2, .inl (t_3, 5, .inr (.inl (fun _ => 0)))), (q_4, .inr (2, [.ref q_5, .int 0])), (q_5, .inl (t_6, 7, .inr (.inl (fun _ => 0)))), (q_7, .inr (2, [.ref q_8, .int 0])), (q_8, .inl (t_9, 6, .inr (.inl (fun _ => 0)))), (q_10, .inl (t_11, 7, .inl (fun _ => 0))), (q_12, .inl (t_13, 6, .inl (fun _ => 0))), (q_14, .inl (t_15, 6, .inl (fun _ => 0)))] := hD
  have hK : va_K D vwCl [(t_3, .long), (t_6, .long), (t_9, .long), (t_11, .int), (t_13, .int), (t_15, .int)] s := hK
  refine W.cs (cells' := 9) (slots' := 43) rfl rfl ?_
  refine va_putF (D := D) (ci := 8) (v := .ref q_14) (ty := tyX8 6) (C := RX8) (T := TX8) (N := 12) hx hb hts hiX8 tyX8 tyX8_ok nmX8 hown hK hP hD hS 0 rfl rfl 6 (by decide) (hts _ (List.mem_of_getElem? (i := 13) rfl)) (fun _ h9 => h9) rfl hin rfl (tyX8_ok 6 (by decide)) rfl rfl (Nat.le_of_ble_eq_true rfl) dX8_init_63 (fun H locs hP hD hS => ?_)
  have hP : va_P D vwCl [(h0, .inr (8, [.ref q_1, .ref q_4, .ref q_7, .int 0, .ref q_10, .ref q_12, .ref q_14, .int 0, .null, .null, .null, .int 0])), (q_1, .inr (2, [.ref q_2, .int 0])), (q_2, .inl (t_3, 5, .inr (.inl (fun _ => 0)))), (q_4, .inr (2, [.ref q_5, .int 0])), (q_5, .inl (t_6, 7, .inr (.inl (fun _ => 0)))), (q_7, .inr (2, [.ref q_8, .int 0])), (q_8, .inl (t_9, 6, .inr (.inl (fun _ => 0)))), (q_10, .inl (t_11, 7, .inl (fun _ => 0))), (q_12, .inl (t_13, 6, .inl (fun _ => 0))), (q_14, .inl (t_15, 6, .inl (fun _ => 0)))] H := hP
  have hD : va_D A [(h0, .inr (8, [.ref q_1, .ref q_4, .ref q_7, .int 0, .ref q_10, .ref q_12, .ref q_14, .int 0, .null, .null, .null, .int 0])), (q_1, .inr (2, [.ref q_2, .int 0])), (q_2, .inl (t_3, 5, .inr (.inl (fun _ => 0)))), (q_4, .inr (2, [.ref q_5, .int 0])), (q_5, .inl (t_6, 7, .inr (.inl (fun _ => 0)))), (q_7, .inr (2, [.ref q_8, .int 0])), (q_8, .inl (t_9, 6, .inr (.inl (fun _ => 0)))), (q_10, .inl (t_11, 7, .inl (fun _ => 0))), (q_12, .inl (t_13, 6, .inl (fun _ => 0))), (q_14, .inl (t_15, 6, .inl (fun _ => 0)))] := hD
  refine lv_aload_n hx hb dX8_init_66 rfl (lv_at hl 0 rfl) ?_
  refine lv_bipush (v := 14) hx hb dX8_init_67 (by decide) ?_
  refine va_newa (a0 := (14, .inl (fun _ => 0))) (ty := .int) (N' := 14) hx hb (hts _ (List.mem_of_getElem? (i := 10) rfl)) rfl hK hP hD hS hA (fun _ => rfl) (by decide) (by decide) (by decide) (Nat.le_of_ble_eq_true rfl) (Nat.le_of_ble_eq_true rfl) dX8_init_69 (fun q_16 t_17 H hK hP hD hS => ?_)
  have hP : va_P D vwCl [(h0, .inr (8, [.ref q_1, .ref q_4, .ref q_7, .int 0, .ref q_10, .ref q_12, .ref q_14, .int 0, .null, .null, .null, .int 0])), (q_1, .inr (2, [.ref q_2, .int 0])), (q_2, .inl (t_3, 5, .inr (.inl (fun _ => 0)))), (q_4, .inr (2, [.ref q_5, .int 0])), (q_5, .inl (t_6, 7, .inr (.inl (fun _ => 0)))), (q_7, .inr (2, [.ref q_8, .int 0])), (q_8, .inl (t_9, 6, .inr (.inl (fun _ => 0)))), (q_10, .inl (t_11, 7, .inl (fun _ => 0))), (q_12, .inl (t_13, 6, .inl (fun _ => 0))), (q_14, .inl (t_15, 6, .inl (fun _ => 0))), (q_16, .inl (t_17, 14, .inl (fun _ => 0)))] H := hP
  have hD : va_D A [(h0, .inr (8, [.ref q_1, .ref q_4, .ref q_7, .int 0, .ref q_10, .ref q_12, .ref q_14, .int 0, .null, .null, .null, .int 0])), (q_1, .inr (2, [.ref q_2, .int 0])), (q_2, .inl (t_3, 5, .inr (.inl (fun _ => 0)))), (q_4, .inr (2, [.ref q_5, .int 0])), (q_5, .inl (t_6, 7, .inr (.inl (fun _ => 0)))), (q_7, .inr (2, [.ref q_8, .int 0])), (q_8, .inl (t_9, 6, .inr (.inl (fun _ => 0)))), (q_10, .inl (t_11, 7, .inl (fun _ => 0))), (q_12, .inl (t_13, 6, .inl (fun _ => 0))), (q_14, .inl (t_15, 6, .inl (fun _ => 0))), (q_16, .inl (t_17, 14, .inl (fun _ => 0)))] := hD
  have hK : va_K D vwCl [(t_3, .long), (t_6, .long), (t_9, .long), (t_11, .int), (t_13, .int), (t_15, .int), (t_17, .int)] s := hK
  refine W.cs (cells' := 10) (slots' := 57) rfl rfl ?_
  refine va_putF (D := D) (ci := 8) (v := .ref q_16) (ty := tyX8 8) (C := RX8) (T := TX8) (N := 12) hx hb hts hiX8 tyX8 tyX8_ok nmX8 hown hK hP hD hS 0 rfl rfl 8 (by decide) (hts _ (List.mem_of_getElem? (i := 14) rfl)) (fun _ h9 => h9) rfl hin rfl (tyX8_ok 8 (by decide)) rfl rfl (Nat.le_of_ble_eq_true rfl) dX8_init_71 (fun H locs hP hD hS => ?_)
  have hP : va_P D vwCl [(h0, .inr (8, [.ref q_1, .ref q_4, .ref q_7, .int 0, .ref q_10, .ref q_12, .ref q_14, .int 0, .ref q_16, .null, .null, .int 0])), (q_1, .inr (2, [.ref q_2, .int 0])), (q_2, .inl (t_3, 5, .inr (.inl (fun _ => 0)))), (q_4, .inr (2, [.ref q_5, .int 0])), (q_5, .inl (t_6, 7, .inr (.inl (fun _ => 0)))), (q_7, .inr (2, [.ref q_8, .int 0])), (q_8, .inl (t_9, 6, .inr (.inl (fun _ => 0)))), (q_10, .inl (t_11, 7, .inl (fun _ => 0))), (q_12, .inl (t_13, 6, .inl (fun _ => 0))), (q_14, .inl (t_15, 6, .inl (fun _ => 0))), (q_16, .inl (t_17, 14, .inl (fun _ => 0)))] H := hP
  have hD : va_D A [(h0, .inr (8, [.ref q_1, .ref q_4, .ref q_7, .int 0, .ref q_10, .ref q_12, .ref q_14, .int 0, .ref q_16, .null, .null, .int 0])), (q_1, .inr (2, [.ref q_2, .int 0])), (q_2, .inl (t_3, 5, .inr (.inl (fun _ => 0)))), (q_4, .inr (2, [.ref q_5, .int 0])), (q_5, .inl (t_6, 7, .inr (.inl (fun _ => 0)))), (q_7, .inr (2, [.ref q_8, .int 0])), (q_8, .inl (t_9, 6, .inr (.inl (fun _ => 0)))), (q_10, .inl (t_11, 7, .inl (fun _ => 0))), (q_12, .inl (t_13, 6, .inl (fun _ => 0))), (q_14, .inl (t_15, 6, .inl (fun _ => 0))), (q_16, .inl (t_17, 14, .inl (fun _ => 0)))] := hD
  refine lv_aload_n hx hb dX8_init_74 rfl (lv_at hl 0 rfl) ?_
  refine lv_bipush (v := 14) hx hb dX8_init_75 (by decide) ?_
  refine va_newa (a0 := (14, .inl (fun _ => 0))) (ty := .int) (N' := 14) hx hb (hts _ (List.mem_of_getElem? (i := 10) rfl)) rfl hK hP hD hS hA (fun _ => rfl) (by decide) (by decide) (by decide) (Nat.le_of_ble_eq_true rfl) (Nat.le_of_ble_eq_true rfl) dX8_init_77 (fun q_18 t_19 H hK hP hD hS => ?_)
  have hP : va_P D vwCl [(h0, .inr (8, [.ref q_1, .ref q_4, .ref q_7, .int 0, .ref q_10, .ref q_12, .ref q_14, .int 0, .ref q_16, .null, .null, .int 0])), (q_1, .inr (2, [.ref q_2, .int 0])), (q_2, .inl (t_3, 5, .inr (.inl (fun _ => 0)))), (q_4, .inr (2, [.ref q_5, .int 0])), (q_5, .inl (t_6, 7, .inr (.inl (fun _ => 0)))), (q_7, .inr (2, [.ref q_8, .int 0])), (q_8, .inl (t_9, 6, .inr (.inl (fun _ => 0)))), (q_10, .inl (t_11, 7, .inl (fun _ => 0))), (q_12, .inl (t_13, 6, .inl (fun _ => 0))), (q_14, .inl (t_15, 6, .inl (fun _ => 0))), (q_16, .inl (t_17, 14, .inl (fun _ => 0))), (q_18, .inl (t_19, 14, .inl (fun _ => 0)))] H := hP
  have hD : va_D A [(h0, .inr (8, [.ref q_1, .ref q_4, .ref q_7, .int 0, .ref q_10, .ref q_12, .ref q_14, .int 0, .ref q_16, .null, .null, .int 0])), (q_1, .inr (2, [.ref q_2, .int 0])), (q_2, .inl (t_3, 5, .inr (.inl (fun _ => 0)))), (q_4, .inr (2, [.ref q_5, .int 0])), (q_5, .inl (t_6, 7, .inr (.inl (fun _ => 0)))), (q_7, .inr (2, [.ref q_8, .int 0])), (q_8, .inl (t_9, 6, .inr (.inl (fun _ => 0)))), (q_10, .inl (t_11, 7, .inl (fun _ => 0))), (q_12, .inl (t_13, 6, .inl (fun _ => 0))), (q_14, .inl (t_15, 6, .inl (fun _ => 0))), (q_16, .inl (t_17, 14, .inl (fun _ => 0))), (q_18, .inl (t_19, 14, .inl (fun _ => 0)))] := hD
  have hK : va_K D vwCl [(t_3, .long), (t_6, .long), (t_9, .long), (t_11, .int), (t_13, .int), (t_15, .int), (t_17, .int), (t_19, .int)] s := hK
  refine W.cs (cells' := 11) (slots' := 71) rfl rfl ?_
  refine va_putF (D := D) (ci := 8) (v := .ref q_18) (ty := tyX8 9) (C := RX8) (T := TX8) (N := 12) hx hb hts hiX8 tyX8 tyX8_ok nmX8 hown hK hP hD hS 0 rfl rfl 9 (by decide) (hts _ (List.mem_of_getElem? (i := 15) rfl)) (fun _ h9 => h9) rfl hin rfl (tyX8_ok 9 (by decide)) rfl rfl (Nat.le_of_ble_eq_true rfl) dX8_init_79 (fun H locs hP hD hS => ?_)
  have hP : va_P D vwCl [(h0, .inr (8, [.ref q_1, .ref q_4, .ref q_7, .int 0, .ref q_10, .ref q_12, .ref q_14, .int 0, .ref q_16, .ref q_18, .null, .int 0])), (q_1, .inr (2, [.ref q_2, .int 0])), (q_2, .inl (t_3, 5, .inr (.inl (fun _ => 0)))), (q_4, .inr (2, [.ref q_5, .int 0])), (q_5, .inl (t_6, 7, .inr (.inl (fun _ => 0)))), (q_7, .inr (2, [.ref q_8, .int 0])), (q_8, .inl (t_9, 6, .inr (.inl (fun _ => 0)))), (q_10, .inl (t_11, 7, .inl (fun _ => 0))), (q_12, .inl (t_13, 6, .inl (fun _ => 0))), (q_14, .inl (t_15, 6, .inl (fun _ => 0))), (q_16, .inl (t_17, 14, .inl (fun _ => 0))), (q_18, .inl (t_19, 14, .inl (fun _ => 0)))] H := hP
  have hD : va_D A [(h0, .inr (8, [.ref q_1, .ref q_4, .ref q_7, .int 0, .ref q_10, .ref q_12, .ref q_14, .int 0, .ref q_16, .ref q_18, .null, .int 0])), (q_1, .inr (2, [.ref q_2, .int 0])), (q_2, .inl (t_3, 5, .inr (.inl (fun _ => 0)))), (q_4, .inr (2, [.ref q_5, .int 0])), (q_5, .inl (t_6, 7, .inr (.inl (fun _ => 0)))), (q_7, .inr (2, [.ref q_8, .int 0])), (q_8, .inl (t_9, 6, .inr (.inl (fun _ => 0)))), (q_10, .inl (t_11, 7, .inl (fun _ => 0))), (q_12, .inl (t_13, 6, .inl (fun _ => 0))), (q_14, .inl (t_15, 6, .inl (fun _ => 0))), (q_16, .inl (t_17, 14, .inl (fun _ => 0))), (q_18, .inl (t_19, 14, .inl (fun _ => 0)))] := hD
  refine lv_aload_n hx hb dX8_init_82 rfl (lv_at hl 0 rfl) ?_
  refine lv_bipush (v := 14) hx hb dX8_init_83 (by decide) ?_
  refine va_newa (a0 := (14, .inl (fun _ => 0))) (ty := .int) (N' := 14) hx hb (hts _ (List.mem_of_getElem? (i := 10) rfl)) rfl hK hP hD hS hA (fun _ => rfl) (by decide) (by decide) (by decide) (Nat.le_of_ble_eq_true rfl) (Nat.le_of_ble_eq_true rfl) dX8_init_85 (fun q_20 t_21 H hK hP hD hS => ?_)
  have hP : va_P D vwCl [(h0, .inr (8, [.ref q_1, .ref q_4, .ref q_7, .int 0, .ref q_10, .ref q_12, .ref q_14, .int 0, .ref q_16, .ref q_18, .null, .int 0])), (q_1, .inr (2, [.ref q_2, .int 0])), (q_2, .inl (t_3, 5, .inr (.inl (fun _ => 0)))), (q_4, .inr (2, [.ref q_5, .int 0])), (q_5, .inl (t_6, 7, .inr (.inl (fun _ => 0)))), (q_7, .inr (2, [.ref q_8, .int 0])), (q_8, .inl (t_9, 6, .inr (.inl (fun _ => 0)))), (q_10, .inl (t_11, 7, .inl (fun _ => 0))), (q_12, .inl (t_13, 6, .inl (fun _ => 0))), (q_14, .inl (t_15, 6, .inl (fun _ => 0))), (q_16, .inl (t_17, 14, .inl (fun _ => 0))), (q_18, .inl (t_19, 14, .inl (fun _ => 0))), (q_20, .inl (t_21, 14, .inl (fun _ => 0)))] H := hP
  have hD : va_D A [(h0, .inr (8, [.ref q_1, .ref q_4, .ref q_7, .int 0, .ref q_10, .ref q_12, .ref q_14, .int 0, .ref q_16, .ref q_18, .null, .int 0])), (q_1, .inr (2, [.ref q_2, .int 0])), (q_2, .inl (t_3, 5, .inr (.inl (fun _ => 0)))), (q_4, .inr (2, [.ref q_5, .int 0])), (q_5, .inl (t_6, 7, .inr (.inl (fun _ => 0)))), (q_7, .inr (2, [.ref q_8, .int 0])), (q_8, .inl (t_9, 6, .inr (.inl (fun _ => 0)))), (q_10, .inl (t_11, 7, .inl (fun _ => 0))), (q_12, .inl (t_13, 6, .inl (fun _ => 0))), (q_14, .inl (t_15, 6, .inl (fun _ => 0))), (q_16, .inl (t_17, 14, .inl (fun _ => 0))), (q_18, .inl (t_19, 14, .inl (fun _ => 0))), (q_20, .inl (t_21, 14, .inl (fun _ => 0)))] := hD
  have hK : va_K D vwCl [(t_3, .long), (t_6, .long), (t_9, .long), (t_11, .int), (t_13, .int), (t_15, .int), (t_17, .int), (t_19, .int), (t_21, .int)] s := hK
  refine W.cs (cells' := 12) (slots' := 85) rfl rfl ?_
  refine va_putF (D := D) (ci := 8) (v := .ref q_20) (ty := tyX8 10) (C := RX8) (T := TX8) (N := 12) hx hb hts hiX8 tyX8 tyX8_ok nmX8 hown hK hP hD hS 0 rfl rfl 10 (by decide) (hts _ (List.mem_of_getElem? (i := 16) rfl)) (fun _ h9 => h9) rfl hin rfl (tyX8_ok 10 (by decide)) rfl rfl (Nat.le_of_ble_eq_true rfl) dX8_init_87 (fun H locs hP hD hS => ?_)
  have hP : va_P D vwCl [(h0, .inr (8, [.ref q_1, .ref q_4, .ref q_7, .int 0, .ref q_10, .ref q_12, .ref q_14, .int 0, .ref q_16, .ref q_18, .ref q_20, .int 0])), (q_1, .inr (2, [.ref q_2, .int 0])), (q_2, .inl (t_3, 5, .inr (.inl (fun _ => 0)))), (q_4, .inr (2, [.ref q_5, .int 0])), (q_5, .inl (t_6, 7, .inr (.inl (fun _ => 0)))), (q_7, .inr (2, [.ref q_8, .int 0])), (q_8, .inl (t_9, 6, .inr (.inl (fun _ => 0)))), (q_10, .inl (t_11, 7, .inl (fun _ => 0))), (q_12, .inl (t_13, 6, .inl (fun _ => 0))), (q_14, .inl (t_15, 6, .inl (fun _ => 0))), (q_16, .inl (t_17, 14, .inl (fun _ => 0))), (q_18, .inl (t_19, 14, .inl (fun _ => 0))), (q_20, .inl (t_21, 14, .inl (fun _ => 0)))] H := hP
  have hD : va_D A [(h0, .inr (8, [.ref q_1, .ref q_4, .ref q_7, .int 0, .ref q_10, .ref q_12, .ref q_14, .int 0, .ref q_16, .ref q_18, .ref q_20, .int 0])), (q_1, .inr (2, [.ref q_2, .int 0])), (q_2, .inl (t_3, 5, .inr (.inl (fun _ => 0)))), (q_4, .inr (2, [.ref q_5, .int 0])), (q_5, .inl (t_6, 7, .inr (.inl (fun _ => 0)))), (q_7, .inr (2, [.ref q_8, .int 0])), (q_8, .inl (t_9, 6, .inr (.inl (fun _ => 0)))), (q_10, .inl (t_11, 7, .inl (fun _ => 0))), (q_12, .inl (t_13, 6, .inl (fun _ => 0))), (q_14, .inl (t_15, 6, .inl (fun _ => 0))), (q_16, .inl (t_17, 14, .inl (fun _ => 0))), (q_18, .inl (t_19, 14, .inl (fun _ => 0))), (q_20, .inl (t_21, 14, .inl (fun _ => 0)))] := hD
  refine lv_aload_n hx hb dX8_init_90 rfl (lv_at hl 0 rfl) ?_
  refine lv_iconst (v := 2) hx hb dX8_init_91 (by decide) ?_
  refine va_put (D := D) (ci := 8) (v := .int 2) (ty := tyX8 11) (C := RX8) (T := TX8) (N := 12) hx hb hts hiX8 tyX8 tyX8_ok nmX8 hown hK hP hD hS 0 rfl rfl 11 (by decide) (hts _ (List.mem_of_getElem? (i := 17) rfl)) (fun _ h9 => h9) rfl (tyX8_ok 11 (by decide)) rfl rfl (Nat.le_of_ble_eq_true rfl) dX8_init_92 (fun H locs hP hD hS => ?_)
  have hP : va_P D vwCl [(h0, .inr (8, [.ref q_1, .ref q_4, .ref q_7, .int 0, .ref q_10, .ref q_12, .ref q_14, .int 0, .ref q_16, .ref q_18, .ref q_20, .int 2])), (q_1, .inr (2, [.ref q_2, .int 0])), (q_2, .inl (t_3, 5, .inr (.inl (fun _ => 0)))), (q_4, .inr (2, [.ref q_5, .int 0])), (q_5, .inl (t_6, 7, .inr (.inl (fun _ => 0)))), (q_7, .inr (2, [.ref q_8, .int 0])), (q_8, .inl (t_9, 6, .inr (.inl (fun _ => 0)))), (q_10, .inl (t_11, 7, .inl (fun _ => 0))), (q_12, .inl (t_13, 6, .inl (fun _ => 0))), (q_14, .inl (t_15, 6, .inl (fun _ => 0))), (q_16, .inl (t_17, 14, .inl (fun _ => 0))), (q_18, .inl (t_19, 14, .inl (fun _ => 0))), (q_20, .inl (t_21, 14, .inl (fun _ => 0)))] H := hP
  have hD : va_D A [(h0, .inr (8, [.ref q_1, .ref q_4, .ref q_7, .int 0, .ref q_10, .ref q_12, .ref q_14, .int 0, .ref q_16, .ref q_18, .ref q_20, .int 2])), (q_1, .inr (2, [.ref q_2, .int 0])), (q_2, .inl (t_3, 5, .inr (.inl (fun _ => 0)))), (q_4, .inr (2, [.ref q_5, .int 0])), (q_5, .inl (t_6, 7, .inr (.inl (fun _ => 0)))), (q_7, .inr (2, [.ref q_8, .int 0])), (q_8, .inl (t_9, 6, .inr (.inl (fun _ => 0)))), (q_10, .inl (t_11, 7, .inl (fun _ => 0))), (q_12, .inl (t_13, 6, .inl (fun _ => 0))), (q_14, .inl (t_15, 6, .inl (fun _ => 0))), (q_16, .inl (t_17, 14, .inl (fun _ => 0))), (q_18, .inl (t_19, 14, .inl (fun _ => 0))), (q_20, .inl (t_21, 14, .inl (fun _ => 0)))] := hD
  refine W.widen (k := 12) (n := 85) (by decide) (by decide) ?_
  exact hret ([(h0, .inr (8, [.ref q_1, .ref q_4, .ref q_7, .int 0, .ref q_10, .ref q_12, .ref q_14, .int 0, .ref q_16, .ref q_18, .ref q_20, .int 2])), (q_1, .inr (2, [.ref q_2, .int 0])), (q_2, .inl (t_3, 5, .inr (.inl (fun _ => 0)))), (q_4, .inr (2, [.ref q_5, .int 0])), (q_5, .inl (t_6, 7, .inr (.inl (fun _ => 0)))), (q_7, .inr (2, [.ref q_8, .int 0])), (q_8, .inl (t_9, 6, .inr (.inl (fun _ => 0)))), (q_10, .inl (t_11, 7, .inl (fun _ => 0))), (q_12, .inl (t_13, 6, .inl (fun _ => 0))), (q_14, .inl (t_15, 6, .inl (fun _ => 0))), (q_16, .inl (t_17, 14, .inl (fun _ => 0))), (q_18, .inl (t_19, 14, .inl (fun _ => 0))), (q_20, .inl (t_21, 14, .inl (fun _ => 0)))], [(t_3, .long), (t_6, .long), (t_9, .long), (t_11, .int), (t_13, .int), (t_15, .int), (t_17, .int), (t_19, .int), (t_21, .int)]) _ _ _ _ dX8_init_95 ⟨q_1, q_2, t_3, q_4, q_5, t_6, q_7, q_8, t_9, q_10, t_11, q_12, t_13, q_14, t_15, q_16, t_17, q_18, t_19, q_20, t_21, rfl⟩ (hP.sub [0, 1, 2, 3, 4, 5, 6, 7, 8, 9, 10, 11, 12] rfl) (hK.sub [0, 1, 2, 3, 4, 5, 6, 7, 8] rfl) (hD.sub [0, 1, 2, 3, 4, 5, 6, 7, 8, 9, 10, 11, 12] (by decide +kernel) rfl) hS

set_option maxHeartbeats 8000000 in
set_option maxRecDepth 100000 in
theorem k_X4_init (l : Launch) (D : va_G) (ad : Nat → Nat) (h0 : Nat) (tw : Nat)  : z_Mv l yX4_init wsX4_init { frames := 1, cells := 4, slots := 25, locals := 20 } D ad [.ref h0, .ref tw] [(h0, .inr (4, [.null, .int 0, .int 0, .int 0, .null, .null, .null, .null]))] [] 4 25 (fun u9 => ∃ (q_1 : Nat) (t_2 : ClassId) (q_3 : Nat) (t_4 : ClassId) (q_5 : Nat) (t_6 : ClassId) (q_7 : Nat) (t_8 : ClassId), u9 = ([(h0, .inr (4, [.ref tw, .int 0, .int 0, .int 0, .ref q_1, .ref q_3, .ref q_5, .ref q_7])), (q_1, .inl (t_2, 7, .inl (fun _ => 0))), (q_3, .inl (t_4, 6, .inl (fun _ => 0))), (q_5, .inl (t_6, 6, .inl (fun _ => 0))), (q_7, .inl (t_8, 6, .inl (fun _ => 0)))], [(t_2, .int), (t_4, .int), (t_6, .int), (t_8, .int)])) := by
  refine z_ofV (cc := cX4_init) (maxL := 2) (by decide) rfl (Nat.le_of_ble_eq_true rfl) ?_
  intro p e s m below meth c Q A ls hx hb hml hown hts hin hK hP hD hA hE hO hS hl hret
  have hown : s.vm.findClass RX4 = some m.cls := hown
  have hin : meth.name = "<init>" := hin
  have hiX4 : ∀ w ∈ wsX40, w ∈ wsX4_init := fun _ h9 => List.mem_cons_of_mem _ (List.mem_append_right _ h9)
  have hl : lv_has ls 2 [(0, .ref h0), (1, .ref tw)] := hl
  refine lv_aload_n hx hb dX4_init_0 rfl (lv_at hl 0 rfl) ?_
  refine W.objInit hx hb hown (hts _ (List.mem_of_getElem? (i := 1) rfl)) (hts _ (List.mem_of_getElem? (i := 2) rfl)) (hts _ (List.mem_of_getElem? (i := 3) rfl)) rfl (by rw [hml]; exact hl.1) rfl dX4_init_1 (Nat.le_of_ble_eq_true rfl) (Nat.le_of_ble_eq_true rfl) ?_
  refine W.eq (g2 := F0 m 4 ls []) rfl ?_
  refine lv_aload_n hx hb dX4_init_4 rfl (lv_at hl 0 rfl) ?_
  refine lv_bipush (v := 7) hx hb dX4_init_5 (by decide) ?_
  refine va_newa (a0 := (7, .inl (fun _ => 0))) (ty := .int) (N' := 7) hx hb (hts _ (List.mem_of_getElem? (i := 4) rfl)) rfl hK hP hD hS hA (fun _ => rfl) (by decide) (by decide) (by decide) (Nat.le_of_ble_eq_true rfl) (Nat.le_of_ble_eq_true rfl) dX4_init_7 (fun q_1 t_2 H hK hP hD hS => ?_)
  have hP : va_P D vwCl [(h0, .inr (4, [.null, .int 0, .int 0, .int 0, .null, .null, .null, .null])), (q_1, .inl (t_2, 7, .inl (fun _ => 0)))] H := hP
  have hD : va_D A [(h0, .inr (4, [.null, .int 0, .int 0, .int 0, .null, .null, .null, .null])), (q_1, .inl (t_2, 7, .inl (fun _ => 0)))] := hD
  have hK : va_K D vwCl [(t_2, .int)] s := hK
  refine W.cs (cells' := 1) (slots' := 7) rfl rfl ?_
  refine va_putF (D := D) (ci := 4) (v := .ref q_1) (ty := tyX4 4) (C := RX4) (T := TX4) (N := 8) hx hb hts hiX4 tyX4 tyX4_ok nmX4 hown hK hP hD hS 0 rfl rfl 4 (by decide) (hts _ (List.mem_of_getElem? (i := 5) rfl)) (fun _ h9 => h9) rfl hin rfl (tyX4_ok 4 (by decide)) rfl rfl (Nat.le_of_ble_eq_true rfl) dX4_init_9 (fun H locs hP hD hS => ?_)
  have hP : va_P D vwCl [(h0, .inr (4, [.null, .int 0, .int 0, .int 0, .ref q_1, .null, .null, .null])), (q_1, .inl (t_2, 7, .inl (fun _ => 0)))] H := hP
  have hD : va_D A [(h0, .inr (4, [.null, .int 0, .int 0, .int 0, .ref q_1, .null, .null, .null])), (q_1, .inl (t_2, 7, .inl (fun _ => 0)))] := hD
  refine lv_aload_n hx hb dX4_init_12 rfl (lv_at hl 0 rfl) ?_
  refine lv_bipush (v := 6) hx hb dX4_init_13 (by decide) ?_
  refine va_newa (a0 := (6, .inl (fun _ => 0))) (ty := .int) (N' := 6) hx hb (hts _ (List.mem_of_getElem? (i := 4) rfl)) rfl hK hP hD hS hA (fun _ => rfl) (by decide) (by decide) (by decide) (Nat.le_of_ble_eq_true rfl) (Nat.le_of_ble_eq_true rfl) dX4_init_15 (fun q_3 t_4 H hK hP hD hS => ?_)
  have hP : va_P D vwCl [(h0, .inr (4, [.null, .int 0, .int 0, .int 0, .ref q_1, .null, .null, .null])), (q_1, .inl (t_2, 7, .inl (fun _ => 0))), (q_3, .inl (t_4, 6, .inl (fun _ => 0)))] H := hP
  have hD : va_D A [(h0, .inr (4, [.null, .int 0, .int 0, .int 0, .ref q_1, .null, .null, .null])), (q_1, .inl (t_2, 7, .inl (fun _ => 0))), (q_3, .inl (t_4, 6, .inl (fun _ => 0)))] := hD
  have hK : va_K D vwCl [(t_2, .int), (t_4, .int)] s := hK
  refine W.cs (cells' := 2) (slots' := 13) rfl rfl ?_
  refine va_putF (D := D) (ci := 4) (v := .ref q_3) (ty := tyX4 5) (C := RX4) (T := TX4) (N := 8) hx hb hts hiX4 tyX4 tyX4_ok nmX4 hown hK hP hD hS 0 rfl rfl 5 (by decide) (hts _ (List.mem_of_getElem? (i := 6) rfl)) (fun _ h9 => h9) rfl hin rfl (tyX4_ok 5 (by decide)) rfl rfl (Nat.le_of_ble_eq_true rfl) dX4_init_17 (fun H locs hP hD hS => ?_)
  have hP : va_P D vwCl [(h0, .inr (4, [.null, .int 0, .int 0, .int 0, .ref q_1, .ref q_3, .null, .null])), (q_1, .inl (t_2, 7, .inl (fun _ => 0))), (q_3, .inl (t_4, 6, .inl (fun _ => 0)))] H := hP
  have hD : va_D A [(h0, .inr (4, [.null, .int 0, .int 0, .int 0, .ref q_1, .ref q_3, .null, .null])), (q_1, .inl (t_2, 7, .inl (fun _ => 0))), (q_3, .inl (t_4, 6, .inl (fun _ => 0)))] := hD
  refine lv_aload_n hx hb dX4_init_20 rfl (lv_at hl 0 rfl) ?_
  refine lv_bipush (v := 6) hx hb dX4_init_21 (by decide) ?_
  refine va_newa (a0 := (6, .inl (fun _ => 0))) (ty := .int) (N' := 6) hx hb (hts _ (List.mem_of_getElem? (i := 4) rfl)) rfl hK hP hD hS hA (fun _ => rfl) (by decide) (by decide) (by decide) (Nat.le_of_ble_eq_true rfl) (Nat.le_of_ble_eq_true rfl) dX4_init_23 (fun q_5 t_6 H hK hP hD hS => ?_)
  have hP : va_P D vwCl [(h0, .inr (4, [.null, .int 0, .int 0, .int 0, .ref q_1, .ref q_3, .null, .null])), (q_1, .inl (t_2, 7, .inl (fun _ => 0))), (q_3, .inl (t_4, 6, .inl (fun _ => 0))), (q_5, .inl (t_6, 6, .inl (fun _ => 0)))] H := hP
  have hD : va_D A [(h0, .inr (4, [.null, .int 0, .int 0, .int 0, .ref q_1, .ref q_3, .null, .null])), (q_1, .inl (t_2, 7, .inl (fun _ => 0))), (q_3, .inl (t_4, 6, .inl (fun _ => 0))), (q_5, .inl (t_6, 6, .inl (fun _ => 0)))] := hD
  have hK : va_K D vwCl [(t_2, .int), (t_4, .int), (t_6, .int)] s := hK
  refine W.cs (cells' := 3) (slots' := 19) rfl rfl ?_
  refine va_putF (D := D) (ci := 4) (v := .ref q_5) (ty := tyX4 6) (C := RX4) (T := TX4) (N := 8) hx hb hts hiX4 tyX4 tyX4_ok nmX4 hown hK hP hD hS 0 rfl rfl 6 (by decide) (hts _ (List.mem_of_getElem? (i := 7) rfl)) (fun _ h9 => h9) rfl hin rfl (tyX4_ok 6 (by decide)) rfl rfl (Nat.le_of_ble_eq_true rfl) dX4_init_25 (fun H locs hP hD hS => ?_)
  have hP : va_P D vwCl [(h0, .inr (4, [.null, .int 0, .int 0, .int 0, .ref q_1, .ref q_3, .ref q_5, .null])), (q_1, .inl (t_2, 7, .inl (fun _ => 0))), (q_3, .inl (t_4, 6, .inl (fun _ => 0))), (q_5, .inl (t_6, 6, .inl (fun _ => 0)))] H := hP
  have hD : va_D A [(h0, .inr (4, [.null, .int 0, .int 0, .int 0, .ref q_1, .ref q_3, .ref q_5, .null])), (q_1, .inl (t_2, 7, .inl (fun _ => 0))), (q_3, .inl (t_4, 6, .inl (fun _ => 0))), (q_5, .inl (t_6, 6, .inl (fun _ => 0)))] := hD
  refine lv_aload_n hx hb dX4_init_28 rfl (lv_at hl 0 rfl) ?_
  refine lv_bipush (v := 6) hx hb dX4_init_29 (by decide) ?_
  refine va_newa (a0 := (6, .inl (fun _ => 0))) (ty := .int) (N' := 6) hx hb (hts _ (List.mem_of_getElem? (i := 4) rfl)) rfl hK hP hD hS hA (fun _ => rfl) (by decide) (by decide) (by decide) (Nat.le_of_ble_eq_true rfl) (Nat.le_of_ble_eq_true rfl) dX4_init_31 (fun q_7 t_8 H hK hP hD hS => ?_)
  have hP : va_P D vwCl [(h0, .inr (4, [.null, .int 0, .int 0, .int 0, .ref q_1, .ref q_3, .ref q_5, .null])), (q_1, .inl (t_2, 7, .inl (fun _ => 0))), (q_3, .inl (t_4, 6, .inl (fun _ => 0))), (q_5, .inl (t_6, 6, .inl (fun _ => 0))), (q_7, .inl (t_8, 6, .inl (fun _ => 0)))] H := hP
  have hD : va_D A [(h0, .inr (4, [.null, .int 0, .int 0, .int 0, .ref q_1, .ref q_3, .ref q_5, .null])), (q_1, .inl (t_2, 7, .inl (fun _ => 0))), (q_3, .inl (t_4, 6, .inl (fun _ => 0))), (q_5, .inl (t_6, 6, .inl (fun _ => 0))), (q_7, .inl (t_8, 6, .inl (fun _ => 0)))] := hD
  have hK : va_K D vwCl [(t_2, .int), (t_4, .int), (t_6, .int), (t_8, .int)] s := hK
  refine W.cs (cells' := 4) (slots' := 25) rfl rfl ?_
  refine va_putF (D := D) (ci := 4) (v := .ref q_7) (ty := tyX4 7) (C := RX4) (T := TX4) (N := 8) hx hb hts hiX4 tyX4 tyX4_ok nmX4 hown hK hP hD hS 0 rfl rfl 7 (by decide) (hts _ (List.mem_of_getElem? (i := 8) rfl)) (fun _ h9 => h9) rfl hin rfl (tyX4_ok 7 (by decide)) rfl rfl (Nat.le_of_ble_eq_true rfl) dX4_init_33 (fun H locs hP hD hS => ?_)
  have hP : va_P D vwCl [(h0, .inr (4, [.null, .int 0, .int 0, .int 0, .ref q_1, .ref q_3, .ref q_5, .ref q_7])), (q_1, .inl (t_2, 7, .inl (fun _ => 0))), (q_3, .inl (t_4, 6, .inl (fun _ => 0))), (q_5, .inl (t_6, 6, .inl (fun _ => 0))), (q_7, .inl (t_8, 6, .inl (fun _ => 0)))] H := hP
  have hD : va_D A [(h0, .inr (4, [.null, .int 0, .int 0, .int 0, .ref q_1, .ref q_3, .ref q_5, .ref q_7])), (q_1, .inl (t_2, 7, .inl (fun _ => 0))), (q_3, .inl (t_4, 6, .inl (fun _ => 0))), (q_5, .inl (t_6, 6, .inl (fun _ => 0))), (q_7, .inl (t_8, 6, .inl (fun _ => 0)))] := hD
  refine lv_aload_n hx hb dX4_init_36 rfl (lv_at hl 0 rfl) ?_
  refine lv_aload_n hx hb dX4_init_37 rfl (lv_at hl 1 rfl) ?_
  refine va_putF (D := D) (ci := 4) (v := .ref tw) (ty := tyX4 0) (C := RX4) (T := TX4) (N := 8) hx hb hts hiX4 tyX4 tyX4_ok nmX4 hown hK hP hD hS 0 rfl rfl 0 (by decide) (hts _ (List.mem_of_getElem? (i := 9) rfl)) (fun _ h9 => h9) rfl hin rfl (tyX4_ok 0 (by decide)) rfl rfl (Nat.le_of_ble_eq_true rfl) dX4_init_38 (fun H locs hP hD hS => ?_)
  have hP : va_P D vwCl [(h0, .inr (4, [.ref tw, .int 0, .int 0, .int 0, .ref q_1, .ref q_3, .ref q_5, .ref q_7])), (q_1, .inl (t_2, 7, .inl (fun _ => 0))), (q_3, .inl (t_4, 6, .inl (fun _ => 0))), (q_5, .inl (t_6, 6, .inl (fun _ => 0))), (q_7, .inl (t_8, 6, .inl (fun _ => 0)))] H := hP
  have hD : va_D A [(h0, .inr (4, [.ref tw, .int 0, .int 0, .int 0, .ref q_1, .ref q_3, .ref q_5, .ref q_7])), (q_1, .inl (t_2, 7, .inl (fun _ => 0))), (q_3, .inl (t_4, 6, .inl (fun _ => 0))), (q_5, .inl (t_6, 6, .inl (fun _ => 0))), (q_7, .inl (t_8, 6, .inl (fun _ => 0)))] := hD
  refine W.widen (k := 4) (n := 25) (by decide) (by decide) ?_
  exact hret ([(h0, .inr (4, [.ref tw, .int 0, .int 0, .int 0, .ref q_1, .ref q_3, .ref q_5, .ref q_7])), (q_1, .inl (t_2, 7, .inl (fun _ => 0))), (q_3, .inl (t_4, 6, .inl (fun _ => 0))), (q_5, .inl (t_6, 6, .inl (fun _ => 0))), (q_7, .inl (t_8, 6, .inl (fun _ => 0)))], [(t_2, .int), (t_4, .int), (t_6, .int), (t_8, .int)]) _ _ _ _ dX4_init_41 ⟨q_1, t_2, q_3, t_4, q_5, t_6, q_7, t_8, rfl⟩ (hP.sub [0, 1, 2, 3, 4] rfl) (hK.sub [0, 1, 2, 3] rfl) (hD.sub [0, 1, 2, 3, 4] (by decide +kernel) rfl) hS

set_option maxHeartbeats 8000000 in
set_option maxRecDepth 100000 in
theorem k_X5_init (l : Launch) (D : va_G) (ad : Nat → Nat) (h0 : Nat)  : z_Mv l yX5_init wsX5_init { frames := 1, cells := 5, slots := 200, locals := 20 } D ad [.ref h0] [(h0, .inr (5, [.null, .null, .null, .null, .null, .int 0, .int 0, .int 0, .int 0, .int 0]))] [] 5 200 (fun u9 => ∃ (q_1 : Nat) (t_2 : ClassId) (q_3 : Nat) (t_4 : ClassId) (q_5 : Nat) (t_6 : ClassId) (q_7 : Nat) (t_8 : ClassId) (q_9 : Nat) (t_10 : ClassId), u9 = ([(h0, .inr (5, [.ref q_1, .ref q_3, .ref q_5, .ref q_7, .ref q_9, .int 0, .int 0, .int 0, .int 0, .int 0])), (q_1, .inl (t_2, 40, .inr (.inr (.inr (.inr (fun _ => none)))))), (q_3, .inl (t_4, 40, .inl (fun _ => 0))), (q_5, .inl (t_6, 40, .inl (fun _ => 0))), (q_7, .inl (t_8, 40, .inl (fun _ => 0))), (q_9, .inl (t_10, 40, .inr (.inr (.inr (.inr (fun _ => none))))))], [(t_2, .object "FuneralUmbrellas$Word"), (t_4, .int), (t_6, .int), (t_8, .int), (t_10, .object "FuneralUmbrellas$Word")])) := by
  refine z_ofV (cc := cX5_init) (maxL := 1) (by decide) rfl (Nat.le_of_ble_eq_true rfl) ?_
  intro p e s m below meth c Q A ls hx hb hml hown hts hin hK hP hD hA hE hO hS hl hret
  have hown : s.vm.findClass RX5 = some m.cls := hown
  have hin : meth.name = "<init>" := hin
  have hiX5 : ∀ w ∈ wsX50, w ∈ wsX5_init := fun _ h9 => List.mem_cons_of_mem _ (List.mem_append_right _ h9)
  have hl : lv_has ls 1 [(0, .ref h0)] := hl
  refine lv_aload_n hx hb dX5_init_0 rfl (lv_at hl 0 rfl) ?_
  refine W.objInit hx hb hown (hts _ (List.mem_of_getElem? (i := 1) rfl)) (hts _ (List.mem_of_getElem? (i := 2) rfl)) (hts _ (List.mem_of_getElem? (i := 3) rfl)) rfl (by rw [hml]; exact hl.1) rfl dX5_init_1 (Nat.le_of_ble_eq_true rfl) (Nat.le_of_ble_eq_true rfl) ?_
  refine W.eq (g2 := F0 m 4 ls []) rfl ?_
  refine lv_aload_n hx hb dX5_init_4 rfl (lv_at hl 0 rfl) ?_
  refine lv_bipush (v := 40) hx hb dX5_init_5 (by decide) ?_
  refine va_newq (C := "FuneralUmbrellas$Word") (N' := 40) hx hb hown (hts _ (List.mem_of_getElem? (i := 4) rfl)) hO.1.1 hK hP hD hS hA (by decide) (by decide) (by decide) (Nat.le_of_ble_eq_true rfl) (Nat.le_of_ble_eq_true rfl) dX5_init_7 (fun q_1 t_2 H hK hP hD hS => ?_)
  have hP : va_P D vwCl [(h0, .inr (5, [.null, .null, .null, .null, .null, .int 0, .int 0, .int 0, .int 0, .int 0])), (q_1, .inl (t_2, 40, .inr (.inr (.inr (.inr (fun _ => none))))))] H := hP
  have hD : va_D A [(h0, .inr (5, [.null, .null, .null, .null, .null, .int 0, .int 0, .int 0, .int 0, .int 0])), (q_1, .inl (t_2, 40, .inr (.inr (.inr (.inr (fun _ => none))))))] := hD
  have hK : va_K D vwCl [(t_2, .object "FuneralUmbrellas$Word")] s := hK
  refine W.cs (cells' := 1) (slots' := 40) rfl rfl ?_
  refine va_putF (D := D) (ci := 5) (v := .ref q_1) (ty := tyX5 0) (C := RX5) (T := TX5) (N := 10) hx hb hts hiX5 tyX5 tyX5_ok nmX5 hown hK hP hD hS 0 rfl rfl 0 (by decide) (hts _ (List.mem_of_getElem? (i := 5) rfl)) (fun _ h9 => h9) rfl hin rfl (tyX5_ok 0 (by decide)) rfl rfl (Nat.le_of_ble_eq_true rfl) dX5_init_10 (fun H locs hP hD hS => ?_)
  have hP : va_P D vwCl [(h0, .inr (5, [.ref q_1, .null, .null, .null, .null, .int 0, .int 0, .int 0, .int 0, .int 0])), (q_1, .inl (t_2, 40, .inr (.inr (.inr (.inr (fun _ => none))))))] H := hP
  have hD : va_D A [(h0, .inr (5, [.ref q_1, .null, .null, .null, .null, .int 0, .int 0, .int 0, .int 0, .int 0])), (q_1, .inl (t_2, 40, .inr (.inr (.inr (.inr (fun _ => none))))))] := hD
  refine lv_aload_n hx hb dX5_init_13 rfl (lv_at hl 0 rfl) ?_
  refine lv_bipush (v := 40) hx hb dX5_init_14 (by decide) ?_
  refine va_newa (a0 := (40, .inl (fun _ => 0))) (ty := .int) (N' := 40) hx hb (hts _ (List.mem_of_getElem? (i := 6) rfl)) rfl hK hP hD hS hA (fun _ => rfl) (by decide) (by decide) (by decide) (Nat.le_of_ble_eq_true rfl) (Nat.le_of_ble_eq_true rfl) dX5_init_16 (fun q_3 t_4 H hK hP hD hS => ?_)
  have hP : va_P D vwCl [(h0, .inr (5, [.ref q_1, .null, .null, .null, .null, .int 0, .int 0, .int 0, .int 0, .int 0])), (q_1, .inl (t_2, 40, .inr (.inr (.inr (.inr (fun _ => none)))))), (q_3, .inl (t_4, 40, .inl (fun _ => 0)))] H := hP
  have hD : va_D A [(h0, .inr (5, [.ref q_1, .null, .null, .null, .null, .int 0, .int 0, .int 0, .int 0, .int 0])), (q_1, .inl (t_2, 40, .inr (.inr (.inr (.inr (fun _ => none)))))), (q_3, .inl (t_4, 40, .inl (fun _ => 0)))] := hD
  have hK : va_K D vwCl [(t_2, .object "FuneralUmbrellas$Word"), (t_4, .int)] s := hK
  refine W.cs (cells' := 2) (slots' := 80) rfl rfl ?_
  refine va_putF (D := D) (ci := 5) (v := .ref q_3) (ty := tyX5 1) (C := RX5) (T := TX5) (N := 10) hx hb hts hiX5 tyX5 tyX5_ok nmX5 hown hK hP hD hS 0 rfl rfl 1 (by decide) (hts _ (List.mem_of_getElem? (i := 7) rfl)) (fun _ h9 => h9) rfl hin rfl (tyX5_ok 1 (by decide)) rfl rfl (Nat.le_of_ble_eq_true rfl) dX5_init_18 (fun H locs hP hD hS => ?_)
  have hP : va_P D vwCl [(h0, .inr (5, [.ref q_1, .ref q_3, .null, .null, .null, .int 0, .int 0, .int 0, .int 0, .int 0])), (q_1, .inl (t_2, 40, .inr (.inr (.inr (.inr (fun _ => none)))))), (q_3, .inl (t_4, 40, .inl (fun _ => 0)))] H := hP
  have hD : va_D A [(h0, .inr (5, [.ref q_1, .ref q_3, .null, .null, .null, .int 0, .int 0, .int 0, .int 0, .int 0])), (q_1, .inl (t_2, 40, .inr (.inr (.inr (.inr (fun _ => none)))))), (q_3, .inl (t_4, 40, .inl (fun _ => 0)))] := hD
  refine lv_aload_n hx hb dX5_init_21 rfl (lv_at hl 0 rfl) ?_
  refine lv_bipush (v := 40) hx hb dX5_init_22 (by decide) ?_
  refine va_newa (a0 := (40, .inl (fun _ => 0))) (ty := .int) (N' := 40) hx hb (hts _ (List.mem_of_getElem? (i := 6) rfl)) rfl hK hP hD hS hA (fun _ => rfl) (by decide) (by decide) (by decide) (Nat.le_of_ble_eq_true rfl) (Nat.le_of_ble_eq_true rfl) dX5_init_24 (fun q_5 t_6 H hK hP hD hS => ?_)
  have hP : va_P D vwCl [(h0, .inr (5, [.ref q_1, .ref q_3, .null, .null, .null, .int 0, .int 0, .int 0, .int 0, .int 0])), (q_1, .inl (t_2, 40, .inr (.inr (.inr (.inr (fun _ => none)))))), (q_3, .inl (t_4, 40, .inl (fun _ => 0))), (q_5, .inl (t_6, 40, .inl (fun _ => 0)))] H := hP
  have hD : va_D A [(h0, .inr (5, [.ref q_1, .ref q_3, .null, .null, .null, .int 0, .int 0, .int 0, .int 0, .int 0])), (q_1, .inl (t_2, 40, .inr (.inr (.inr (.inr (fun _ => none)))))), (q_3, .inl (t_4, 40, .inl (fun _ => 0))), (q_5, .inl (t_6, 40, .inl (fun _ => 0)))] := hD
  have hK : va_K D vwCl [(t_2, .object "FuneralUmbrellas$Word"), (t_4, .int), (t_6, .int)] s := hK
  refine W.cs (cells' := 3) (slots' := 120) rfl rfl ?_
  refine va_putF (D := D) (ci := 5) (v := .ref q_5) (ty := tyX5 2) (C := RX5) (T := TX5) (N := 10) hx hb hts hiX5 tyX5 tyX5_ok nmX5 hown hK hP hD hS 0 rfl rfl 2 (by decide) (hts _ (List.mem_of_getElem? (i := 8) rfl)) (fun _ h9 => h9) rfl hin rfl (tyX5_ok 2 (by decide)) rfl rfl (Nat.le_of_ble_eq_true rfl) dX5_init_26 (fun H locs hP hD hS => ?_)
  have hP : va_P D vwCl [(h0, .inr (5, [.ref q_1, .ref q_3, .ref q_5, .null, .null, .int 0, .int 0, .int 0, .int 0, .int 0])), (q_1, .inl (t_2, 40, .inr (.inr (.inr (.inr (fun _ => none)))))), (q_3, .inl (t_4, 40, .inl (fun _ => 0))), (q_5, .inl (t_6, 40, .inl (fun _ => 0)))] H := hP
  have hD : va_D A [(h0, .inr (5, [.ref q_1, .ref q_3, .ref q_5, .null, .null, .int 0, .int 0, .int 0, .int 0, .int 0])), (q_1, .inl (t_2, 40, .inr (.inr (.inr (.inr (fun _ => none)))))), (q_3, .inl (t_4, 40, .inl (fun _ => 0))), (q_5, .inl (t_6, 40, .inl (fun _ => 0)))] := hD
  refine lv_aload_n hx hb dX5_init_29 rfl (lv_at hl 0 rfl) ?_
  refine lv_bipush (v := 40) hx hb dX5_init_30 (by decide) ?_
  refine va_newa (a0 := (40, .inl (fun _ => 0))) (ty := .int) (N' := 40) hx hb (hts _ (List.mem_of_getElem? (i := 6) rfl)) rfl hK hP hD hS hA (fun _ => rfl) (by decide) (by decide) (by decide) (Nat.le_of_ble_eq_true rfl) (Nat.le_of_ble_eq_true rfl) dX5_init_32 (fun q_7 t_8 H hK hP hD hS => ?_)
  have hP : va_P D vwCl [(h0, .inr (5, [.ref q_1, .ref q_3, .ref q_5, .null, .null, .int 0, .int 0, .int 0, .int 0, .int 0])), (q_1, .inl (t_2, 40, .inr (.inr (.inr (.inr (fun _ => none)))))), (q_3, .inl (t_4, 40, .inl (fun _ => 0))), (q_5, .inl (t_6, 40, .inl (fun _ => 0))), (q_7, .inl (t_8, 40, .inl (fun _ => 0)))] H := hP
  have hD : va_D A [(h0, .inr (5, [.ref q_1, .ref q_3, .ref q_5, .null, .null, .int 0, .int 0, .int 0, .int 0, .int 0])), (q_1, .inl (t_2, 40, .inr (.inr (.inr (.inr (fun _ => none)))))), (q_3, .inl (t_4, 40, .inl (fun _ => 0))), (q_5, .inl (t_6, 40, .inl (fun _ => 0))), (q_7, .inl (t_8, 40, .inl (fun _ => 0)))] := hD
  have hK : va_K D vwCl [(t_2, .object "FuneralUmbrellas$Word"), (t_4, .int), (t_6, .int), (t_8, .int)] s := hK
  refine W.cs (cells' := 4) (slots' := 160) rfl rfl ?_
  refine va_putF (D := D) (ci := 5) (v := .ref q_7) (ty := tyX5 3) (C := RX5) (T := TX5) (N := 10) hx hb hts hiX5 tyX5 tyX5_ok nmX5 hown hK hP hD hS 0 rfl rfl 3 (by decide) (hts _ (List.mem_of_getElem? (i := 9) rfl)) (fun _ h9 => h9) rfl hin rfl (tyX5_ok 3 (by decide)) rfl rfl (Nat.le_of_ble_eq_true rfl) dX5_init_34 (fun H locs hP hD hS => ?_)
  have hP : va_P D vwCl [(h0, .inr (5, [.ref q_1, .ref q_3, .ref q_5, .ref q_7, .null, .int 0, .int 0, .int 0, .int 0, .int 0])), (q_1, .inl (t_2, 40, .inr (.inr (.inr (.inr (fun _ => none)))))), (q_3, .inl (t_4, 40, .inl (fun _ => 0))), (q_5, .inl (t_6, 40, .inl (fun _ => 0))), (q_7, .inl (t_8, 40, .inl (fun _ => 0)))] H := hP
  have hD : va_D A [(h0, .inr (5, [.ref q_1, .ref q_3, .ref q_5, .ref q_7, .null, .int 0, .int 0, .int 0, .int 0, .int 0])), (q_1, .inl (t_2, 40, .inr (.inr (.inr (.inr (fun _ => none)))))), (q_3, .inl (t_4, 40, .inl (fun _ => 0))), (q_5, .inl (t_6, 40, .inl (fun _ => 0))), (q_7, .inl (t_8, 40, .inl (fun _ => 0)))] := hD
  refine lv_aload_n hx hb dX5_init_37 rfl (lv_at hl 0 rfl) ?_
  refine lv_bipush (v := 40) hx hb dX5_init_38 (by decide) ?_
  refine va_newq (C := "FuneralUmbrellas$Word") (N' := 40) hx hb hown (hts _ (List.mem_of_getElem? (i := 4) rfl)) hO.1.1 hK hP hD hS hA (by decide) (by decide) (by decide) (Nat.le_of_ble_eq_true rfl) (Nat.le_of_ble_eq_true rfl) dX5_init_40 (fun q_9 t_10 H hK hP hD hS => ?_)
  have hP : va_P D vwCl [(h0, .inr (5, [.ref q_1, .ref q_3, .ref q_5, .ref q_7, .null, .int 0, .int 0, .int 0, .int 0, .int 0])), (q_1, .inl (t_2, 40, .inr (.inr (.inr (.inr (fun _ => none)))))), (q_3, .inl (t_4, 40, .inl (fun _ => 0))), (q_5, .inl (t_6, 40, .inl (fun _ => 0))), (q_7, .inl (t_8, 40, .inl (fun _ => 0))), (q_9, .inl (t_10, 40, .inr (.inr (.inr (.inr (fun _ => none))))))] H := hP
  have hD : va_D A [(h0, .inr (5, [.ref q_1, .ref q_3, .ref q_5, .ref q_7, .null, .int 0, .int 0, .int 0, .int 0, .int 0])), (q_1, .inl (t_2, 40, .inr (.inr (.inr (.inr (fun _ => none)))))), (q_3, .inl (t_4, 40, .inl (fun _ => 0))), (q_5, .inl (t_6, 40, .inl (fun _ => 0))), (q_7, .inl (t_8, 40, .inl (fun _ => 0))), (q_9, .inl (t_10, 40, .inr (.inr (.inr (.inr (fun _ => none))))))] := hD
  have hK : va_K D vwCl [(t_2, .object "FuneralUmbrellas$Word"), (t_4, .int), (t_6, .int), (t_8, .int), (t_10, .object "FuneralUmbrellas$Word")] s := hK
  refine W.cs (cells' := 5) (slots' := 200) rfl rfl ?_
  refine va_putF (D := D) (ci := 5) (v := .ref q_9) (ty := tyX5 4) (C := RX5) (T := TX5) (N := 10) hx hb hts hiX5 tyX5 tyX5_ok nmX5 hown hK hP hD hS 0 rfl rfl 4 (by decide) (hts _ (List.mem_of_getElem? (i := 10) rfl)) (fun _ h9 => h9) rfl hin rfl (tyX5_ok 4 (by decide)) rfl rfl (Nat.le_of_ble_eq_true rfl) dX5_init_43 (fun H locs hP hD hS => ?_)
  have hP : va_P D vwCl [(h0, .inr (5, [.ref q_1, .ref q_3, .ref q_5, .ref q_7, .ref q_9, .int 0, .int 0, .int 0, .int 0, .int 0])), (q_1, .inl (t_2, 40, .inr (.inr (.inr (.inr (fun _ => none)))))), (q_3, .inl (t_4, 40, .inl (fun _ => 0))), (q_5, .inl (t_6, 40, .inl (fun _ => 0))), (q_7, .inl (t_8, 40, .inl (fun _ => 0))), (q_9, .inl (t_10, 40, .inr (.inr (.inr (.inr (fun _ => none))))))] H := hP
  have hD : va_D A [(h0, .inr (5, [.ref q_1, .ref q_3, .ref q_5, .ref q_7, .ref q_9, .int 0, .int 0, .int 0, .int 0, .int 0])), (q_1, .inl (t_2, 40, .inr (.inr (.inr (.inr (fun _ => none)))))), (q_3, .inl (t_4, 40, .inl (fun _ => 0))), (q_5, .inl (t_6, 40, .inl (fun _ => 0))), (q_7, .inl (t_8, 40, .inl (fun _ => 0))), (q_9, .inl (t_10, 40, .inr (.inr (.inr (.inr (fun _ => none))))))] := hD
  refine W.widen (k := 5) (n := 200) (by decide) (by decide) ?_
  exact hret ([(h0, .inr (5, [.ref q_1, .ref q_3, .ref q_5, .ref q_7, .ref q_9, .int 0, .int 0, .int 0, .int 0, .int 0])), (q_1, .inl (t_2, 40, .inr (.inr (.inr (.inr (fun _ => none)))))), (q_3, .inl (t_4, 40, .inl (fun _ => 0))), (q_5, .inl (t_6, 40, .inl (fun _ => 0))), (q_7, .inl (t_8, 40, .inl (fun _ => 0))), (q_9, .inl (t_10, 40, .inr (.inr (.inr (.inr (fun _ => none))))))], [(t_2, .object "FuneralUmbrellas$Word"), (t_4, .int), (t_6, .int), (t_8, .int), (t_10, .object "FuneralUmbrellas$Word")]) _ _ _ _ dX5_init_46 ⟨q_1, t_2, q_3, t_4, q_5, t_6, q_7, t_8, q_9, t_10, rfl⟩ (hP.sub [0, 1, 2, 3, 4, 5] rfl) (hK.sub [0, 1, 2, 3, 4] rfl) (hD.sub [0, 1, 2, 3, 4, 5] (by decide +kernel) rfl) hS

