theorem dX0_init_0 : decode cX0_init 0 = .ok (.aload_n 0, 1) := by decide +kernel
theorem dX0_init_1 : decode cX0_init 1 = .ok (.invokespecial 3, 3) := by decide +kernel
theorem dX0_init_4 : decode cX0_init 4 = .ok (.aload_n 0, 1) := by decide +kernel
theorem dX0_init_5 : decode cX0_init 5 = .ok (.bipush 40, 2) := by decide +kernel
theorem dX0_init_7 : decode cX0_init 7 = .ok (.anewarray 11, 3) := by decide +kernel
theorem dX0_init_10 : decode cX0_init 10 = .ok (.putfield 13, 3) := by decide +kernel
theorem dX0_init_13 : decode cX0_init 13 = .ok (.aload_n 0, 1) := by decide +kernel
theorem dX0_init_14 : decode cX0_init 14 = .ok (.bipush 40, 2) := by decide +kernel
theorem dX0_init_16 : decode cX0_init 16 = .ok (.newarray .int, 2) := by decide +kernel
theorem dX0_init_18 : decode cX0_init 18 = .ok (.putfield 17, 3) := by decide +kernel
theorem dX0_init_21 : decode cX0_init 21 = .ok (.aload_n 0, 1) := by decide +kernel
theorem dX0_init_22 : decode cX0_init 22 = .ok (.bipush 40, 2) := by decide +kernel
theorem dX0_init_24 : decode cX0_init 24 = .ok (.newarray .int, 2) := by decide +kernel
theorem dX0_init_26 : decode cX0_init 26 = .ok (.putfield 21, 3) := by decide +kernel
theorem dX0_init_29 : decode cX0_init 29 = .ok (.aload_n 0, 1) := by decide +kernel
theorem dX0_init_30 : decode cX0_init 30 = .ok (.iconst (-1), 1) := by decide +kernel
theorem dX0_init_31 : decode cX0_init 31 = .ok (.putfield 24, 3) := by decide +kernel
theorem dX0_init_34 : decode cX0_init 34 = .ok (.aload_n 0, 1) := by decide +kernel
theorem dX0_init_35 : decode cX0_init 35 = .ok (.iconst (-1), 1) := by decide +kernel
theorem dX0_init_36 : decode cX0_init 36 = .ok (.putfield 28, 3) := by decide +kernel
theorem dX0_init_39 : decode cX0_init 39 = .ok (.aload_n 0, 1) := by decide +kernel
theorem dX0_init_40 : decode cX0_init 40 = .ok (.iconst (-1), 1) := by decide +kernel
theorem dX0_init_41 : decode cX0_init 41 = .ok (.putfield 31, 3) := by decide +kernel
theorem dX0_init_44 : decode cX0_init 44 = .ok (.aload_n 0, 1) := by decide +kernel
theorem dX0_init_45 : decode cX0_init 45 = .ok (.iconst (-1), 1) := by decide +kernel
theorem dX0_init_46 : decode cX0_init 46 = .ok (.putfield 34, 3) := by decide +kernel
theorem dX0_init_49 : decode cX0_init 49 = .ok (.return_, 1) := by decide +kernel
theorem dX1_init_0 : decode cX1_init 0 = .ok (.aload_n 0, 1) := by decide +kernel
theorem dX1_init_1 : decode cX1_init 1 = .ok (.invokespecial 3, 3) := by decide +kernel
theorem dX1_init_4 : decode cX1_init 4 = .ok (.return_, 1) := by decide +kernel
set_option maxHeartbeats 8000000 in
set_option maxRecDepth 100000 in
theorem k_X1_init (l : Launch) (D : va_G) (ad : Nat → Nat) (h0 : Nat)  : z_Mv l yX1_init wsX1_init { frames := 1, cells := 0, slots := 0, locals := 20 } D ad [.ref h0] [(h0, .inr (1, [.int 0]))] [] 0 0 (fun u9 => u9 = ([(h0, .inr (1, [.int 0]))], [])) := by
  refine z_ofV (cc := cX1_init) (maxL := 1) (by decide) rfl (Nat.le_of_ble_eq_true rfl) ?_
  intro p e s m below meth c Q A ls hx hb hml hown hts hin hK hP hD hA hE hO hS hl hret
  have hown : s.vm.findClass RX1 = some m.cls := hown
  have hin : meth.name = "<init>" := hin
  have hl : lv_has ls 1 [(0, .ref h0)] := hl
  refine lv_aload_n hx hb dX1_init_0 rfl (lv_at hl 0 rfl) ?_
  refine W.objInit hx hb hown (hts _ (List.mem_of_getElem? (i := 1) rfl)) (hts _ (List.mem_of_getElem? (i := 2) rfl)) (hts _ (List.mem_of_getElem? (i := 3) rfl)) rfl (by rw [hml]; exact hl.1) rfl dX1_init_1 (Nat.le_of_ble_eq_true rfl) (Nat.le_of_ble_eq_true rfl) ?_
  refine W.eq (g2 := F0 m 4 ls []) rfl ?_
  refine W.widen (k := 0) (n := 0) (by decide) (by decide) ?_
  exact hret ([(h0, .inr (1, [.int 0]))], []) _ _ _ _ dX1_init_4 rfl (hP.sub [0] rfl) (hK.sub [] rfl) (hD.sub [0] (by decide +kernel) rfl) hS

set_option maxHeartbeats 8000000 in
set_option maxRecDepth 100000 in
theorem k_X0_init (l : Launch) (D : va_G) (ad : Nat → Nat) (h0 : Nat)  : z_Mv l yX0_init wsX0_init { frames := 1, cells := 3, slots := 120, locals := 20 } D ad [.ref h0] [(h0, .inr (0, [.null, .null, .null, .int 0, .int 0, .int 0, .int 0, .int 0]))] [] 3 120 (fun u9 => ∃ (q_1 : Nat) (t_2 : ClassId) (q_3 : Nat) (t_4 : ClassId) (q_5 : Nat) (t_6 : ClassId), u9 = ([(h0, .inr (0, [.ref q_1, .ref q_3, .ref q_5, .int 0, .int (-1), .int (-1), .int (-1), .int (-1)])), (q_1, .inl (t_2, 40, .inr (.inr (.inr (.inr (fun _ => none)))))), (q_3, .inl (t_4, 40, .inl (fun _ => 0))), (q_5, .inl (t_6, 40, .inl (fun _ => 0)))], [(t_2, .object "FuneralUmbrellas$Word"), (t_4, .int), (t_6, .int)])) := by
  refine z_ofV (cc := cX0_init) (maxL := 1) (by decide) rfl (Nat.le_of_ble_eq_true rfl) ?_
  intro p e s m below meth c Q A ls hx hb hml hown hts hin hK hP hD hA hE hO hS hl hret
  have hown : s.vm.findClass RX0 = some m.cls := hown
  have hin : meth.name = "<init>" := hin
  have hiX0 : ∀ w ∈ wsX00, w ∈ wsX0_init := fun _ h9 => List.mem_cons_of_mem _ (List.mem_append_right _ h9)
  have hl : lv_has ls 1 [(0, .ref h0)] := hl
  refine lv_aload_n hx hb dX0_init_0 rfl (lv_at hl 0 rfl) ?_
  refine W.objInit hx hb hown (hts _ (List.mem_of_getElem? (i := 1) rfl)) (hts _ (List.mem_of_getElem? (i := 2) rfl)) (hts _ (List.mem_of_getElem? (i := 3) rfl)) rfl (by rw [hml]; exact hl.1) rfl dX0_init_1 (Nat.le_of_ble_eq_true rfl) (Nat.le_of_ble_eq_true rfl) ?_
  refine W.eq (g2 := F0 m 4 ls []) rfl ?_
  refine lv_aload_n hx hb dX0_init_4 rfl (lv_at hl 0 rfl) ?_
  refine lv_bipush (v := 40) hx hb dX0_init_5 (by decide) ?_
  refine va_newq (C := "FuneralUmbrellas$Word") (N' := 40) hx hb hown (hts _ (List.mem_of_getElem? (i := 4) rfl)) hO.1.1 hK hP hD hS hA (by decide) (by decide) (by decide) (Nat.le_of_ble_eq_true rfl) (Nat.le_of_ble_eq_true rfl) dX0_init_7 (fun q_1 t_2 H hK hP hD hS => ?_)
  have hP : va_P D vwCl [(h0, .inr (0, [.null, .null, .null, .int 0, .int 0, .int 0, .int 0, .int 0])), (q_1, .inl (t_2, 40, .inr (.inr (.inr (.inr (fun _ => none))))))] H := hP
  have hD : va_D A [(h0, .inr (0, [.null, .null, .null, .int 0, .int 0, .int 0, .int 0, .int 0])), (q_1, .inl (t_2, 40, .inr (.inr (.inr (.inr (fun _ => none))))))] := hD
  have hK : va_K D vwCl [(t_2, .object "FuneralUmbrellas$Word")] s := hK
  refine W.cs (cells' := 1) (slots' := 40) rfl rfl ?_
  refine va_putF (D := D) (ci := 0) (v := .ref q_1) (ty := tyX0 0) (C := RX0) (T := TX0) (N := 8) hx hb hts hiX0 tyX0 tyX0_ok nmX0 hown hK hP hD hS 0 rfl rfl 0 (by decide) (hts _ (List.mem_of_getElem? (i := 5) rfl)) (fun _ h9 => h9) rfl hin rfl (tyX0_ok 0 (by decide)) rfl rfl (Nat.le_of_ble_eq_true rfl) dX0_init_10 (fun H locs hP hD hS => ?_)
  have hP : va_P D vwCl [(h0, .inr (0, [.ref q_1, .null, .null, .int 0, .int 0, .int 0, .int 0, .int 0])), (q_1, .inl (t_2, 40, .inr (.inr (.inr (.inr (fun _ => none))))))] H := hP
  have hD : va_D A [(h0, .inr (0, [.ref q_1, .null, .null, .int 0, .int 0, .int 0, .int 0, .int 0])), (q_1, .inl (t_2, 40, .inr (.inr (.inr (.inr (fun _ => none))))))] := hD
  refine lv_aload_n hx hb dX0_init_13 rfl (lv_at hl 0 rfl) ?_
  refine lv_bipush (v := 40) hx hb dX0_init_14 (by decide) ?_
  refine va_newa (a0 := (40, .inl (fun _ => 0))) (ty := .int) (N' := 40) hx hb (hts _ (List.mem_of_getElem? (i := 6) rfl)) rfl hK hP hD hS hA (fun _ => rfl) (by decide) (by decide) (by decide) (Nat.le_of_ble_eq_true rfl) (Nat.le_of_ble_eq_true rfl) dX0_init_16 (fun q_3 t_4 H hK hP hD hS => ?_)
  have hP : va_P D vwCl [(h0, .inr (0, [.ref q_1, .null, .null, .int 0, .int 0, .int 0, .int 0, .int 0])), (q_1, .inl (t_2, 40, .inr (.inr (.inr (.inr (fun _ => none)))))), (q_3, .inl (t_4, 40, .inl (fun _ => 0)))] H := hP
  have hD : va_D A [(h0, .inr (0, [.ref q_1, .null, .null, .int 0, .int 0, .int 0, .int 0, .int 0])), (q_1, .inl (t_2, 40, .inr (.inr (.inr (.inr (fun _ => none)))))), (q_3, .inl (t_4, 40, .inl (fun _ => 0)))] := hD
  have hK : va_K D vwCl [(t_2, .object "FuneralUmbrellas$Word"), (t_4, .int)] s := hK
  refine W.cs (cells' := 2) (slots' := 80) rfl rfl ?_
  refine va_putF (D := D) (ci := 0) (v := .ref q_3) (ty := tyX0 1) (C := RX0) (T := TX0) (N := 8) hx hb hts hiX0 tyX0 tyX0_ok nmX0 hown hK hP hD hS 0 rfl rfl 1 (by decide) (hts _ (List.mem_of_getElem? (i := 7) rfl)) (fun _ h9 => h9) rfl hin rfl (tyX0_ok 1 (by decide)) rfl rfl (Nat.le_of_ble_eq_true rfl) dX0_init_18 (fun H locs hP hD hS => ?_)
  have hP : va_P D vwCl [(h0, .inr (0, [.ref q_1, .ref q_3, .null, .int 0, .int 0, .int 0, .int 0, .int 0])), (q_1, .inl (t_2, 40, .inr (.inr (.inr (.inr (fun _ => none)))))), (q_3, .inl (t_4, 40, .inl (fun _ => 0)))] H := hP
  have hD : va_D A [(h0, .inr (0, [.ref q_1, .ref q_3, .null, .int 0, .int 0, .int 0, .int 0, .int 0])), (q_1, .inl (t_2, 40, .inr (.inr (.inr (.inr (fun _ => none)))))), (q_3, .inl (t_4, 40, .inl (fun _ => 0)))] := hD
  refine lv_aload_n hx hb dX0_init_21 rfl (lv_at hl 0 rfl) ?_
  refine lv_bipush (v := 40) hx hb dX0_init_22 (by decide) ?_
  refine va_newa (a0 := (40, .inl (fun _ => 0))) (ty := .int) (N' := 40) hx hb (hts _ (List.mem_of_getElem? (i := 6) rfl)) rfl hK hP hD hS hA (fun _ => rfl) (by decide) (by decide) (by decide) (Nat.le_of_ble_eq_true rfl) (Nat.le_of_ble_eq_true rfl) dX0_init_24 (fun q_5 t_6 H hK hP hD hS => ?_)
  have hP : va_P D vwCl [(h0, .inr (0, [.ref q_1, .ref q_3, .null, .int 0, .int 0, .int 0, .int 0, .int 0])), (q_1, .inl (t_2, 40, .inr (.inr (.inr (.inr (fun _ => none)))))), (q_3, .inl (t_4, 40, .inl (fun _ => 0))), (q_5, .inl (t_6, 40, .inl (fun _ => 0)))] H := hP
  have hD : va_D A [(h0, .inr (0, [.ref q_1, .ref q_3, .null, .int 0, .int 0, .int 0, .int 0, .int 0])), (q_1, .inl (t_2, 40, .inr (.inr (.inr (.inr (fun _ => none)))))), (q_3, .inl (t_4, 40, .inl (fun _ => 0))), (q_5, .inl (t_6, 40, .inl (fun _ => 0)))] := hD
  have hK : va_K D vwCl [(t_2, .object "FuneralUmbrellas$Word"), (t_4, .int), (t_6, .int)] s := hK
  refine W.cs (cells' := 3) (slots' := 120) rfl rfl ?_
  refine va_putF (D := D) (ci := 0) (v := .ref q_5) (ty := tyX0 2) (C := RX0) (T := TX0) (N := 8) hx hb hts hiX0 tyX0 tyX0_ok nmX0 hown hK hP hD hS 0 rfl rfl 2 (by decide) (hts _ (List.mem_of_getElem? (i := 8) rfl)) (fun _ h9 => h9) rfl hin rfl (tyX0_ok 2 (by decide)) rfl rfl (Nat.le_of_ble_eq_true rfl) dX0_init_26 (fun H locs hP hD hS => ?_)
  have hP : va_P D vwCl [(h0, .inr (0, [.ref q_1, .ref q_3, .ref q_5, .int 0, .int 0, .int 0, .int 0, .int 0])), (q_1, .inl (t_2, 40, .inr (.inr (.inr (.inr (fun _ => none)))))), (q_3, .inl (t_4, 40, .inl (fun _ => 0))), (q_5, .inl (t_6, 40, .inl (fun _ => 0)))] H := hP
  have hD : va_D A [(h0, .inr (0, [.ref q_1, .ref q_3, .ref q_5, .int 0, .int 0, .int 0, .int 0, .int 0])), (q_1, .inl (t_2, 40, .inr (.inr (.inr (.inr (fun _ => none)))))), (q_3, .inl (t_4, 40, .inl (fun _ => 0))), (q_5, .inl (t_6, 40, .inl (fun _ => 0)))] := hD
  refine lv_aload_n hx hb dX0_init_29 rfl (lv_at hl 0 rfl) ?_
  refine lv_iconst (v := (-1)) hx hb dX0_init_30 (by decide) ?_
  refine va_put (D := D) (ci := 0) (v := .int (-1)) (ty := tyX0 4) (C := RX0) (T := TX0) (N := 8) hx hb hts hiX0 tyX0 tyX0_ok nmX0 hown hK hP hD hS 0 rfl rfl 4 (by decide) (hts _ (List.mem_of_getElem? (i := 9) rfl)) (fun _ h9 => h9) rfl (tyX0_ok 4 (by decide)) rfl rfl (Nat.le_of_ble_eq_true rfl) dX0_init_31 (fun H locs hP hD hS => ?_)
  have hP : va_P D vwCl [(h0, .inr (0, [.ref q_1, .ref q_3, .ref q_5, .int 0, .int (-1), .int 0, .int 0, .int 0])), (q_1, .inl (t_2, 40, .inr (.inr (.inr (.inr (fun _ => none)))))), (q_3, .inl (t_4, 40, .inl (fun _ => 0))), (q_5, .inl (t_6, 40, .inl (fun _ => 0)))] H := hP
  have hD : va_D A [(h0, .inr (0, [.ref q_1, .ref q_3, .ref q_5, .int 0, .int (-1), .int 0, .int 0, .int 0])), (q_1, .inl (t_2, 40, .inr (.inr (.inr (.inr (fun _ => none)))))), (q_3, .inl (t_4, 40, .inl (fun _ => 0))), (q_5, .inl (t_6, 40, .inl (fun _ => 0)))] := hD
  refine lv_aload_n hx hb dX0_init_34 rfl (lv_at hl 0 rfl) ?_
  refine lv_iconst (v := (-1)) hx hb dX0_init_35 (by decide) ?_
  refine va_put (D := D) (ci := 0) (v := .int (-1)) (ty := tyX0 5) (C := RX0) (T := TX0) (N := 8) hx hb hts hiX0 tyX0 tyX0_ok nmX0 hown hK hP hD hS 0 rfl rfl 5 (by decide) (hts _ (List.mem_of_getElem? (i := 10) rfl)) (fun _ h9 => h9) rfl (tyX0_ok 5 (by decide)) rfl rfl (Nat.le_of_ble_eq_true rfl) dX0_init_36 (fun H locs hP hD hS => ?_)
  have hP : va_P D vwCl [(h0, .inr (0, [.ref q_1, .ref q_3, .ref q_5, .int 0, .int (-1), .int (-1), .int 0, .int 0])), (q_1, .inl (t_2, 40, .inr (.inr (.inr (.inr (fun _ => none)))))), (q_3, .inl (t_4, 40, .inl (fun _ => 0))), (q_5, .inl (t_6, 40, .inl (fun _ => 0)))] H := hP
  have hD : va_D A [(h0, .inr (0, [.ref q_1, .ref q_3, .ref q_5, .int 0, .int (-1), .int (-1), .int 0, .int 0])), (q_1, .inl (t_2, 40, .inr (.inr (.inr (.inr (fun _ => none)))))), (q_3, .inl (t_4, 40, .inl (fun _ => 0))), (q_5, .inl (t_6, 40, .inl (fun _ => 0)))] := hD
  refine lv_aload_n hx hb dX0_init_39 rfl (lv_at hl 0 rfl) ?_
  refine lv_iconst (v := (-1)) hx hb dX0_init_40 (by decide) ?_
  refine va_put (D := D) (ci := 0) (v := .int (-1)) (ty := tyX0 6) (C := RX0) (T := TX0) (N := 8) hx hb hts hiX0 tyX0 tyX0_ok nmX0 hown hK hP hD hS 0 rfl rfl 6 (by decide) (hts _ (List.mem_of_getElem? (i := 11) rfl)) (fun _ h9 => h9) rfl (tyX0_ok 6 (by decide)) rfl rfl (Nat.le_of_ble_eq_true rfl) dX0_init_41 (fun H locs hP hD hS => ?_)
  have hP : va_P D vwCl [(h0, .inr (0, [.ref q_1, .ref q_3, .ref q_5, .int 0, .int (-1), .int (-1), .int (-1), .int 0])), (q_1, .inl (t_2, 40, .inr (.inr (.inr (.inr (fun _ => none)))))), (q_3, .inl (t_4, 40, .inl (fun _ => 0))), (q_5, .inl (t_6, 40, .inl (fun _ => 0)))] H := hP
  have hD : va_D A [(h0, .inr (0, [.ref q_1, .ref q_3, .ref q_5, .int 0, .int (-1), .int (-1), .int (-1), .int 0])), (q_1, .inl (t_2, 40, .inr (.inr (.inr (.inr (fun _ => none)))))), (q_3, .inl (t_4, 40, .inl (fun _ => 0))), (q_5, .inl (t_6, 40, .inl (fun _ => 0)))] := hD
  refine lv_aload_n hx hb dX0_init_44 rfl (lv_at hl 0 rfl) ?_
  refine lv_iconst (v := (-1)) hx hb dX0_init_45 (by decide) ?_
  refine va_put (D := D) (ci := 0) (v := .int (-1)) (ty := tyX0 7) (C := RX0) (T := TX0) (N := 8) hx hb hts hiX0 tyX0 tyX0_ok nmX0 hown hK hP hD hS 0 rfl rfl 7 (by decide) (hts _ (List.mem_of_getElem? (i := 12) rfl)) (fun _ h9 => h9) rfl (tyX0_ok 7 (by decide)) rfl rfl (Nat.le_of_ble_eq_true rfl) dX0_init_46 (fun H locs hP hD hS => ?_)
  have hP : va_P D vwCl [(h0, .inr (0, [.ref q_1, .ref q_3, .ref q_5, .int 0, .int (-1), .int (-1), .int (-1), .int (-1)])), (q_1, .inl (t_2, 40, .inr (.inr (.inr (.inr (fun _ => none)))))), (q_3, .inl (t_4, 40, .inl (fun _ => 0))), (q_5, .inl (t_6, 40, .inl (fun _ => 0)))] H := hP
  have hD : va_D A [(h0, .inr (0, [.ref q_1, .ref q_3, .ref q_5, .int 0, .int (-1), .int (-1), .int (-1), .int (-1)])), (q_1, .inl (t_2, 40, .inr (.inr (.inr (.inr (fun _ => none)))))), (q_3, .inl (t_4, 40, .inl (fun _ => 0))), (q_5, .inl (t_6, 40, .inl (fun _ => 0)))] := hD
  refine W.widen (k := 3) (n := 120) (by decide) (by decide) ?_
  exact hret ([(h0, .inr (0, [.ref q_1, .ref q_3, .ref q_5, .int 0, .int (-1), .int (-1), .int (-1), .int (-1)])), (q_1, .inl (t_2, 40, .inr (.inr (.inr (.inr (fun _ => none)))))), (q_3, .inl (t_4, 40, .inl (fun _ => 0))), (q_5, .inl (t_6, 40, .inl (fun _ => 0)))], [(t_2, .object "FuneralUmbrellas$Word"), (t_4, .int), (t_6, .int)]) _ _ _ _ dX0_init_49 ⟨q_1, t_2, q_3, t_4, q_5, t_6, rfl⟩ (hP.sub [0, 1, 2, 3] rfl) (hK.sub [0, 1, 2] rfl) (hD.sub [0, 1, 2, 3] (by decide +kernel) rfl) hS

