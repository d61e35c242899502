theorem dX6_add_0 : decode cX6_add 0 = .ok (.aload_n 0, 1) := by decide +kernel
theorem dX6_add_1 : decode cX6_add 1 = .ok (.getfield 15, 3) := by decide +kernel
theorem dX6_add_4 : decode cX6_add 4 = .ok (.aload_n 0, 1) := by decide +kernel
theorem dX6_add_5 : decode cX6_add 5 = .ok (.getfield 9, 3) := by decide +kernel
theorem dX6_add_8 : decode cX6_add 8 = .ok (.arraylength, 1) := by decide +kernel
theorem dX6_add_9 : decode cX6_add 9 = .ok (.if_icmp .ge 24, 3) := by decide +kernel
theorem dX6_add_12 : decode cX6_add 12 = .ok (.aload_n 0, 1) := by decide +kernel
theorem dX6_add_13 : decode cX6_add 13 = .ok (.getfield 9, 3) := by decide +kernel
theorem dX6_add_16 : decode cX6_add 16 = .ok (.aload_n 0, 1) := by decide +kernel
theorem dX6_add_17 : decode cX6_add 17 = .ok (.getfield 15, 3) := by decide +kernel
theorem dX6_add_20 : decode cX6_add 20 = .ok (.iload_n 1, 1) := by decide +kernel
theorem dX6_add_21 : decode cX6_add 21 = .ok (.i2b, 1) := by decide +kernel
theorem dX6_add_22 : decode cX6_add 22 = .ok (.bastore, 1) := by decide +kernel
theorem dX6_add_23 : decode cX6_add 23 = .ok (.aload_n 0, 1) := by decide +kernel
theorem dX6_add_24 : decode cX6_add 24 = .ok (.dup, 1) := by decide +kernel
theorem dX6_add_25 : decode cX6_add 25 = .ok (.getfield 15, 3) := by decide +kernel
theorem dX6_add_28 : decode cX6_add 28 = .ok (.iconst 1, 1) := by decide +kernel
theorem dX6_add_29 : decode cX6_add 29 = .ok (.iadd, 1) := by decide +kernel
theorem dX6_add_30 : decode cX6_add 30 = .ok (.putfield 15, 3) := by decide +kernel
theorem dX6_add_33 : decode cX6_add 33 = .ok (.return_, 1) := by decide +kernel
theorem dX6_addNumber_0 : decode cX6_addNumber 0 = .ok (.aload_n 0, 1) := by decide +kernel
theorem dX6_addNumber_1 : decode cX6_addNumber 1 = .ok (.iload_n 1, 1) := by decide +kernel
theorem dX6_addNumber_2 : decode cX6_addNumber 2 = .ok (.bipush 24, 2) := by decide +kernel
theorem dX6_addNumber_4 : decode cX6_addNumber 4 = .ok (.iushr, 1) := by decide +kernel
theorem dX6_addNumber_5 : decode cX6_addNumber 5 = .ok (.invokevirtual 19, 3) := by decide +kernel
theorem dX6_addNumber_8 : decode cX6_addNumber 8 = .ok (.aload_n 0, 1) := by decide +kernel
theorem dX6_addNumber_9 : decode cX6_addNumber 9 = .ok (.iload_n 1, 1) := by decide +kernel
theorem dX6_addNumber_10 : decode cX6_addNumber 10 = .ok (.bipush 16, 2) := by decide +kernel
theorem dX6_addNumber_12 : decode cX6_addNumber 12 = .ok (.iushr, 1) := by decide +kernel
theorem dX6_addNumber_13 : decode cX6_addNumber 13 = .ok (.invokevirtual 19, 3) := by decide +kernel
theorem dX6_addNumber_16 : decode cX6_addNumber 16 = .ok (.aload_n 0, 1) := by decide +kernel
theorem dX6_addNumber_17 : decode cX6_addNumber 17 = .ok (.iload_n 1, 1) := by decide +kernel
theorem dX6_addNumber_18 : decode cX6_addNumber 18 = .ok (.bipush 8, 2) := by decide +kernel
theorem dX6_addNumber_20 : decode cX6_addNumber 20 = .ok (.iushr, 1) := by decide +kernel
theorem dX6_addNumber_21 : decode cX6_addNumber 21 = .ok (.invokevirtual 19, 3) := by decide +kernel
theorem dX6_addNumber_24 : decode cX6_addNumber 24 = .ok (.aload_n 0, 1) := by decide +kernel
theorem dX6_addNumber_25 : decode cX6_addNumber 25 = .ok (.iload_n 1, 1) := by decide +kernel
theorem dX6_addNumber_26 : decode cX6_addNumber 26 = .ok (.invokevirtual 19, 3) := by decide +kernel
theorem dX6_addNumber_29 : decode cX6_addNumber 29 = .ok (.return_, 1) := by decide +kernel
set_option maxRecDepth 20000 in
theorem ggX6_addNumber_X6_add : GoodIn wsX6_addNumber wsX6_add := goodIn_r _ [5, 6, 7, 8, 9] (by decide +kernel) (by decide +kernel)
set_option maxRecDepth 20000 in
theorem gX6_addNumber_X6_add : GoodIn wsX6_addNumber (wsV RX6 19 RX6 yX6_add wsX6_add) := goodIn_app (goodIn_of _ (by decide +kernel)) ggX6_addNumber_X6_add
set_option maxHeartbeats 8000000 in
set_option maxRecDepth 100000 in
theorem k_X6_add (l : Launch) (D : va_G) (ad : Nat → Nat) (h0 : Nat) (hb0 : Nat) (tb : ClassId) (f_b : Nat → Int32) (n : Nat) (p0 : Int32) (hn : n < 940) : z_Mv l yX6_add wsX6_add { frames := 0, cells := 0, slots := 0, locals := 0 } D ad [.ref h0, .int p0] [(h0, .inr (6, [.ref hb0, .int (nI n)])), (hb0, .inl (tb, 940, .inl f_b))] [(tb, .byte)] 0 0 (fun u9 => ∃ (f_2 : Nat → Int32), u9 = ([(h0, .inr (6, [.ref hb0, .int (nI (n + 1))])), (hb0, .inl (tb, 940, .inl f_2))], [])) := by
  refine z_ofV (cc := cX6_add) (maxL := 2) (by decide) rfl (Nat.le_of_ble_eq_true rfl) ?_
  intro p e s m below meth c Q A ls hx hb hml hown hts hin hK hP hD hA hE hO hS hl hret
  have hown : s.vm.findClass RX6 = some m.cls := hown
  have hiX6 : ∀ w ∈ wsX60, w ∈ wsX6_add := fun _ h9 => List.mem_cons_of_mem _ (List.mem_append_right _ h9)
  have hl : lv_has ls 2 [(0, .ref h0), (1, .int p0)] := hl
  refine lv_aload_n hx hb dX6_add_0 rfl (lv_at hl 0 rfl) ?_
  refine va_get (D := D) (ci := 6) (v := .int (nI n)) (C := RX6) (T := TX6) (N := 2) hx hb hts hiX6 hown hK hP 0 rfl rfl 1 (by decide) (hts _ (List.mem_of_getElem? (i := 1) rfl)) (fun _ h9 => h9) rfl dX6_add_1 ?_
  refine lv_aload_n hx hb dX6_add_4 rfl (lv_at hl 0 rfl) ?_
  refine va_get (D := D) (ci := 6) (v := .ref hb0) (C := RX6) (T := TX6) (N := 2) hx hb hts hiX6 hown hK hP 0 rfl rfl 0 (by decide) (hts _ (List.mem_of_getElem? (i := 2) rfl)) (fun _ h9 => h9) rfl dX6_add_5 ?_
  refine va_alen (v := 940) hx hb hK hP 1 0 rfl rfl rfl dX6_add_8 ?_
  refine lv_icmp_ge (tgt := 33) hx hb dX6_add_9 (by decide) (fun h9 => absurd h9 (nI_ge (b := 940) hn (by decide))) (fun _ => ?_)
  refine lv_aload_n hx hb dX6_add_12 rfl (lv_at hl 0 rfl) ?_
  refine va_get (D := D) (ci := 6) (v := .ref hb0) (C := RX6) (T := TX6) (N := 2) hx hb hts hiX6 hown hK hP 0 rfl rfl 0 (by decide) (hts _ (List.mem_of_getElem? (i := 2) rfl)) (fun _ h9 => h9) rfl dX6_add_13 ?_
  refine lv_aload_n hx hb dX6_add_16 rfl (lv_at hl 0 rfl) ?_
  refine va_get (D := D) (ci := 6) (v := .int (nI n)) (C := RX6) (T := TX6) (N := 2) hx hb hts hiX6 hown hK hP 0 rfl rfl 1 (by decide) (hts _ (List.mem_of_getElem? (i := 1) rfl)) (fun _ h9 => h9) rfl dX6_add_17 ?_
  refine lv_iload_n hx hb dX6_add_20 rfl (lv_at hl 1 rfl) ?_
  refine lv_i2b hx hb dX6_add_21 rfl ?_
  refine lv_topi (fun y_1 ey_1 => ?_)
  refine va_bast hx hb hK hP hD hS 1 0 rfl rfl (vp_in_nI (show n < 940 by omega) (by decide)) dX6_add_22 (fun H locs hP hD hS => ?_)
  rw [nI_clamp (show n < 2 ^ 31 by omega)] at hP hD
  have hP : va_P D vwCl [(h0, .inr (6, [.ref hb0, .int (nI n)])), (hb0, .inl (tb, 940, .inl (upd f_b n (vp_nar .byte y_1))))] H := hP
  have hD : va_D A [(h0, .inr (6, [.ref hb0, .int (nI n)])), (hb0, .inl (tb, 940, .inl (upd f_b n (vp_nar .byte y_1))))] := hD
  generalize (upd f_b n (vp_nar .byte y_1)) = f_2 at hP hD
  refine lv_aload_n hx hb dX6_add_23 rfl (lv_at hl 0 rfl) ?_
  refine lv_dup hx hb dX6_add_24 rfl ?_
  refine va_get (D := D) (ci := 6) (v := .int (nI n)) (C := RX6) (T := TX6) (N := 2) hx hb hts hiX6 hown hK hP 0 rfl rfl 1 (by decide) (hts _ (List.mem_of_getElem? (i := 1) rfl)) (fun _ h9 => h9) rfl dX6_add_25 ?_
  refine lv_iconst (v := 1) hx hb dX6_add_28 (by decide) ?_
  refine lv_iadd hx hb dX6_add_29 ?_
  refine lv_topi (fun y_3 ey_3 => ?_)
  obtain rfl : y_3 = nI (n + 1) := ey_3.trans (nI_add n 1)
  refine va_put (D := D) (ci := 6) (v := .int (nI (n + 1))) (ty := tyX6 1) (C := RX6) (T := TX6) (N := 2) hx hb hts hiX6 tyX6 tyX6_ok nmX6 hown hK hP hD hS 0 rfl rfl 1 (by decide) (hts _ (List.mem_of_getElem? (i := 1) rfl)) (fun _ h9 => h9) rfl (tyX6_ok 1 (by decide)) rfl rfl (Nat.le_of_ble_eq_true rfl) dX6_add_30 (fun H locs hP hD hS => ?_)
  have hP : va_P D vwCl [(h0, .inr (6, [.ref hb0, .int (nI (n + 1))])), (hb0, .inl (tb, 940, .inl f_2))] H := hP
  have hD : va_D A [(h0, .inr (6, [.ref hb0, .int (nI (n + 1))])), (hb0, .inl (tb, 940, .inl f_2))] := hD
  refine W.widen (k := 0) (n := 0) (by decide) (by decide) ?_
  exact hret ([(h0, .inr (6, [.ref hb0, .int (nI (n + 1))])), (hb0, .inl (tb, 940, .inl f_2))], []) _ _ _ _ dX6_add_33 ⟨f_2, rfl⟩ (hP.sub [0, 1] rfl) (hK.sub [] rfl) (hD.sub [0, 1] (by decide +kernel) rfl) hS

set_option maxHeartbeats 8000000 in
set_option maxRecDepth 100000 in
theorem k_X6_addNumber (l : Launch) (D : va_G) (ad : Nat → Nat) (h0 : Nat) (hb0 : Nat) (tb : ClassId) (f_b : Nat → Int32) (n : Nat) (p0 : Int32) (hn : n + 4 ≤ 940) : z_Mv l yX6_addNumber wsX6_addNumber { frames := 1, cells := 0, slots := 0, locals := 21 } D ad [.ref h0, .int p0] [(h0, .inr (6, [.ref hb0, .int (nI n)])), (hb0, .inl (tb, 940, .inl f_b))] [(tb, .byte)] 0 0 (fun u9 => ∃ (f_7 : Nat → Int32), u9 = ([(h0, .inr (6, [.ref hb0, .int (nI ((((n + 1) + 1) + 1) + 1))])), (hb0, .inl (tb, 940, .inl f_7))], [])) := by
  refine z_ofV (cc := cX6_addNumber) (maxL := 2) (by decide) rfl (Nat.le_of_ble_eq_true rfl) ?_
  intro p e s m below meth c Q A ls hx hb hml hown hts hin hK hP hD hA hE hO hS hl hret
  have hown : s.vm.findClass RX6 = some m.cls := hown
  have hiX6 : ∀ w ∈ wsX60, w ∈ wsX6_addNumber := fun _ h9 => List.mem_cons_of_mem _ (List.mem_append_right _ h9)
  have hl : lv_has ls 2 [(0, .ref h0), (1, .int p0)] := hl
  refine lv_aload_n hx hb dX6_addNumber_0 rfl (lv_at hl 0 rfl) ?_
  refine lv_iload_n hx hb dX6_addNumber_1 rfl (lv_at hl 1 rfl) ?_
  refine lv_bipush (v := 24) hx hb dX6_addNumber_2 (by decide) ?_
  refine lv_iushr hx hb dX6_addNumber_4 rfl ?_
  refine lv_topi (fun y_1 ey_1 => ?_)
  have hc9 := (k_X6_add l D ad h0 hb0 tb f_b n y_1 (by omega))
  refine z_callv (w0 := [(h0, .inr (6, [.ref hb0, .int (nI n)])), (hb0, .inl (tb, 940, .inl f_b))]) (wr := []) (va_runV (As := [.int y_1]) (rest := []) ⟨hx, hb, hml, hown, hts⟩ (hc9 _) (cwV 1 hts gX6_addNumber_X6_add rfl rfl rfl (by decide +kernel) ⟨Nat.le_of_ble_eq_true rfl, Nat.le_of_ble_eq_true rfl⟩) (z_preV hP hD hK hS hA hE hO [0, 1] [0] rfl (by decide +kernel) rfl 0 6 rfl rfl rfl) rfl rfl hl.1 rfl (lv_room (Nat.le_of_ble_eq_true rfl)) dX6_addNumber_5 ⟨Nat.le_of_ble_eq_true rfl, Nat.le_of_ble_eq_true rfl⟩) hP hD hK hS hA [0, 1] [] rfl rfl (by decide +kernel) (by decide +kernel) (fun u9 H locs hw hP hD hK hS => ?_)
  obtain ⟨f_2, rfl⟩ := hw
  have hP : va_P D vwCl [(h0, .inr (6, [.ref hb0, .int (nI (n + 1))])), (hb0, .inl (tb, 940, .inl f_2))] H := hP
  have hD : va_D A [(h0, .inr (6, [.ref hb0, .int (nI (n + 1))])), (hb0, .inl (tb, 940, .inl f_2))] := hD
  have hK : va_K D vwCl [(tb, .byte)] s := hK
  refine W.cs (cells' := 0) (slots' := 0) rfl rfl ?_
  refine lv_aload_n hx hb dX6_addNumber_8 rfl (lv_at hl 0 rfl) ?_
  refine lv_iload_n hx hb dX6_addNumber_9 rfl (lv_at hl 1 rfl) ?_
  refine lv_bipush (v := 16) hx hb dX6_addNumber_10 (by decide) ?_
  refine lv_iushr hx hb dX6_addNumber_12 rfl ?_
  refine lv_topi (fun y_3 ey_3 => ?_)
  have hc9 := (k_X6_add l D ad h0 hb0 tb f_2 (n + 1) y_3 (by omega))
  refine z_callv (w0 := [(h0, .inr (6, [.ref hb0, .int (nI (n + 1))])), (hb0, .inl (tb, 940, .inl f_2))]) (wr := []) (va_runV (As := [.int y_3]) (rest := []) ⟨hx, hb, hml, hown, hts⟩ (hc9 _) (cwV 1 hts gX6_addNumber_X6_add rfl rfl rfl (by decide +kernel) ⟨Nat.le_of_ble_eq_true rfl, Nat.le_of_ble_eq_true rfl⟩) (z_preV hP hD hK hS hA hE hO [0, 1] [0] rfl (by decide +kernel) rfl 0 6 rfl rfl rfl) rfl rfl hl.1 rfl (lv_room (Nat.le_of_ble_eq_true rfl)) dX6_addNumber_13 ⟨Nat.le_of_ble_eq_true rfl, Nat.le_of_ble_eq_true rfl⟩) hP hD hK hS hA [0, 1] [] rfl rfl (by decide +kernel) (by decide +kernel) (fun u9 H locs hw hP hD hK hS => ?_)
  obtain ⟨f_4, rfl⟩ := hw
  have hP : va_P D vwCl [(h0, .inr (6, [.ref hb0, .int (nI ((n + 1) + 1))])), (hb0, .inl (tb, 940, .inl f_4))] H := hP
  have hD : va_D A [(h0, .inr (6, [.ref hb0, .int (nI ((n + 1) + 1))])), (hb0, .inl (tb, 940, .inl f_4))] := hD
  have hK : va_K D vwCl [(tb, .byte)] s := hK
  refine W.cs (cells' := 0) (slots' := 0) rfl rfl ?_
  refine lv_aload_n hx hb dX6_addNumber_16 rfl (lv_at hl 0 rfl) ?_
  refine lv_iload_n hx hb dX6_addNumber_17 rfl (lv_at hl 1 rfl) ?_
  refine lv_bipush (v := 8) hx hb dX6_addNumber_18 (by decide) ?_
  refine lv_iushr hx hb dX6_addNumber_20 rfl ?_
  refine lv_topi (fun y_5 ey_5 => ?_)
  have hc9 := (k_X6_add l D ad h0 hb0 tb f_4 ((n + 1) + 1) y_5 (by omega))
  refine z_callv (w0 := [(h0, .inr (6, [.ref hb0, .int (nI ((n + 1) + 1))])), (hb0, .inl (tb, 940, .inl f_4))]) (wr := []) (va_runV (As := [.int y_5]) (rest := []) ⟨hx, hb, hml, hown, hts⟩ (hc9 _) (cwV 1 hts gX6_addNumber_X6_add rfl rfl rfl (by decide +kernel) ⟨Nat.le_of_ble_eq_true rfl, Nat.le_of_ble_eq_true rfl⟩) (z_preV hP hD hK hS hA hE hO [0, 1] [0] rfl (by decide +kernel) rfl 0 6 rfl rfl rfl) rfl rfl hl.1 rfl (lv_room (Nat.le_of_ble_eq_true rfl)) dX6_addNumber_21 ⟨Nat.le_of_ble_eq_true rfl, Nat.le_of_ble_eq_true rfl⟩) hP hD hK hS hA [0, 1] [] rfl rfl (by decide +kernel) (by decide +kernel) (fun u9 H locs hw hP hD hK hS => ?_)
  obtain ⟨f_6, rfl⟩ := hw
  have hP : va_P D vwCl [(h0, .inr (6, [.ref hb0, .int (nI (((n + 1) + 1) + 1))])), (hb0, .inl (tb, 940, .inl f_6))] H := hP
  have hD : va_D A [(h0, .inr (6, [.ref hb0, .int (nI (((n + 1) + 1) + 1))])), (hb0, .inl (tb, 940, .inl f_6))] := hD
  have hK : va_K D vwCl [(tb, .byte)] s := hK
  refine W.cs (cells' := 0) (slots' := 0) rfl rfl ?_
  refine lv_aload_n hx hb dX6_addNumber_24 rfl (lv_at hl 0 rfl) ?_
  refine lv_iload_n hx hb dX6_addNumber_25 rfl (lv_at hl 1 rfl) ?_
  have hc9 := (k_X6_add l D ad h0 hb0 tb f_6 (((n + 1) + 1) + 1) p0 (by omega))
  refine z_callv (w0 := [(h0, .inr (6, [.ref hb0, .int (nI (((n + 1) + 1) + 1))])), (hb0, .inl (tb, 940, .inl f_6))]) (wr := []) (va_runV (As := [.int p0]) (rest := []) ⟨hx, hb, hml, hown, hts⟩ (hc9 _) (cwV 1 hts gX6_addNumber_X6_add rfl rfl rfl (by decide +kernel) ⟨Nat.le_of_ble_eq_true rfl, Nat.le_of_ble_eq_true rfl⟩) (z_preV hP hD hK hS hA hE hO [0, 1] [0] rfl (by decide +kernel) rfl 0 6 rfl rfl rfl) rfl rfl hl.1 rfl (lv_room (Nat.le_of_ble_eq_true rfl)) dX6_addNumber_26 ⟨Nat.le_of_ble_eq_true rfl, Nat.le_of_ble_eq_true rfl⟩) hP hD hK hS hA [0, 1] [] rfl rfl (by decide +kernel) (by decide +kernel) (fun u9 H locs hw hP hD hK hS => ?_)
  obtain ⟨f_7, rfl⟩ := hw
  have hP : va_P D vwCl [(h0, .inr (6, [.ref hb0, .int (nI ((((n + 1) + 1) + 1) + 1))])), (hb0, .inl (tb, 940, .inl f_7))] H := hP
  have hD : va_D A [(h0, .inr (6, [.ref hb0, .int (nI ((((n + 1) + 1) + 1) + 1))])), (hb0, .inl (tb, 940, .inl f_7))] := hD
  have hK : va_K D vwCl [(tb, .byte)] s := hK
  refine W.cs (cells' := 0) (slots' := 0) rfl rfl ?_
  refine W.widen (k := 0) (n := 0) (by decide) (by decide) ?_
  exact hret ([(h0, .inr (6, [.ref hb0, .int (nI ((((n + 1) + 1) + 1) + 1))])), (hb0, .inl (tb, 940, .inl f_7))], []) _ _ _ _ dX6_addNumber_29 ⟨f_7, rfl⟩ (hP.sub [0, 1] rfl) (hK.sub [] rfl) (hD.sub [0, 1] (by decide +kernel) rfl) hS
