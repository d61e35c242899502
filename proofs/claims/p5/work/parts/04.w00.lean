theorem dX2_has_0 : decode cX2_has 0 = .ok (.iload_n 1, 1) := by decide +kernel
theorem dX2_has_1 : decode cX2_has 1 = .ok (.ifCond .lt 15, 3) := by decide +kernel
theorem dX2_has_4 : decode cX2_has 4 = .ok (.iload_n 1, 1) := by decide +kernel
theorem dX2_has_5 : decode cX2_has 5 = .ok (.aload_n 0, 1) := by decide +kernel
theorem dX2_has_6 : decode cX2_has 6 = .ok (.getfield 15, 3) := by decide +kernel
theorem dX2_has_9 : decode cX2_has 9 = .ok (.if_icmp .ge 7, 3) := by decide +kernel
theorem dX2_has_12 : decode cX2_has 12 = .ok (.iconst 1, 1) := by decide +kernel
theorem dX2_has_13 : decode cX2_has 13 = .ok (.goto 4, 3) := by decide +kernel
theorem dX2_has_16 : decode cX2_has 16 = .ok (.iconst 0, 1) := by decide +kernel
theorem dX2_has_17 : decode cX2_has 17 = .ok (.ireturn, 1) := by decide +kernel
theorem dX2_isFull_0 : decode cX2_isFull 0 = .ok (.aload_n 0, 1) := by decide +kernel
theorem dX2_isFull_1 : decode cX2_isFull 1 = .ok (.getfield 15, 3) := by decide +kernel
theorem dX2_isFull_4 : decode cX2_isFull 4 = .ok (.aload_n 0, 1) := by decide +kernel
theorem dX2_isFull_5 : decode cX2_isFull 5 = .ok (.getfield 9, 3) := by decide +kernel
theorem dX2_isFull_8 : decode cX2_isFull 8 = .ok (.arraylength, 1) := by decide +kernel
theorem dX2_isFull_9 : decode cX2_isFull 9 = .ok (.if_icmp .lt 7, 3) := by decide +kernel
theorem dX2_isFull_12 : decode cX2_isFull 12 = .ok (.iconst 1, 1) := by decide +kernel
theorem dX2_isFull_13 : decode cX2_isFull 13 = .ok (.goto 4, 3) := by decide +kernel
theorem dX2_isFull_16 : decode cX2_isFull 16 = .ok (.iconst 0, 1) := by decide +kernel
theorem dX2_isFull_17 : decode cX2_isFull 17 = .ok (.ireturn, 1) := by decide +kernel
theorem dX2_find_0 : decode cX2_find 0 = .ok (.iconst 0, 1) := by decide +kernel
theorem dX2_find_1 : decode cX2_find 1 = .ok (.istore_n 3, 1) := by decide +kernel
theorem dX2_find_2 : decode cX2_find 2 = .ok (.iload_n 3, 1) := by decide +kernel
theorem dX2_find_3 : decode cX2_find 3 = .ok (.aload_n 0, 1) := by decide +kernel
theorem dX2_find_4 : decode cX2_find 4 = .ok (.getfield 15, 3) := by decide +kernel
theorem dX2_find_7 : decode cX2_find 7 = .ok (.if_icmp .ge 22, 3) := by decide +kernel
theorem dX2_find_10 : decode cX2_find 10 = .ok (.aload_n 0, 1) := by decide +kernel
theorem dX2_find_11 : decode cX2_find 11 = .ok (.getfield 9, 3) := by decide +kernel
theorem dX2_find_14 : decode cX2_find 14 = .ok (.iload_n 3, 1) := by decide +kernel
theorem dX2_find_15 : decode cX2_find 15 = .ok (.laload, 1) := by decide +kernel
theorem dX2_find_16 : decode cX2_find 16 = .ok (.lload_n 1, 1) := by decide +kernel
theorem dX2_find_17 : decode cX2_find 17 = .ok (.lcmp, 1) := by decide +kernel
theorem dX2_find_18 : decode cX2_find 18 = .ok (.ifCond .ne 5, 3) := by decide +kernel
theorem dX2_find_21 : decode cX2_find 21 = .ok (.iload_n 3, 1) := by decide +kernel
theorem dX2_find_22 : decode cX2_find 22 = .ok (.ireturn, 1) := by decide +kernel
theorem dX2_find_23 : decode cX2_find 23 = .ok (.iinc 3 1, 3) := by decide +kernel
theorem dX2_find_26 : decode cX2_find 26 = .ok (.goto (-24), 3) := by decide +kernel
theorem dX2_find_29 : decode cX2_find 29 = .ok (.iconst (-1), 1) := by decide +kernel
theorem dX2_find_30 : decode cX2_find 30 = .ok (.ireturn, 1) := by decide +kernel
theorem dX6_get_0 : decode cX6_get 0 = .ok (.iload_n 1, 1) := by decide +kernel
theorem dX6_get_1 : decode cX6_get 1 = .ok (.ifCond .lt 20, 3) := by decide +kernel
theorem dX6_get_4 : decode cX6_get 4 = .ok (.iload_n 1, 1) := by decide +kernel
theorem dX6_get_5 : decode cX6_get 5 = .ok (.aload_n 0, 1) := by decide +kernel
theorem dX6_get_6 : decode cX6_get 6 = .ok (.getfield 15, 3) := by decide +kernel
theorem dX6_get_9 : decode cX6_get 9 = .ok (.if_icmp .ge 12, 3) := by decide +kernel
theorem dX6_get_12 : decode cX6_get 12 = .ok (.iload_n 1, 1) := by decide +kernel
theorem dX6_get_13 : decode cX6_get 13 = .ok (.aload_n 0, 1) := by decide +kernel
theorem dX6_get_14 : decode cX6_get 14 = .ok (.getfield 9, 3) := by decide +kernel
theorem dX6_get_17 : decode cX6_get 17 = .ok (.arraylength, 1) := by decide +kernel
theorem dX6_get_18 : decode cX6_get 18 = .ok (.if_icmp .lt 7, 3) := by decide +kernel
theorem dX6_get_21 : decode cX6_get 21 = .ok (.iconst (-1), 1) := by decide +kernel
theorem dX6_get_22 : decode cX6_get 22 = .ok (.goto 13, 3) := by decide +kernel
theorem dX6_get_25 : decode cX6_get 25 = .ok (.aload_n 0, 1) := by decide +kernel
theorem dX6_get_26 : decode cX6_get 26 = .ok (.getfield 9, 3) := by decide +kernel
theorem dX6_get_29 : decode cX6_get 29 = .ok (.iload_n 1, 1) := by decide +kernel
theorem dX6_get_30 : decode cX6_get 30 = .ok (.baload, 1) := by decide +kernel
theorem dX6_get_31 : decode cX6_get 31 = .ok (.sipush 255, 3) := by decide +kernel
theorem dX6_get_34 : decode cX6_get 34 = .ok (.iand, 1) := by decide +kernel
theorem dX6_get_35 : decode cX6_get 35 = .ok (.ireturn, 1) := by decide +kernel
theorem dX6_add_0 : decode cX6_add 0 = .ok (.aload_n 0, 1) := by decide +kernel
theorem dX6_add_1 : decode cX6_add 1 = .ok (.getfield 15, 3) := by decide +kernel
theorem dX6_add_4 : decode cX6_add 4 = .ok (.aload_n 0, 1) := by decide +kernel
theorem dX6_add_5 : decode cX6_add 5 = .ok (.getfield 9, 3) := by decide +kernel
theorem dX6_add_8 : decode cX6_add 8 = .ok (.arraylength, 1) := by decide +kernel
theorem dX6_add_9 : decode cX6_add 9 = .ok (.if_icmp .ge 24, 3) := by decide +kernel
theorem dX6_add_12 : decode cX6_add 12 = .ok (.aload_n 0, 1) := by decide +kernel
theorem dX6_add_13 : decode cX6_add 13 = .ok (.getfield 9, 3) := by decide +kernel
theorem dX6_add_16 : decode cX6_add 16 = .ok (.aload_n 0, 1) := by decide +kernel
theorem dX6_add_17 : decode cX6_add 17 = .ok (.getfield 15, 3) := by decide +kernel
theorem dX6_add_20 : decode cX6_add 20 = .ok (.iload_n 1, 1) := by decide +kernel
theorem dX6_add_21 : decode cX6_add 21 = .ok (.i2b, 1) := by decide +kernel
theorem dX6_add_22 : decode cX6_add 22 = .ok (.bastore, 1) := by decide +kernel
theorem dX6_add_23 : decode cX6_add 23 = .ok (.aload_n 0, 1) := by decide +kernel
theorem dX6_add_24 : decode cX6_add 24 = .ok (.dup, 1) := by decide +kernel
theorem dX6_add_25 : decode cX6_add 25 = .ok (.getfield 15, 3) := by decide +kernel
theorem dX6_add_28 : decode cX6_add 28 = .ok (.iconst 1, 1) := by decide +kernel
theorem dX6_add_29 : decode cX6_add 29 = .ok (.iadd, 1) := by decide +kernel
theorem dX6_add_30 : decode cX6_add 30 = .ok (.putfield 15, 3) := by decide +kernel
theorem dX6_add_33 : decode cX6_add 33 = .ok (.return_, 1) := by decide +kernel
theorem dX6_addNumber_0 : decode cX6_addNumber 0 = .ok (.aload_n 0, 1) := by decide +kernel
theorem dX6_addNumber_1 : decode cX6_addNumber 1 = .ok (.iload_n 1, 1) := by decide +kernel
theorem dX6_addNumber_2 : decode cX6_addNumber 2 = .ok (.bipush 24, 2) := by decide +kernel
theorem dX6_addNumber_4 : decode cX6_addNumber 4 = .ok (.iushr, 1) := by decide +kernel
theorem dX6_addNumber_5 : decode cX6_addNumber 5 = .ok (.invokevirtual 19, 3) := by decide +kernel
theorem dX6_addNumber_8 : decode cX6_addNumber 8 = .ok (.aload_n 0, 1) := by decide +kernel
theorem dX6_addNumber_9 : decode cX6_addNumber 9 = .ok (.iload_n 1, 1) := by decide +kernel
theorem dX6_addNumber_10 : decode cX6_addNumber 10 = .ok (.bipush 16, 2) := by decide +kernel
theorem dX6_addNumber_12 : decode cX6_addNumber 12 = .ok (.iushr, 1) := by decide +kernel
theorem dX6_addNumber_13 : decode cX6_addNumber 13 = .ok (.invokevirtual 19, 3) := by decide +kernel
theorem dX6_addNumber_16 : decode cX6_addNumber 16 = .ok (.aload_n 0, 1) := by decide +kernel
theorem dX6_addNumber_17 : decode cX6_addNumber 17 = .ok (.iload_n 1, 1) := by decide +kernel
theorem dX6_addNumber_18 : decode cX6_addNumber 18 = .ok (.bipush 8, 2) := by decide +kernel
theorem dX6_addNumber_20 : decode cX6_addNumber 20 = .ok (.iushr, 1) := by decide +kernel
theorem dX6_addNumber_21 : decode cX6_addNumber 21 = .ok (.invokevirtual 19, 3) := by decide +kernel
theorem dX6_addNumber_24 : decode cX6_addNumber 24 = .ok (.aload_n 0, 1) := by decide +kernel
theorem dX6_addNumber_25 : decode cX6_addNumber 25 = .ok (.iload_n 1, 1) := by decide +kernel
theorem dX6_addNumber_26 : decode cX6_addNumber 26 = .ok (.invokevirtual 19, 3) := by decide +kernel
theorem dX6_addNumber_29 : decode cX6_addNumber 29 = .ok (.return_, 1) := by decide +kernel
set_option maxRecDepth 20000 in
theorem ggX6_addNumber_X6_add : GoodIn wsX6_addNumber wsX6_add := goodIn_r _ [5, 6, 7, 8, 9] rfl (by decide +kernel)
set_option maxRecDepth 20000 in
theorem gX6_addNumber_X6_add : GoodIn wsX6_addNumber (wsV RX6 19 RX6 yX6_add wsX6_add) := goodIn_app (a := [.methodLink RX6 19 yX6_add, .instanceMethod yX6_add, .selects RX6 yX6_add yX6_add, .initialized RX6]) (g_c9 (List.mem_cons_of_mem _ (List.mem_append_left _ (List.mem_of_getElem? (i := 0) rfl))) rfl (g_c9 (List.mem_cons_of_mem _ (List.mem_append_left _ (List.mem_of_getElem? (i := 1) rfl))) rfl (g_c9 (List.mem_cons_of_mem _ (List.mem_append_left _ (List.mem_of_getElem? (i := 2) rfl))) rfl (g_c9 (List.mem_cons_of_mem _ (List.mem_append_left _ (List.mem_of_getElem? (i := 3) rfl))) rfl g_n9)))) ggX6_addNumber_X6_add
set_option maxHeartbeats 8000000 in
set_option maxRecDepth 100000 in
theorem w_Names5_has (l : Launch) (D : va_G) (ad : Nat → Nat) (na : Nat) (nan : Int32) (nac : Nat) (nact : ClassId) (nacf : Nat → Int64) (i0 : Int32) (hnan : z_in 0 5 nan) : z_Mi l yX2_has wsX2_has { frames := 0, cells := 0, slots := 0, locals := 0 } D ad [.ref na, .int i0] [(na, .inr (2, [.ref nac, .int nan])), (nac, .inl (nact, 5, .inr (.inl nacf)))] [(nact, .long)] 0 0 (fun r9 u9 => z_in 0 1 r9 ∧ (r9 = 1 → z_in 1 5 nan) ∧ (r9 = 1 → z_in 0 4 i0) ∧ u9 = ([(na, .inr (2, [.ref nac, .int nan])), (nac, .inl (nact, 5, .inr (.inl nacf)))], [])) := by
  refine z_ofI (cc := cX2_has) (maxL := 2) (rt := .boolean) (by decide) rfl (Nat.le_of_ble_eq_true rfl) ?_
  intro p e s m below meth c Q A ls hx hb hml hown hts hin hK hP hD hA hE hO hS hl hret
  have hown : s.vm.findClass RX2 = some m.cls := hown
  have hiX2 : ∀ w ∈ wsX20, w ∈ wsX2_has := fun _ h9 => List.mem_cons_of_mem _ (List.mem_append_right _ h9)
  have hl : lv_has ls 2 [(0, .ref na), (1, .int i0)] := hl
  refine lv_iload_n hx hb dX2_has_0 rfl (lv_at hl 1 rfl) ?_
  refine lv_if_lt (tgt := 16) hx hb dX2_has_1 (by decide) (fun c_1 => ?_) (fun c_1 => ?_)
  · skip
    have h_2 : z_in (-2147483648) (-1) i0 := z_ltL c_1 (z_any i0) (z_lit (x := 0) (a := 0) (b := 0) rfl) rfl
    refine lv_iconst (v := 0) hx hb dX2_has_16 (by decide) ?_
    exact hret 0 ([(na, .inr (2, [.ref nac, .int nan])), (nac, .inl (nact, 5, .inr (.inl nacf)))], []) _ _ _ _ dX2_has_17 (by decide) ⟨(z_w (c := 0) (d := 1) (z_lit (x := 0) (a := 0) (b := 0) rfl) rfl), (fun h9 => absurd h9 (by decide)), (fun h9 => absurd h9 (by decide)), rfl⟩ hP (hK.sub [] rfl) hD hS
  · skip
    have h_3 : z_in 0 2147483647 i0 := z_leR (Int32.not_lt.mp c_1) (z_lit (x := 0) (a := 0) (b := 0) rfl) (z_any i0) rfl
    refine lv_iload_n hx hb dX2_has_4 rfl (lv_at hl 1 rfl) ?_
    refine lv_aload_n hx hb dX2_has_5 rfl (lv_at hl 0 rfl) ?_
    refine va_get (D := D) (ci := 2) (v := .int nan) (C := RX2) (T := TX2) (N := 2) hx hb hts hiX2 hown hK hP 0 rfl rfl 1 (by decide) (hts _ (List.mem_of_getElem? (i := 1) rfl)) (fun _ h9 => h9) rfl dX2_has_6 ?_
    refine lv_icmp_ge (tgt := 16) hx hb dX2_has_9 (by decide) (fun c_4 => ?_) (fun c_4 => ?_)
    · skip
      refine lv_iconst (v := 0) hx hb dX2_has_16 (by decide) ?_
      exact hret 0 ([(na, .inr (2, [.ref nac, .int nan])), (nac, .inl (nact, 5, .inr (.inl nacf)))], []) _ _ _ _ dX2_has_17 (by decide) ⟨(z_w (c := 0) (d := 1) (z_lit (x := 0) (a := 0) (b := 0) rfl) rfl), (fun h9 => absurd h9 (by decide)), (fun h9 => absurd h9 (by decide)), rfl⟩ hP (hK.sub [] rfl) hD hS
    · skip
      have h_5 : z_in 0 4 i0 := z_ltL (Int32.not_le.mp c_4) h_3 hnan rfl
      have h_6 : z_in 1 5 nan := z_ltR (Int32.not_le.mp c_4) h_3 hnan rfl
      refine lv_iconst (v := 1) hx hb dX2_has_12 (by decide) ?_
      refine lv_goto (tgt := 17) hx hb dX2_has_13 (by decide) ?_
      exact hret 1 ([(na, .inr (2, [.ref nac, .int nan])), (nac, .inl (nact, 5, .inr (.inl nacf)))], []) _ _ _ _ dX2_has_17 (by decide) ⟨(z_w (c := 0) (d := 1) (z_lit (x := 1) (a := 1) (b := 1) rfl) rfl), (fun _ => h_6), (fun _ => h_5), rfl⟩ hP (hK.sub [] rfl) hD hS

set_option maxHeartbeats 8000000 in
set_option maxRecDepth 100000 in
theorem w_Names5_isFull (l : Launch) (D : va_G) (ad : Nat → Nat) (na : Nat) (nan : Int32) (nac : Nat) (nact : ClassId) (nacf : Nat → Int64) (hnan : z_in 0 5 nan) : z_Mi l yX2_isFull wsX2_isFull { frames := 0, cells := 0, slots := 0, locals := 0 } D ad [.ref na] [(na, .inr (2, [.ref nac, .int nan])), (nac, .inl (nact, 5, .inr (.inl nacf)))] [(nact, .long)] 0 0 (fun r9 u9 => z_in 0 1 r9 ∧ (r9 = 0 → z_in 0 4 nan) ∧ (r9 = 1 → z_in 5 5 nan) ∧ u9 = ([(na, .inr (2, [.ref nac, .int nan])), (nac, .inl (nact, 5, .inr (.inl nacf)))], [])) := by
  refine z_ofI (cc := cX2_isFull) (maxL := 1) (rt := .boolean) (by decide) rfl (Nat.le_of_ble_eq_true rfl) ?_
  intro p e s m below meth c Q A ls hx hb hml hown hts hin hK hP hD hA hE hO hS hl hret
  have hown : s.vm.findClass RX2 = some m.cls := hown
  have hiX2 : ∀ w ∈ wsX20, w ∈ wsX2_isFull := fun _ h9 => List.mem_cons_of_mem _ (List.mem_append_right _ h9)
  have hl : lv_has ls 1 [(0, .ref na)] := hl
  refine lv_aload_n hx hb dX2_isFull_0 rfl (lv_at hl 0 rfl) ?_
  refine va_get (D := D) (ci := 2) (v := .int nan) (C := RX2) (T := TX2) (N := 2) hx hb hts hiX2 hown hK hP 0 rfl rfl 1 (by decide) (hts _ (List.mem_of_getElem? (i := 1) rfl)) (fun _ h9 => h9) rfl dX2_isFull_1 ?_
  refine lv_aload_n hx hb dX2_isFull_4 rfl (lv_at hl 0 rfl) ?_
  refine va_get (D := D) (ci := 2) (v := .ref nac) (C := RX2) (T := TX2) (N := 2) hx hb hts hiX2 hown hK hP 0 rfl rfl 0 (by decide) (hts _ (List.mem_of_getElem? (i := 2) rfl)) (fun _ h9 => h9) rfl dX2_isFull_5 ?_
  refine va_alen (v := 5) hx hb hK hP 1 0 rfl rfl rfl dX2_isFull_8 ?_
  refine lv_icmp_lt (tgt := 16) hx hb dX2_isFull_9 (by decide) (fun c_1 => ?_) (fun c_1 => ?_)
  · skip
    have h_2 : z_in 0 4 nan := z_ltL c_1 hnan (z_lit (x := 5) (a := 5) (b := 5) rfl) rfl
    refine lv_iconst (v := 0) hx hb dX2_isFull_16 (by decide) ?_
    exact hret 0 ([(na, .inr (2, [.ref nac, .int nan])), (nac, .inl (nact, 5, .inr (.inl nacf)))], []) _ _ _ _ dX2_isFull_17 (by decide) ⟨(z_w (c := 0) (d := 1) (z_lit (x := 0) (a := 0) (b := 0) rfl) rfl), (fun _ => h_2), (fun h9 => absurd h9 (by decide)), rfl⟩ hP (hK.sub [] rfl) hD hS
  · skip
    have h_3 : z_in 5 5 nan := z_leR (Int32.not_lt.mp c_1) (z_lit (x := 5) (a := 5) (b := 5) rfl) hnan rfl
    refine lv_iconst (v := 1) hx hb dX2_isFull_12 (by decide) ?_
    refine lv_goto (tgt := 17) hx hb dX2_isFull_13 (by decide) ?_
    exact hret 1 ([(na, .inr (2, [.ref nac, .int nan])), (nac, .inl (nact, 5, .inr (.inl nacf)))], []) _ _ _ _ dX2_isFull_17 (by decide) ⟨(z_w (c := 0) (d := 1) (z_lit (x := 1) (a := 1) (b := 1) rfl) rfl), (fun h9 => absurd h9 (by decide)), (fun _ => h_3), rfl⟩ hP (hK.sub [] rfl) hD hS

set_option maxHeartbeats 8000000 in
set_option maxRecDepth 100000 in
theorem w_Names5_find (l : Launch) (D : va_G) (ad : Nat → Nat) (na : Nat) (nan : Int32) (nac : Nat) (nact : ClassId) (nacf : Nat → Int64) (j0 : Int64) (hnan : z_in 0 5 nan) : z_Mi l yX2_find wsX2_find { frames := 0, cells := 0, slots := 0, locals := 0 } D ad [.ref na, .long j0] [(na, .inr (2, [.ref nac, .int nan])), (nac, .inl (nact, 5, .inr (.inl nacf)))] [(nact, .long)] 0 0 (fun r9 u9 => z_in (-1) 4 r9 ∧ (0 ≤ r9.toInt → z_in 1 5 nan) ∧ z_fdc nacf nan j0 r9 ∧ u9 = ([(na, .inr (2, [.ref nac, .int nan])), (nac, .inl (nact, 5, .inr (.inl nacf)))], [])) := by
  refine z_ofI (cc := cX2_find) (maxL := 4) (rt := .int) (by decide) rfl (Nat.le_of_ble_eq_true rfl) ?_
  intro p e s m below meth c Q A ls hx hb hml hown hts hin hK hP hD hA hE hO hS hl hret
  have hown : s.vm.findClass RX2 = some m.cls := hown
  have hiX2 : ∀ w ∈ wsX20, w ∈ wsX2_find := fun _ h9 => List.mem_cons_of_mem _ (List.mem_append_right _ h9)
  have hl : lv_has ls 4 [(0, .ref na), (1, .long j0)] := hl
  refine lv_iconst (v := 0) hx hb dX2_find_0 (by decide) ?_
  refine lv_istore_n (lv' := [(3, .int 0), (0, .ref na), (1, .long j0)]) hx hb dX2_find_1 rfl hl (by decide) rfl (fun ls hl => ?_)
  have LP1 : ∀ (n : Nat) (v1_3 : Int32) (H : Heap) (locs : List Loc) (ls : Array Slot), z_in 0 5 v1_3 → z_fj nacf j0 v1_3 → 6 - v1_3.toInt ≤ (n : Int) → va_P D vwCl [(na, .inr (2, [.ref nac, .int nan])), (nac, .inl (nact, 5, .inr (.inl nacf)))] H → va_D A [(na, .inr (2, [.ref nac, .int nan])), (nac, .inl (nact, 5, .inr (.inl nacf)))] → va_S A s.heap H locs → lv_has ls 4 [(3, .int v1_3), (0, .ref na), (1, .long j0)] → W p l e ({ frames := 0, cells := 0, slots := 0, locals := 0 }) s m ([.ref na, .long j0] : List Value).toArray below meth c H locs 0 0 Q (F0 m 2 ls []) := by
    intro n
    induction n with
    | zero => intro v1_3 H locs ls hv1_3 hI1_0 hn1; exact absurd hn1 (by have q1 := hv1_3.1; have q2 := hv1_3.2; omega)
    | succ n ih1 =>
      intro v1_3 H locs ls hv1_3 hI1_0 hn1 hP hD hS hl
      have q1 := hv1_3.1
      have q1' := hv1_3.2
      refine lv_iload_n hx hb dX2_find_2 rfl (lv_at hl 0 rfl) ?_
      refine lv_aload_n hx hb dX2_find_3 rfl (lv_at hl 1 rfl) ?_
      refine va_get (D := D) (ci := 2) (v := .int nan) (C := RX2) (T := TX2) (N := 2) hx hb hts hiX2 hown hK hP 0 rfl rfl 1 (by decide) (hts _ (List.mem_of_getElem? (i := 1) rfl)) (fun _ h9 => h9) rfl dX2_find_4 ?_
      refine lv_icmp_ge (tgt := 29) hx hb dX2_find_7 (by decide) (fun c_1 => ?_) (fun c_1 => ?_)
      · skip
        refine lv_iconst (v := (-1)) hx hb dX2_find_29 (by decide) ?_
        exact hret (-1) ([(na, .inr (2, [.ref nac, .int nan])), (nac, .inl (nact, 5, .inr (.inl nacf)))], []) _ _ _ _ dX2_find_30 rfl ⟨(z_w (c := (-1)) (d := 4) (z_lit (x := (-1)) (a := (-1)) (b := (-1)) rfl) rfl), (fun h9 => absurd (Int.le_trans h9 (z_lit (x := (-1)) (a := (-1)) (b := (-1)) rfl).2) (by decide)), (z_fdN hI1_0 c_1), rfl⟩ hP (hK.sub [] rfl) hD hS
      · skip
        have h_2 : z_in 0 4 v1_3 := z_ltL (Int32.not_le.mp c_1) hv1_3 hnan rfl
        have h_3 : z_in 1 5 nan := z_ltR (Int32.not_le.mp c_1) hv1_3 hnan rfl
        refine lv_aload_n hx hb dX2_find_10 rfl (lv_at hl 1 rfl) ?_
        refine va_get (D := D) (ci := 2) (v := .ref nac) (C := RX2) (T := TX2) (N := 2) hx hb hts hiX2 hown hK hP 0 rfl rfl 0 (by decide) (hts _ (List.mem_of_getElem? (i := 2) rfl)) (fun _ h9 => h9) rfl dX2_find_11 ?_
        refine lv_iload_n hx hb dX2_find_14 rfl (lv_at hl 0 rfl) ?_
        refine va_lald hx hb hK hP 1 0 rfl rfl (z_vp h_2 rfl) dX2_find_15 ?_
        refine lv_topl (fun y_4 ey_4 => ?_)
        refine lv_lload_n hx hb dX2_find_16 rfl (lv_at hl 2 rfl) ?_
        refine W.lcmp hx hb dX2_find_17 ?_
        refine lv_topi (fun y_5 ey_5 => ?_)
        have h_6 : z_in (-1) 1 y_5 := by rw [ey_5]; exact z_cmp _ _
        refine lv_if_ne (tgt := 23) hx hb dX2_find_18 (by decide) (fun c_7 => ?_) (fun c_7 => ?_)
        · skip
          obtain ⟨y_8, ey_8⟩ : ∃ y : Int32, y = v1_3 + 1 := ⟨_, rfl⟩
          have h_9 : z_in 1 5 y_8 := by rw [ey_8]; exact z_add h_2 (z_lit (x := 1) (a := 1) (b := 1) rfl) rfl rfl
          have ty_8 : y_8.toInt = v1_3.toInt + 1 := by rw [ey_8]; exact z_addT h_2 (z_lit (x := 1) (a := 1) (b := 1) rfl) rfl
          refine lv_iinc (v := y_8) (lv' := [(3, .int y_8), (0, .ref na), (1, .long j0)]) hx hb dX2_find_23 hl (k := 0) rfl (by rw [ey_8]; rfl) (by decide) rfl (fun ls hl => ?_)
          refine lv_goto (tgt := 2) hx hb dX2_find_26 (by decide) ?_
          exact ih1 y_8 _ _ _ (z_w (c := 0) (d := 5) h_9 rfl) (z_fjS hI1_0 ty_8 ey_4 (z_lc1 ey_5 c_7)) (by omega) hP hD hS (lv_sub hl [0, 1, 2] rfl)
        · skip
          have h_10 : z_in (-1) 0 y_5 := z_leL (Int32.le_of_eq c_7) h_6 (z_lit (x := 0) (a := 0) (b := 0) rfl) rfl
          have h_11 : z_in 0 0 y_5 := z_leR (Int32.le_of_eq (Eq.symm c_7)) (z_lit (x := 0) (a := 0) (b := 0) rfl) h_10 rfl
          refine lv_iload_n hx hb dX2_find_21 rfl (lv_at hl 0 rfl) ?_
          exact hret v1_3 ([(na, .inr (2, [.ref nac, .int nan])), (nac, .inl (nact, 5, .inr (.inl nacf)))], []) _ _ _ _ dX2_find_22 rfl ⟨(z_w (c := (-1)) (d := 4) h_2 rfl), (fun _ => h_3), (z_fdF hI1_0 (Int32.not_le.mp c_1) ey_4 (z_lc0 ey_5 (z_eqk h_11 rfl))), rfl⟩ hP (hK.sub [] rfl) hD hS
  exact LP1 6 0 _ _ _ (z_w (c := 0) (d := 5) (z_lit (x := 0) (a := 0) (b := 0) rfl) rfl) z_fj0 (by decide) hP hD hS (lv_sub hl [0, 1, 2] rfl)

set_option maxHeartbeats 8000000 in
set_option maxRecDepth 100000 in
theorem w_Names7_has (l : Launch) (D : va_G) (ad : Nat → Nat) (na : Nat) (nan : Int32) (nac : Nat) (nact : ClassId) (nacf : Nat → Int64) (i0 : Int32) (hnan : z_in 0 7 nan) : z_Mi l yX2_has wsX2_has { frames := 0, cells := 0, slots := 0, locals := 0 } D ad [.ref na, .int i0] [(na, .inr (2, [.ref nac, .int nan])), (nac, .inl (nact, 7, .inr (.inl nacf)))] [(nact, .long)] 0 0 (fun r9 u9 => z_in 0 1 r9 ∧ (r9 = 1 → z_in 1 7 nan) ∧ (r9 = 1 → z_in 0 6 i0) ∧ u9 = ([(na, .inr (2, [.ref nac, .int nan])), (nac, .inl (nact, 7, .inr (.inl nacf)))], [])) := by
  refine z_ofI (cc := cX2_has) (maxL := 2) (rt := .boolean) (by decide) rfl (Nat.le_of_ble_eq_true rfl) ?_
  intro p e s m below meth c Q A ls hx hb hml hown hts hin hK hP hD hA hE hO hS hl hret
  have hown : s.vm.findClass RX2 = some m.cls := hown
  have hiX2 : ∀ w ∈ wsX20, w ∈ wsX2_has := fun _ h9 => List.mem_cons_of_mem _ (List.mem_append_right _ h9)
  have hl : lv_has ls 2 [(0, .ref na), (1, .int i0)] := hl
  refine lv_iload_n hx hb dX2_has_0 rfl (lv_at hl 1 rfl) ?_
  refine lv_if_lt (tgt := 16) hx hb dX2_has_1 (by decide) (fun c_1 => ?_) (fun c_1 => ?_)
  · skip
    have h_2 : z_in (-2147483648) (-1) i0 := z_ltL c_1 (z_any i0) (z_lit (x := 0) (a := 0) (b := 0) rfl) rfl
    refine lv_iconst (v := 0) hx hb dX2_has_16 (by decide) ?_
    exact hret 0 ([(na, .inr (2, [.ref nac, .int nan])), (nac, .inl (nact, 7, .inr (.inl nacf)))], []) _ _ _ _ dX2_has_17 (by decide) ⟨(z_w (c := 0) (d := 1) (z_lit (x := 0) (a := 0) (b := 0) rfl) rfl), (fun h9 => absurd h9 (by decide)), (fun h9 => absurd h9 (by decide)), rfl⟩ hP (hK.sub [] rfl) hD hS
  · skip
    have h_3 : z_in 0 2147483647 i0 := z_leR (Int32.not_lt.mp c_1) (z_lit (x := 0) (a := 0) (b := 0) rfl) (z_any i0) rfl
    refine lv_iload_n hx hb dX2_has_4 rfl (lv_at hl 1 rfl) ?_
    refine lv_aload_n hx hb dX2_has_5 rfl (lv_at hl 0 rfl) ?_
    refine va_get (D := D) (ci := 2) (v := .int nan) (C := RX2) (T := TX2) (N := 2) hx hb hts hiX2 hown hK hP 0 rfl rfl 1 (by decide) (hts _ (List.mem_of_getElem? (i := 1) rfl)) (fun _ h9 => h9) rfl dX2_has_6 ?_
    refine lv_icmp_ge (tgt := 16) hx hb dX2_has_9 (by decide) (fun c_4 => ?_) (fun c_4 => ?_)
    · skip
      refine lv_iconst (v := 0) hx hb dX2_has_16 (by decide) ?_
      exact hret 0 ([(na, .inr (2, [.ref nac, .int nan])), (nac, .inl (nact, 7, .inr (.inl nacf)))], []) _ _ _ _ dX2_has_17 (by decide) ⟨(z_w (c := 0) (d := 1) (z_lit (x := 0) (a := 0) (b := 0) rfl) rfl), (fun h9 => absurd h9 (by decide)), (fun h9 => absurd h9 (by decide)), rfl⟩ hP (hK.sub [] rfl) hD hS
    · skip
      have h_5 : z_in 0 6 i0 := z_ltL (Int32.not_le.mp c_4) h_3 hnan rfl
      have h_6 : z_in 1 7 nan := z_ltR (Int32.not_le.mp c_4) h_3 hnan rfl
      refine lv_iconst (v := 1) hx hb dX2_has_12 (by decide) ?_
      refine lv_goto (tgt := 17) hx hb dX2_has_13 (by decide) ?_
      exact hret 1 ([(na, .inr (2, [.ref nac, .int nan])), (nac, .inl (nact, 7, .inr (.inl nacf)))], []) _ _ _ _ dX2_has_17 (by decide) ⟨(z_w (c := 0) (d := 1) (z_lit (x := 1) (a := 1) (b := 1) rfl) rfl), (fun _ => h_6), (fun _ => h_5), rfl⟩ hP (hK.sub [] rfl) hD hS

set_option maxHeartbeats 8000000 in
set_option maxRecDepth 100000 in
theorem w_Names7_isFull (l : Launch) (D : va_G) (ad : Nat → Nat) (na : Nat) (nan : Int32) (nac : Nat) (nact : ClassId) (nacf : Nat → Int64) (hnan : z_in 0 7 nan) : z_Mi l yX2_isFull wsX2_isFull { frames := 0, cells := 0, slots := 0, locals := 0 } D ad [.ref na] [(na, .inr (2, [.ref nac, .int nan])), (nac, .inl (nact, 7, .inr (.inl nacf)))] [(nact, .long)] 0 0 (fun r9 u9 => z_in 0 1 r9 ∧ (r9 = 0 → z_in 0 6 nan) ∧ (r9 = 1 → z_in 7 7 nan) ∧ u9 = ([(na, .inr (2, [.ref nac, .int nan])), (nac, .inl (nact, 7, .inr (.inl nacf)))], [])) := by
  refine z_ofI (cc := cX2_isFull) (maxL := 1) (rt := .boolean) (by decide) rfl (Nat.le_of_ble_eq_true rfl) ?_
  intro p e s m below meth c Q A ls hx hb hml hown hts hin hK hP hD hA hE hO hS hl hret
  have hown : s.vm.findClass RX2 = some m.cls := hown
  have hiX2 : ∀ w ∈ wsX20, w ∈ wsX2_isFull := fun _ h9 => List.mem_cons_of_mem _ (List.mem_append_right _ h9)
  have hl : lv_has ls 1 [(0, .ref na)] := hl
  refine lv_aload_n hx hb dX2_isFull_0 rfl (lv_at hl 0 rfl) ?_
  refine va_get (D := D) (ci := 2) (v := .int nan) (C := RX2) (T := TX2) (N := 2) hx hb hts hiX2 hown hK hP 0 rfl rfl 1 (by decide) (hts _ (List.mem_of_getElem? (i := 1) rfl)) (fun _ h9 => h9) rfl dX2_isFull_1 ?_
  refine lv_aload_n hx hb dX2_isFull_4 rfl (lv_at hl 0 rfl) ?_
  refine va_get (D := D) (ci := 2) (v := .ref nac) (C := RX2) (T := TX2) (N := 2) hx hb hts hiX2 hown hK hP 0 rfl rfl 0 (by decide) (hts _ (List.mem_of_getElem? (i := 2) rfl)) (fun _ h9 => h9) rfl dX2_isFull_5 ?_
  refine va_alen (v := 7) hx hb hK hP 1 0 rfl rfl rfl dX2_isFull_8 ?_
  refine lv_icmp_lt (tgt := 16) hx hb dX2_isFull_9 (by decide) (fun c_1 => ?_) (fun c_1 => ?_)
  · skip
    have h_2 : z_in 0 6 nan := z_ltL c_1 hnan (z_lit (x := 7) (a := 7) (b := 7) rfl) rfl
    refine lv_iconst (v := 0) hx hb dX2_isFull_16 (by decide) ?_
    exact hret 0 ([(na, .inr (2, [.ref nac, .int nan])), (nac, .inl (nact, 7, .inr (.inl nacf)))], []) _ _ _ _ dX2_isFull_17 (by decide) ⟨(z_w (c := 0) (d := 1) (z_lit (x := 0) (a := 0) (b := 0) rfl) rfl), (fun _ => h_2), (fun h9 => absurd h9 (by decide)), rfl⟩ hP (hK.sub [] rfl) hD hS
  · skip
    have h_3 : z_in 7 7 nan := z_leR (Int32.not_lt.mp c_1) (z_lit (x := 7) (a := 7) (b := 7) rfl) hnan rfl
    refine lv_iconst (v := 1) hx hb dX2_isFull_12 (by decide) ?_
    refine lv_goto (tgt := 17) hx hb dX2_isFull_13 (by decide) ?_
    exact hret 1 ([(na, .inr (2, [.ref nac, .int nan])), (nac, .inl (nact, 7, .inr (.inl nacf)))], []) _ _ _ _ dX2_isFull_17 (by decide) ⟨(z_w (c := 0) (d := 1) (z_lit (x := 1) (a := 1) (b := 1) rfl) rfl), (fun h9 => absurd h9 (by decide)), (fun _ => h_3), rfl⟩ hP (hK.sub [] rfl) hD hS

set_option maxHeartbeats 8000000 in
set_option maxRecDepth 100000 in
theorem w_Names7_find (l : Launch) (D : va_G) (ad : Nat → Nat) (na : Nat) (nan : Int32) (nac : Nat) (nact : ClassId) (nacf : Nat → Int64) (j0 : Int64) (hnan : z_in 0 7 nan) : z_Mi l yX2_find wsX2_find { frames := 0, cells := 0, slots := 0, locals := 0 } D ad [.ref na, .long j0] [(na, .inr (2, [.ref nac, .int nan])), (nac, .inl (nact, 7, .inr (.inl nacf)))] [(nact, .long)] 0 0 (fun r9 u9 => z_in (-1) 6 r9 ∧ (0 ≤ r9.toInt → z_in 1 7 nan) ∧ z_fdc nacf nan j0 r9 ∧ u9 = ([(na, .inr (2, [.ref nac, .int nan])), (nac, .inl (nact, 7, .inr (.inl nacf)))], [])) := by
  refine z_ofI (cc := cX2_find) (maxL := 4) (rt := .int) (by decide) rfl (Nat.le_of_ble_eq_true rfl) ?_
  intro p e s m below meth c Q A ls hx hb hml hown hts hin hK hP hD hA hE hO hS hl hret
  have hown : s.vm.findClass RX2 = some m.cls := hown
  have hiX2 : ∀ w ∈ wsX20, w ∈ wsX2_find := fun _ h9 => List.mem_cons_of_mem _ (List.mem_append_right _ h9)
  have hl : lv_has ls 4 [(0, .ref na), (1, .long j0)] := hl
  refine lv_iconst (v := 0) hx hb dX2_find_0 (by decide) ?_
  refine lv_istore_n (lv' := [(3, .int 0), (0, .ref na), (1, .long j0)]) hx hb dX2_find_1 rfl hl (by decide) rfl (fun ls hl => ?_)
  have LP1 : ∀ (n : Nat) (v1_3 : Int32) (H : Heap) (locs : List Loc) (ls : Array Slot), z_in 0 7 v1_3 → z_fj nacf j0 v1_3 → 8 - v1_3.toInt ≤ (n : Int) → va_P D vwCl [(na, .inr (2, [.ref nac, .int nan])), (nac, .inl (nact, 7, .inr (.inl nacf)))] H → va_D A [(na, .inr (2, [.ref nac, .int nan])), (nac, .inl (nact, 7, .inr (.inl nacf)))] → va_S A s.heap H locs → lv_has ls 4 [(3, .int v1_3), (0, .ref na), (1, .long j0)] → W p l e ({ frames := 0, cells := 0, slots := 0, locals := 0 }) s m ([.ref na, .long j0] : List Value).toArray below meth c H locs 0 0 Q (F0 m 2 ls []) := by
    intro n
    induction n with
    | zero => intro v1_3 H locs ls hv1_3 hI1_0 hn1; exact absurd hn1 (by have q1 := hv1_3.1; have q2 := hv1_3.2; omega)
    | succ n ih1 =>
      intro v1_3 H locs ls hv1_3 hI1_0 hn1 hP hD hS hl
      have q1 := hv1_3.1
      have q1' := hv1_3.2
      refine lv_iload_n hx hb dX2_find_2 rfl (lv_at hl 0 rfl) ?_
      refine lv_aload_n hx hb dX2_find_3 rfl (lv_at hl 1 rfl) ?_
      refine va_get (D := D) (ci := 2) (v := .int nan) (C := RX2) (T := TX2) (N := 2) hx hb hts hiX2 hown hK hP 0 rfl rfl 1 (by decide) (hts _ (List.mem_of_getElem? (i := 1) rfl)) (fun _ h9 => h9) rfl dX2_find_4 ?_
      refine lv_icmp_ge (tgt := 29) hx hb dX2_find_7 (by decide) (fun c_1 => ?_) (fun c_1 => ?_)
      · skip
        refine lv_iconst (v := (-1)) hx hb dX2_find_29 (by decide) ?_
        exact hret (-1) ([(na, .inr (2, [.ref nac, .int nan])), (nac, .inl (nact, 7, .inr (.inl nacf)))], []) _ _ _ _ dX2_find_30 rfl ⟨(z_w (c := (-1)) (d := 6) (z_lit (x := (-1)) (a := (-1)) (b := (-1)) rfl) rfl), (fun h9 => absurd (Int.le_trans h9 (z_lit (x := (-1)) (a := (-1)) (b := (-1)) rfl).2) (by decide)), (z_fdN hI1_0 c_1), rfl⟩ hP (hK.sub [] rfl) hD hS
      · skip
        have h_2 : z_in 0 6 v1_3 := z_ltL (Int32.not_le.mp c_1) hv1_3 hnan rfl
        have h_3 : z_in 1 7 nan := z_ltR (Int32.not_le.mp c_1) hv1_3 hnan rfl
        refine lv_aload_n hx hb dX2_find_10 rfl (lv_at hl 1 rfl) ?_
        refine va_get (D := D) (ci := 2) (v := .ref nac) (C := RX2) (T := TX2) (N := 2) hx hb hts hiX2 hown hK hP 0 rfl rfl 0 (by decide) (hts _ (List.mem_of_getElem? (i := 2) rfl)) (fun _ h9 => h9) rfl dX2_find_11 ?_
        refine lv_iload_n hx hb dX2_find_14 rfl (lv_at hl 0 rfl) ?_
        refine va_lald hx hb hK hP 1 0 rfl rfl (z_vp h_2 rfl) dX2_find_15 ?_
        refine lv_topl (fun y_4 ey_4 => ?_)
        refine lv_lload_n hx hb dX2_find_16 rfl (lv_at hl 2 rfl) ?_
        refine W.lcmp hx hb dX2_find_17 ?_
        refine lv_topi (fun y_5 ey_5 => ?_)
        have h_6 : z_in (-1) 1 y_5 := by rw [ey_5]; exact z_cmp _ _
        refine lv_if_ne (tgt := 23) hx hb dX2_find_18 (by decide) (fun c_7 => ?_) (fun c_7 => ?_)
        · skip
          obtain ⟨y_8, ey_8⟩ : ∃ y : Int32, y = v1_3 + 1 := ⟨_, rfl⟩
          have h_9 : z_in 1 7 y_8 := by rw [ey_8]; exact z_add h_2 (z_lit (x := 1) (a := 1) (b := 1) rfl) rfl rfl
          have ty_8 : y_8.toInt = v1_3.toInt + 1 := by rw [ey_8]; exact z_addT h_2 (z_lit (x := 1) (a := 1) (b := 1) rfl) rfl
          refine lv_iinc (v := y_8) (lv' := [(3, .int y_8), (0, .ref na), (1, .long j0)]) hx hb dX2_find_23 hl (k := 0) rfl (by rw [ey_8]; rfl) (by decide) rfl (fun ls hl => ?_)
          refine lv_goto (tgt := 2) hx hb dX2_find_26 (by decide) ?_
          exact ih1 y_8 _ _ _ (z_w (c := 0) (d := 7) h_9 rfl) (z_fjS hI1_0 ty_8 ey_4 (z_lc1 ey_5 c_7)) (by omega) hP hD hS (lv_sub hl [0, 1, 2] rfl)
        · skip
          have h_10 : z_in (-1) 0 y_5 := z_leL (Int32.le_of_eq c_7) h_6 (z_lit (x := 0) (a := 0) (b := 0) rfl) rfl
          have h_11 : z_in 0 0 y_5 := z_leR (Int32.le_of_eq (Eq.symm c_7)) (z_lit (x := 0) (a := 0) (b := 0) rfl) h_10 rfl
          refine lv_iload_n hx hb dX2_find_21 rfl (lv_at hl 0 rfl) ?_
          exact hret v1_3 ([(na, .inr (2, [.ref nac, .int nan])), (nac, .inl (nact, 7, .inr (.inl nacf)))], []) _ _ _ _ dX2_find_22 rfl ⟨(z_w (c := (-1)) (d := 6) h_2 rfl), (fun _ => h_3), (z_fdF hI1_0 (Int32.not_le.mp c_1) ey_4 (z_lc0 ey_5 (z_eqk h_11 rfl))), rfl⟩ hP (hK.sub [] rfl) hD hS
  exact LP1 8 0 _ _ _ (z_w (c := 0) (d := 7) (z_lit (x := 0) (a := 0) (b := 0) rfl) rfl) z_fj0 (by decide) hP hD hS (lv_sub hl [0, 1, 2] rfl)

set_option maxHeartbeats 8000000 in
set_option maxRecDepth 100000 in
theorem w_Names6_has (l : Launch) (D : va_G) (ad : Nat → Nat) (na : Nat) (nan : Int32) (nac : Nat) (nact : ClassId) (nacf : Nat → Int64) (i0 : Int32) (hnan : z_in 0 6 nan) : z_Mi l yX2_has wsX2_has { frames := 0, cells := 0, slots := 0, locals := 0 } D ad [.ref na, .int i0] [(na, .inr (2, [.ref nac, .int nan])), (nac, .inl (nact, 6, .inr (.inl nacf)))] [(nact, .long)] 0 0 (fun r9 u9 => z_in 0 1 r9 ∧ (r9 = 1 → z_in 1 6 nan) ∧ (r9 = 1 → z_in 0 5 i0) ∧ u9 = ([(na, .inr (2, [.ref nac, .int nan])), (nac, .inl (nact, 6, .inr (.inl nacf)))], [])) := by
  refine z_ofI (cc := cX2_has) (maxL := 2) (rt := .boolean) (by decide) rfl (Nat.le_of_ble_eq_true rfl) ?_
  intro p e s m below meth c Q A ls hx hb hml hown hts hin hK hP hD hA hE hO hS hl hret
  have hown : s.vm.findClass RX2 = some m.cls := hown
  have hiX2 : ∀ w ∈ wsX20, w ∈ wsX2_has := fun _ h9 => List.mem_cons_of_mem _ (List.mem_append_right _ h9)
  have hl : lv_has ls 2 [(0, .ref na), (1, .int i0)] := hl
  refine lv_iload_n hx hb dX2_has_0 rfl (lv_at hl 1 rfl) ?_
  refine lv_if_lt (tgt := 16) hx hb dX2_has_1 (by decide) (fun c_1 => ?_) (fun c_1 => ?_)
  · skip
    have h_2 : z_in (-2147483648) (-1) i0 := z_ltL c_1 (z_any i0) (z_lit (x := 0) (a := 0) (b := 0) rfl) rfl
    refine lv_iconst (v := 0) hx hb dX2_has_16 (by decide) ?_
    exact hret 0 ([(na, .inr (2, [.ref nac, .int nan])), (nac, .inl (nact, 6, .inr (.inl nacf)))], []) _ _ _ _ dX2_has_17 (by decide) ⟨(z_w (c := 0) (d := 1) (z_lit (x := 0) (a := 0) (b := 0) rfl) rfl), (fun h9 => absurd h9 (by decide)), (fun h9 => absurd h9 (by decide)), rfl⟩ hP (hK.sub [] rfl) hD hS
  · skip
    have h_3 : z_in 0 2147483647 i0 := z_leR (Int32.not_lt.mp c_1) (z_lit (x := 0) (a := 0) (b := 0) rfl) (z_any i0) rfl
    refine lv_iload_n hx hb dX2_has_4 rfl (lv_at hl 1 rfl) ?_
    refine lv_aload_n hx hb dX2_has_5 rfl (lv_at hl 0 rfl) ?_
    refine va_get (D := D) (ci := 2) (v := .int nan) (C := RX2) (T := TX2) (N := 2) hx hb hts hiX2 hown hK hP 0 rfl rfl 1 (by decide) (hts _ (List.mem_of_getElem? (i := 1) rfl)) (fun _ h9 => h9) rfl dX2_has_6 ?_
    refine lv_icmp_ge (tgt := 16) hx hb dX2_has_9 (by decide) (fun c_4 => ?_) (fun c_4 => ?_)
    · skip
      refine lv_iconst (v := 0) hx hb dX2_has_16 (by decide) ?_
      exact hret 0 ([(na, .inr (2, [.ref nac, .int nan])), (nac, .inl (nact, 6, .inr (.inl nacf)))], []) _ _ _ _ dX2_has_17 (by decide) ⟨(z_w (c := 0) (d := 1) (z_lit (x := 0) (a := 0) (b := 0) rfl) rfl), (fun h9 => absurd h9 (by decide)), (fun h9 => absurd h9 (by decide)), rfl⟩ hP (hK.sub [] rfl) hD hS
    · skip
      have h_5 : z_in 0 5 i0 := z_ltL (Int32.not_le.mp c_4) h_3 hnan rfl
      have h_6 : z_in 1 6 nan := z_ltR (Int32.not_le.mp c_4) h_3 hnan rfl
      refine lv_iconst (v := 1) hx hb dX2_has_12 (by decide) ?_
      refine lv_goto (tgt := 17) hx hb dX2_has_13 (by decide) ?_
      exact hret 1 ([(na, .inr (2, [.ref nac, .int nan])), (nac, .inl (nact, 6, .inr (.inl nacf)))], []) _ _ _ _ dX2_has_17 (by decide) ⟨(z_w (c := 0) (d := 1) (z_lit (x := 1) (a := 1) (b := 1) rfl) rfl), (fun _ => h_6), (fun _ => h_5), rfl⟩ hP (hK.sub [] rfl) hD hS

set_option maxHeartbeats 8000000 in
set_option maxRecDepth 100000 in
theorem w_Names6_isFull (l : Launch) (D : va_G) (ad : Nat → Nat) (na : Nat) (nan : Int32) (nac : Nat) (nact : ClassId) (nacf : Nat → Int64) (hnan : z_in 0 6 nan) : z_Mi l yX2_isFull wsX2_isFull { frames := 0, cells := 0, slots := 0, locals := 0 } D ad [.ref na] [(na, .inr (2, [.ref nac, .int nan])), (nac, .inl (nact, 6, .inr (.inl nacf)))] [(nact, .long)] 0 0 (fun r9 u9 => z_in 0 1 r9 ∧ (r9 = 0 → z_in 0 5 nan) ∧ (r9 = 1 → z_in 6 6 nan) ∧ u9 = ([(na, .inr (2, [.ref nac, .int nan])), (nac, .inl (nact, 6, .inr (.inl nacf)))], [])) := by
  refine z_ofI (cc := cX2_isFull) (maxL := 1) (rt := .boolean) (by decide) rfl (Nat.le_of_ble_eq_true rfl) ?_
  intro p e s m below meth c Q A ls hx hb hml hown hts hin hK hP hD hA hE hO hS hl hret
  have hown : s.vm.findClass RX2 = some m.cls := hown
  have hiX2 : ∀ w ∈ wsX20, w ∈ wsX2_isFull := fun _ h9 => List.mem_cons_of_mem _ (List.mem_append_right _ h9)
  have hl : lv_has ls 1 [(0, .ref na)] := hl
  refine lv_aload_n hx hb dX2_isFull_0 rfl (lv_at hl 0 rfl) ?_
  refine va_get (D := D) (ci := 2) (v := .int nan) (C := RX2) (T := TX2) (N := 2) hx hb hts hiX2 hown hK hP 0 rfl rfl 1 (by decide) (hts _ (List.mem_of_getElem? (i := 1) rfl)) (fun _ h9 => h9) rfl dX2_isFull_1 ?_
  refine lv_aload_n hx hb dX2_isFull_4 rfl (lv_at hl 0 rfl) ?_
  refine va_get (D := D) (ci := 2) (v := .ref nac) (C := RX2) (T := TX2) (N := 2) hx hb hts hiX2 hown hK hP 0 rfl rfl 0 (by decide) (hts _ (List.mem_of_getElem? (i := 2) rfl)) (fun _ h9 => h9) rfl dX2_isFull_5 ?_
  refine va_alen (v := 6) hx hb hK hP 1 0 rfl rfl rfl dX2_isFull_8 ?_
  refine lv_icmp_lt (tgt := 16) hx hb dX2_isFull_9 (by decide) (fun c_1 => ?_) (fun c_1 => ?_)
  · skip
    have h_2 : z_in 0 5 nan := z_ltL c_1 hnan (z_lit (x := 6) (a := 6) (b := 6) rfl) rfl
    refine lv_iconst (v := 0) hx hb dX2_isFull_16 (by decide) ?_
    exact hret 0 ([(na, .inr (2, [.ref nac, .int nan])), (nac, .inl (nact, 6, .inr (.inl nacf)))], []) _ _ _ _ dX2_isFull_17 (by decide) ⟨(z_w (c := 0) (d := 1) (z_lit (x := 0) (a := 0) (b := 0) rfl) rfl), (fun _ => h_2), (fun h9 => absurd h9 (by decide)), rfl⟩ hP (hK.sub [] rfl) hD hS
  · skip
    have h_3 : z_in 6 6 nan := z_leR (Int32.not_lt.mp c_1) (z_lit (x := 6) (a := 6) (b := 6) rfl) hnan rfl
    refine lv_iconst (v := 1) hx hb dX2_isFull_12 (by decide) ?_
    refine lv_goto (tgt := 17) hx hb dX2_isFull_13 (by decide) ?_
    exact hret 1 ([(na, .inr (2, [.ref nac, .int nan])), (nac, .inl (nact, 6, .inr (.inl nacf)))], []) _ _ _ _ dX2_isFull_17 (by decide) ⟨(z_w (c := 0) (d := 1) (z_lit (x := 1) (a := 1) (b := 1) rfl) rfl), (fun h9 => absurd h9 (by decide)), (fun _ => h_3), rfl⟩ hP (hK.sub [] rfl) hD hS

set_option maxHeartbeats 8000000 in
set_option maxRecDepth 100000 in
theorem w_Names6_find (l : Launch) (D : va_G) (ad : Nat → Nat) (na : Nat) (nan : Int32) (nac : Nat) (nact : ClassId) (nacf : Nat → Int64) (j0 : Int64) (hnan : z_in 0 6 nan) : z_Mi l yX2_find wsX2_find { frames := 0, cells := 0, slots := 0, locals := 0 } D ad [.ref na, .long j0] [(na, .inr (2, [.ref nac, .int nan])), (nac, .inl (nact, 6, .inr (.inl nacf)))] [(nact, .long)] 0 0 (fun r9 u9 => z_in (-1) 5 r9 ∧ (0 ≤ r9.toInt → z_in 1 6 nan) ∧ z_fdc nacf nan j0 r9 ∧ u9 = ([(na, .inr (2, [.ref nac, .int nan])), (nac, .inl (nact, 6, .inr (.inl nacf)))], [])) := by
  refine z_ofI (cc := cX2_find) (maxL := 4) (rt := .int) (by decide) rfl (Nat.le_of_ble_eq_true rfl) ?_
  intro p e s m below meth c Q A ls hx hb hml hown hts hin hK hP hD hA hE hO hS hl hret
  have hown : s.vm.findClass RX2 = some m.cls := hown
  have hiX2 : ∀ w ∈ wsX20, w ∈ wsX2_find := fun _ h9 => List.mem_cons_of_mem _ (List.mem_append_right _ h9)
  have hl : lv_has ls 4 [(0, .ref na), (1, .long j0)] := hl
  refine lv_iconst (v := 0) hx hb dX2_find_0 (by decide) ?_
  refine lv_istore_n (lv' := [(3, .int 0), (0, .ref na), (1, .long j0)]) hx hb dX2_find_1 rfl hl (by decide) rfl (fun ls hl => ?_)
  have LP1 : ∀ (n : Nat) (v1_3 : Int32) (H : Heap) (locs : List Loc) (ls : Array Slot), z_in 0 6 v1_3 → z_fj nacf j0 v1_3 → 7 - v1_3.toInt ≤ (n : Int) → va_P D vwCl [(na, .inr (2, [.ref nac, .int nan])), (nac, .inl (nact, 6, .inr (.inl nacf)))] H → va_D A [(na, .inr (2, [.ref nac, .int nan])), (nac, .inl (nact, 6, .inr (.inl nacf)))] → va_S A s.heap H locs → lv_has ls 4 [(3, .int v1_3), (0, .ref na), (1, .long j0)] → W p l e ({ frames := 0, cells := 0, slots := 0, locals := 0 }) s m ([.ref na, .long j0] : List Value).toArray below meth c H locs 0 0 Q (F0 m 2 ls []) := by
    intro n
    induction n with
    | zero => intro v1_3 H locs ls hv1_3 hI1_0 hn1; exact absurd hn1 (by have q1 := hv1_3.1; have q2 := hv1_3.2; omega)
    | succ n ih1 =>
      intro v1_3 H locs ls hv1_3 hI1_0 hn1 hP hD hS hl
      have q1 := hv1_3.1
      have q1' := hv1_3.2
      refine lv_iload_n hx hb dX2_find_2 rfl (lv_at hl 0 rfl) ?_
      refine lv_aload_n hx hb dX2_find_3 rfl (lv_at hl 1 rfl) ?_
      refine va_get (D := D) (ci := 2) (v := .int nan) (C := RX2) (T := TX2) (N := 2) hx hb hts hiX2 hown hK hP 0 rfl rfl 1 (by decide) (hts _ (List.mem_of_getElem? (i := 1) rfl)) (fun _ h9 => h9) rfl dX2_find_4 ?_
      refine lv_icmp_ge (tgt := 29) hx hb dX2_find_7 (by decide) (fun c_1 => ?_) (fun c_1 => ?_)
      · skip
        refine lv_iconst (v := (-1)) hx hb dX2_find_29 (by decide) ?_
        exact hret (-1) ([(na, .inr (2, [.ref nac, .int nan])), (nac, .inl (nact, 6, .inr (.inl nacf)))], []) _ _ _ _ dX2_find_30 rfl ⟨(z_w (c := (-1)) (d := 5) (z_lit (x := (-1)) (a := (-1)) (b := (-1)) rfl) rfl), (fun h9 => absurd (Int.le_trans h9 (z_lit (x := (-1)) (a := (-1)) (b := (-1)) rfl).2) (by decide)), (z_fdN hI1_0 c_1), rfl⟩ hP (hK.sub [] rfl) hD hS
      · skip
        have h_2 : z_in 0 5 v1_3 := z_ltL (Int32.not_le.mp c_1) hv1_3 hnan rfl
        have h_3 : z_in 1 6 nan := z_ltR (Int32.not_le.mp c_1) hv1_3 hnan rfl
        refine lv_aload_n hx hb dX2_find_10 rfl (lv_at hl 1 rfl) ?_
        refine va_get (D := D) (ci := 2) (v := .ref nac) (C := RX2) (T := TX2) (N := 2) hx hb hts hiX2 hown hK hP 0 rfl rfl 0 (by decide) (hts _ (List.mem_of_getElem? (i := 2) rfl)) (fun _ h9 => h9) rfl dX2_find_11 ?_
        refine lv_iload_n hx hb dX2_find_14 rfl (lv_at hl 0 rfl) ?_
        refine va_lald hx hb hK hP 1 0 rfl rfl (z_vp h_2 rfl) dX2_find_15 ?_
        refine lv_topl (fun y_4 ey_4 => ?_)
        refine lv_lload_n hx hb dX2_find_16 rfl (lv_at hl 2 rfl) ?_
        refine W.lcmp hx hb dX2_find_17 ?_
        refine lv_topi (fun y_5 ey_5 => ?_)
        have h_6 : z_in (-1) 1 y_5 := by rw [ey_5]; exact z_cmp _ _
        refine lv_if_ne (tgt := 23) hx hb dX2_find_18 (by decide) (fun c_7 => ?_) (fun c_7 => ?_)
        · skip
          obtain ⟨y_8, ey_8⟩ : ∃ y : Int32, y = v1_3 + 1 := ⟨_, rfl⟩
          have h_9 : z_in 1 6 y_8 := by rw [ey_8]; exact z_add h_2 (z_lit (x := 1) (a := 1) (b := 1) rfl) rfl rfl
          have ty_8 : y_8.toInt = v1_3.toInt + 1 := by rw [ey_8]; exact z_addT h_2 (z_lit (x := 1) (a := 1) (b := 1) rfl) rfl
          refine lv_iinc (v := y_8) (lv' := [(3, .int y_8), (0, .ref na), (1, .long j0)]) hx hb dX2_find_23 hl (k := 0) rfl (by rw [ey_8]; rfl) (by decide) rfl (fun ls hl => ?_)
          refine lv_goto (tgt := 2) hx hb dX2_find_26 (by decide) ?_
          exact ih1 y_8 _ _ _ (z_w (c := 0) (d := 6) h_9 rfl) (z_fjS hI1_0 ty_8 ey_4 (z_lc1 ey_5 c_7)) (by omega) hP hD hS (lv_sub hl [0, 1, 2] rfl)
        · skip
          have h_10 : z_in (-1) 0 y_5 := z_leL (Int32.le_of_eq c_7) h_6 (z_lit (x := 0) (a := 0) (b := 0) rfl) rfl
          have h_11 : z_in 0 0 y_5 := z_leR (Int32.le_of_eq (Eq.symm c_7)) (z_lit (x := 0) (a := 0) (b := 0) rfl) h_10 rfl
          refine lv_iload_n hx hb dX2_find_21 rfl (lv_at hl 0 rfl) ?_
          exact hret v1_3 ([(na, .inr (2, [.ref nac, .int nan])), (nac, .inl (nact, 6, .inr (.inl nacf)))], []) _ _ _ _ dX2_find_22 rfl ⟨(z_w (c := (-1)) (d := 5) h_2 rfl), (fun _ => h_3), (z_fdF hI1_0 (Int32.not_le.mp c_1) ey_4 (z_lc0 ey_5 (z_eqk h_11 rfl))), rfl⟩ hP (hK.sub [] rfl) hD hS
  exact LP1 7 0 _ _ _ (z_w (c := 0) (d := 6) (z_lit (x := 0) (a := 0) (b := 0) rfl) rfl) z_fj0 (by decide) hP hD hS (lv_sub hl [0, 1, 2] rfl)

set_option maxHeartbeats 8000000 in
set_option maxRecDepth 100000 in
theorem w_Tape940_get (l : Launch) (D : va_G) (ad : Nat → Nat) (ta : Nat) (tan : Int32) (tab : Nat) (tabt : ClassId) (tabf : Nat → Int32) (i0 : Int32) (htan : z_in 0 940 tan) : z_Mi l yX6_get wsX6_get { frames := 0, cells := 0, slots := 0, locals := 0 } D ad [.ref ta, .int i0] [(ta, .inr (6, [.ref tab, .int tan])), (tab, .inl (tabt, 940, .inl tabf))] [(tabt, .byte)] 0 0 (fun r9 u9 => z_in (-1) 255 r9 ∧ (0 ≤ r9.toInt → z_in 1 940 tan) ∧ (0 ≤ r9.toInt → z_in 0 939 i0) ∧ z_gt r9 tabf tan i0 ∧ u9 = ([(ta, .inr (6, [.ref tab, .int tan])), (tab, .inl (tabt, 940, .inl tabf))], [])) := by
  refine z_ofI (cc := cX6_get) (maxL := 2) (rt := .int) (by decide) rfl (Nat.le_of_ble_eq_true rfl) ?_
  intro p e s m below meth c Q A ls hx hb hml hown hts hin hK hP hD hA hE hO hS hl hret
  have hown : s.vm.findClass RX6 = some m.cls := hown
  have hiX6 : ∀ w ∈ wsX60, w ∈ wsX6_get := fun _ h9 => List.mem_cons_of_mem _ (List.mem_append_right _ h9)
  have hl : lv_has ls 2 [(0, .ref ta), (1, .int i0)] := hl
  refine lv_iload_n hx hb dX6_get_0 rfl (lv_at hl 1 rfl) ?_
  refine lv_if_lt (tgt := 21) hx hb dX6_get_1 (by decide) (fun c_1 => ?_) (fun c_1 => ?_)
  · skip
    have h_2 : z_in (-2147483648) (-1) i0 := z_ltL c_1 (z_any i0) (z_lit (x := 0) (a := 0) (b := 0) rfl) rfl
    refine lv_iconst (v := (-1)) hx hb dX6_get_21 (by decide) ?_
    refine lv_goto (tgt := 35) hx hb dX6_get_22 (by decide) ?_
    exact hret (-1) ([(ta, .inr (6, [.ref tab, .int tan])), (tab, .inl (tabt, 940, .inl tabf))], []) _ _ _ _ dX6_get_35 rfl ⟨(z_w (c := (-1)) (d := 255) (z_lit (x := (-1)) (a := (-1)) (b := (-1)) rfl) rfl), (fun h9 => absurd (Int.le_trans h9 (z_lit (x := (-1)) (a := (-1)) (b := (-1)) rfl).2) (by decide)), (fun h9 => absurd (Int.le_trans h9 (z_lit (x := (-1)) (a := (-1)) (b := (-1)) rfl).2) (by decide)), (z_gtN h_2.2), rfl⟩ hP (hK.sub [] rfl) hD hS
  · skip
    have h_3 : z_in 0 2147483647 i0 := z_leR (Int32.not_lt.mp c_1) (z_lit (x := 0) (a := 0) (b := 0) rfl) (z_any i0) rfl
    refine lv_iload_n hx hb dX6_get_4 rfl (lv_at hl 1 rfl) ?_
    refine lv_aload_n hx hb dX6_get_5 rfl (lv_at hl 0 rfl) ?_
    refine va_get (D := D) (ci := 6) (v := .int tan) (C := RX6) (T := TX6) (N := 2) hx hb hts hiX6 hown hK hP 0 rfl rfl 1 (by decide) (hts _ (List.mem_of_getElem? (i := 1) rfl)) (fun _ h9 => h9) rfl dX6_get_6 ?_
    refine lv_icmp_ge (tgt := 21) hx hb dX6_get_9 (by decide) (fun c_4 => ?_) (fun c_4 => ?_)
    · skip
      refine lv_iconst (v := (-1)) hx hb dX6_get_21 (by decide) ?_
      refine lv_goto (tgt := 35) hx hb dX6_get_22 (by decide) ?_
      exact hret (-1) ([(ta, .inr (6, [.ref tab, .int tan])), (tab, .inl (tabt, 940, .inl tabf))], []) _ _ _ _ dX6_get_35 rfl ⟨(z_w (c := (-1)) (d := 255) (z_lit (x := (-1)) (a := (-1)) (b := (-1)) rfl) rfl), (fun h9 => absurd (Int.le_trans h9 (z_lit (x := (-1)) (a := (-1)) (b := (-1)) rfl).2) (by decide)), (fun h9 => absurd (Int.le_trans h9 (z_lit (x := (-1)) (a := (-1)) (b := (-1)) rfl).2) (by decide)), (z_gtL c_4), rfl⟩ hP (hK.sub [] rfl) hD hS
    · skip
      have h_5 : z_in 0 939 i0 := z_ltL (Int32.not_le.mp c_4) h_3 htan rfl
      have h_6 : z_in 1 940 tan := z_ltR (Int32.not_le.mp c_4) h_3 htan rfl
      refine lv_iload_n hx hb dX6_get_12 rfl (lv_at hl 1 rfl) ?_
      refine lv_aload_n hx hb dX6_get_13 rfl (lv_at hl 0 rfl) ?_
      refine va_get (D := D) (ci := 6) (v := .ref tab) (C := RX6) (T := TX6) (N := 2) hx hb hts hiX6 hown hK hP 0 rfl rfl 0 (by decide) (hts _ (List.mem_of_getElem? (i := 2) rfl)) (fun _ h9 => h9) rfl dX6_get_14 ?_
      refine va_alen (v := 940) hx hb hK hP 1 0 rfl rfl rfl dX6_get_17 ?_
      refine lv_icmp_lt (tgt := 25) hx hb dX6_get_18 (by decide) (fun c_7 => ?_) (fun c_7 => ?_)
      · skip
        refine lv_aload_n hx hb dX6_get_25 rfl (lv_at hl 0 rfl) ?_
        refine va_get (D := D) (ci := 6) (v := .ref tab) (C := RX6) (T := TX6) (N := 2) hx hb hts hiX6 hown hK hP 0 rfl rfl 0 (by decide) (hts _ (List.mem_of_getElem? (i := 2) rfl)) (fun _ h9 => h9) rfl dX6_get_26 ?_
        refine lv_iload_n hx hb dX6_get_29 rfl (lv_at hl 1 rfl) ?_
        refine va_bald hx hb hK hP 1 0 rfl rfl (z_vp h_5 rfl) dX6_get_30 ?_
        refine lv_topi (fun y_8 ey_8 => ?_)
        refine lv_sipush (v := 255) hx hb dX6_get_31 (by decide) ?_
        refine lv_iand hx hb dX6_get_34 ?_
        refine lv_topi (fun y_9 ey_9 => ?_)
        have h_10 : z_in 0 255 y_9 := by rw [ey_9]; exact z_andR (z_lit (x := 255) (a := 255) (b := 255) rfl) rfl
        exact hret y_9 ([(ta, .inr (6, [.ref tab, .int tan])), (tab, .inl (tabt, 940, .inl tabf))], []) _ _ _ _ dX6_get_35 rfl ⟨(z_w (c := (-1)) (d := 255) h_10 rfl), (fun _ => h_6), (fun _ => h_5), (z_gtI ey_8 ey_9), rfl⟩ hP (hK.sub [] rfl) hD hS
      · skip
        exact (z_no (z_leL (e := 939) (Int32.not_lt.mp c_7) (z_lit (x := 940) (a := 940) (b := 940) rfl) h_5 rfl) rfl).elim

set_option maxHeartbeats 8000000 in
set_option maxRecDepth 100000 in
theorem w_Tape940_add (l : Launch) (D : va_G) (ad : Nat → Nat) (ta : Nat) (tan : Int32) (tab : Nat) (tabt : ClassId) (tabf : Nat → Int32) (i0 : Int32) (htan : z_in 0 940 tan) : z_Mv l yX6_add wsX6_add { frames := 0, cells := 0, slots := 0, locals := 0 } D ad [.ref ta, .int i0] [(ta, .inr (6, [.ref tab, .int tan])), (tab, .inl (tabt, 940, .inl tabf))] [(tabt, .byte)] 0 0 (fun u9 => ∃ (x0_1 : Int32) (x1_f : Nat → Int32), z_in 0 940 x0_1 ∧ z_ad1 tan x0_1 ∧ z_ab x1_f tabf tan i0 ∧ u9 = ([(ta, .inr (6, [.ref tab, .int x0_1])), (tab, .inl (tabt, 940, .inl x1_f))], [])) := by
  refine z_ofV (cc := cX6_add) (maxL := 2) (by decide) rfl (Nat.le_of_ble_eq_true rfl) ?_
  intro p e s m below meth c Q A ls hx hb hml hown hts hin hK hP hD hA hE hO hS hl hret
  have hown : s.vm.findClass RX6 = some m.cls := hown
  have hiX6 : ∀ w ∈ wsX60, w ∈ wsX6_add := fun _ h9 => List.mem_cons_of_mem _ (List.mem_append_right _ h9)
  have hl : lv_has ls 2 [(0, .ref ta), (1, .int i0)] := hl
  refine lv_aload_n hx hb dX6_add_0 rfl (lv_at hl 0 rfl) ?_
  refine va_get (D := D) (ci := 6) (v := .int tan) (C := RX6) (T := TX6) (N := 2) hx hb hts hiX6 hown hK hP 0 rfl rfl 1 (by decide) (hts _ (List.mem_of_getElem? (i := 1) rfl)) (fun _ h9 => h9) rfl dX6_add_1 ?_
  refine lv_aload_n hx hb dX6_add_4 rfl (lv_at hl 0 rfl) ?_
  refine va_get (D := D) (ci := 6) (v := .ref tab) (C := RX6) (T := TX6) (N := 2) hx hb hts hiX6 hown hK hP 0 rfl rfl 0 (by decide) (hts _ (List.mem_of_getElem? (i := 2) rfl)) (fun _ h9 => h9) rfl dX6_add_5 ?_
  refine va_alen (v := 940) hx hb hK hP 1 0 rfl rfl rfl dX6_add_8 ?_
  refine lv_icmp_ge (tgt := 33) hx hb dX6_add_9 (by decide) (fun c_1 => ?_) (fun c_1 => ?_)
  · skip
    have h_2 : z_in 940 940 tan := z_leR c_1 (z_lit (x := 940) (a := 940) (b := 940) rfl) htan rfl
    exact hret ([(ta, .inr (6, [.ref tab, .int tan])), (tab, .inl (tabt, 940, .inl tabf))], []) _ _ _ _ dX6_add_33 ⟨tan, tabf, (z_w (c := 0) (d := 940) h_2 rfl), (z_ad1n h_2), (z_abn h_2), rfl⟩ hP (hK.sub [] rfl) hD hS
  · skip
    have h_3 : z_in 0 939 tan := z_ltL (Int32.not_le.mp c_1) htan (z_lit (x := 940) (a := 940) (b := 940) rfl) rfl
    refine lv_aload_n hx hb dX6_add_12 rfl (lv_at hl 0 rfl) ?_
    refine va_get (D := D) (ci := 6) (v := .ref tab) (C := RX6) (T := TX6) (N := 2) hx hb hts hiX6 hown hK hP 0 rfl rfl 0 (by decide) (hts _ (List.mem_of_getElem? (i := 2) rfl)) (fun _ h9 => h9) rfl dX6_add_13 ?_
    refine lv_aload_n hx hb dX6_add_16 rfl (lv_at hl 0 rfl) ?_
    refine va_get (D := D) (ci := 6) (v := .int tan) (C := RX6) (T := TX6) (N := 2) hx hb hts hiX6 hown hK hP 0 rfl rfl 1 (by decide) (hts _ (List.mem_of_getElem? (i := 1) rfl)) (fun _ h9 => h9) rfl dX6_add_17 ?_
    refine lv_iload_n hx hb dX6_add_20 rfl (lv_at hl 1 rfl) ?_
    refine lv_i2b hx hb dX6_add_21 rfl ?_
    refine lv_topi (fun y_4 ey_4 => ?_)
    refine va_bast hx hb hK hP hD hS 1 0 rfl rfl (z_vp h_3 rfl) dX6_add_22 (fun H locs hP hD hS => ?_)
    generalize ef_5 : (upd tabf (tan : Int32).toNatClampNeg (vp_nar .byte y_4)) = f_5 at hP hD
    have hP : va_P D vwCl [(ta, .inr (6, [.ref tab, .int tan])), (tab, .inl (tabt, 940, .inl f_5))] H := hP
    have hD : va_D A [(ta, .inr (6, [.ref tab, .int tan])), (tab, .inl (tabt, 940, .inl f_5))] := hD
    refine lv_aload_n hx hb dX6_add_23 rfl (lv_at hl 0 rfl) ?_
    refine lv_dup hx hb dX6_add_24 rfl ?_
    refine va_get (D := D) (ci := 6) (v := .int tan) (C := RX6) (T := TX6) (N := 2) hx hb hts hiX6 hown hK hP 0 rfl rfl 1 (by decide) (hts _ (List.mem_of_getElem? (i := 1) rfl)) (fun _ h9 => h9) rfl dX6_add_25 ?_
    refine lv_iconst (v := 1) hx hb dX6_add_28 (by decide) ?_
    refine lv_iadd hx hb dX6_add_29 ?_
    refine lv_topi (fun y_6 ey_6 => ?_)
    have h_7 : z_in 1 940 y_6 := by rw [ey_6]; exact z_add h_3 (z_lit (x := 1) (a := 1) (b := 1) rfl) rfl rfl
    have ty_6 : y_6.toInt = tan.toInt + 1 := by rw [ey_6]; exact (z_addT h_3 (z_lit (x := 1) (a := 1) (b := 1) rfl) rfl).trans rfl
    refine va_put (D := D) (ci := 6) (v := .int y_6) (ty := tyX6 1) (C := RX6) (T := TX6) (N := 2) hx hb hts hiX6 tyX6 tyX6_ok nmX6 hown hK hP hD hS 0 rfl rfl 1 (by decide) (hts _ (List.mem_of_getElem? (i := 1) rfl)) (fun _ h9 => h9) rfl (tyX6_ok 1 (by decide)) rfl rfl (Nat.le_of_ble_eq_true rfl) dX6_add_30 (fun H locs hP hD hS => ?_)
    have hP : va_P D vwCl [(ta, .inr (6, [.ref tab, .int y_6])), (tab, .inl (tabt, 940, .inl f_5))] H := hP
    have hD : va_D A [(ta, .inr (6, [.ref tab, .int y_6])), (tab, .inl (tabt, 940, .inl f_5))] := hD
    exact hret ([(ta, .inr (6, [.ref tab, .int y_6])), (tab, .inl (tabt, 940, .inl f_5))], []) _ _ _ _ dX6_add_33 ⟨y_6, f_5, (z_w (c := 0) (d := 940) h_7 rfl), (fun _ => ty_6), (fun _ => z_abI ef_5 ey_4), rfl⟩ hP (hK.sub [] rfl) hD hS

set_option maxHeartbeats 8000000 in
set_option maxRecDepth 100000 in
theorem w_Tape940_addNumber (l : Launch) (D : va_G) (ad : Nat → Nat) (ta : Nat) (tan : Int32) (tab : Nat) (tabt : ClassId) (tabf : Nat → Int32) (i0 : Int32) (htan : z_in 0 940 tan) : z_Mv l yX6_addNumber wsX6_addNumber { frames := 1, cells := 0, slots := 0, locals := 21 } D ad [.ref ta, .int i0] [(ta, .inr (6, [.ref tab, .int tan])), (tab, .inl (tabt, 940, .inl tabf))] [(tabt, .byte)] 0 0 (fun u9 => ∃ (x0_1 : Int32) (x1_f : Nat → Int32), z_in 0 940 x0_1 ∧ z_ad4 tan x0_1 ∧ z_bn4 x1_f tabf tan i0 ∧ u9 = ([(ta, .inr (6, [.ref tab, .int x0_1])), (tab, .inl (tabt, 940, .inl x1_f))], [])) := by
  refine z_ofV (cc := cX6_addNumber) (maxL := 2) (by decide) rfl (Nat.le_of_ble_eq_true rfl) ?_
  intro p e s m below meth c Q A ls hx hb hml hown hts hin hK hP hD hA hE hO hS hl hret
  have hown : s.vm.findClass RX6 = some m.cls := hown
  have hiX6 : ∀ w ∈ wsX60, w ∈ wsX6_addNumber := fun _ h9 => List.mem_cons_of_mem _ (List.mem_append_right _ h9)
  have hl : lv_has ls 2 [(0, .ref ta), (1, .int i0)] := hl
  refine lv_aload_n hx hb dX6_addNumber_0 rfl (lv_at hl 0 rfl) ?_
  refine lv_iload_n hx hb dX6_addNumber_1 rfl (lv_at hl 1 rfl) ?_
  refine lv_bipush (v := 24) hx hb dX6_addNumber_2 (by decide) ?_
  refine lv_iushr hx hb dX6_addNumber_4 rfl ?_
  refine lv_topi (fun y_1 ey_1 => ?_)
  have h_2 : z_in 0 255 y_1 := by rw [ey_1]; exact z_ushr (k := 24) _ _ rfl rfl
  have hc9 := (w_Tape940_add l D ad ta tan tab tabt tabf y_1 htan)
  refine z_callv (w0 := [(ta, .inr (6, [.ref tab, .int tan])), (tab, .inl (tabt, 940, .inl tabf))]) (wr := []) (va_runV (As := [.int y_1]) (rest := []) ⟨hx, hb, hml, hown, hts⟩ (hc9 _) (cwV 1 hts gX6_addNumber_X6_add rfl rfl rfl (by decide +kernel) ⟨Nat.le_of_ble_eq_true rfl, Nat.le_of_ble_eq_true rfl⟩) (z_preV hP hD hK hS hA hE hO [0, 1] [0] rfl (by decide +kernel) rfl 0 6 rfl rfl rfl) rfl rfl hl.1 rfl (lv_room (Nat.le_of_ble_eq_true rfl)) dX6_addNumber_5 ⟨Nat.le_of_ble_eq_true rfl, Nat.le_of_ble_eq_true rfl⟩) hP hD hK hS hA [0, 1] [] rfl rfl (by decide +kernel) (by decide +kernel) (fun u9 H locs hw hP hD hK hS => ?_)
  obtain ⟨x_3, f_5, h_4, h_6, h_7, rfl⟩ := hw
  have hP : va_P D vwCl [(ta, .inr (6, [.ref tab, .int x_3])), (tab, .inl (tabt, 940, .inl f_5))] H := hP
  have hD : va_D A [(ta, .inr (6, [.ref tab, .int x_3])), (tab, .inl (tabt, 940, .inl f_5))] := hD
  have hK : va_K D vwCl [(tabt, .byte)] s := hK
  refine W.cs (cells' := 0) (slots' := 0) rfl rfl ?_
  refine lv_aload_n hx hb dX6_addNumber_8 rfl (lv_at hl 0 rfl) ?_
  refine lv_iload_n hx hb dX6_addNumber_9 rfl (lv_at hl 1 rfl) ?_
  refine lv_bipush (v := 16) hx hb dX6_addNumber_10 (by decide) ?_
  refine lv_iushr hx hb dX6_addNumber_12 rfl ?_
  refine lv_topi (fun y_8 ey_8 => ?_)
  have h_9 : z_in 0 65535 y_8 := by rw [ey_8]; exact z_ushr (k := 16) _ _ rfl rfl
  have hc9 := (w_Tape940_add l D ad ta x_3 tab tabt f_5 y_8 h_4)
  refine z_callv (w0 := [(ta, .inr (6, [.ref tab, .int x_3])), (tab, .inl (tabt, 940, .inl f_5))]) (wr := []) (va_runV (As := [.int y_8]) (rest := []) ⟨hx, hb, hml, hown, hts⟩ (hc9 _) (cwV 1 hts gX6_addNumber_X6_add rfl rfl rfl (by decide +kernel) ⟨Nat.le_of_ble_eq_true rfl, Nat.le_of_ble_eq_true rfl⟩) (z_preV hP hD hK hS hA hE hO [0, 1] [0] rfl (by decide +kernel) rfl 0 6 rfl rfl rfl) rfl rfl hl.1 rfl (lv_room (Nat.le_of_ble_eq_true rfl)) dX6_addNumber_13 ⟨Nat.le_of_ble_eq_true rfl, Nat.le_of_ble_eq_true rfl⟩) hP hD hK hS hA [0, 1] [] rfl rfl (by decide +kernel) (by decide +kernel) (fun u9 H locs hw hP hD hK hS => ?_)
  obtain ⟨x_10, f_12, h_11, h_13, h_14, rfl⟩ := hw
  have hP : va_P D vwCl [(ta, .inr (6, [.ref tab, .int x_10])), (tab, .inl (tabt, 940, .inl f_12))] H := hP
  have hD : va_D A [(ta, .inr (6, [.ref tab, .int x_10])), (tab, .inl (tabt, 940, .inl f_12))] := hD
  have hK : va_K D vwCl [(tabt, .byte)] s := hK
  refine W.cs (cells' := 0) (slots' := 0) rfl rfl ?_
  refine lv_aload_n hx hb dX6_addNumber_16 rfl (lv_at hl 0 rfl) ?_
  refine lv_iload_n hx hb dX6_addNumber_17 rfl (lv_at hl 1 rfl) ?_
  refine lv_bipush (v := 8) hx hb dX6_addNumber_18 (by decide) ?_
  refine lv_iushr hx hb dX6_addNumber_20 rfl ?_
  refine lv_topi (fun y_15 ey_15 => ?_)
  have h_16 : z_in 0 16777215 y_15 := by rw [ey_15]; exact z_ushr (k := 8) _ _ rfl rfl
  have hc9 := (w_Tape940_add l D ad ta x_10 tab tabt f_12 y_15 h_11)
  refine z_callv (w0 := [(ta, .inr (6, [.ref tab, .int x_10])), (tab, .inl (tabt, 940, .inl f_12))]) (wr := []) (va_runV (As := [.int y_15]) (rest := []) ⟨hx, hb, hml, hown, hts⟩ (hc9 _) (cwV 1 hts gX6_addNumber_X6_add rfl rfl rfl (by decide +kernel) ⟨Nat.le_of_ble_eq_true rfl, Nat.le_of_ble_eq_true rfl⟩) (z_preV hP hD hK hS hA hE hO [0, 1] [0] rfl (by decide +kernel) rfl 0 6 rfl rfl rfl) rfl rfl hl.1 rfl (lv_room (Nat.le_of_ble_eq_true rfl)) dX6_addNumber_21 ⟨Nat.le_of_ble_eq_true rfl, Nat.le_of_ble_eq_true rfl⟩) hP hD hK hS hA [0, 1] [] rfl rfl (by decide +kernel) (by decide +kernel) (fun u9 H locs hw hP hD hK hS => ?_)
  obtain ⟨x_17, f_19, h_18, h_20, h_21, rfl⟩ := hw
  have hP : va_P D vwCl [(ta, .inr (6, [.ref tab, .int x_17])), (tab, .inl (tabt, 940, .inl f_19))] H := hP
  have hD : va_D A [(ta, .inr (6, [.ref tab, .int x_17])), (tab, .inl (tabt, 940, .inl f_19))] := hD
  have hK : va_K D vwCl [(tabt, .byte)] s := hK
  refine W.cs (cells' := 0) (slots' := 0) rfl rfl ?_
  refine lv_aload_n hx hb dX6_addNumber_24 rfl (lv_at hl 0 rfl) ?_
  refine lv_iload_n hx hb dX6_addNumber_25 rfl (lv_at hl 1 rfl) ?_
  have hc9 := (w_Tape940_add l D ad ta x_17 tab tabt f_19 i0 h_18)
  refine z_callv (w0 := [(ta, .inr (6, [.ref tab, .int x_17])), (tab, .inl (tabt, 940, .inl f_19))]) (wr := []) (va_runV (As := [.int i0]) (rest := []) ⟨hx, hb, hml, hown, hts⟩ (hc9 _) (cwV 1 hts gX6_addNumber_X6_add rfl rfl rfl (by decide +kernel) ⟨Nat.le_of_ble_eq_true rfl, Nat.le_of_ble_eq_true rfl⟩) (z_preV hP hD hK hS hA hE hO [0, 1] [0] rfl (by decide +kernel) rfl 0 6 rfl rfl rfl) rfl rfl hl.1 rfl (lv_room (Nat.le_of_ble_eq_true rfl)) dX6_addNumber_26 ⟨Nat.le_of_ble_eq_true rfl, Nat.le_of_ble_eq_true rfl⟩) hP hD hK hS hA [0, 1] [] rfl rfl (by decide +kernel) (by decide +kernel) (fun u9 H locs hw hP hD hK hS => ?_)
  obtain ⟨x_22, f_24, h_23, h_25, h_26, rfl⟩ := hw
  have hP : va_P D vwCl [(ta, .inr (6, [.ref tab, .int x_22])), (tab, .inl (tabt, 940, .inl f_24))] H := hP
  have hD : va_D A [(ta, .inr (6, [.ref tab, .int x_22])), (tab, .inl (tabt, 940, .inl f_24))] := hD
  have hK : va_K D vwCl [(tabt, .byte)] s := hK
  refine W.cs (cells' := 0) (slots' := 0) rfl rfl ?_
  exact hret ([(ta, .inr (6, [.ref tab, .int x_22])), (tab, .inl (tabt, 940, .inl f_24))], []) _ _ _ _ dX6_addNumber_29 ⟨x_22, f_24, h_23, (z_ad4c h_6 h_13 h_20 h_25), (z_bn4I h_6 h_13 h_20 h_7 h_14 h_21 h_26 ey_1 ey_8 ey_15), rfl⟩ hP (hK.sub [] rfl) hD hS
