theorem dJ0_length_8abf5_0 : decode cJ0_length_8abf5 0 = .ok (.aload_n 0, 1) := by decide +kernel
theorem dJ0_length_8abf5_1 : decode cJ0_length_8abf5 1 = .ok (.getfield 9, 3) := by decide +kernel
theorem dJ0_length_8abf5_4 : decode cJ0_length_8abf5 4 = .ok (.arraylength, 1) := by decide +kernel
theorem dJ0_length_8abf5_5 : decode cJ0_length_8abf5 5 = .ok (.aload_n 0, 1) := by decide +kernel
theorem dJ0_length_8abf5_6 : decode cJ0_length_8abf5 6 = .ok (.invokevirtual 335, 3) := by decide +kernel
theorem dJ0_length_8abf5_9 : decode cJ0_length_8abf5 9 = .ok (.ishr, 1) := by decide +kernel
theorem dJ0_length_8abf5_10 : decode cJ0_length_8abf5 10 = .ok (.ireturn, 1) := by decide +kernel
theorem dJ0_coder_7d493_0 : decode cJ0_coder_7d493 0 = .ok (.getstatic 38, 3) := by decide +kernel
theorem dJ0_coder_7d493_3 : decode cJ0_coder_7d493 3 = .ok (.ifCond .eq 10, 3) := by decide +kernel
theorem dJ0_coder_7d493_6 : decode cJ0_coder_7d493 6 = .ok (.aload_n 0, 1) := by decide +kernel
theorem dJ0_coder_7d493_7 : decode cJ0_coder_7d493 7 = .ok (.getfield 15, 3) := by decide +kernel
theorem dJ0_coder_7d493_10 : decode cJ0_coder_7d493 10 = .ok (.goto 4, 3) := by decide +kernel
theorem dJ0_coder_7d493_14 : decode cJ0_coder_7d493 14 = .ok (.ireturn, 1) := by decide +kernel
theorem dJ0_isLatin1_aae02_0 : decode cJ0_isLatin1_aae02 0 = .ok (.getstatic 38, 3) := by decide +kernel
theorem dJ0_isLatin1_aae02_3 : decode cJ0_isLatin1_aae02 3 = .ok (.ifCond .eq 14, 3) := by decide +kernel
theorem dJ0_isLatin1_aae02_6 : decode cJ0_isLatin1_aae02 6 = .ok (.aload_n 0, 1) := by decide +kernel
theorem dJ0_isLatin1_aae02_7 : decode cJ0_isLatin1_aae02 7 = .ok (.getfield 15, 3) := by decide +kernel
theorem dJ0_isLatin1_aae02_10 : decode cJ0_isLatin1_aae02 10 = .ok (.ifCond .ne 7, 3) := by decide +kernel
theorem dJ0_isLatin1_aae02_13 : decode cJ0_isLatin1_aae02 13 = .ok (.iconst 1, 1) := by decide +kernel
theorem dJ0_isLatin1_aae02_14 : decode cJ0_isLatin1_aae02 14 = .ok (.goto 4, 3) := by decide +kernel
theorem dJ0_isLatin1_aae02_18 : decode cJ0_isLatin1_aae02 18 = .ok (.ireturn, 1) := by decide +kernel
theorem dJ0_checkIndex_df160_0 : decode cJ0_checkIndex_df160 0 = .ok (.iload_n 0, 1) := by decide +kernel
theorem dJ0_checkIndex_df160_1 : decode cJ0_checkIndex_df160 1 = .ok (.iload_n 1, 1) := by decide +kernel
theorem dJ0_checkIndex_df160_2 : decode cJ0_checkIndex_df160 2 = .ok (.getstatic 1053, 3) := by decide +kernel
theorem dJ0_checkIndex_df160_5 : decode cJ0_checkIndex_df160 5 = .ok (.invokestatic 1059, 3) := by decide +kernel
theorem dJ0_checkIndex_df160_8 : decode cJ0_checkIndex_df160 8 = .ok (.pop, 1) := by decide +kernel
theorem dJ0_checkIndex_df160_9 : decode cJ0_checkIndex_df160 9 = .ok (.return_, 1) := by decide +kernel
theorem dJ3_checkIndex_8e157_0 : decode cJ3_checkIndex_8e157 0 = .ok (.iload_n 0, 1) := by decide +kernel
theorem dJ3_checkIndex_8e157_1 : decode cJ3_checkIndex_8e157 1 = .ok (.ifCond .lt 8, 3) := by decide +kernel
theorem dJ3_checkIndex_8e157_4 : decode cJ3_checkIndex_8e157 4 = .ok (.iload_n 0, 1) := by decide +kernel
theorem dJ3_checkIndex_8e157_5 : decode cJ3_checkIndex_8e157 5 = .ok (.iload_n 1, 1) := by decide +kernel
theorem dJ3_checkIndex_8e157_6 : decode cJ3_checkIndex_8e157 6 = .ok (.if_icmp .lt 10, 3) := by decide +kernel
theorem dJ3_checkIndex_8e157_16 : decode cJ3_checkIndex_8e157 16 = .ok (.iload_n 0, 1) := by decide +kernel
theorem dJ3_checkIndex_8e157_17 : decode cJ3_checkIndex_8e157 17 = .ok (.ireturn, 1) := by decide +kernel
set_option maxRecDepth 20000 in
theorem ggJ0_length_8abf5_J0_coder_7d493 : GoodIn wsJ0_length_8abf5 wsJ0_coder_7d493 := goodIn_r _ [6, 7, 8] rfl (by decide +kernel)
set_option maxRecDepth 20000 in
theorem gJ0_length_8abf5_J0_coder_7d493 : GoodIn wsJ0_length_8abf5 (wsV RJ0 335 RJ0 yJ0_coder_7d493 wsJ0_coder_7d493) := goodIn_app (a := [.methodLink RJ0 335 yJ0_coder_7d493, .instanceMethod yJ0_coder_7d493, .selects RJ0 yJ0_coder_7d493 yJ0_coder_7d493, .initialized RJ0]) (g_c9 (List.mem_cons_of_mem _ (List.mem_of_getElem? (i := 1) rfl)) rfl (g_c9 (List.mem_cons_of_mem _ (List.mem_of_getElem? (i := 2) rfl)) rfl (g_c9 (List.mem_cons_of_mem _ (List.mem_of_getElem? (i := 3) rfl)) rfl (g_c9 (List.mem_cons_of_mem _ (List.mem_of_getElem? (i := 4) rfl)) rfl g_n9)))) ggJ0_length_8abf5_J0_coder_7d493
set_option maxRecDepth 20000 in
theorem ggJ0_checkIndex_df160_J3_checkIndex_8e157 : GoodIn wsJ0_checkIndex_df160 wsJ3_checkIndex_8e157 := goodIn_r _ [5] rfl (by decide +kernel)
set_option maxRecDepth 20000 in
theorem gJ0_checkIndex_df160_J3_checkIndex_8e157 : GoodIn wsJ0_checkIndex_df160 (va_wsS RJ0 1059 yJ3_checkIndex_8e157 wsJ3_checkIndex_8e157) := goodIn_app (goodIn_of _ (by decide +kernel)) ggJ0_checkIndex_df160_J3_checkIndex_8e157
set_option maxHeartbeats 8000000 in
set_option maxRecDepth 100000 in
theorem w_J3_checkIndexN8 (l : Launch) (D : va_G) (ad : Nat → Nat) (i0 : Int32) (hi0 : z_in 0 7 i0) : z_Mi l yJ3_checkIndex_8e157 wsJ3_checkIndex_8e157 { frames := 0, cells := 0, slots := 0, locals := 0 } D ad [.int i0, .int 8, .null] [] [] 0 0 (fun r9 u9 => z_in 0 7 r9 ∧ u9 = ([], [])) := by
  refine z_ofI (cc := cJ3_checkIndex_8e157) (maxL := 3) (rt := .int) (by decide) rfl (Nat.le_of_ble_eq_true rfl) ?_
  intro p e s m below meth c Q A ls hx hb hml hown hts hin hK hP hD hA hE hO hS hl hret
  have hown : s.vm.findClass RJ3 = some m.cls := hown
  have hl : lv_has ls 3 [(0, .int i0), (1, .int 8), (2, .null)] := hl
  refine lv_iload_n hx hb dJ3_checkIndex_8e157_0 rfl (lv_at hl 0 rfl) ?_
  refine lv_if_lt (tgt := 9) hx hb dJ3_checkIndex_8e157_1 (by decide) (fun c_1 => ?_) (fun c_1 => ?_)
  · skip
    exact (z_no (z_ltL (e := (-1)) c_1 hi0 (z_lit (x := 0) (a := 0) (b := 0) rfl) rfl) rfl).elim
  · skip
    refine lv_iload_n hx hb dJ3_checkIndex_8e157_4 rfl (lv_at hl 0 rfl) ?_
    refine lv_iload_n hx hb dJ3_checkIndex_8e157_5 rfl (lv_at hl 1 rfl) ?_
    refine lv_icmp_lt (tgt := 16) hx hb dJ3_checkIndex_8e157_6 (by decide) (fun c_2 => ?_) (fun c_2 => ?_)
    · skip
      refine lv_iload_n hx hb dJ3_checkIndex_8e157_16 rfl (lv_at hl 0 rfl) ?_
      exact hret i0 ([], []) _ _ _ _ dJ3_checkIndex_8e157_17 rfl ⟨hi0, rfl⟩ hP (hK.sub [] rfl) hD hS
    · skip
      exact (z_no (z_leL (e := 7) (Int32.not_lt.mp c_2) (z_lit (x := 8) (a := 8) (b := 8) rfl) hi0 rfl) rfl).elim

set_option maxHeartbeats 8000000 in
set_option maxRecDepth 100000 in
theorem w_J3_checkIndexR8 (l : Launch) (D : va_G) (ad : Nat → Nat) (t0 : Nat) (i0 : Int32) (hi0 : z_in 0 7 i0) : z_Mi l yJ3_checkIndex_8e157 wsJ3_checkIndex_8e157 { frames := 0, cells := 0, slots := 0, locals := 0 } D ad [.int i0, .int 8, .ref t0] [] [] 0 0 (fun r9 u9 => z_in 0 7 r9 ∧ u9 = ([], [])) := by
  refine z_ofI (cc := cJ3_checkIndex_8e157) (maxL := 3) (rt := .int) (by decide) rfl (Nat.le_of_ble_eq_true rfl) ?_
  intro p e s m below meth c Q A ls hx hb hml hown hts hin hK hP hD hA hE hO hS hl hret
  have hown : s.vm.findClass RJ3 = some m.cls := hown
  have hl : lv_has ls 3 [(0, .int i0), (1, .int 8), (2, .ref t0)] := hl
  refine lv_iload_n hx hb dJ3_checkIndex_8e157_0 rfl (lv_at hl 0 rfl) ?_
  refine lv_if_lt (tgt := 9) hx hb dJ3_checkIndex_8e157_1 (by decide) (fun c_1 => ?_) (fun c_1 => ?_)
  · skip
    exact (z_no (z_ltL (e := (-1)) c_1 hi0 (z_lit (x := 0) (a := 0) (b := 0) rfl) rfl) rfl).elim
  · skip
    refine lv_iload_n hx hb dJ3_checkIndex_8e157_4 rfl (lv_at hl 0 rfl) ?_
    refine lv_iload_n hx hb dJ3_checkIndex_8e157_5 rfl (lv_at hl 1 rfl) ?_
    refine lv_icmp_lt (tgt := 16) hx hb dJ3_checkIndex_8e157_6 (by decide) (fun c_2 => ?_) (fun c_2 => ?_)
    · skip
      refine lv_iload_n hx hb dJ3_checkIndex_8e157_16 rfl (lv_at hl 0 rfl) ?_
      exact hret i0 ([], []) _ _ _ _ dJ3_checkIndex_8e157_17 rfl ⟨hi0, rfl⟩ hP (hK.sub [] rfl) hD hS
    · skip
      exact (z_no (z_leL (e := 7) (Int32.not_lt.mp c_2) (z_lit (x := 8) (a := 8) (b := 8) rfl) hi0 rfl) rfl).elim

set_option maxHeartbeats 8000000 in
set_option maxRecDepth 100000 in
theorem w_J0_checkIndex8 (l : Launch) (D : va_G) (ad : Nat → Nat) (i0 : Int32) (hi0 : z_in 0 7 i0) : z_Mv l yJ0_checkIndex_df160 wsJ0_checkIndex_df160 { frames := 1, cells := 0, slots := 0, locals := 22 } D ad [.int i0, .int 8] [] [] 0 0 (fun u9 => u9 = ([], [])) := by
  refine z_ofV (cc := cJ0_checkIndex_df160) (maxL := 2) (by decide) rfl (Nat.le_of_ble_eq_true rfl) ?_
  intro p e s m below meth c Q A ls hx hb hml hown hts hin hK hP hD hA hE hO hS hl hret
  have hown : s.vm.findClass RJ0 = some m.cls := hown
  have hl : lv_has ls 2 [(0, .int i0), (1, .int 8)] := hl
  refine lv_iload_n hx hb dJ0_checkIndex_df160_0 rfl (lv_at hl 0 rfl) ?_
  refine lv_iload_n hx hb dJ0_checkIndex_df160_1 rfl (lv_at hl 1 rfl) ?_
  rcases hE.2.2.2.2 with hz9 | ⟨t9, hz9⟩
  · refine va_gets (v := .null) hx hb hz9 hS hown (hts _ (List.mem_of_getElem? (i := 1) rfl)) (fun _ h9 => h9) dJ0_checkIndex_df160_2 ?_
    have hc9 := (w_J3_checkIndexN8 l D ad i0 hi0)
    refine z_calli (w0 := []) (wr := []) (va_runS (As := [.int i0, .int 8, .null]) (rest := []) ⟨hx, hb, hml, hown, hts⟩ (hc9 _) (va_cwS 3 hts gJ0_checkIndex_df160_J3_checkIndex_8e157 rfl rfl rfl (by decide +kernel) ⟨Nat.le_of_ble_eq_true rfl, Nat.le_of_ble_eq_true rfl⟩) (z_preS hP hD hK hS hA hE hO [] [] rfl (by decide +kernel) rfl) rfl rfl hl.1 rfl (lv_room (Nat.le_of_ble_eq_true rfl)) dJ0_checkIndex_df160_5 ⟨Nat.le_of_ble_eq_true rfl, Nat.le_of_ble_eq_true rfl⟩) hP hD hK hS hA [] [] rfl rfl (by decide +kernel) (by decide +kernel) (fun y_1 u9 H locs hw hP hD hK hS => ?_)
    obtain ⟨h_2, rfl⟩ := hw
    have hP : va_P D vwCl [] H := hP
    have hD : va_D A [] := hD
    have hK : va_K D vwCl [] s := hK
    refine W.cs (cells' := 0) (slots' := 0) rfl rfl ?_
    refine W.eq (g2 := F0 m 8 ls (.int y_1 :: [])) rfl ?_
    refine lv_pop hx hb dJ0_checkIndex_df160_8 rfl ?_
    exact hret ([], []) _ _ _ _ dJ0_checkIndex_df160_9 rfl hP (hK.sub [] rfl) hD hS
  · refine va_gets (v := .ref t9) hx hb hz9 hS hown (hts _ (List.mem_of_getElem? (i := 1) rfl)) (fun _ h9 => h9) dJ0_checkIndex_df160_2 ?_
    have hc9 := (w_J3_checkIndexR8 l D ad t9 i0 hi0)
    refine z_calli (w0 := []) (wr := []) (va_runS (As := [.int i0, .int 8, .ref t9]) (rest := []) ⟨hx, hb, hml, hown, hts⟩ (hc9 _) (va_cwS 3 hts gJ0_checkIndex_df160_J3_checkIndex_8e157 rfl rfl rfl (by decide +kernel) ⟨Nat.le_of_ble_eq_true rfl, Nat.le_of_ble_eq_true rfl⟩) (z_preS hP hD hK hS hA hE hO [] [] rfl (by decide +kernel) rfl) rfl rfl hl.1 rfl (lv_room (Nat.le_of_ble_eq_true rfl)) dJ0_checkIndex_df160_5 ⟨Nat.le_of_ble_eq_true rfl, Nat.le_of_ble_eq_true rfl⟩) hP hD hK hS hA [] [] rfl rfl (by decide +kernel) (by decide +kernel) (fun y_3 u9 H locs hw hP hD hK hS => ?_)
    obtain ⟨h_4, rfl⟩ := hw
    have hP : va_P D vwCl [] H := hP
    have hD : va_D A [] := hD
    have hK : va_K D vwCl [] s := hK
    refine W.cs (cells' := 0) (slots' := 0) rfl rfl ?_
    refine W.eq (g2 := F0 m 8 ls (.int y_3 :: [])) rfl ?_
    refine lv_pop hx hb dJ0_checkIndex_df160_8 rfl ?_
    exact hret ([], []) _ _ _ _ dJ0_checkIndex_df160_9 rfl hP (hK.sub [] rfl) hD hS

set_option maxHeartbeats 8000000 in
set_option maxRecDepth 100000 in
theorem w_J3_checkIndexN4 (l : Launch) (D : va_G) (ad : Nat → Nat) (i0 : Int32) (hi0 : z_in 0 3 i0) : z_Mi l yJ3_checkIndex_8e157 wsJ3_checkIndex_8e157 { frames := 0, cells := 0, slots := 0, locals := 0 } D ad [.int i0, .int 4, .null] [] [] 0 0 (fun r9 u9 => z_in 0 3 r9 ∧ u9 = ([], [])) := by
  refine z_ofI (cc := cJ3_checkIndex_8e157) (maxL := 3) (rt := .int) (by decide) rfl (Nat.le_of_ble_eq_true rfl) ?_
  intro p e s m below meth c Q A ls hx hb hml hown hts hin hK hP hD hA hE hO hS hl hret
  have hown : s.vm.findClass RJ3 = some m.cls := hown
  have hl : lv_has ls 3 [(0, .int i0), (1, .int 4), (2, .null)] := hl
  refine lv_iload_n hx hb dJ3_checkIndex_8e157_0 rfl (lv_at hl 0 rfl) ?_
  refine lv_if_lt (tgt := 9) hx hb dJ3_checkIndex_8e157_1 (by decide) (fun c_1 => ?_) (fun c_1 => ?_)
  · skip
    exact (z_no (z_ltL (e := (-1)) c_1 hi0 (z_lit (x := 0) (a := 0) (b := 0) rfl) rfl) rfl).elim
  · skip
    refine lv_iload_n hx hb dJ3_checkIndex_8e157_4 rfl (lv_at hl 0 rfl) ?_
    refine lv_iload_n hx hb dJ3_checkIndex_8e157_5 rfl (lv_at hl 1 rfl) ?_
    refine lv_icmp_lt (tgt := 16) hx hb dJ3_checkIndex_8e157_6 (by decide) (fun c_2 => ?_) (fun c_2 => ?_)
    · skip
      refine lv_iload_n hx hb dJ3_checkIndex_8e157_16 rfl (lv_at hl 0 rfl) ?_
      exact hret i0 ([], []) _ _ _ _ dJ3_checkIndex_8e157_17 rfl ⟨hi0, rfl⟩ hP (hK.sub [] rfl) hD hS
    · skip
      exact (z_no (z_leL (e := 3) (Int32.not_lt.mp c_2) (z_lit (x := 4) (a := 4) (b := 4) rfl) hi0 rfl) rfl).elim

set_option maxHeartbeats 8000000 in
set_option maxRecDepth 100000 in
theorem w_J3_checkIndexR4 (l : Launch) (D : va_G) (ad : Nat → Nat) (t0 : Nat) (i0 : Int32) (hi0 : z_in 0 3 i0) : z_Mi l yJ3_checkIndex_8e157 wsJ3_checkIndex_8e157 { frames := 0, cells := 0, slots := 0, locals := 0 } D ad [.int i0, .int 4, .ref t0] [] [] 0 0 (fun r9 u9 => z_in 0 3 r9 ∧ u9 = ([], [])) := by
  refine z_ofI (cc := cJ3_checkIndex_8e157) (maxL := 3) (rt := .int) (by decide) rfl (Nat.le_of_ble_eq_true rfl) ?_
  intro p e s m below meth c Q A ls hx hb hml hown hts hin hK hP hD hA hE hO hS hl hret
  have hown : s.vm.findClass RJ3 = some m.cls := hown
  have hl : lv_has ls 3 [(0, .int i0), (1, .int 4), (2, .ref t0)] := hl
  refine lv_iload_n hx hb dJ3_checkIndex_8e157_0 rfl (lv_at hl 0 rfl) ?_
  refine lv_if_lt (tgt := 9) hx hb dJ3_checkIndex_8e157_1 (by decide) (fun c_1 => ?_) (fun c_1 => ?_)
  · skip
    exact (z_no (z_ltL (e := (-1)) c_1 hi0 (z_lit (x := 0) (a := 0) (b := 0) rfl) rfl) rfl).elim
  · skip
    refine lv_iload_n hx hb dJ3_checkIndex_8e157_4 rfl (lv_at hl 0 rfl) ?_
    refine lv_iload_n hx hb dJ3_checkIndex_8e157_5 rfl (lv_at hl 1 rfl) ?_
    refine lv_icmp_lt (tgt := 16) hx hb dJ3_checkIndex_8e157_6 (by decide) (fun c_2 => ?_) (fun c_2 => ?_)
    · skip
      refine lv_iload_n hx hb dJ3_checkIndex_8e157_16 rfl (lv_at hl 0 rfl) ?_
      exact hret i0 ([], []) _ _ _ _ dJ3_checkIndex_8e157_17 rfl ⟨hi0, rfl⟩ hP (hK.sub [] rfl) hD hS
    · skip
      exact (z_no (z_leL (e := 3) (Int32.not_lt.mp c_2) (z_lit (x := 4) (a := 4) (b := 4) rfl) hi0 rfl) rfl).elim

set_option maxHeartbeats 8000000 in
set_option maxRecDepth 100000 in
theorem w_J0_checkIndex4 (l : Launch) (D : va_G) (ad : Nat → Nat) (i0 : Int32) (hi0 : z_in 0 3 i0) : z_Mv l yJ0_checkIndex_df160 wsJ0_checkIndex_df160 { frames := 1, cells := 0, slots := 0, locals := 22 } D ad [.int i0, .int 4] [] [] 0 0 (fun u9 => u9 = ([], [])) := by
  refine z_ofV (cc := cJ0_checkIndex_df160) (maxL := 2) (by decide) rfl (Nat.le_of_ble_eq_true rfl) ?_
  intro p e s m below meth c Q A ls hx hb hml hown hts hin hK hP hD hA hE hO hS hl hret
  have hown : s.vm.findClass RJ0 = some m.cls := hown
  have hl : lv_has ls 2 [(0, .int i0), (1, .int 4)] := hl
  refine lv_iload_n hx hb dJ0_checkIndex_df160_0 rfl (lv_at hl 0 rfl) ?_
  refine lv_iload_n hx hb dJ0_checkIndex_df160_1 rfl (lv_at hl 1 rfl) ?_
  rcases hE.2.2.2.2 with hz9 | ⟨t9, hz9⟩
  · refine va_gets (v := .null) hx hb hz9 hS hown (hts _ (List.mem_of_getElem? (i := 1) rfl)) (fun _ h9 => h9) dJ0_checkIndex_df160_2 ?_
    have hc9 := (w_J3_checkIndexN4 l D ad i0 hi0)
    refine z_calli (w0 := []) (wr := []) (va_runS (As := [.int i0, .int 4, .null]) (rest := []) ⟨hx, hb, hml, hown, hts⟩ (hc9 _) (va_cwS 3 hts gJ0_checkIndex_df160_J3_checkIndex_8e157 rfl rfl rfl (by decide +kernel) ⟨Nat.le_of_ble_eq_true rfl, Nat.le_of_ble_eq_true rfl⟩) (z_preS hP hD hK hS hA hE hO [] [] rfl (by decide +kernel) rfl) rfl rfl hl.1 rfl (lv_room (Nat.le_of_ble_eq_true rfl)) dJ0_checkIndex_df160_5 ⟨Nat.le_of_ble_eq_true rfl, Nat.le_of_ble_eq_true rfl⟩) hP hD hK hS hA [] [] rfl rfl (by decide +kernel) (by decide +kernel) (fun y_1 u9 H locs hw hP hD hK hS => ?_)
    obtain ⟨h_2, rfl⟩ := hw
    have hP : va_P D vwCl [] H := hP
    have hD : va_D A [] := hD
    have hK : va_K D vwCl [] s := hK
    refine W.cs (cells' := 0) (slots' := 0) rfl rfl ?_
    refine W.eq (g2 := F0 m 8 ls (.int y_1 :: [])) rfl ?_
    refine lv_pop hx hb dJ0_checkIndex_df160_8 rfl ?_
    exact hret ([], []) _ _ _ _ dJ0_checkIndex_df160_9 rfl hP (hK.sub [] rfl) hD hS
  · refine va_gets (v := .ref t9) hx hb hz9 hS hown (hts _ (List.mem_of_getElem? (i := 1) rfl)) (fun _ h9 => h9) dJ0_checkIndex_df160_2 ?_
    have hc9 := (w_J3_checkIndexR4 l D ad t9 i0 hi0)
    refine z_calli (w0 := []) (wr := []) (va_runS (As := [.int i0, .int 4, .ref t9]) (rest := []) ⟨hx, hb, hml, hown, hts⟩ (hc9 _) (va_cwS 3 hts gJ0_checkIndex_df160_J3_checkIndex_8e157 rfl rfl rfl (by decide +kernel) ⟨Nat.le_of_ble_eq_true rfl, Nat.le_of_ble_eq_true rfl⟩) (z_preS hP hD hK hS hA hE hO [] [] rfl (by decide +kernel) rfl) rfl rfl hl.1 rfl (lv_room (Nat.le_of_ble_eq_true rfl)) dJ0_checkIndex_df160_5 ⟨Nat.le_of_ble_eq_true rfl, Nat.le_of_ble_eq_true rfl⟩) hP hD hK hS hA [] [] rfl rfl (by decide +kernel) (by decide +kernel) (fun y_3 u9 H locs hw hP hD hK hS => ?_)
    obtain ⟨h_4, rfl⟩ := hw
    have hP : va_P D vwCl [] H := hP
    have hD : va_D A [] := hD
    have hK : va_K D vwCl [] s := hK
    refine W.cs (cells' := 0) (slots' := 0) rfl rfl ?_
    refine W.eq (g2 := F0 m 8 ls (.int y_3 :: [])) rfl ?_
    refine lv_pop hx hb dJ0_checkIndex_df160_8 rfl ?_
    exact hret ([], []) _ _ _ _ dJ0_checkIndex_df160_9 rfl hP (hK.sub [] rfl) hD hS

set_option maxHeartbeats 8000000 in
set_option maxRecDepth 100000 in
theorem w_J3_checkIndexN6 (l : Launch) (D : va_G) (ad : Nat → Nat) (i0 : Int32) (hi0 : z_in 0 5 i0) : z_Mi l yJ3_checkIndex_8e157 wsJ3_checkIndex_8e157 { frames := 0, cells := 0, slots := 0, locals := 0 } D ad [.int i0, .int 6, .null] [] [] 0 0 (fun r9 u9 => z_in 0 5 r9 ∧ u9 = ([], [])) := by
  refine z_ofI (cc := cJ3_checkIndex_8e157) (maxL := 3) (rt := .int) (by decide) rfl (Nat.le_of_ble_eq_true rfl) ?_
  intro p e s m below meth c Q A ls hx hb hml hown hts hin hK hP hD hA hE hO hS hl hret
  have hown : s.vm.findClass RJ3 = some m.cls := hown
  have hl : lv_has ls 3 [(0, .int i0), (1, .int 6), (2, .null)] := hl
  refine lv_iload_n hx hb dJ3_checkIndex_8e157_0 rfl (lv_at hl 0 rfl) ?_
  refine lv_if_lt (tgt := 9) hx hb dJ3_checkIndex_8e157_1 (by decide) (fun c_1 => ?_) (fun c_1 => ?_)
  · skip
    exact (z_no (z_ltL (e := (-1)) c_1 hi0 (z_lit (x := 0) (a := 0) (b := 0) rfl) rfl) rfl).elim
  · skip
    refine lv_iload_n hx hb dJ3_checkIndex_8e157_4 rfl (lv_at hl 0 rfl) ?_
    refine lv_iload_n hx hb dJ3_checkIndex_8e157_5 rfl (lv_at hl 1 rfl) ?_
    refine lv_icmp_lt (tgt := 16) hx hb dJ3_checkIndex_8e157_6 (by decide) (fun c_2 => ?_) (fun c_2 => ?_)
    · skip
      refine lv_iload_n hx hb dJ3_checkIndex_8e157_16 rfl (lv_at hl 0 rfl) ?_
      exact hret i0 ([], []) _ _ _ _ dJ3_checkIndex_8e157_17 rfl ⟨hi0, rfl⟩ hP (hK.sub [] rfl) hD hS
    · skip
      exact (z_no (z_leL (e := 5) (Int32.not_lt.mp c_2) (z_lit (x := 6) (a := 6) (b := 6) rfl) hi0 rfl) rfl).elim

set_option maxHeartbeats 8000000 in
set_option maxRecDepth 100000 in
theorem w_J3_checkIndexR6 (l : Launch) (D : va_G) (ad : Nat → Nat) (t0 : Nat) (i0 : Int32) (hi0 : z_in 0 5 i0) : z_Mi l yJ3_checkIndex_8e157 wsJ3_checkIndex_8e157 { frames := 0, cells := 0, slots := 0, locals := 0 } D ad [.int i0, .int 6, .ref t0] [] [] 0 0 (fun r9 u9 => z_in 0 5 r9 ∧ u9 = ([], [])) := by
  refine z_ofI (cc := cJ3_checkIndex_8e157) (maxL := 3) (rt := .int) (by decide) rfl (Nat.le_of_ble_eq_true rfl) ?_
  intro p e s m below meth c Q A ls hx hb hml hown hts hin hK hP hD hA hE hO hS hl hret
  have hown : s.vm.findClass RJ3 = some m.cls := hown
  have hl : lv_has ls 3 [(0, .int i0), (1, .int 6), (2, .ref t0)] := hl
  refine lv_iload_n hx hb dJ3_checkIndex_8e157_0 rfl (lv_at hl 0 rfl) ?_
  refine lv_if_lt (tgt := 9) hx hb dJ3_checkIndex_8e157_1 (by decide) (fun c_1 => ?_) (fun c_1 => ?_)
  · skip
    exact (z_no (z_ltL (e := (-1)) c_1 hi0 (z_lit (x := 0) (a := 0) (b := 0) rfl) rfl) rfl).elim
  · skip
    refine lv_iload_n hx hb dJ3_checkIndex_8e157_4 rfl (lv_at hl 0 rfl) ?_
    refine lv_iload_n hx hb dJ3_checkIndex_8e157_5 rfl (lv_at hl 1 rfl) ?_
    refine lv_icmp_lt (tgt := 16) hx hb dJ3_checkIndex_8e157_6 (by decide) (fun c_2 => ?_) (fun c_2 => ?_)
    · skip
      refine lv_iload_n hx hb dJ3_checkIndex_8e157_16 rfl (lv_at hl 0 rfl) ?_
      exact hret i0 ([], []) _ _ _ _ dJ3_checkIndex_8e157_17 rfl ⟨hi0, rfl⟩ hP (hK.sub [] rfl) hD hS
    · skip
      exact (z_no (z_leL (e := 5) (Int32.not_lt.mp c_2) (z_lit (x := 6) (a := 6) (b := 6) rfl) hi0 rfl) rfl).elim

set_option maxHeartbeats 8000000 in
set_option maxRecDepth 100000 in
theorem w_J0_checkIndex6 (l : Launch) (D : va_G) (ad : Nat → Nat) (i0 : Int32) (hi0 : z_in 0 5 i0) : z_Mv l yJ0_checkIndex_df160 wsJ0_checkIndex_df160 { frames := 1, cells := 0, slots := 0, locals := 22 } D ad [.int i0, .int 6] [] [] 0 0 (fun u9 => u9 = ([], [])) := by
  refine z_ofV (cc := cJ0_checkIndex_df160) (maxL := 2) (by decide) rfl (Nat.le_of_ble_eq_true rfl) ?_
  intro p e s m below meth c Q A ls hx hb hml hown hts hin hK hP hD hA hE hO hS hl hret
  have hown : s.vm.findClass RJ0 = some m.cls := hown
  have hl : lv_has ls 2 [(0, .int i0), (1, .int 6)] := hl
  refine lv_iload_n hx hb dJ0_checkIndex_df160_0 rfl (lv_at hl 0 rfl) ?_
  refine lv_iload_n hx hb dJ0_checkIndex_df160_1 rfl (lv_at hl 1 rfl) ?_
  rcases hE.2.2.2.2 with hz9 | ⟨t9, hz9⟩
  · refine va_gets (v := .null) hx hb hz9 hS hown (hts _ (List.mem_of_getElem? (i := 1) rfl)) (fun _ h9 => h9) dJ0_checkIndex_df160_2 ?_
    have hc9 := (w_J3_checkIndexN6 l D ad i0 hi0)
    refine z_calli (w0 := []) (wr := []) (va_runS (As := [.int i0, .int 6, .null]) (rest := []) ⟨hx, hb, hml, hown, hts⟩ (hc9 _) (va_cwS 3 hts gJ0_checkIndex_df160_J3_checkIndex_8e157 rfl rfl rfl (by decide +kernel) ⟨Nat.le_of_ble_eq_true rfl, Nat.le_of_ble_eq_true rfl⟩) (z_preS hP hD hK hS hA hE hO [] [] rfl (by decide +kernel) rfl) rfl rfl hl.1 rfl (lv_room (Nat.le_of_ble_eq_true rfl)) dJ0_checkIndex_df160_5 ⟨Nat.le_of_ble_eq_true rfl, Nat.le_of_ble_eq_true rfl⟩) hP hD hK hS hA [] [] rfl rfl (by decide +kernel) (by decide +kernel) (fun y_1 u9 H locs hw hP hD hK hS => ?_)
    obtain ⟨h_2, rfl⟩ := hw
    have hP : va_P D vwCl [] H := hP
    have hD : va_D A [] := hD
    have hK : va_K D vwCl [] s := hK
    refine W.cs (cells' := 0) (slots' := 0) rfl rfl ?_
    refine W.eq (g2 := F0 m 8 ls (.int y_1 :: [])) rfl ?_
    refine lv_pop hx hb dJ0_checkIndex_df160_8 rfl ?_
    exact hret ([], []) _ _ _ _ dJ0_checkIndex_df160_9 rfl hP (hK.sub [] rfl) hD hS
  · refine va_gets (v := .ref t9) hx hb hz9 hS hown (hts _ (List.mem_of_getElem? (i := 1) rfl)) (fun _ h9 => h9) dJ0_checkIndex_df160_2 ?_
    have hc9 := (w_J3_checkIndexR6 l D ad t9 i0 hi0)
    refine z_calli (w0 := []) (wr := []) (va_runS (As := [.int i0, .int 6, .ref t9]) (rest := []) ⟨hx, hb, hml, hown, hts⟩ (hc9 _) (va_cwS 3 hts gJ0_checkIndex_df160_J3_checkIndex_8e157 rfl rfl rfl (by decide +kernel) ⟨Nat.le_of_ble_eq_true rfl, Nat.le_of_ble_eq_true rfl⟩) (z_preS hP hD hK hS hA hE hO [] [] rfl (by decide +kernel) rfl) rfl rfl hl.1 rfl (lv_room (Nat.le_of_ble_eq_true rfl)) dJ0_checkIndex_df160_5 ⟨Nat.le_of_ble_eq_true rfl, Nat.le_of_ble_eq_true rfl⟩) hP hD hK hS hA [] [] rfl rfl (by decide +kernel) (by decide +kernel) (fun y_3 u9 H locs hw hP hD hK hS => ?_)
    obtain ⟨h_4, rfl⟩ := hw
    have hP : va_P D vwCl [] H := hP
    have hD : va_D A [] := hD
    have hK : va_K D vwCl [] s := hK
    refine W.cs (cells' := 0) (slots' := 0) rfl rfl ?_
    refine W.eq (g2 := F0 m 8 ls (.int y_3 :: [])) rfl ?_
    refine lv_pop hx hb dJ0_checkIndex_df160_8 rfl ?_
    exact hret ([], []) _ _ _ _ dJ0_checkIndex_df160_9 rfl hP (hK.sub [] rfl) hD hS

set_option maxHeartbeats 8000000 in
set_option maxRecDepth 100000 in
theorem w_J0_coder0 (l : Launch) (D : va_G) (ad : Nat → Nat)   : z_Mi l yJ0_coder_7d493 wsJ0_coder_7d493 { frames := 0, cells := 0, slots := 0, locals := 0 } D ad [.ref (ad 100)] [] [] 0 0 (fun r9 u9 => z_in 0 0 r9 ∧ u9 = ([], [])) := by
  refine z_ofI (cc := cJ0_coder_7d493) (maxL := 1) (rt := .byte) (by decide) rfl (Nat.le_of_ble_eq_true rfl) ?_
  intro p e s m below meth c Q A ls hx hb hml hown hts hin hK hP hD hA hE hO hS hl hret
  have hown : s.vm.findClass RJ0 = some m.cls := hown
  have hl : lv_has ls 1 [(0, .ref (ad 100))] := hl
  refine va_gets (v := .int 1) hx hb hE.2.2.2.1 hS hown (hts _ (List.mem_of_getElem? (i := 1) rfl)) (fun _ h9 => h9) dJ0_coder_7d493_0 ?_
  refine lv_if_eq (tgt := 13) hx hb dJ0_coder_7d493_3 (by decide) (fun h9 => absurd h9 (by decide)) (fun _ => ?_)
  refine lv_aload_n hx hb dJ0_coder_7d493_6 rfl (lv_at hl 0 rfl) ?_
  refine vk_getf (v := .int 0) hx hb (hE.2.2.1 0 (by decide)).2.1 hS hown (hts _ (List.mem_of_getElem? (i := 2) rfl)) (fun _ h9 => h9) dJ0_coder_7d493_7 ?_
  refine lv_goto (tgt := 14) hx hb dJ0_coder_7d493_10 (by decide) ?_
  exact hret 0 ([], []) _ _ _ _ dJ0_coder_7d493_14 (by decide) ⟨(z_lit (x := 0) (a := 0) (b := 0) rfl), rfl⟩ hP (hK.sub [] rfl) hD hS

set_option maxHeartbeats 8000000 in
set_option maxRecDepth 100000 in
theorem w_J0_length0 (l : Launch) (D : va_G) (ad : Nat → Nat)   : z_Mi l yJ0_length_8abf5 wsJ0_length_8abf5 { frames := 1, cells := 0, slots := 0, locals := 20 } D ad [.ref (ad 100)] [] [] 0 0 (fun r9 u9 => z_in 8 8 r9 ∧ u9 = ([], [])) := by
  refine z_ofI (cc := cJ0_length_8abf5) (maxL := 1) (rt := .int) (by decide) rfl (Nat.le_of_ble_eq_true rfl) ?_
  intro p e s m below meth c Q A ls hx hb hml hown hts hin hK hP hD hA hE hO hS hl hret
  have hown : s.vm.findClass RJ0 = some m.cls := hown
  have hl : lv_has ls 1 [(0, .ref (ad 100))] := hl
  refine lv_aload_n hx hb dJ0_length_8abf5_0 rfl (lv_at hl 0 rfl) ?_
  refine vk_getf (v := .ref (ad 200)) hx hb (hE.2.2.1 0 (by decide)).2.2.1 hS hown (hts _ (List.mem_of_getElem? (i := 1) rfl)) (fun _ h9 => h9) dJ0_length_8abf5_1 ?_
  obtain ⟨b9_0, hT9_0⟩ := (hE.2.2.1 0 (by decide)).2.2.2
  refine va_tlen (v := 8) hx hb hT9_0 hS rfl dJ0_length_8abf5_4 ?_
  refine lv_aload_n hx hb dJ0_length_8abf5_5 rfl (lv_at hl 0 rfl) ?_
  have hc9 := (w_J0_coder0 l D ad  )
  refine z_calli (w0 := []) (wr := []) (va_runV (As := []) (rest := [.int 8]) ⟨hx, hb, hml, hown, hts⟩ (hc9 _) (cwV 0 hts gJ0_length_8abf5_J0_coder_7d493 rfl rfl rfl (by decide +kernel) ⟨Nat.le_of_ble_eq_true rfl, Nat.le_of_ble_eq_true rfl⟩) (z_preT (i := 0) hP hD hK hS hA hE hO [] [] rfl (by decide) rfl (by decide)) rfl rfl hl.1 rfl (lv_room (Nat.le_of_ble_eq_true rfl)) dJ0_length_8abf5_6 ⟨Nat.le_of_ble_eq_true rfl, Nat.le_of_ble_eq_true rfl⟩) hP hD hK hS hA [] [] rfl rfl (by decide +kernel) (by decide +kernel) (fun y_1 u9 H locs hw hP hD hK hS => ?_)
  obtain ⟨h_2, rfl⟩ := hw
  have hP : va_P D vwCl [] H := hP
  have hD : va_D A [] := hD
  have hK : va_K D vwCl [] s := hK
  refine W.cs (cells' := 0) (slots' := 0) rfl rfl ?_
  refine W.eq (g2 := F0 m 9 ls (.int y_1 :: [.int 8])) rfl ?_
  refine lv_ishr hx hb dJ0_length_8abf5_9 ?_
  refine lv_topi (fun y_3 ey_3 => ?_)
  have h_4 : z_in 8 8 y_3 := by rw [ey_3]; exact z_shr0 (z_lit (x := 8) (a := 8) (b := 8) rfl) h_2
  exact hret y_3 ([], []) _ _ _ _ dJ0_length_8abf5_10 rfl ⟨h_4, rfl⟩ hP (hK.sub [] rfl) hD hS

set_option maxHeartbeats 8000000 in
set_option maxRecDepth 100000 in
theorem w_J0_isLatin1_0 (l : Launch) (D : va_G) (ad : Nat → Nat)   : z_Mi l yJ0_isLatin1_aae02 wsJ0_isLatin1_aae02 { frames := 0, cells := 0, slots := 0, locals := 0 } D ad [.ref (ad 100)] [] [] 0 0 (fun r9 u9 => z_in 1 1 r9 ∧ u9 = ([], [])) := by
  refine z_ofI (cc := cJ0_isLatin1_aae02) (maxL := 1) (rt := .boolean) (by decide) rfl (Nat.le_of_ble_eq_true rfl) ?_
  intro p e s m below meth c Q A ls hx hb hml hown hts hin hK hP hD hA hE hO hS hl hret
  have hown : s.vm.findClass RJ0 = some m.cls := hown
  have hl : lv_has ls 1 [(0, .ref (ad 100))] := hl
  refine va_gets (v := .int 1) hx hb hE.2.2.2.1 hS hown (hts _ (List.mem_of_getElem? (i := 1) rfl)) (fun _ h9 => h9) dJ0_isLatin1_aae02_0 ?_
  refine lv_if_eq (tgt := 17) hx hb dJ0_isLatin1_aae02_3 (by decide) (fun h9 => absurd h9 (by decide)) (fun _ => ?_)
  refine lv_aload_n hx hb dJ0_isLatin1_aae02_6 rfl (lv_at hl 0 rfl) ?_
  refine vk_getf (v := .int 0) hx hb (hE.2.2.1 0 (by decide)).2.1 hS hown (hts _ (List.mem_of_getElem? (i := 2) rfl)) (fun _ h9 => h9) dJ0_isLatin1_aae02_7 ?_
  refine lv_if_ne (tgt := 17) hx hb dJ0_isLatin1_aae02_10 (by decide) (fun h9 => absurd (by decide) h9) (fun _ => ?_)
  refine lv_iconst (v := 1) hx hb dJ0_isLatin1_aae02_13 (by decide) ?_
  refine lv_goto (tgt := 18) hx hb dJ0_isLatin1_aae02_14 (by decide) ?_
  exact hret 1 ([], []) _ _ _ _ dJ0_isLatin1_aae02_18 (by decide) ⟨(z_lit (x := 1) (a := 1) (b := 1) rfl), rfl⟩ hP (hK.sub [] rfl) hD hS
