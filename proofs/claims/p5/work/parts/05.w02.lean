theorem dX7_findKnown_0 : decode cX7_findKnown 0 = .ok (.aload_n 0, 1) := by decide +kernel
theorem dX7_findKnown_1 : decode cX7_findKnown 1 = .ok (.invokevirtual 106, 3) := by decide +kernel
theorem dX7_findKnown_4 : decode cX7_findKnown 4 = .ok (.ifCond .ne 11, 3) := by decide +kernel
theorem dX7_findKnown_7 : decode cX7_findKnown 7 = .ok (.aload_n 0, 1) := by decide +kernel
theorem dX7_findKnown_8 : decode cX7_findKnown 8 = .ok (.iconst 1, 1) := by decide +kernel
theorem dX7_findKnown_9 : decode cX7_findKnown 9 = .ok (.invokevirtual 103, 3) := by decide +kernel
theorem dX7_findKnown_12 : decode cX7_findKnown 12 = .ok (.pop, 1) := by decide +kernel
theorem dX7_findKnown_13 : decode cX7_findKnown 13 = .ok (.iconst (-1), 1) := by decide +kernel
theorem dX7_findKnown_14 : decode cX7_findKnown 14 = .ok (.ireturn, 1) := by decide +kernel
theorem dX7_findKnown_15 : decode cX7_findKnown 15 = .ok (.aload_n 1, 1) := by decide +kernel
theorem dX7_findKnown_16 : decode cX7_findKnown 16 = .ok (.aload_n 0, 1) := by decide +kernel
theorem dX7_findKnown_17 : decode cX7_findKnown 17 = .ok (.getfield 56, 3) := by decide +kernel
theorem dX7_findKnown_20 : decode cX7_findKnown 20 = .ok (.invokevirtual 110, 3) := by decide +kernel
theorem dX7_findKnown_23 : decode cX7_findKnown 23 = .ok (.istore_n 2, 1) := by decide +kernel
theorem dX7_findKnown_24 : decode cX7_findKnown 24 = .ok (.iload_n 2, 1) := by decide +kernel
theorem dX7_findKnown_25 : decode cX7_findKnown 25 = .ok (.iconst (-1), 1) := by decide +kernel
theorem dX7_findKnown_26 : decode cX7_findKnown 26 = .ok (.if_icmp .ne 9, 3) := by decide +kernel
theorem dX7_findKnown_29 : decode cX7_findKnown 29 = .ok (.aload_n 0, 1) := by decide +kernel
theorem dX7_findKnown_30 : decode cX7_findKnown 30 = .ok (.iconst 3, 1) := by decide +kernel
theorem dX7_findKnown_31 : decode cX7_findKnown 31 = .ok (.invokevirtual 103, 3) := by decide +kernel
theorem dX7_findKnown_34 : decode cX7_findKnown 34 = .ok (.pop, 1) := by decide +kernel
theorem dX7_findKnown_35 : decode cX7_findKnown 35 = .ok (.iload_n 2, 1) := by decide +kernel
theorem dX7_findKnown_36 : decode cX7_findKnown 36 = .ok (.ireturn, 1) := by decide +kernel
theorem dX7_passKnown_0 : decode cX7_passKnown 0 = .ok (.aload_n 0, 1) := by decide +kernel
theorem dX7_passKnown_1 : decode cX7_passKnown 1 = .ok (.aload_n 1, 1) := by decide +kernel
theorem dX7_passKnown_2 : decode cX7_passKnown 2 = .ok (.invokevirtual 116, 3) := by decide +kernel
theorem dX7_passKnown_5 : decode cX7_passKnown 5 = .ok (.istore_n 2, 1) := by decide +kernel
theorem dX7_passKnown_6 : decode cX7_passKnown 6 = .ok (.iload_n 2, 1) := by decide +kernel
theorem dX7_passKnown_7 : decode cX7_passKnown 7 = .ok (.iconst (-1), 1) := by decide +kernel
theorem dX7_passKnown_8 : decode cX7_passKnown 8 = .ok (.if_icmp .eq 7, 3) := by decide +kernel
theorem dX7_passKnown_11 : decode cX7_passKnown 11 = .ok (.aload_n 0, 1) := by decide +kernel
theorem dX7_passKnown_12 : decode cX7_passKnown 12 = .ok (.invokevirtual 37, 3) := by decide +kernel
theorem dX7_passKnown_15 : decode cX7_passKnown 15 = .ok (.iload_n 2, 1) := by decide +kernel
theorem dX7_passKnown_16 : decode cX7_passKnown 16 = .ok (.ireturn, 1) := by decide +kernel
set_option maxRecDepth 20000 in
theorem ggX7_findKnown_X7_isName : GoodIn wsX7_findKnown wsX7_isName := goodIn_r _ [6, 7, 8, 9, 24, 25, 26, 27, 28, 29, 30, 31, 32, 33] rfl (by decide +kernel)
set_option maxRecDepth 20000 in
theorem gX7_findKnown_X7_isName : GoodIn wsX7_findKnown (wsV RX7 106 RX7 yX7_isName wsX7_isName) := goodIn_app (a := [.methodLink RX7 106 yX7_isName, .instanceMethod yX7_isName, .selects RX7 yX7_isName yX7_isName, .initialized RX7]) (g_c9 (List.mem_cons_of_mem _ (List.mem_append_left _ (List.mem_append_left _ (List.mem_of_getElem? (i := 1) rfl)))) rfl (g_c9 (List.mem_cons_of_mem _ (List.mem_append_left _ (List.mem_append_left _ (List.mem_of_getElem? (i := 2) rfl)))) rfl (g_c9 (List.mem_cons_of_mem _ (List.mem_append_left _ (List.mem_append_left _ (List.mem_of_getElem? (i := 3) rfl)))) rfl (g_c9 (List.mem_cons_of_mem _ (List.mem_append_left _ (List.mem_append_left _ (List.mem_of_getElem? (i := 4) rfl)))) rfl g_n9)))) ggX7_findKnown_X7_isName
set_option maxRecDepth 20000 in
theorem ggX7_findKnown_X7_fails : GoodIn wsX7_findKnown wsX7_fails := goodIn_r _ [13, 14, 15, 16, 24, 25, 26, 27, 28, 29, 30, 31, 32, 33] rfl (by decide +kernel)
set_option maxRecDepth 20000 in
theorem gX7_findKnown_X7_fails : GoodIn wsX7_findKnown (wsV RX7 103 RX7 yX7_fails wsX7_fails) := goodIn_app (a := [.methodLink RX7 103 yX7_fails, .instanceMethod yX7_fails, .selects RX7 yX7_fails yX7_fails, .initialized RX7]) (g_c9 (List.mem_cons_of_mem _ (List.mem_append_left _ (List.mem_append_left _ (List.mem_of_getElem? (i := 9) rfl)))) rfl (g_c9 (List.mem_cons_of_mem _ (List.mem_append_left _ (List.mem_append_left _ (List.mem_of_getElem? (i := 10) rfl)))) rfl (g_c9 (List.mem_cons_of_mem _ (List.mem_append_left _ (List.mem_append_left _ (List.mem_of_getElem? (i := 11) rfl)))) rfl (g_c9 (List.mem_cons_of_mem _ (List.mem_append_left _ (List.mem_append_left _ (List.mem_of_getElem? (i := 4) rfl)))) rfl g_n9)))) ggX7_findKnown_X7_fails
set_option maxRecDepth 20000 in
theorem ggX7_findKnown_X2_find : GoodIn wsX7_findKnown wsX2_find := goodIn_r _ [21, 22, 23, 34, 35] rfl (by decide +kernel)
set_option maxRecDepth 20000 in
theorem gX7_findKnown_X2_find : GoodIn wsX7_findKnown (wsV RX7 110 RX2 yX2_find wsX2_find) := goodIn_app (a := [.methodLink RX7 110 yX2_find, .instanceMethod yX2_find, .selects RX2 yX2_find yX2_find, .initialized RX2]) (g_c9 (List.mem_cons_of_mem _ (List.mem_append_left _ (List.mem_append_left _ (List.mem_of_getElem? (i := 16) rfl)))) rfl (g_c9 (List.mem_cons_of_mem _ (List.mem_append_left _ (List.mem_append_left _ (List.mem_of_getElem? (i := 17) rfl)))) rfl (g_c9 (List.mem_cons_of_mem _ (List.mem_append_left _ (List.mem_append_left _ (List.mem_of_getElem? (i := 18) rfl)))) rfl (g_c9 (List.mem_cons_of_mem _ (List.mem_append_left _ (List.mem_append_left _ (List.mem_of_getElem? (i := 19) rfl)))) rfl g_n9)))) ggX7_findKnown_X2_find
set_option maxRecDepth 20000 in
theorem ggX7_passKnown_X7_findKnown : GoodIn wsX7_passKnown wsX7_findKnown := goodIn_r _ [5, 6, 7, 8, 9, 4, 10, 11, 12, 13, 14, 15, 16, 17, 18, 19, 20, 21, 22, 23, 24, 25, 26, 27, 82, 83, 84, 85, 86, 87, 88, 89, 90, 91, 92, 93] rfl (by decide +kernel)
set_option maxRecDepth 20000 in
theorem gX7_passKnown_X7_findKnown : GoodIn wsX7_passKnown (wsV RX7 116 RX7 yX7_findKnown wsX7_findKnown) := goodIn_app (a := [.methodLink RX7 116 yX7_findKnown, .instanceMethod yX7_findKnown, .selects RX7 yX7_findKnown yX7_findKnown, .initialized RX7]) (have hq0 : ∀ w, w ∈ wsX7_passKnown_r1 → w ∈ wsX7_passKnown := fun _ h9 => (List.mem_cons_of_mem _ (List.mem_append_left _ (List.mem_append_left _ (List.mem_append_left _ (List.mem_append_left _ h9))))); (g_c9 (hq0 _ (List.mem_of_getElem? (i := 0) rfl)) rfl (g_c9 (hq0 _ (List.mem_of_getElem? (i := 1) rfl)) rfl (g_c9 (hq0 _ (List.mem_of_getElem? (i := 2) rfl)) rfl (g_c9 (hq0 _ (List.mem_of_getElem? (i := 3) rfl)) rfl g_n9))))) ggX7_passKnown_X7_findKnown
set_option maxRecDepth 20000 in
theorem ggX7_passKnown_X7_advance : GoodIn wsX7_passKnown wsX7_advance := goodIn_r _ [31, 32, 33, 34, 13, 12, 35, 6, 36, 37, 38, 39, 40, 41, 42, 43, 44, 45, 4, 46, 47, 48, 49, 50, 11, 51, 52, 53, 54, 19, 55, 56, 57, 58, 59, 60, 61, 62, 63, 64, 65, 66, 67, 68, 69, 70, 71, 72, 73, 74, 75, 76, 77, 78, 79, 80, 81, 82, 83, 84, 85, 86, 87, 88, 89, 90, 91, 94, 95] rfl (by decide +kernel)
set_option maxRecDepth 20000 in
theorem gX7_passKnown_X7_advance : GoodIn wsX7_passKnown (wsV RX7 37 RX7 yX7_advance wsX7_advance) := goodIn_app (a := [.methodLink RX7 37 yX7_advance, .instanceMethod yX7_advance, .selects RX7 yX7_advance yX7_advance, .initialized RX7]) (have hq0 : ∀ w, w ∈ wsX7_passKnown_r1 → w ∈ wsX7_passKnown := fun _ h9 => (List.mem_cons_of_mem _ (List.mem_append_left _ (List.mem_append_left _ (List.mem_append_left _ (List.mem_append_left _ h9))))); have hq1 : ∀ w, w ∈ wsX7_passKnown_r2 → w ∈ wsX7_passKnown := fun _ h9 => (List.mem_cons_of_mem _ (List.mem_append_left _ (List.mem_append_left _ (List.mem_append_left _ (List.mem_append_right _ (List.mem_append_left _ h9)))))); (g_c9 (hq1 _ (List.mem_of_getElem? (i := 3) rfl)) rfl (g_c9 (hq1 _ (List.mem_of_getElem? (i := 4) rfl)) rfl (g_c9 (hq1 _ (List.mem_of_getElem? (i := 5) rfl)) rfl (g_c9 (hq0 _ (List.mem_of_getElem? (i := 3) rfl)) rfl g_n9))))) ggX7_passKnown_X7_advance
set_option maxHeartbeats 8000000 in
set_option maxRecDepth 100000 in
theorem w_Tokens_passSign (l : Launch) (D : va_G) (ad : Nat → Nat) (tk : Nat) (tkm : Int32) (tkb : Int32) (tkk : Int32) (tka : Int32) (tkv : Int32) (tkc : Int64) (tkf : Int32) (tkg : Int32) (tkw : Nat) (ta : Nat) (tan : Int32) (tab : Nat) (tabt : ClassId) (tabf : Nat → Int32) (i0 : Int32) (htkm : z_in 0 940 tkm) (htkb : z_in 0 940 tkb) (htkk : z_in 0 4 tkk) (htkw : tkw < 22) (htan : z_in 0 940 tan) (httk : z_tk tkk tkw) : z_Mi l yX7_passSign wsX7_passSign { frames := 3, cells := 0, slots := 0, locals := 66 } D ad [.ref tk, .int i0] [(tk, .inr (7, [.ref ta, .int tkm, .int tkb, .int tkk, .int tka, .int tkv, .long tkc, .ref (ad tkw), .int tkf, .int tkg])), (ta, .inr (6, [.ref tab, .int tan])), (tab, .inl (tabt, 940, .inl tabf))] [(tabt, .byte)] 0 0 (fun r9 u9 => ∃ (x0_2 : Int32) (x0_3 : Int32) (x0_4 : Int32) (x0_5 : Int32) (x0_6 : Int64) (x0_7 : Nat) (x0_8 : Int32) (x0_9 : Int32), z_in 0 940 x0_2 ∧ z_in 0 4 x0_3 ∧ x0_7 < 22 ∧ z_in 0 1 r9 ∧ z_tk x0_3 x0_7 ∧ u9 = ([(tk, .inr (7, [.ref ta, .int tkm, .int x0_2, .int x0_3, .int x0_4, .int x0_5, .long x0_6, .ref (ad x0_7), .int x0_8, .int x0_9])), (ta, .inr (6, [.ref tab, .int tan])), (tab, .inl (tabt, 940, .inl tabf))], [])) := by
  refine z_ofI (cc := cX7_passSign) (maxL := 2) (rt := .boolean) (by decide) rfl (Nat.le_of_ble_eq_true rfl) ?_
  intro p e s m below meth c Q A ls hx hb hml hown hts hin hK hP hD hA hE hO hS hl hret
  have hown : s.vm.findClass RX7 = some m.cls := hown
  have hiX7 : ∀ w ∈ wsX70, w ∈ wsX7_passSign := fun _ h9 => List.mem_cons_of_mem _ (List.mem_append_left _ (List.mem_append_right _ h9))
  have hiX6 : ∀ w ∈ wsX60, w ∈ wsX7_passSign := fun _ h9 => List.mem_cons_of_mem _ (List.mem_append_right _ h9)
  have hl : lv_has ls 2 [(0, .ref tk), (1, .int i0)] := hl
  refine lv_aload_n hx hb dX7_passSign_0 rfl (lv_at hl 0 rfl) ?_
  refine lv_iload_n hx hb dX7_passSign_1 rfl (lv_at hl 1 rfl) ?_
  have hc9 := (w_Tokens_isSign l D ad tk tkm tkb tkk tka tkv tkc tkf tkg tkw ta tan tab tabt tabf i0 htkm htkb htkk htkw htan httk)
  refine z_calli (w0 := [(tk, .inr (7, [.ref ta, .int tkm, .int tkb, .int tkk, .int tka, .int tkv, .long tkc, .ref (ad tkw), .int tkf, .int tkg])), (ta, .inr (6, [.ref tab, .int tan])), (tab, .inl (tabt, 940, .inl tabf))]) (wr := []) (va_runV (As := [.int i0]) (rest := []) ⟨hx, hb, hml, hown, hts⟩ (hc9 _) (cwV 1 hts gX7_passSign_X7_isSign rfl rfl rfl (by decide +kernel) ⟨Nat.le_of_ble_eq_true rfl, Nat.le_of_ble_eq_true rfl⟩) (z_preV hP hD hK hS hA hE hO [0, 1, 2] [0] rfl (by decide +kernel) rfl 0 7 rfl rfl rfl) rfl rfl hl.1 rfl (lv_room (Nat.le_of_ble_eq_true rfl)) dX7_passSign_2 ⟨Nat.le_of_ble_eq_true rfl, Nat.le_of_ble_eq_true rfl⟩) hP hD hK hS hA [0, 1, 2] [] rfl rfl (by decide +kernel) (by decide +kernel) (fun y_1 u9 H locs hw hP hD hK hS => ?_)
  obtain ⟨h_2, h_3, rfl⟩ := hw
  have hP : va_P D vwCl [(tk, .inr (7, [.ref ta, .int tkm, .int tkb, .int tkk, .int tka, .int tkv, .long tkc, .ref (ad tkw), .int tkf, .int tkg])), (ta, .inr (6, [.ref tab, .int tan])), (tab, .inl (tabt, 940, .inl tabf))] H := hP
  have hD : va_D A [(tk, .inr (7, [.ref ta, .int tkm, .int tkb, .int tkk, .int tka, .int tkv, .long tkc, .ref (ad tkw), .int tkf, .int tkg])), (ta, .inr (6, [.ref tab, .int tan])), (tab, .inl (tabt, 940, .inl tabf))] := hD
  have hK : va_K D vwCl [(tabt, .byte)] s := hK
  refine W.cs (cells' := 0) (slots' := 0) rfl rfl ?_
  refine W.eq (g2 := F0 m 5 ls (.int y_1 :: [])) rfl ?_
  refine lv_if_ne (tgt := 14) hx hb dX7_passSign_5 (by decide) (fun c_4 => ?_) (fun c_4 => ?_)
  · skip
    have h_5 : z_in 1 1 y_1 := z_neLo c_4 h_2 (z_lit (x := 0) (a := 0) (b := 0) rfl) rfl
    have h_6 : z_in 2 2 tkk := z_both htkk (h_3 (z_eqk h_5 rfl)) rfl
    refine lv_aload_n hx hb dX7_passSign_14 rfl (lv_at hl 0 rfl) ?_
    have hc9 := (w_Tokens_advance l D ad tk tkm tkb tkk tka tkv tkc tkf tkg tkw ta tan tab tabt tabf htkm htkb (z_w (c := 0) (d := 4) h_6 rfl) htkw htan httk)
    refine z_callv (w0 := [(tk, .inr (7, [.ref ta, .int tkm, .int tkb, .int tkk, .int tka, .int tkv, .long tkc, .ref (ad tkw), .int tkf, .int tkg])), (ta, .inr (6, [.ref tab, .int tan])), (tab, .inl (tabt, 940, .inl tabf))]) (wr := []) (va_runV (As := []) (rest := []) ⟨hx, hb, hml, hown, hts⟩ (hc9 _) (cwV 0 hts gX7_passSign_X7_advance rfl rfl rfl (by decide +kernel) ⟨Nat.le_of_ble_eq_true rfl, Nat.le_of_ble_eq_true rfl⟩) (z_preV hP hD hK hS hA hE hO [0, 1, 2] [0] rfl (by decide +kernel) rfl 0 7 rfl rfl rfl) rfl rfl hl.1 rfl (lv_room (Nat.le_of_ble_eq_true rfl)) dX7_passSign_15 ⟨Nat.le_of_ble_eq_true rfl, Nat.le_of_ble_eq_true rfl⟩) hP hD hK hS hA [0, 1, 2] [] rfl rfl (by decide +kernel) (by decide +kernel) (fun u9 H locs hw hP hD hK hS => ?_)
    refine z_ex6 hw (fun x_7 x_9 x_11 x_12 f_13 f_14 hw => ?_)
    refine z_an6 hw (fun h_8 h_10 h_15 h_16 h_17 h_18 hw => ?_)
    subst hw
    have hP : va_P D vwCl [(tk, .inr (7, [.ref ta, .int tkm, .int x_7, .int x_9, .int x_11, .int x_12, .long f_13, .ref (ad f_14), .int tkf, .int tkg])), (ta, .inr (6, [.ref tab, .int tan])), (tab, .inl (tabt, 940, .inl tabf))] H := hP
    have hD : va_D A [(tk, .inr (7, [.ref ta, .int tkm, .int x_7, .int x_9, .int x_11, .int x_12, .long f_13, .ref (ad f_14), .int tkf, .int tkg])), (ta, .inr (6, [.ref tab, .int tan])), (tab, .inl (tabt, 940, .inl tabf))] := hD
    have hK : va_K D vwCl [(tabt, .byte)] s := hK
    refine W.cs (cells' := 0) (slots' := 0) rfl rfl ?_
    refine lv_iconst (v := 1) hx hb dX7_passSign_18 (by decide) ?_
    exact hret 1 ([(tk, .inr (7, [.ref ta, .int tkm, .int x_7, .int x_9, .int x_11, .int x_12, .long f_13, .ref (ad f_14), .int tkf, .int tkg])), (ta, .inr (6, [.ref tab, .int tan])), (tab, .inl (tabt, 940, .inl tabf))], []) _ _ _ _ dX7_passSign_19 (by decide) ⟨x_7, x_9, x_11, x_12, f_13, f_14, tkf, tkg, h_8, h_10, h_15, (z_w (c := 0) (d := 1) (z_lit (x := 1) (a := 1) (b := 1) rfl) rfl), h_16, rfl⟩ hP (hK.sub [] rfl) hD hS
  · skip
    have h_19 : z_in 0 0 y_1 := z_leL (Int32.le_of_eq c_4) h_2 (z_lit (x := 0) (a := 0) (b := 0) rfl) rfl
    refine lv_aload_n hx hb dX7_passSign_8 rfl (lv_at hl 0 rfl) ?_
    refine lv_iconst (v := 1) hx hb dX7_passSign_9 (by decide) ?_
    have hc9 := (w_Tokens_fails l D ad tk tkm tkb tkk tka tkv tkc tkf tkg tkw ta tan tab tabt tabf 1 htkm htkb htkk htkw htan httk)
    refine z_calli (w0 := [(tk, .inr (7, [.ref ta, .int tkm, .int tkb, .int tkk, .int tka, .int tkv, .long tkc, .ref (ad tkw), .int tkf, .int tkg])), (ta, .inr (6, [.ref tab, .int tan])), (tab, .inl (tabt, 940, .inl tabf))]) (wr := []) (va_runV (As := [.int 1]) (rest := []) ⟨hx, hb, hml, hown, hts⟩ (hc9 _) (cwV 1 hts gX7_passSign_X7_fails rfl rfl rfl (by decide +kernel) ⟨Nat.le_of_ble_eq_true rfl, Nat.le_of_ble_eq_true rfl⟩) (z_preV hP hD hK hS hA hE hO [0, 1, 2] [0] rfl (by decide +kernel) rfl 0 7 rfl rfl rfl) rfl rfl hl.1 rfl (lv_room (Nat.le_of_ble_eq_true rfl)) dX7_passSign_10 ⟨Nat.le_of_ble_eq_true rfl, Nat.le_of_ble_eq_true rfl⟩) hP hD hK hS hA [0, 1, 2] [] rfl rfl (by decide +kernel) (by decide +kernel) (fun y_20 u9 H locs hw hP hD hK hS => ?_)
    obtain ⟨x_21, x_22, h_23, rfl⟩ := hw
    have hP : va_P D vwCl [(tk, .inr (7, [.ref ta, .int tkm, .int tkb, .int tkk, .int tka, .int tkv, .long tkc, .ref (ad tkw), .int x_21, .int x_22])), (ta, .inr (6, [.ref tab, .int tan])), (tab, .inl (tabt, 940, .inl tabf))] H := hP
    have hD : va_D A [(tk, .inr (7, [.ref ta, .int tkm, .int tkb, .int tkk, .int tka, .int tkv, .long tkc, .ref (ad tkw), .int x_21, .int x_22])), (ta, .inr (6, [.ref tab, .int tan])), (tab, .inl (tabt, 940, .inl tabf))] := hD
    have hK : va_K D vwCl [(tabt, .byte)] s := hK
    refine W.cs (cells' := 0) (slots' := 0) rfl rfl ?_
    refine W.eq (g2 := F0 m 13 ls (.int y_20 :: [])) rfl ?_
    exact hret y_20 ([(tk, .inr (7, [.ref ta, .int tkm, .int tkb, .int tkk, .int tka, .int tkv, .long tkc, .ref (ad tkw), .int x_21, .int x_22])), (ta, .inr (6, [.ref tab, .int tan])), (tab, .inl (tabt, 940, .inl tabf))], []) _ _ _ _ dX7_passSign_13 (z_nar01 (z_w (c := 0) (d := 1) h_23 rfl)) ⟨tkb, tkk, tka, tkv, tkc, tkw, x_21, x_22, htkb, htkk, htkw, (z_w (c := 0) (d := 1) h_23 rfl), httk, rfl⟩ hP (hK.sub [] rfl) hD hS

set_option maxHeartbeats 8000000 in
set_option maxRecDepth 100000 in
theorem s_Tokens_findKnown5 (l : Launch) (D : va_G) (ad : Nat → Nat) (tk : Nat) (tkm : Int32) (tkb : Int32) (tkk : Int32) (tka : Int32) (tkv : Int32) (tkc : Int64) (tkf : Int32) (tkg : Int32) (tkw : Nat) (ta : Nat) (tan : Int32) (tab : Nat) (tabt : ClassId) (tabf : Nat → Int32) (na : Nat) (nan : Int32) (nac : Nat) (nact : ClassId) (nacf : Nat → Int64) (htkm : z_in 0 940 tkm) (htkb : z_in 0 940 tkb) (htkk : z_in 0 4 tkk) (htkw : tkw < 22) (htan : z_in 0 940 tan) (hnan : z_in 0 5 nan) (httk : z_tk tkk tkw) (hctk : z_ctk z_cds tabf tan tkm tkk tka tkv tkc tkw tkb) (hf0 : z_z0 tkf) : z_Mi l yX7_findKnown wsX7_findKnown { frames := 1, cells := 0, slots := 0, locals := 23 } D ad [.ref tk, .ref na] [(tk, .inr (7, [.ref ta, .int tkm, .int tkb, .int tkk, .int tka, .int tkv, .long tkc, .ref (ad tkw), .int tkf, .int tkg])), (ta, .inr (6, [.ref tab, .int tan])), (tab, .inl (tabt, 940, .inl tabf)), (na, .inr (2, [.ref nac, .int nan])), (nac, .inl (nact, 5, .inr (.inl nacf)))] [(tabt, .byte), (nact, .long)] 0 0 (fun r9 u9 => ∃ (x0_8 : Int32) (x0_9 : Int32), z_in (-1) 4 r9 ∧ (0 ≤ r9.toInt → z_in 4 4 tkk) ∧ (0 ≤ r9.toInt → z_in 1 5 nan) ∧ z_Kc tabf tan tkm tka nacf nan r9 x0_8 x0_9 ∧ u9 = ([(tk, .inr (7, [.ref ta, .int tkm, .int tkb, .int tkk, .int tka, .int tkv, .long tkc, .ref (ad tkw), .int x0_8, .int x0_9])), (ta, .inr (6, [.ref tab, .int tan])), (tab, .inl (tabt, 940, .inl tabf)), (na, .inr (2, [.ref nac, .int nan])), (nac, .inl (nact, 5, .inr (.inl nacf)))], [])) := by
  refine z_ofI (cc := cX7_findKnown) (maxL := 3) (rt := .int) (by decide) rfl (Nat.le_of_ble_eq_true rfl) ?_
  intro p e s m below meth c Q A ls hx hb hml hown hts hin hK hP hD hA hE hO hS hl hret
  have hown : s.vm.findClass RX7 = some m.cls := hown
  have hiX7 : ∀ w ∈ wsX70, w ∈ wsX7_findKnown := fun _ h9 => List.mem_cons_of_mem _ (List.mem_append_left _ (List.mem_append_right _ h9))
  have hiX2 : ∀ w ∈ wsX20, w ∈ wsX7_findKnown := fun _ h9 => List.mem_cons_of_mem _ (List.mem_append_right _ h9)
  have hl : lv_has ls 3 [(0, .ref tk), (1, .ref na)] := hl
  refine lv_aload_n hx hb dX7_findKnown_0 rfl (lv_at hl 0 rfl) ?_
  have hc9 := (s_Tokens_isName l D ad tk tkm tkb tkk tka tkv tkc tkf tkg tkw ta tan tab tabt tabf htkm htkb htkk htkw htan httk hctk)
  refine z_calli (w0 := [(tk, .inr (7, [.ref ta, .int tkm, .int tkb, .int tkk, .int tka, .int tkv, .long tkc, .ref (ad tkw), .int tkf, .int tkg])), (ta, .inr (6, [.ref tab, .int tan])), (tab, .inl (tabt, 940, .inl tabf))]) (wr := [(na, .inr (2, [.ref nac, .int nan])), (nac, .inl (nact, 5, .inr (.inl nacf)))]) (va_runV (As := []) (rest := []) ⟨hx, hb, hml, hown, hts⟩ (hc9 _) (cwV 0 hts gX7_findKnown_X7_isName rfl rfl rfl (by decide +kernel) ⟨Nat.le_of_ble_eq_true rfl, Nat.le_of_ble_eq_true rfl⟩) (z_preV hP hD hK hS hA hE hO [0, 1, 2] [0] rfl (by decide +kernel) rfl 0 7 rfl rfl rfl) rfl rfl hl.1 rfl (lv_room (Nat.le_of_ble_eq_true rfl)) dX7_findKnown_1 ⟨Nat.le_of_ble_eq_true rfl, Nat.le_of_ble_eq_true rfl⟩) hP hD hK hS hA [0, 1, 2] [3, 4] rfl rfl (by decide +kernel) (by decide +kernel) (fun y_1 u9 H locs hw hP hD hK hS => ?_)
  obtain ⟨h_2, h_3, h_4, rfl⟩ := hw
  have hP : va_P D vwCl [(na, .inr (2, [.ref nac, .int nan])), (nac, .inl (nact, 5, .inr (.inl nacf))), (tk, .inr (7, [.ref ta, .int tkm, .int tkb, .int tkk, .int tka, .int tkv, .long tkc, .ref (ad tkw), .int tkf, .int tkg])), (ta, .inr (6, [.ref tab, .int tan])), (tab, .inl (tabt, 940, .inl tabf))] H := hP
  have hD : va_D A [(na, .inr (2, [.ref nac, .int nan])), (nac, .inl (nact, 5, .inr (.inl nacf))), (tk, .inr (7, [.ref ta, .int tkm, .int tkb, .int tkk, .int tka, .int tkv, .long tkc, .ref (ad tkw), .int tkf, .int tkg])), (ta, .inr (6, [.ref tab, .int tan])), (tab, .inl (tabt, 940, .inl tabf))] := hD
  have hK : va_K D vwCl [(tabt, .byte), (nact, .long)] s := hK
  refine W.cs (cells' := 0) (slots' := 0) rfl rfl ?_
  refine W.eq (g2 := F0 m 4 ls (.int y_1 :: [])) rfl ?_
  refine lv_if_ne (tgt := 15) hx hb dX7_findKnown_4 (by decide) (fun c_5 => ?_) (fun c_5 => ?_)
  · skip
    have h_6 : z_in 1 1 y_1 := z_neLo c_5 h_2 (z_lit (x := 0) (a := 0) (b := 0) rfl) rfl
    have h_7 : z_in 4 4 tkk := z_both htkk (h_3 (z_eqk h_6 rfl)) rfl
    refine lv_aload_n hx hb dX7_findKnown_15 rfl (lv_at hl 1 rfl) ?_
    refine lv_aload_n hx hb dX7_findKnown_16 rfl (lv_at hl 0 rfl) ?_
    refine va_get (D := D) (ci := 7) (v := .long tkc) (C := RX7) (T := TX7) (N := 10) hx hb hts hiX7 hown hK hP 2 rfl rfl 6 (by decide) (hts _ (List.mem_of_getElem? (i := 1) rfl)) (fun _ h9 => h9) rfl dX7_findKnown_17 ?_
    have hc9 := (w_Names5_find l D ad na nan nac nact nacf tkc hnan)
    refine z_calli (w0 := [(na, .inr (2, [.ref nac, .int nan])), (nac, .inl (nact, 5, .inr (.inl nacf)))]) (wr := [(tk, .inr (7, [.ref ta, .int tkm, .int tkb, .int tkk, .int tka, .int tkv, .long tkc, .ref (ad tkw), .int tkf, .int tkg])), (ta, .inr (6, [.ref tab, .int tan])), (tab, .inl (tabt, 940, .inl tabf))]) (va_runV (As := [.long tkc]) (rest := []) ⟨hx, hb, hml, hown, hts⟩ (hc9 _) (cwV 1 hts gX7_findKnown_X2_find rfl rfl rfl (by decide +kernel) ⟨Nat.le_of_ble_eq_true rfl, Nat.le_of_ble_eq_true rfl⟩) (z_preV hP hD hK hS hA hE hO [0, 1] [1] rfl (by decide +kernel) rfl 0 2 rfl rfl rfl) rfl rfl hl.1 rfl (lv_room (Nat.le_of_ble_eq_true rfl)) dX7_findKnown_20 ⟨Nat.le_of_ble_eq_true rfl, Nat.le_of_ble_eq_true rfl⟩) hP hD hK hS hA [0, 1] [2, 3, 4] rfl rfl (by decide +kernel) (by decide +kernel) (fun y_8 u9 H locs hw hP hD hK hS => ?_)
    obtain ⟨h_9, h_10, h_11, rfl⟩ := hw
    have hP : va_P D vwCl [(tk, .inr (7, [.ref ta, .int tkm, .int tkb, .int tkk, .int tka, .int tkv, .long tkc, .ref (ad tkw), .int tkf, .int tkg])), (ta, .inr (6, [.ref tab, .int tan])), (tab, .inl (tabt, 940, .inl tabf)), (na, .inr (2, [.ref nac, .int nan])), (nac, .inl (nact, 5, .inr (.inl nacf)))] H := hP
    have hD : va_D A [(tk, .inr (7, [.ref ta, .int tkm, .int tkb, .int tkk, .int tka, .int tkv, .long tkc, .ref (ad tkw), .int tkf, .int tkg])), (ta, .inr (6, [.ref tab, .int tan])), (tab, .inl (tabt, 940, .inl tabf)), (na, .inr (2, [.ref nac, .int nan])), (nac, .inl (nact, 5, .inr (.inl nacf)))] := hD
    have hK : va_K D vwCl [(tabt, .byte), (nact, .long)] s := hK
    refine W.cs (cells' := 0) (slots' := 0) rfl rfl ?_
    refine W.eq (g2 := F0 m 23 ls (.int y_8 :: [])) rfl ?_
    refine lv_istore_n (lv' := [(2, .int y_8), (0, .ref tk), (1, .ref na)]) hx hb dX7_findKnown_23 rfl hl (by decide) rfl (fun ls hl => ?_)
    refine lv_iload_n hx hb dX7_findKnown_24 rfl (lv_at hl 0 rfl) ?_
    refine lv_iconst (v := (-1)) hx hb dX7_findKnown_25 (by decide) ?_
    refine lv_icmp_ne (tgt := 35) hx hb dX7_findKnown_26 (by decide) (fun c_12 => ?_) (fun c_12 => ?_)
    · skip
      have h_13 : z_in 0 4 y_8 := z_neLo c_12 h_9 (z_lit (x := (-1)) (a := (-1)) (b := (-1)) rfl) rfl
      have h_14 : z_in 1 5 nan := z_both hnan (h_10 (Int.le_trans (by decide) h_13.1)) rfl
      refine lv_iload_n hx hb dX7_findKnown_35 rfl (lv_at hl 0 rfl) ?_
      exact hret y_8 ([(tk, .inr (7, [.ref ta, .int tkm, .int tkb, .int tkk, .int tka, .int tkv, .long tkc, .ref (ad tkw), .int tkf, .int tkg])), (ta, .inr (6, [.ref tab, .int tan])), (tab, .inl (tabt, 940, .inl tabf)), (na, .inr (2, [.ref nac, .int nan])), (nac, .inl (nact, 5, .inr (.inl nacf)))], []) _ _ _ _ dX7_findKnown_36 rfl ⟨tkf, tkg, (z_w (c := (-1)) (d := 4) h_13 rfl), (fun _ => h_7), (fun _ => h_14), (z_Kc0 h_4 (z_eqk h_6 rfl) h_11 c_12 hf0), rfl⟩ hP (hK.sub [] rfl) hD hS
    · skip
      have h_15 : z_in (-1) (-1) y_8 := z_leL (Int32.le_of_eq c_12) h_9 (z_lit (x := (-1)) (a := (-1)) (b := (-1)) rfl) rfl
      refine lv_aload_n hx hb dX7_findKnown_29 rfl (lv_at hl 1 rfl) ?_
      refine lv_iconst (v := 3) hx hb dX7_findKnown_30 (by decide) ?_
      have hc9 := (s_Tokens_fails l D ad tk tkm tkb tkk tka tkv tkc tkf tkg tkw ta tan tab tabt tabf 3 htkm htkb (z_w (c := 0) (d := 4) h_7 rfl) htkw htan httk hctk hf0)
      refine z_calli (w0 := [(tk, .inr (7, [.ref ta, .int tkm, .int tkb, .int tkk, .int tka, .int tkv, .long tkc, .ref (ad tkw), .int tkf, .int tkg])), (ta, .inr (6, [.ref tab, .int tan])), (tab, .inl (tabt, 940, .inl tabf))]) (wr := [(na, .inr (2, [.ref nac, .int nan])), (nac, .inl (nact, 5, .inr (.inl nacf)))]) (va_runV (As := [.int 3]) (rest := []) ⟨hx, hb, hml, hown, hts⟩ (hc9 _) (cwV 1 hts gX7_findKnown_X7_fails rfl rfl rfl (by decide +kernel) ⟨Nat.le_of_ble_eq_true rfl, Nat.le_of_ble_eq_true rfl⟩) (z_preV hP hD hK hS hA hE hO [0, 1, 2] [0] rfl (by decide +kernel) rfl 0 7 rfl rfl rfl) rfl rfl hl.1 rfl (lv_room (Nat.le_of_ble_eq_true rfl)) dX7_findKnown_31 ⟨Nat.le_of_ble_eq_true rfl, Nat.le_of_ble_eq_true rfl⟩) hP hD hK hS hA [0, 1, 2] [3, 4] rfl rfl (by decide +kernel) (by decide +kernel) (fun y_16 u9 H locs hw hP hD hK hS => ?_)
      obtain ⟨x_17, x_18, h_19, h_20, rfl⟩ := hw
      have hP : va_P D vwCl [(na, .inr (2, [.ref nac, .int nan])), (nac, .inl (nact, 5, .inr (.inl nacf))), (tk, .inr (7, [.ref ta, .int tkm, .int tkb, .int tkk, .int tka, .int tkv, .long tkc, .ref (ad tkw), .int x_17, .int x_18])), (ta, .inr (6, [.ref tab, .int tan])), (tab, .inl (tabt, 940, .inl tabf))] H := hP
      have hD : va_D A [(na, .inr (2, [.ref nac, .int nan])), (nac, .inl (nact, 5, .inr (.inl nacf))), (tk, .inr (7, [.ref ta, .int tkm, .int tkb, .int tkk, .int tka, .int tkv, .long tkc, .ref (ad tkw), .int x_17, .int x_18])), (ta, .inr (6, [.ref tab, .int tan])), (tab, .inl (tabt, 940, .inl tabf))] := hD
      have hK : va_K D vwCl [(tabt, .byte), (nact, .long)] s := hK
      refine W.cs (cells' := 0) (slots' := 0) rfl rfl ?_
      refine W.eq (g2 := F0 m 34 ls (.int y_16 :: [])) rfl ?_
      refine lv_pop hx hb dX7_findKnown_34 rfl ?_
      refine lv_iload_n hx hb dX7_findKnown_35 rfl (lv_at hl 0 rfl) ?_
      exact hret y_8 ([(tk, .inr (7, [.ref ta, .int tkm, .int tkb, .int tkk, .int tka, .int tkv, .long tkc, .ref (ad tkw), .int x_17, .int x_18])), (ta, .inr (6, [.ref tab, .int tan])), (tab, .inl (tabt, 940, .inl tabf)), (na, .inr (2, [.ref nac, .int nan])), (nac, .inl (nact, 5, .inr (.inl nacf)))], []) _ _ _ _ dX7_findKnown_36 rfl ⟨x_17, x_18, (z_w (c := (-1)) (d := 4) h_15 rfl), (fun h9 => absurd (Int.le_trans h9 h_15.2) (by decide)), (fun h9 => absurd (Int.le_trans h9 h_15.2) (by decide)), (z_Kc3 h_4 (z_eqk h_6 rfl) h_11 (z_eqk h_15 rfl) h_20), rfl⟩ (hP.sub [2, 3, 4, 0, 1] rfl) (hK.sub [] rfl) (hD.sub [2, 3, 4, 0, 1] (by decide +kernel) rfl) hS
  · skip
    have h_21 : z_in 0 0 y_1 := z_leL (Int32.le_of_eq c_5) h_2 (z_lit (x := 0) (a := 0) (b := 0) rfl) rfl
    refine lv_aload_n hx hb dX7_findKnown_7 rfl (lv_at hl 0 rfl) ?_
    refine lv_iconst (v := 1) hx hb dX7_findKnown_8 (by decide) ?_
    have hc9 := (s_Tokens_fails l D ad tk tkm tkb tkk tka tkv tkc tkf tkg tkw ta tan tab tabt tabf 1 htkm htkb htkk htkw htan httk hctk hf0)
    refine z_calli (w0 := [(tk, .inr (7, [.ref ta, .int tkm, .int tkb, .int tkk, .int tka, .int tkv, .long tkc, .ref (ad tkw), .int tkf, .int tkg])), (ta, .inr (6, [.ref tab, .int tan])), (tab, .inl (tabt, 940, .inl tabf))]) (wr := [(na, .inr (2, [.ref nac, .int nan])), (nac, .inl (nact, 5, .inr (.inl nacf)))]) (va_runV (As := [.int 1]) (rest := []) ⟨hx, hb, hml, hown, hts⟩ (hc9 _) (cwV 1 hts gX7_findKnown_X7_fails rfl rfl rfl (by decide +kernel) ⟨Nat.le_of_ble_eq_true rfl, Nat.le_of_ble_eq_true rfl⟩) (z_preV hP hD hK hS hA hE hO [2, 3, 4] [0] rfl (by decide +kernel) rfl 2 7 rfl rfl rfl) rfl rfl hl.1 rfl (lv_room (Nat.le_of_ble_eq_true rfl)) dX7_findKnown_9 ⟨Nat.le_of_ble_eq_true rfl, Nat.le_of_ble_eq_true rfl⟩) hP hD hK hS hA [2, 3, 4] [0, 1] rfl rfl (by decide +kernel) (by decide +kernel) (fun y_22 u9 H locs hw hP hD hK hS => ?_)
    obtain ⟨x_23, x_24, h_25, h_26, rfl⟩ := hw
    have hP : va_P D vwCl [(na, .inr (2, [.ref nac, .int nan])), (nac, .inl (nact, 5, .inr (.inl nacf))), (tk, .inr (7, [.ref ta, .int tkm, .int tkb, .int tkk, .int tka, .int tkv, .long tkc, .ref (ad tkw), .int x_23, .int x_24])), (ta, .inr (6, [.ref tab, .int tan])), (tab, .inl (tabt, 940, .inl tabf))] H := hP
    have hD : va_D A [(na, .inr (2, [.ref nac, .int nan])), (nac, .inl (nact, 5, .inr (.inl nacf))), (tk, .inr (7, [.ref ta, .int tkm, .int tkb, .int tkk, .int tka, .int tkv, .long tkc, .ref (ad tkw), .int x_23, .int x_24])), (ta, .inr (6, [.ref tab, .int tan])), (tab, .inl (tabt, 940, .inl tabf))] := hD
    have hK : va_K D vwCl [(tabt, .byte), (nact, .long)] s := hK
    refine W.cs (cells' := 0) (slots' := 0) rfl rfl ?_
    refine W.eq (g2 := F0 m 12 ls (.int y_22 :: [])) rfl ?_
    refine lv_pop hx hb dX7_findKnown_12 rfl ?_
    refine lv_iconst (v := (-1)) hx hb dX7_findKnown_13 (by decide) ?_
    exact hret (-1) ([(tk, .inr (7, [.ref ta, .int tkm, .int tkb, .int tkk, .int tka, .int tkv, .long tkc, .ref (ad tkw), .int x_23, .int x_24])), (ta, .inr (6, [.ref tab, .int tan])), (tab, .inl (tabt, 940, .inl tabf)), (na, .inr (2, [.ref nac, .int nan])), (nac, .inl (nact, 5, .inr (.inl nacf)))], []) _ _ _ _ dX7_findKnown_14 rfl ⟨x_23, x_24, (z_w (c := (-1)) (d := 4) (z_lit (x := (-1)) (a := (-1)) (b := (-1)) rfl) rfl), (fun h9 => absurd (Int.le_trans h9 (z_lit (x := (-1)) (a := (-1)) (b := (-1)) rfl).2) (by decide)), (fun h9 => absurd (Int.le_trans h9 (z_lit (x := (-1)) (a := (-1)) (b := (-1)) rfl).2) (by decide)), (z_Kc1 h_4 (z_eqk h_21 rfl) h_26), rfl⟩ (hP.sub [2, 3, 4, 0, 1] rfl) (hK.sub [] rfl) (hD.sub [2, 3, 4, 0, 1] (by decide +kernel) rfl) hS

set_option maxHeartbeats 8000000 in
set_option maxRecDepth 100000 in
theorem s_Tokens_passKnown5 (l : Launch) (D : va_G) (ad : Nat → Nat) (tk : Nat) (tkm : Int32) (tkb : Int32) (tkk : Int32) (tka : Int32) (tkv : Int32) (tkc : Int64) (tkf : Int32) (tkg : Int32) (tkw : Nat) (ta : Nat) (tan : Int32) (tab : Nat) (tabt : ClassId) (tabf : Nat → Int32) (na : Nat) (nan : Int32) (nac : Nat) (nact : ClassId) (nacf : Nat → Int64) (htkm : z_in 0 940 tkm) (htkb : z_in 0 940 tkb) (htkk : z_in 0 4 tkk) (htkw : tkw < 22) (htan : z_in 0 940 tan) (hnan : z_in 0 5 nan) (httk : z_tk tkk tkw) (hctk : z_ctk z_cds tabf tan tkm tkk tka tkv tkc tkw tkb) (hf0 : z_z0 tkf) : z_Mi l yX7_passKnown wsX7_passKnown { frames := 3, cells := 0, slots := 0, locals := 66 } D ad [.ref tk, .ref na] [(tk, .inr (7, [.ref ta, .int tkm, .int tkb, .int tkk, .int tka, .int tkv, .long tkc, .ref (ad tkw), .int tkf, .int tkg])), (ta, .inr (6, [.ref tab, .int tan])), (tab, .inl (tabt, 940, .inl tabf)), (na, .inr (2, [.ref nac, .int nan])), (nac, .inl (nact, 5, .inr (.inl nacf)))] [(tabt, .byte), (nact, .long)] 0 0 (fun r9 u9 => ∃ (x0_2 : Int32) (x0_3 : Int32) (x0_4 : Int32) (x0_5 : Int32) (x0_6 : Int64) (x0_7 : Nat) (x0_8 : Int32) (x0_9 : Int32), z_in 0 940 x0_2 ∧ z_in 0 4 x0_3 ∧ x0_7 < 22 ∧ z_in (-1) 4 r9 ∧ (0 ≤ r9.toInt → z_in 4 4 tkk) ∧ (0 ≤ r9.toInt → z_in 1 5 nan) ∧ z_tk x0_3 x0_7 ∧ z_ctk z_cds tabf tan tkm x0_3 x0_4 x0_5 x0_6 x0_7 x0_2 ∧ z_Pk tabf tan tkm tka nacf nan r9 x0_4 x0_8 x0_9 ∧ u9 = ([(tk, .inr (7, [.ref ta, .int tkm, .int x0_2, .int x0_3, .int x0_4, .int x0_5, .long x0_6, .ref (ad x0_7), .int x0_8, .int x0_9])), (ta, .inr (6, [.ref tab, .int tan])), (tab, .inl (tabt, 940, .inl tabf)), (na, .inr (2, [.ref nac, .int nan])), (nac, .inl (nact, 5, .inr (.inl nacf)))], [])) := by
  refine z_ofI (cc := cX7_passKnown) (maxL := 3) (rt := .int) (by decide) rfl (Nat.le_of_ble_eq_true rfl) ?_
  intro p e s m below meth c Q A ls hx hb hml hown hts hin hK hP hD hA hE hO hS hl hret
  have hown : s.vm.findClass RX7 = some m.cls := hown
  have hiX7 : ∀ w ∈ wsX70, w ∈ wsX7_passKnown := fun _ h9 => List.mem_cons_of_mem _ (List.mem_append_left _ (List.mem_append_left _ (List.mem_append_right _ h9)))
  have hiX2 : ∀ w ∈ wsX20, w ∈ wsX7_passKnown := fun _ h9 => List.mem_cons_of_mem _ (List.mem_append_left _ (List.mem_append_right _ h9))
  have hiX6 : ∀ w ∈ wsX60, w ∈ wsX7_passKnown := fun _ h9 => List.mem_cons_of_mem _ (List.mem_append_right _ h9)
  have hl : lv_has ls 3 [(0, .ref tk), (1, .ref na)] := hl
  refine lv_aload_n hx hb dX7_passKnown_0 rfl (lv_at hl 0 rfl) ?_
  refine lv_aload_n hx hb dX7_passKnown_1 rfl (lv_at hl 1 rfl) ?_
  have hc9 := (s_Tokens_findKnown5 l D ad tk tkm tkb tkk tka tkv tkc tkf tkg tkw ta tan tab tabt tabf na nan nac nact nacf htkm htkb htkk htkw htan hnan httk hctk hf0)
  refine z_calli (w0 := [(tk, .inr (7, [.ref ta, .int tkm, .int tkb, .int tkk, .int tka, .int tkv, .long tkc, .ref (ad tkw), .int tkf, .int tkg])), (ta, .inr (6, [.ref tab, .int tan])), (tab, .inl (tabt, 940, .inl tabf)), (na, .inr (2, [.ref nac, .int nan])), (nac, .inl (nact, 5, .inr (.inl nacf)))]) (wr := []) (va_runV (As := [.ref na]) (rest := []) ⟨hx, hb, hml, hown, hts⟩ (hc9 _) (cwV 1 hts gX7_passKnown_X7_findKnown rfl rfl rfl (by decide +kernel) ⟨Nat.le_of_ble_eq_true rfl, Nat.le_of_ble_eq_true rfl⟩) (z_preV hP hD hK hS hA hE hO [0, 1, 2, 3, 4] [0, 1] rfl (by decide +kernel) rfl 0 7 rfl rfl rfl) rfl rfl hl.1 rfl (lv_room (Nat.le_of_ble_eq_true rfl)) dX7_passKnown_2 ⟨Nat.le_of_ble_eq_true rfl, Nat.le_of_ble_eq_true rfl⟩) hP hD hK hS hA [0, 1, 2, 3, 4] [] rfl rfl (by decide +kernel) (by decide +kernel) (fun y_1 u9 H locs hw hP hD hK hS => ?_)
  refine z_ex2 hw (fun x_2 x_3 hw => ?_)
  refine z_an4 hw (fun h_4 h_5 h_6 h_7 hw => ?_)
  subst hw
  have hP : va_P D vwCl [(tk, .inr (7, [.ref ta, .int tkm, .int tkb, .int tkk, .int tka, .int tkv, .long tkc, .ref (ad tkw), .int x_2, .int x_3])), (ta, .inr (6, [.ref tab, .int tan])), (tab, .inl (tabt, 940, .inl tabf)), (na, .inr (2, [.ref nac, .int nan])), (nac, .inl (nact, 5, .inr (.inl nacf)))] H := hP
  have hD : va_D A [(tk, .inr (7, [.ref ta, .int tkm, .int tkb, .int tkk, .int tka, .int tkv, .long tkc, .ref (ad tkw), .int x_2, .int x_3])), (ta, .inr (6, [.ref tab, .int tan])), (tab, .inl (tabt, 940, .inl tabf)), (na, .inr (2, [.ref nac, .int nan])), (nac, .inl (nact, 5, .inr (.inl nacf)))] := hD
  have hK : va_K D vwCl [(tabt, .byte), (nact, .long)] s := hK
  refine W.cs (cells' := 0) (slots' := 0) rfl rfl ?_
  refine W.eq (g2 := F0 m 5 ls (.int y_1 :: [])) rfl ?_
  refine lv_istore_n (lv' := [(2, .int y_1), (0, .ref tk), (1, .ref na)]) hx hb dX7_passKnown_5 rfl hl (by decide) rfl (fun ls hl => ?_)
  refine lv_iload_n hx hb dX7_passKnown_6 rfl (lv_at hl 0 rfl) ?_
  refine lv_iconst (v := (-1)) hx hb dX7_passKnown_7 (by decide) ?_
  refine lv_icmp_eq (tgt := 15) hx hb dX7_passKnown_8 (by decide) (fun c_8 => ?_) (fun c_8 => ?_)
  · skip
    have h_9 : z_in (-1) (-1) y_1 := z_leL (Int32.le_of_eq c_8) h_4 (z_lit (x := (-1)) (a := (-1)) (b := (-1)) rfl) rfl
    refine lv_iload_n hx hb dX7_passKnown_15 rfl (lv_at hl 0 rfl) ?_
    exact hret y_1 ([(tk, .inr (7, [.ref ta, .int tkm, .int tkb, .int tkk, .int tka, .int tkv, .long tkc, .ref (ad tkw), .int x_2, .int x_3])), (ta, .inr (6, [.ref tab, .int tan])), (tab, .inl (tabt, 940, .inl tabf)), (na, .inr (2, [.ref nac, .int nan])), (nac, .inl (nact, 5, .inr (.inl nacf)))], []) _ _ _ _ dX7_passKnown_16 rfl ⟨tkb, tkk, tka, tkv, tkc, tkw, x_2, x_3, htkb, htkk, htkw, (z_w (c := (-1)) (d := 4) h_9 rfl), (fun h9 => absurd (Int.le_trans h9 h_9.2) (by decide)), (fun h9 => absurd (Int.le_trans h9 h_9.2) (by decide)), httk, hctk, (z_Pk0 h_7 (z_eqk h_9 rfl)), rfl⟩ hP (hK.sub [] rfl) hD hS
  · skip
    have h_10 : z_in 0 4 y_1 := z_neLo c_8 h_4 (z_lit (x := (-1)) (a := (-1)) (b := (-1)) rfl) rfl
    have h_11 : z_in 4 4 tkk := z_both htkk (h_5 (Int.le_trans (by decide) h_10.1)) rfl
    have h_12 : z_in 1 5 nan := z_both hnan (h_6 (Int.le_trans (by decide) h_10.1)) rfl
    refine lv_aload_n hx hb dX7_passKnown_11 rfl (lv_at hl 1 rfl) ?_
    have hc9 := (w_Tokens_advance l D ad tk tkm tkb tkk tka tkv tkc x_2 x_3 tkw ta tan tab tabt tabf htkm htkb (z_w (c := 0) (d := 4) h_11 rfl) htkw htan httk)
    refine z_callv (w0 := [(tk, .inr (7, [.ref ta, .int tkm, .int tkb, .int tkk, .int tka, .int tkv, .long tkc, .ref (ad tkw), .int x_2, .int x_3])), (ta, .inr (6, [.ref tab, .int tan])), (tab, .inl (tabt, 940, .inl tabf))]) (wr := [(na, .inr (2, [.ref nac, .int nan])), (nac, .inl (nact, 5, .inr (.inl nacf)))]) (va_runV (As := []) (rest := []) ⟨hx, hb, hml, hown, hts⟩ (hc9 _) (cwV 0 hts gX7_passKnown_X7_advance rfl rfl rfl (by decide +kernel) ⟨Nat.le_of_ble_eq_true rfl, Nat.le_of_ble_eq_true rfl⟩) (z_preV hP hD hK hS hA hE hO [0, 1, 2] [0] rfl (by decide +kernel) rfl 0 7 rfl rfl rfl) rfl rfl hl.1 rfl (lv_room (Nat.le_of_ble_eq_true rfl)) dX7_passKnown_12 ⟨Nat.le_of_ble_eq_true rfl, Nat.le_of_ble_eq_true rfl⟩) hP hD hK hS hA [0, 1, 2] [3, 4] rfl rfl (by decide +kernel) (by decide +kernel) (fun u9 H locs hw hP hD hK hS => ?_)
    refine z_ex6 hw (fun x_13 x_15 x_17 x_18 f_19 f_20 hw => ?_)
    refine z_an6 hw (fun h_14 h_16 h_21 h_22 h_23 h_24 hw => ?_)
    subst hw
    have hP : va_P D vwCl [(na, .inr (2, [.ref nac, .int nan])), (nac, .inl (nact, 5, .inr (.inl nacf))), (tk, .inr (7, [.ref ta, .int tkm, .int x_13, .int x_15, .int x_17, .int x_18, .long f_19, .ref (ad f_20), .int x_2, .int x_3])), (ta, .inr (6, [.ref tab, .int tan])), (tab, .inl (tabt, 940, .inl tabf))] H := hP
    have hD : va_D A [(na, .inr (2, [.ref nac, .int nan])), (nac, .inl (nact, 5, .inr (.inl nacf))), (tk, .inr (7, [.ref ta, .int tkm, .int x_13, .int x_15, .int x_17, .int x_18, .long f_19, .ref (ad f_20), .int x_2, .int x_3])), (ta, .inr (6, [.ref tab, .int tan])), (tab, .inl (tabt, 940, .inl tabf))] := hD
    have hK : va_K D vwCl [(tabt, .byte), (nact, .long)] s := hK
    refine W.cs (cells' := 0) (slots' := 0) rfl rfl ?_
    refine lv_iload_n hx hb dX7_passKnown_15 rfl (lv_at hl 0 rfl) ?_
    exact hret y_1 ([(tk, .inr (7, [.ref ta, .int tkm, .int x_13, .int x_15, .int x_17, .int x_18, .long f_19, .ref (ad f_20), .int x_2, .int x_3])), (ta, .inr (6, [.ref tab, .int tan])), (tab, .inl (tabt, 940, .inl tabf)), (na, .inr (2, [.ref nac, .int nan])), (nac, .inl (nact, 5, .inr (.inl nacf)))], []) _ _ _ _ dX7_passKnown_16 rfl ⟨x_13, x_15, x_17, x_18, f_19, f_20, x_2, x_3, h_14, h_16, h_21, (z_w (c := (-1)) (d := 4) h_10 rfl), (fun _ => h_11), (fun _ => h_12), h_22, h_23, (z_Pk1 h_7 c_8 hctk h_24 h_23), rfl⟩ (hP.sub [2, 3, 4, 0, 1] rfl) (hK.sub [] rfl) (hD.sub [2, 3, 4, 0, 1] (by decide +kernel) rfl) hS

set_option maxHeartbeats 8000000 in
set_option maxRecDepth 100000 in
theorem w_Tokens_findKnown5 (l : Launch) (D : va_G) (ad : Nat → Nat) (tk : Nat) (tkm : Int32) (tkb : Int32) (tkk : Int32) (tka : Int32) (tkv : Int32) (tkc : Int64) (tkf : Int32) (tkg : Int32) (tkw : Nat) (ta : Nat) (tan : Int32) (tab : Nat) (tabt : ClassId) (tabf : Nat → Int32) (na : Nat) (nan : Int32) (nac : Nat) (nact : ClassId) (nacf : Nat → Int64) (htkm : z_in 0 940 tkm) (htkb : z_in 0 940 tkb) (htkk : z_in 0 4 tkk) (htkw : tkw < 22) (htan : z_in 0 940 tan) (hnan : z_in 0 5 nan) (httk : z_tk tkk tkw) : z_Mi l yX7_findKnown wsX7_findKnown { frames := 1, cells := 0, slots := 0, locals := 23 } D ad [.ref tk, .ref na] [(tk, .inr (7, [.ref ta, .int tkm, .int tkb, .int tkk, .int tka, .int tkv, .long tkc, .ref (ad tkw), .int tkf, .int tkg])), (ta, .inr (6, [.ref tab, .int tan])), (tab, .inl (tabt, 940, .inl tabf)), (na, .inr (2, [.ref nac, .int nan])), (nac, .inl (nact, 5, .inr (.inl nacf)))] [(tabt, .byte), (nact, .long)] 0 0 (fun r9 u9 => ∃ (x0_8 : Int32) (x0_9 : Int32), z_in (-1) 4 r9 ∧ (0 ≤ r9.toInt → z_in 4 4 tkk) ∧ (0 ≤ r9.toInt → z_in 1 5 nan) ∧ u9 = ([(tk, .inr (7, [.ref ta, .int tkm, .int tkb, .int tkk, .int tka, .int tkv, .long tkc, .ref (ad tkw), .int x0_8, .int x0_9])), (ta, .inr (6, [.ref tab, .int tan])), (tab, .inl (tabt, 940, .inl tabf)), (na, .inr (2, [.ref nac, .int nan])), (nac, .inl (nact, 5, .inr (.inl nacf)))], [])) := by
  refine z_ofI (cc := cX7_findKnown) (maxL := 3) (rt := .int) (by decide) rfl (Nat.le_of_ble_eq_true rfl) ?_
  intro p e s m below meth c Q A ls hx hb hml hown hts hin hK hP hD hA hE hO hS hl hret
  have hown : s.vm.findClass RX7 = some m.cls := hown
  have hiX7 : ∀ w ∈ wsX70, w ∈ wsX7_findKnown := fun _ h9 => List.mem_cons_of_mem _ (List.mem_append_left _ (List.mem_append_right _ h9))
  have hiX2 : ∀ w ∈ wsX20, w ∈ wsX7_findKnown := fun _ h9 => List.mem_cons_of_mem _ (List.mem_append_right _ h9)
  have hl : lv_has ls 3 [(0, .ref tk), (1, .ref na)] := hl
  refine lv_aload_n hx hb dX7_findKnown_0 rfl (lv_at hl 0 rfl) ?_
  have hc9 := (w_Tokens_isName l D ad tk tkm tkb tkk tka tkv tkc tkf tkg tkw ta tan tab tabt tabf htkm htkb htkk htkw htan httk)
  refine z_calli (w0 := [(tk, .inr (7, [.ref ta, .int tkm, .int tkb, .int tkk, .int tka, .int tkv, .long tkc, .ref (ad tkw), .int tkf, .int tkg])), (ta, .inr (6, [.ref tab, .int tan])), (tab, .inl (tabt, 940, .inl tabf))]) (wr := [(na, .inr (2, [.ref nac, .int nan])), (nac, .inl (nact, 5, .inr (.inl nacf)))]) (va_runV (As := []) (rest := []) ⟨hx, hb, hml, hown, hts⟩ (hc9 _) (cwV 0 hts gX7_findKnown_X7_isName rfl rfl rfl (by decide +kernel) ⟨Nat.le_of_ble_eq_true rfl, Nat.le_of_ble_eq_true rfl⟩) (z_preV hP hD hK hS hA hE hO [0, 1, 2] [0] rfl (by decide +kernel) rfl 0 7 rfl rfl rfl) rfl rfl hl.1 rfl (lv_room (Nat.le_of_ble_eq_true rfl)) dX7_findKnown_1 ⟨Nat.le_of_ble_eq_true rfl, Nat.le_of_ble_eq_true rfl⟩) hP hD hK hS hA [0, 1, 2] [3, 4] rfl rfl (by decide +kernel) (by decide +kernel) (fun y_1 u9 H locs hw hP hD hK hS => ?_)
  obtain ⟨h_2, h_3, rfl⟩ := hw
  have hP : va_P D vwCl [(na, .inr (2, [.ref nac, .int nan])), (nac, .inl (nact, 5, .inr (.inl nacf))), (tk, .inr (7, [.ref ta, .int tkm, .int tkb, .int tkk, .int tka, .int tkv, .long tkc, .ref (ad tkw), .int tkf, .int tkg])), (ta, .inr (6, [.ref tab, .int tan])), (tab, .inl (tabt, 940, .inl tabf))] H := hP
  have hD : va_D A [(na, .inr (2, [.ref nac, .int nan])), (nac, .inl (nact, 5, .inr (.inl nacf))), (tk, .inr (7, [.ref ta, .int tkm, .int tkb, .int tkk, .int tka, .int tkv, .long tkc, .ref (ad tkw), .int tkf, .int tkg])), (ta, .inr (6, [.ref tab, .int tan])), (tab, .inl (tabt, 940, .inl tabf))] := hD
  have hK : va_K D vwCl [(tabt, .byte), (nact, .long)] s := hK
  refine W.cs (cells' := 0) (slots' := 0) rfl rfl ?_
  refine W.eq (g2 := F0 m 4 ls (.int y_1 :: [])) rfl ?_
  refine lv_if_ne (tgt := 15) hx hb dX7_findKnown_4 (by decide) (fun c_4 => ?_) (fun c_4 => ?_)
  · skip
    have h_5 : z_in 1 1 y_1 := z_neLo c_4 h_2 (z_lit (x := 0) (a := 0) (b := 0) rfl) rfl
    have h_6 : z_in 4 4 tkk := z_both htkk (h_3 (z_eqk h_5 rfl)) rfl
    refine lv_aload_n hx hb dX7_findKnown_15 rfl (lv_at hl 1 rfl) ?_
    refine lv_aload_n hx hb dX7_findKnown_16 rfl (lv_at hl 0 rfl) ?_
    refine va_get (D := D) (ci := 7) (v := .long tkc) (C := RX7) (T := TX7) (N := 10) hx hb hts hiX7 hown hK hP 2 rfl rfl 6 (by decide) (hts _ (List.mem_of_getElem? (i := 1) rfl)) (fun _ h9 => h9) rfl dX7_findKnown_17 ?_
    have hc9 := (w_Names5_find l D ad na nan nac nact nacf tkc hnan)
    refine z_calli (w0 := [(na, .inr (2, [.ref nac, .int nan])), (nac, .inl (nact, 5, .inr (.inl nacf)))]) (wr := [(tk, .inr (7, [.ref ta, .int tkm, .int tkb, .int tkk, .int tka, .int tkv, .long tkc, .ref (ad tkw), .int tkf, .int tkg])), (ta, .inr (6, [.ref tab, .int tan])), (tab, .inl (tabt, 940, .inl tabf))]) (va_runV (As := [.long tkc]) (rest := []) ⟨hx, hb, hml, hown, hts⟩ (hc9 _) (cwV 1 hts gX7_findKnown_X2_find rfl rfl rfl (by decide +kernel) ⟨Nat.le_of_ble_eq_true rfl, Nat.le_of_ble_eq_true rfl⟩) (z_preV hP hD hK hS hA hE hO [0, 1] [1] rfl (by decide +kernel) rfl 0 2 rfl rfl rfl) rfl rfl hl.1 rfl (lv_room (Nat.le_of_ble_eq_true rfl)) dX7_findKnown_20 ⟨Nat.le_of_ble_eq_true rfl, Nat.le_of_ble_eq_true rfl⟩) hP hD hK hS hA [0, 1] [2, 3, 4] rfl rfl (by decide +kernel) (by decide +kernel) (fun y_7 u9 H locs hw hP hD hK hS => ?_)
    obtain ⟨h_8, h_9, h_10, rfl⟩ := hw
    have hP : va_P D vwCl [(tk, .inr (7, [.ref ta, .int tkm, .int tkb, .int tkk, .int tka, .int tkv, .long tkc, .ref (ad tkw), .int tkf, .int tkg])), (ta, .inr (6, [.ref tab, .int tan])), (tab, .inl (tabt, 940, .inl tabf)), (na, .inr (2, [.ref nac, .int nan])), (nac, .inl (nact, 5, .inr (.inl nacf)))] H := hP
    have hD : va_D A [(tk, .inr (7, [.ref ta, .int tkm, .int tkb, .int tkk, .int tka, .int tkv, .long tkc, .ref (ad tkw), .int tkf, .int tkg])), (ta, .inr (6, [.ref tab, .int tan])), (tab, .inl (tabt, 940, .inl tabf)), (na, .inr (2, [.ref nac, .int nan])), (nac, .inl (nact, 5, .inr (.inl nacf)))] := hD
    have hK : va_K D vwCl [(tabt, .byte), (nact, .long)] s := hK
    refine W.cs (cells' := 0) (slots' := 0) rfl rfl ?_
    refine W.eq (g2 := F0 m 23 ls (.int y_7 :: [])) rfl ?_
    refine lv_istore_n (lv' := [(2, .int y_7), (0, .ref tk), (1, .ref na)]) hx hb dX7_findKnown_23 rfl hl (by decide) rfl (fun ls hl => ?_)
    refine lv_iload_n hx hb dX7_findKnown_24 rfl (lv_at hl 0 rfl) ?_
    refine lv_iconst (v := (-1)) hx hb dX7_findKnown_25 (by decide) ?_
    refine lv_icmp_ne (tgt := 35) hx hb dX7_findKnown_26 (by decide) (fun c_11 => ?_) (fun c_11 => ?_)
    · skip
      have h_12 : z_in 0 4 y_7 := z_neLo c_11 h_8 (z_lit (x := (-1)) (a := (-1)) (b := (-1)) rfl) rfl
      have h_13 : z_in 1 5 nan := z_both hnan (h_9 (Int.le_trans (by decide) h_12.1)) rfl
      refine lv_iload_n hx hb dX7_findKnown_35 rfl (lv_at hl 0 rfl) ?_
      exact hret y_7 ([(tk, .inr (7, [.ref ta, .int tkm, .int tkb, .int tkk, .int tka, .int tkv, .long tkc, .ref (ad tkw), .int tkf, .int tkg])), (ta, .inr (6, [.ref tab, .int tan])), (tab, .inl (tabt, 940, .inl tabf)), (na, .inr (2, [.ref nac, .int nan])), (nac, .inl (nact, 5, .inr (.inl nacf)))], []) _ _ _ _ dX7_findKnown_36 rfl ⟨tkf, tkg, (z_w (c := (-1)) (d := 4) h_12 rfl), (fun _ => h_6), (fun _ => h_13), rfl⟩ hP (hK.sub [] rfl) hD hS
    · skip
      have h_14 : z_in (-1) (-1) y_7 := z_leL (Int32.le_of_eq c_11) h_8 (z_lit (x := (-1)) (a := (-1)) (b := (-1)) rfl) rfl
      refine lv_aload_n hx hb dX7_findKnown_29 rfl (lv_at hl 1 rfl) ?_
      refine lv_iconst (v := 3) hx hb dX7_findKnown_30 (by decide) ?_
      have hc9 := (w_Tokens_fails l D ad tk tkm tkb tkk tka tkv tkc tkf tkg tkw ta tan tab tabt tabf 3 htkm htkb (z_w (c := 0) (d := 4) h_6 rfl) htkw htan httk)
      refine z_calli (w0 := [(tk, .inr (7, [.ref ta, .int tkm, .int tkb, .int tkk, .int tka, .int tkv, .long tkc, .ref (ad tkw), .int tkf, .int tkg])), (ta, .inr (6, [.ref tab, .int tan])), (tab, .inl (tabt, 940, .inl tabf))]) (wr := [(na, .inr (2, [.ref nac, .int nan])), (nac, .inl (nact, 5, .inr (.inl nacf)))]) (va_runV (As := [.int 3]) (rest := []) ⟨hx, hb, hml, hown, hts⟩ (hc9 _) (cwV 1 hts gX7_findKnown_X7_fails rfl rfl rfl (by decide +kernel) ⟨Nat.le_of_ble_eq_true rfl, Nat.le_of_ble_eq_true rfl⟩) (z_preV hP hD hK hS hA hE hO [0, 1, 2] [0] rfl (by decide +kernel) rfl 0 7 rfl rfl rfl) rfl rfl hl.1 rfl (lv_room (Nat.le_of_ble_eq_true rfl)) dX7_findKnown_31 ⟨Nat.le_of_ble_eq_true rfl, Nat.le_of_ble_eq_true rfl⟩) hP hD hK hS hA [0, 1, 2] [3, 4] rfl rfl (by decide +kernel) (by decide +kernel) (fun y_15 u9 H locs hw hP hD hK hS => ?_)
      obtain ⟨x_16, x_17, h_18, rfl⟩ := hw
      have hP : va_P D vwCl [(na, .inr (2, [.ref nac, .int nan])), (nac, .inl (nact, 5, .inr (.inl nacf))), (tk, .inr (7, [.ref ta, .int tkm, .int tkb, .int tkk, .int tka, .int tkv, .long tkc, .ref (ad tkw), .int x_16, .int x_17])), (ta, .inr (6, [.ref tab, .int tan])), (tab, .inl (tabt, 940, .inl tabf))] H := hP
      have hD : va_D A [(na, .inr (2, [.ref nac, .int nan])), (nac, .inl (nact, 5, .inr (.inl nacf))), (tk, .inr (7, [.ref ta, .int tkm, .int tkb, .int tkk, .int tka, .int tkv, .long tkc, .ref (ad tkw), .int x_16, .int x_17])), (ta, .inr (6, [.ref tab, .int tan])), (tab, .inl (tabt, 940, .inl tabf))] := hD
      have hK : va_K D vwCl [(tabt, .byte), (nact, .long)] s := hK
      refine W.cs (cells' := 0) (slots' := 0) rfl rfl ?_
      refine W.eq (g2 := F0 m 34 ls (.int y_15 :: [])) rfl ?_
      refine lv_pop hx hb dX7_findKnown_34 rfl ?_
      refine lv_iload_n hx hb dX7_findKnown_35 rfl (lv_at hl 0 rfl) ?_
      exact hret y_7 ([(tk, .inr (7, [.ref ta, .int tkm, .int tkb, .int tkk, .int tka, .int tkv, .long tkc, .ref (ad tkw), .int x_16, .int x_17])), (ta, .inr (6, [.ref tab, .int tan])), (tab, .inl (tabt, 940, .inl tabf)), (na, .inr (2, [.ref nac, .int nan])), (nac, .inl (nact, 5, .inr (.inl nacf)))], []) _ _ _ _ dX7_findKnown_36 rfl ⟨x_16, x_17, (z_w (c := (-1)) (d := 4) h_14 rfl), (fun h9 => absurd (Int.le_trans h9 h_14.2) (by decide)), (fun h9 => absurd (Int.le_trans h9 h_14.2) (by decide)), rfl⟩ (hP.sub [2, 3, 4, 0, 1] rfl) (hK.sub [] rfl) (hD.sub [2, 3, 4, 0, 1] (by decide +kernel) rfl) hS
  · skip
    have h_19 : z_in 0 0 y_1 := z_leL (Int32.le_of_eq c_4) h_2 (z_lit (x := 0) (a := 0) (b := 0) rfl) rfl
    refine lv_aload_n hx hb dX7_findKnown_7 rfl (lv_at hl 0 rfl) ?_
    refine lv_iconst (v := 1) hx hb dX7_findKnown_8 (by decide) ?_
    have hc9 := (w_Tokens_fails l D ad tk tkm tkb tkk tka tkv tkc tkf tkg tkw ta tan tab tabt tabf 1 htkm htkb htkk htkw htan httk)
    refine z_calli (w0 := [(tk, .inr (7, [.ref ta, .int tkm, .int tkb, .int tkk, .int tka, .int tkv, .long tkc, .ref (ad tkw), .int tkf, .int tkg])), (ta, .inr (6, [.ref tab, .int tan])), (tab, .inl (tabt, 940, .inl tabf))]) (wr := [(na, .inr (2, [.ref nac, .int nan])), (nac, .inl (nact, 5, .inr (.inl nacf)))]) (va_runV (As := [.int 1]) (rest := []) ⟨hx, hb, hml, hown, hts⟩ (hc9 _) (cwV 1 hts gX7_findKnown_X7_fails rfl rfl rfl (by decide +kernel) ⟨Nat.le_of_ble_eq_true rfl, Nat.le_of_ble_eq_true rfl⟩) (z_preV hP hD hK hS hA hE hO [2, 3, 4] [0] rfl (by decide +kernel) rfl 2 7 rfl rfl rfl) rfl rfl hl.1 rfl (lv_room (Nat.le_of_ble_eq_true rfl)) dX7_findKnown_9 ⟨Nat.le_of_ble_eq_true rfl, Nat.le_of_ble_eq_true rfl⟩) hP hD hK hS hA [2, 3, 4] [0, 1] rfl rfl (by decide +kernel) (by decide +kernel) (fun y_20 u9 H locs hw hP hD hK hS => ?_)
    obtain ⟨x_21, x_22, h_23, rfl⟩ := hw
    have hP : va_P D vwCl [(na, .inr (2, [.ref nac, .int nan])), (nac, .inl (nact, 5, .inr (.inl nacf))), (tk, .inr (7, [.ref ta, .int tkm, .int tkb, .int tkk, .int tka, .int tkv, .long tkc, .ref (ad tkw), .int x_21, .int x_22])), (ta, .inr (6, [.ref tab, .int tan])), (tab, .inl (tabt, 940, .inl tabf))] H := hP
    have hD : va_D A [(na, .inr (2, [.ref nac, .int nan])), (nac, .inl (nact, 5, .inr (.inl nacf))), (tk, .inr (7, [.ref ta, .int tkm, .int tkb, .int tkk, .int tka, .int tkv, .long tkc, .ref (ad tkw), .int x_21, .int x_22])), (ta, .inr (6, [.ref tab, .int tan])), (tab, .inl (tabt, 940, .inl tabf))] := hD
    have hK : va_K D vwCl [(tabt, .byte), (nact, .long)] s := hK
    refine W.cs (cells' := 0) (slots' := 0) rfl rfl ?_
    refine W.eq (g2 := F0 m 12 ls (.int y_20 :: [])) rfl ?_
    refine lv_pop hx hb dX7_findKnown_12 rfl ?_
    refine lv_iconst (v := (-1)) hx hb dX7_findKnown_13 (by decide) ?_
    exact hret (-1) ([(tk, .inr (7, [.ref ta, .int tkm, .int tkb, .int tkk, .int tka, .int tkv, .long tkc, .ref (ad tkw), .int x_21, .int x_22])), (ta, .inr (6, [.ref tab, .int tan])), (tab, .inl (tabt, 940, .inl tabf)), (na, .inr (2, [.ref nac, .int nan])), (nac, .inl (nact, 5, .inr (.inl nacf)))], []) _ _ _ _ dX7_findKnown_14 rfl ⟨x_21, x_22, (z_w (c := (-1)) (d := 4) (z_lit (x := (-1)) (a := (-1)) (b := (-1)) rfl) rfl), (fun h9 => absurd (Int.le_trans h9 (z_lit (x := (-1)) (a := (-1)) (b := (-1)) rfl).2) (by decide)), (fun h9 => absurd (Int.le_trans h9 (z_lit (x := (-1)) (a := (-1)) (b := (-1)) rfl).2) (by decide)), rfl⟩ (hP.sub [2, 3, 4, 0, 1] rfl) (hK.sub [] rfl) (hD.sub [2, 3, 4, 0, 1] (by decide +kernel) rfl) hS

set_option maxHeartbeats 8000000 in
set_option maxRecDepth 100000 in
theorem w_Tokens_passKnown5 (l : Launch) (D : va_G) (ad : Nat → Nat) (tk : Nat) (tkm : Int32) (tkb : Int32) (tkk : Int32) (tka : Int32) (tkv : Int32) (tkc : Int64) (tkf : Int32) (tkg : Int32) (tkw : Nat) (ta : Nat) (tan : Int32) (tab : Nat) (tabt : ClassId) (tabf : Nat → Int32) (na : Nat) (nan : Int32) (nac : Nat) (nact : ClassId) (nacf : Nat → Int64) (htkm : z_in 0 940 tkm) (htkb : z_in 0 940 tkb) (htkk : z_in 0 4 tkk) (htkw : tkw < 22) (htan : z_in 0 940 tan) (hnan : z_in 0 5 nan) (httk : z_tk tkk tkw) : z_Mi l yX7_passKnown wsX7_passKnown { frames := 3, cells := 0, slots := 0, locals := 66 } D ad [.ref tk, .ref na] [(tk, .inr (7, [.ref ta, .int tkm, .int tkb, .int tkk, .int tka, .int tkv, .long tkc, .ref (ad tkw), .int tkf, .int tkg])), (ta, .inr (6, [.ref tab, .int tan])), (tab, .inl (tabt, 940, .inl tabf)), (na, .inr (2, [.ref nac, .int nan])), (nac, .inl (nact, 5, .inr (.inl nacf)))] [(tabt, .byte), (nact, .long)] 0 0 (fun r9 u9 => ∃ (x0_2 : Int32) (x0_3 : Int32) (x0_4 : Int32) (x0_5 : Int32) (x0_6 : Int64) (x0_7 : Nat) (x0_8 : Int32) (x0_9 : Int32), z_in 0 940 x0_2 ∧ z_in 0 4 x0_3 ∧ x0_7 < 22 ∧ z_in (-1) 4 r9 ∧ (0 ≤ r9.toInt → z_in 4 4 tkk) ∧ (0 ≤ r9.toInt → z_in 1 5 nan) ∧ z_tk x0_3 x0_7 ∧ u9 = ([(tk, .inr (7, [.ref ta, .int tkm, .int x0_2, .int x0_3, .int x0_4, .int x0_5, .long x0_6, .ref (ad x0_7), .int x0_8, .int x0_9])), (ta, .inr (6, [.ref tab, .int tan])), (tab, .inl (tabt, 940, .inl tabf)), (na, .inr (2, [.ref nac, .int nan])), (nac, .inl (nact, 5, .inr (.inl nacf)))], [])) := by
  refine z_ofI (cc := cX7_passKnown) (maxL := 3) (rt := .int) (by decide) rfl (Nat.le_of_ble_eq_true rfl) ?_
  intro p e s m below meth c Q A ls hx hb hml hown hts hin hK hP hD hA hE hO hS hl hret
  have hown : s.vm.findClass RX7 = some m.cls := hown
  have hiX7 : ∀ w ∈ wsX70, w ∈ wsX7_passKnown := fun _ h9 => List.mem_cons_of_mem _ (List.mem_append_left _ (List.mem_append_left _ (List.mem_append_right _ h9)))
  have hiX2 : ∀ w ∈ wsX20, w ∈ wsX7_passKnown := fun _ h9 => List.mem_cons_of_mem _ (List.mem_append_left _ (List.mem_append_right _ h9))
  have hiX6 : ∀ w ∈ wsX60, w ∈ wsX7_passKnown := fun _ h9 => List.mem_cons_of_mem _ (List.mem_append_right _ h9)
  have hl : lv_has ls 3 [(0, .ref tk), (1, .ref na)] := hl
  refine lv_aload_n hx hb dX7_passKnown_0 rfl (lv_at hl 0 rfl) ?_
  refine lv_aload_n hx hb dX7_passKnown_1 rfl (lv_at hl 1 rfl) ?_
  have hc9 := (w_Tokens_findKnown5 l D ad tk tkm tkb tkk tka tkv tkc tkf tkg tkw ta tan tab tabt tabf na nan nac nact nacf htkm htkb htkk htkw htan hnan httk)
  refine z_calli (w0 := [(tk, .inr (7, [.ref ta, .int tkm, .int tkb, .int tkk, .int tka, .int tkv, .long tkc, .ref (ad tkw), .int tkf, .int tkg])), (ta, .inr (6, [.ref tab, .int tan])), (tab, .inl (tabt, 940, .inl tabf)), (na, .inr (2, [.ref nac, .int nan])), (nac, .inl (nact, 5, .inr (.inl nacf)))]) (wr := []) (va_runV (As := [.ref na]) (rest := []) ⟨hx, hb, hml, hown, hts⟩ (hc9 _) (cwV 1 hts gX7_passKnown_X7_findKnown rfl rfl rfl (by decide +kernel) ⟨Nat.le_of_ble_eq_true rfl, Nat.le_of_ble_eq_true rfl⟩) (z_preV hP hD hK hS hA hE hO [0, 1, 2, 3, 4] [0, 1] rfl (by decide +kernel) rfl 0 7 rfl rfl rfl) rfl rfl hl.1 rfl (lv_room (Nat.le_of_ble_eq_true rfl)) dX7_passKnown_2 ⟨Nat.le_of_ble_eq_true rfl, Nat.le_of_ble_eq_true rfl⟩) hP hD hK hS hA [0, 1, 2, 3, 4] [] rfl rfl (by decide +kernel) (by decide +kernel) (fun y_1 u9 H locs hw hP hD hK hS => ?_)
  obtain ⟨x_2, x_3, h_4, h_5, h_6, rfl⟩ := hw
  have hP : va_P D vwCl [(tk, .inr (7, [.ref ta, .int tkm, .int tkb, .int tkk, .int tka, .int tkv, .long tkc, .ref (ad tkw), .int x_2, .int x_3])), (ta, .inr (6, [.ref tab, .int tan])), (tab, .inl (tabt, 940, .inl tabf)), (na, .inr (2, [.ref nac, .int nan])), (nac, .inl (nact, 5, .inr (.inl nacf)))] H := hP
  have hD : va_D A [(tk, .inr (7, [.ref ta, .int tkm, .int tkb, .int tkk, .int tka, .int tkv, .long tkc, .ref (ad tkw), .int x_2, .int x_3])), (ta, .inr (6, [.ref tab, .int tan])), (tab, .inl (tabt, 940, .inl tabf)), (na, .inr (2, [.ref nac, .int nan])), (nac, .inl (nact, 5, .inr (.inl nacf)))] := hD
  have hK : va_K D vwCl [(tabt, .byte), (nact, .long)] s := hK
  refine W.cs (cells' := 0) (slots' := 0) rfl rfl ?_
  refine W.eq (g2 := F0 m 5 ls (.int y_1 :: [])) rfl ?_
  refine lv_istore_n (lv' := [(2, .int y_1), (0, .ref tk), (1, .ref na)]) hx hb dX7_passKnown_5 rfl hl (by decide) rfl (fun ls hl => ?_)
  refine lv_iload_n hx hb dX7_passKnown_6 rfl (lv_at hl 0 rfl) ?_
  refine lv_iconst (v := (-1)) hx hb dX7_passKnown_7 (by decide) ?_
  refine lv_icmp_eq (tgt := 15) hx hb dX7_passKnown_8 (by decide) (fun c_7 => ?_) (fun c_7 => ?_)
  · skip
    have h_8 : z_in (-1) (-1) y_1 := z_leL (Int32.le_of_eq c_7) h_4 (z_lit (x := (-1)) (a := (-1)) (b := (-1)) rfl) rfl
    refine lv_iload_n hx hb dX7_passKnown_15 rfl (lv_at hl 0 rfl) ?_
    exact hret y_1 ([(tk, .inr (7, [.ref ta, .int tkm, .int tkb, .int tkk, .int tka, .int tkv, .long tkc, .ref (ad tkw), .int x_2, .int x_3])), (ta, .inr (6, [.ref tab, .int tan])), (tab, .inl (tabt, 940, .inl tabf)), (na, .inr (2, [.ref nac, .int nan])), (nac, .inl (nact, 5, .inr (.inl nacf)))], []) _ _ _ _ dX7_passKnown_16 rfl ⟨tkb, tkk, tka, tkv, tkc, tkw, x_2, x_3, htkb, htkk, htkw, (z_w (c := (-1)) (d := 4) h_8 rfl), (fun h9 => absurd (Int.le_trans h9 h_8.2) (by decide)), (fun h9 => absurd (Int.le_trans h9 h_8.2) (by decide)), httk, rfl⟩ hP (hK.sub [] rfl) hD hS
  · skip
    have h_9 : z_in 0 4 y_1 := z_neLo c_7 h_4 (z_lit (x := (-1)) (a := (-1)) (b := (-1)) rfl) rfl
    have h_10 : z_in 4 4 tkk := z_both htkk (h_5 (Int.le_trans (by decide) h_9.1)) rfl
    have h_11 : z_in 1 5 nan := z_both hnan (h_6 (Int.le_trans (by decide) h_9.1)) rfl
    refine lv_aload_n hx hb dX7_passKnown_11 rfl (lv_at hl 1 rfl) ?_
    have hc9 := (w_Tokens_advance l D ad tk tkm tkb tkk tka tkv tkc x_2 x_3 tkw ta tan tab tabt tabf htkm htkb (z_w (c := 0) (d := 4) h_10 rfl) htkw htan httk)
    refine z_callv (w0 := [(tk, .inr (7, [.ref ta, .int tkm, .int tkb, .int tkk, .int tka, .int tkv, .long tkc, .ref (ad tkw), .int x_2, .int x_3])), (ta, .inr (6, [.ref tab, .int tan])), (tab, .inl (tabt, 940, .inl tabf))]) (wr := [(na, .inr (2, [.ref nac, .int nan])), (nac, .inl (nact, 5, .inr (.inl nacf)))]) (va_runV (As := []) (rest := []) ⟨hx, hb, hml, hown, hts⟩ (hc9 _) (cwV 0 hts gX7_passKnown_X7_advance rfl rfl rfl (by decide +kernel) ⟨Nat.le_of_ble_eq_true rfl, Nat.le_of_ble_eq_true rfl⟩) (z_preV hP hD hK hS hA hE hO [0, 1, 2] [0] rfl (by decide +kernel) rfl 0 7 rfl rfl rfl) rfl rfl hl.1 rfl (lv_room (Nat.le_of_ble_eq_true rfl)) dX7_passKnown_12 ⟨Nat.le_of_ble_eq_true rfl, Nat.le_of_ble_eq_true rfl⟩) hP hD hK hS hA [0, 1, 2] [3, 4] rfl rfl (by decide +kernel) (by decide +kernel) (fun u9 H locs hw hP hD hK hS => ?_)
    refine z_ex6 hw (fun x_12 x_14 x_16 x_17 f_18 f_19 hw => ?_)
    refine z_an6 hw (fun h_13 h_15 h_20 h_21 h_22 h_23 hw => ?_)
    subst hw
    have hP : va_P D vwCl [(na, .inr (2, [.ref nac, .int nan])), (nac, .inl (nact, 5, .inr (.inl nacf))), (tk, .inr (7, [.ref ta, .int tkm, .int x_12, .int x_14, .int x_16, .int x_17, .long f_18, .ref (ad f_19), .int x_2, .int x_3])), (ta, .inr (6, [.ref tab, .int tan])), (tab, .inl (tabt, 940, .inl tabf))] H := hP
    have hD : va_D A [(na, .inr (2, [.ref nac, .int nan])), (nac, .inl (nact, 5, .inr (.inl nacf))), (tk, .inr (7, [.ref ta, .int tkm, .int x_12, .int x_14, .int x_16, .int x_17, .long f_18, .ref (ad f_19), .int x_2, .int x_3])), (ta, .inr (6, [.ref tab, .int tan])), (tab, .inl (tabt, 940, .inl tabf))] := hD
    have hK : va_K D vwCl [(tabt, .byte), (nact, .long)] s := hK
    refine W.cs (cells' := 0) (slots' := 0) rfl rfl ?_
    refine lv_iload_n hx hb dX7_passKnown_15 rfl (lv_at hl 0 rfl) ?_
    exact hret y_1 ([(tk, .inr (7, [.ref ta, .int tkm, .int x_12, .int x_14, .int x_16, .int x_17, .long f_18, .ref (ad f_19), .int x_2, .int x_3])), (ta, .inr (6, [.ref tab, .int tan])), (tab, .inl (tabt, 940, .inl tabf)), (na, .inr (2, [.ref nac, .int nan])), (nac, .inl (nact, 5, .inr (.inl nacf)))], []) _ _ _ _ dX7_passKnown_16 rfl ⟨x_12, x_14, x_16, x_17, f_18, f_19, x_2, x_3, h_13, h_15, h_20, (z_w (c := (-1)) (d := 4) h_9 rfl), (fun _ => h_10), (fun _ => h_11), h_21, rfl⟩ (hP.sub [2, 3, 4, 0, 1] rfl) (hK.sub [] rfl) (hD.sub [2, 3, 4, 0, 1] (by decide +kernel) rfl) hS

set_option maxHeartbeats 8000000 in
set_option maxRecDepth 100000 in
theorem s_Tokens_findKnown7 (l : Launch) (D : va_G) (ad : Nat → Nat) (tk : Nat) (tkm : Int32) (tkb : Int32) (tkk : Int32) (tka : Int32) (tkv : Int32) (tkc : Int64) (tkf : Int32) (tkg : Int32) (tkw : Nat) (ta : Nat) (tan : Int32) (tab : Nat) (tabt : ClassId) (tabf : Nat → Int32) (na : Nat) (nan : Int32) (nac : Nat) (nact : ClassId) (nacf : Nat → Int64) (htkm : z_in 0 940 tkm) (htkb : z_in 0 940 tkb) (htkk : z_in 0 4 tkk) (htkw : tkw < 22) (htan : z_in 0 940 tan) (hnan : z_in 0 7 nan) (httk : z_tk tkk tkw) (hctk : z_ctk z_cds tabf tan tkm tkk tka tkv tkc tkw tkb) (hf0 : z_z0 tkf) : z_Mi l yX7_findKnown wsX7_findKnown { frames := 1, cells := 0, slots := 0, locals := 23 } D ad [.ref tk, .ref na] [(tk, .inr (7, [.ref ta, .int tkm, .int tkb, .int tkk, .int tka, .int tkv, .long tkc, .ref (ad tkw), .int tkf, .int tkg])), (ta, .inr (6, [.ref tab, .int tan])), (tab, .inl (tabt, 940, .inl tabf)), (na, .inr (2, [.ref nac, .int nan])), (nac, .inl (nact, 7, .inr (.inl nacf)))] [(tabt, .byte), (nact, .long)] 0 0 (fun r9 u9 => ∃ (x0_8 : Int32) (x0_9 : Int32), z_in (-1) 6 r9 ∧ (0 ≤ r9.toInt → z_in 4 4 tkk) ∧ (0 ≤ r9.toInt → z_in 1 7 nan) ∧ z_Kc tabf tan tkm tka nacf nan r9 x0_8 x0_9 ∧ u9 = ([(tk, .inr (7, [.ref ta, .int tkm, .int tkb, .int tkk, .int tka, .int tkv, .long tkc, .ref (ad tkw), .int x0_8, .int x0_9])), (ta, .inr (6, [.ref tab, .int tan])), (tab, .inl (tabt, 940, .inl tabf)), (na, .inr (2, [.ref nac, .int nan])), (nac, .inl (nact, 7, .inr (.inl nacf)))], [])) := by
  refine z_ofI (cc := cX7_findKnown) (maxL := 3) (rt := .int) (by decide) rfl (Nat.le_of_ble_eq_true rfl) ?_
  intro p e s m below meth c Q A ls hx hb hml hown hts hin hK hP hD hA hE hO hS hl hret
  have hown : s.vm.findClass RX7 = some m.cls := hown
  have hiX7 : ∀ w ∈ wsX70, w ∈ wsX7_findKnown := fun _ h9 => List.mem_cons_of_mem _ (List.mem_append_left _ (List.mem_append_right _ h9))
  have hiX2 : ∀ w ∈ wsX20, w ∈ wsX7_findKnown := fun _ h9 => List.mem_cons_of_mem _ (List.mem_append_right _ h9)
  have hl : lv_has ls 3 [(0, .ref tk), (1, .ref na)] := hl
  refine lv_aload_n hx hb dX7_findKnown_0 rfl (lv_at hl 0 rfl) ?_
  have hc9 := (s_Tokens_isName l D ad tk tkm tkb tkk tka tkv tkc tkf tkg tkw ta tan tab tabt tabf htkm htkb htkk htkw htan httk hctk)
  refine z_calli (w0 := [(tk, .inr (7, [.ref ta, .int tkm, .int tkb, .int tkk, .int tka, .int tkv, .long tkc, .ref (ad tkw), .int tkf, .int tkg])), (ta, .inr (6, [.ref tab, .int tan])), (tab, .inl (tabt, 940, .inl tabf))]) (wr := [(na, .inr (2, [.ref nac, .int nan])), (nac, .inl (nact, 7, .inr (.inl nacf)))]) (va_runV (As := []) (rest := []) ⟨hx, hb, hml, hown, hts⟩ (hc9 _) (cwV 0 hts gX7_findKnown_X7_isName rfl rfl rfl (by decide +kernel) ⟨Nat.le_of_ble_eq_true rfl, Nat.le_of_ble_eq_true rfl⟩) (z_preV hP hD hK hS hA hE hO [0, 1, 2] [0] rfl (by decide +kernel) rfl 0 7 rfl rfl rfl) rfl rfl hl.1 rfl (lv_room (Nat.le_of_ble_eq_true rfl)) dX7_findKnown_1 ⟨Nat.le_of_ble_eq_true rfl, Nat.le_of_ble_eq_true rfl⟩) hP hD hK hS hA [0, 1, 2] [3, 4] rfl rfl (by decide +kernel) (by decide +kernel) (fun y_1 u9 H locs hw hP hD hK hS => ?_)
  obtain ⟨h_2, h_3, h_4, rfl⟩ := hw
  have hP : va_P D vwCl [(na, .inr (2, [.ref nac, .int nan])), (nac, .inl (nact, 7, .inr (.inl nacf))), (tk, .inr (7, [.ref ta, .int tkm, .int tkb, .int tkk, .int tka, .int tkv, .long tkc, .ref (ad tkw), .int tkf, .int tkg])), (ta, .inr (6, [.ref tab, .int tan])), (tab, .inl (tabt, 940, .inl tabf))] H := hP
  have hD : va_D A [(na, .inr (2, [.ref nac, .int nan])), (nac, .inl (nact, 7, .inr (.inl nacf))), (tk, .inr (7, [.ref ta, .int tkm, .int tkb, .int tkk, .int tka, .int tkv, .long tkc, .ref (ad tkw), .int tkf, .int tkg])), (ta, .inr (6, [.ref tab, .int tan])), (tab, .inl (tabt, 940, .inl tabf))] := hD
  have hK : va_K D vwCl [(tabt, .byte), (nact, .long)] s := hK
  refine W.cs (cells' := 0) (slots' := 0) rfl rfl ?_
  refine W.eq (g2 := F0 m 4 ls (.int y_1 :: [])) rfl ?_
  refine lv_if_ne (tgt := 15) hx hb dX7_findKnown_4 (by decide) (fun c_5 => ?_) (fun c_5 => ?_)
  · skip
    have h_6 : z_in 1 1 y_1 := z_neLo c_5 h_2 (z_lit (x := 0) (a := 0) (b := 0) rfl) rfl
    have h_7 : z_in 4 4 tkk := z_both htkk (h_3 (z_eqk h_6 rfl)) rfl
    refine lv_aload_n hx hb dX7_findKnown_15 rfl (lv_at hl 1 rfl) ?_
    refine lv_aload_n hx hb dX7_findKnown_16 rfl (lv_at hl 0 rfl) ?_
    refine va_get (D := D) (ci := 7) (v := .long tkc) (C := RX7) (T := TX7) (N := 10) hx hb hts hiX7 hown hK hP 2 rfl rfl 6 (by decide) (hts _ (List.mem_of_getElem? (i := 1) rfl)) (fun _ h9 => h9) rfl dX7_findKnown_17 ?_
    have hc9 := (w_Names7_find l D ad na nan nac nact nacf tkc hnan)
    refine z_calli (w0 := [(na, .inr (2, [.ref nac, .int nan])), (nac, .inl (nact, 7, .inr (.inl nacf)))]) (wr := [(tk, .inr (7, [.ref ta, .int tkm, .int tkb, .int tkk, .int tka, .int tkv, .long tkc, .ref (ad tkw), .int tkf, .int tkg])), (ta, .inr (6, [.ref tab, .int tan])), (tab, .inl (tabt, 940, .inl tabf))]) (va_runV (As := [.long tkc]) (rest := []) ⟨hx, hb, hml, hown, hts⟩ (hc9 _) (cwV 1 hts gX7_findKnown_X2_find rfl rfl rfl (by decide +kernel) ⟨Nat.le_of_ble_eq_true rfl, Nat.le_of_ble_eq_true rfl⟩) (z_preV hP hD hK hS hA hE hO [0, 1] [1] rfl (by decide +kernel) rfl 0 2 rfl rfl rfl) rfl rfl hl.1 rfl (lv_room (Nat.le_of_ble_eq_true rfl)) dX7_findKnown_20 ⟨Nat.le_of_ble_eq_true rfl, Nat.le_of_ble_eq_true rfl⟩) hP hD hK hS hA [0, 1] [2, 3, 4] rfl rfl (by decide +kernel) (by decide +kernel) (fun y_8 u9 H locs hw hP hD hK hS => ?_)
    obtain ⟨h_9, h_10, h_11, rfl⟩ := hw
    have hP : va_P D vwCl [(tk, .inr (7, [.ref ta, .int tkm, .int tkb, .int tkk, .int tka, .int tkv, .long tkc, .ref (ad tkw), .int tkf, .int tkg])), (ta, .inr (6, [.ref tab, .int tan])), (tab, .inl (tabt, 940, .inl tabf)), (na, .inr (2, [.ref nac, .int nan])), (nac, .inl (nact, 7, .inr (.inl nacf)))] H := hP
    have hD : va_D A [(tk, .inr (7, [.ref ta, .int tkm, .int tkb, .int tkk, .int tka, .int tkv, .long tkc, .ref (ad tkw), .int tkf, .int tkg])), (ta, .inr (6, [.ref tab, .int tan])), (tab, .inl (tabt, 940, .inl tabf)), (na, .inr (2, [.ref nac, .int nan])), (nac, .inl (nact, 7, .inr (.inl nacf)))] := hD
    have hK : va_K D vwCl [(tabt, .byte), (nact, .long)] s := hK
    refine W.cs (cells' := 0) (slots' := 0) rfl rfl ?_
    refine W.eq (g2 := F0 m 23 ls (.int y_8 :: [])) rfl ?_
    refine lv_istore_n (lv' := [(2, .int y_8), (0, .ref tk), (1, .ref na)]) hx hb dX7_findKnown_23 rfl hl (by decide) rfl (fun ls hl => ?_)
    refine lv_iload_n hx hb dX7_findKnown_24 rfl (lv_at hl 0 rfl) ?_
    refine lv_iconst (v := (-1)) hx hb dX7_findKnown_25 (by decide) ?_
    refine lv_icmp_ne (tgt := 35) hx hb dX7_findKnown_26 (by decide) (fun c_12 => ?_) (fun c_12 => ?_)
    · skip
      have h_13 : z_in 0 6 y_8 := z_neLo c_12 h_9 (z_lit (x := (-1)) (a := (-1)) (b := (-1)) rfl) rfl
      have h_14 : z_in 1 7 nan := z_both hnan (h_10 (Int.le_trans (by decide) h_13.1)) rfl
      refine lv_iload_n hx hb dX7_findKnown_35 rfl (lv_at hl 0 rfl) ?_
      exact hret y_8 ([(tk, .inr (7, [.ref ta, .int tkm, .int tkb, .int tkk, .int tka, .int tkv, .long tkc, .ref (ad tkw), .int tkf, .int tkg])), (ta, .inr (6, [.ref tab, .int tan])), (tab, .inl (tabt, 940, .inl tabf)), (na, .inr (2, [.ref nac, .int nan])), (nac, .inl (nact, 7, .inr (.inl nacf)))], []) _ _ _ _ dX7_findKnown_36 rfl ⟨tkf, tkg, (z_w (c := (-1)) (d := 6) h_13 rfl), (fun _ => h_7), (fun _ => h_14), (z_Kc0 h_4 (z_eqk h_6 rfl) h_11 c_12 hf0), rfl⟩ hP (hK.sub [] rfl) hD hS
    · skip
      have h_15 : z_in (-1) (-1) y_8 := z_leL (Int32.le_of_eq c_12) h_9 (z_lit (x := (-1)) (a := (-1)) (b := (-1)) rfl) rfl
      refine lv_aload_n hx hb dX7_findKnown_29 rfl (lv_at hl 1 rfl) ?_
      refine lv_iconst (v := 3) hx hb dX7_findKnown_30 (by decide) ?_
      have hc9 := (s_Tokens_fails l D ad tk tkm tkb tkk tka tkv tkc tkf tkg tkw ta tan tab tabt tabf 3 htkm htkb (z_w (c := 0) (d := 4) h_7 rfl) htkw htan httk hctk hf0)
      refine z_calli (w0 := [(tk, .inr (7, [.ref ta, .int tkm, .int tkb, .int tkk, .int tka, .int tkv, .long tkc, .ref (ad tkw), .int tkf, .int tkg])), (ta, .inr (6, [.ref tab, .int tan])), (tab, .inl (tabt, 940, .inl tabf))]) (wr := [(na, .inr (2, [.ref nac, .int nan])), (nac, .inl (nact, 7, .inr (.inl nacf)))]) (va_runV (As := [.int 3]) (rest := []) ⟨hx, hb, hml, hown, hts⟩ (hc9 _) (cwV 1 hts gX7_findKnown_X7_fails rfl rfl rfl (by decide +kernel) ⟨Nat.le_of_ble_eq_true rfl, Nat.le_of_ble_eq_true rfl⟩) (z_preV hP hD hK hS hA hE hO [0, 1, 2] [0] rfl (by decide +kernel) rfl 0 7 rfl rfl rfl) rfl rfl hl.1 rfl (lv_room (Nat.le_of_ble_eq_true rfl)) dX7_findKnown_31 ⟨Nat.le_of_ble_eq_true rfl, Nat.le_of_ble_eq_true rfl⟩) hP hD hK hS hA [0, 1, 2] [3, 4] rfl rfl (by decide +kernel) (by decide +kernel) (fun y_16 u9 H locs hw hP hD hK hS => ?_)
      obtain ⟨x_17, x_18, h_19, h_20, rfl⟩ := hw
      have hP : va_P D vwCl [(na, .inr (2, [.ref nac, .int nan])), (nac, .inl (nact, 7, .inr (.inl nacf))), (tk, .inr (7, [.ref ta, .int tkm, .int tkb, .int tkk, .int tka, .int tkv, .long tkc, .ref (ad tkw), .int x_17, .int x_18])), (ta, .inr (6, [.ref tab, .int tan])), (tab, .inl (tabt, 940, .inl tabf))] H := hP
      have hD : va_D A [(na, .inr (2, [.ref nac, .int nan])), (nac, .inl (nact, 7, .inr (.inl nacf))), (tk, .inr (7, [.ref ta, .int tkm, .int tkb, .int tkk, .int tka, .int tkv, .long tkc, .ref (ad tkw), .int x_17, .int x_18])), (ta, .inr (6, [.ref tab, .int tan])), (tab, .inl (tabt, 940, .inl tabf))] := hD
      have hK : va_K D vwCl [(tabt, .byte), (nact, .long)] s := hK
      refine W.cs (cells' := 0) (slots' := 0) rfl rfl ?_
      refine W.eq (g2 := F0 m 34 ls (.int y_16 :: [])) rfl ?_
      refine lv_pop hx hb dX7_findKnown_34 rfl ?_
      refine lv_iload_n hx hb dX7_findKnown_35 rfl (lv_at hl 0 rfl) ?_
      exact hret y_8 ([(tk, .inr (7, [.ref ta, .int tkm, .int tkb, .int tkk, .int tka, .int tkv, .long tkc, .ref (ad tkw), .int x_17, .int x_18])), (ta, .inr (6, [.ref tab, .int tan])), (tab, .inl (tabt, 940, .inl tabf)), (na, .inr (2, [.ref nac, .int nan])), (nac, .inl (nact, 7, .inr (.inl nacf)))], []) _ _ _ _ dX7_findKnown_36 rfl ⟨x_17, x_18, (z_w (c := (-1)) (d := 6) h_15 rfl), (fun h9 => absurd (Int.le_trans h9 h_15.2) (by decide)), (fun h9 => absurd (Int.le_trans h9 h_15.2) (by decide)), (z_Kc3 h_4 (z_eqk h_6 rfl) h_11 (z_eqk h_15 rfl) h_20), rfl⟩ (hP.sub [2, 3, 4, 0, 1] rfl) (hK.sub [] rfl) (hD.sub [2, 3, 4, 0, 1] (by decide +kernel) rfl) hS
  · skip
    have h_21 : z_in 0 0 y_1 := z_leL (Int32.le_of_eq c_5) h_2 (z_lit (x := 0) (a := 0) (b := 0) rfl) rfl
    refine lv_aload_n hx hb dX7_findKnown_7 rfl (lv_at hl 0 rfl) ?_
    refine lv_iconst (v := 1) hx hb dX7_findKnown_8 (by decide) ?_
    have hc9 := (s_Tokens_fails l D ad tk tkm tkb tkk tka tkv tkc tkf tkg tkw ta tan tab tabt tabf 1 htkm htkb htkk htkw htan httk hctk hf0)
    refine z_calli (w0 := [(tk, .inr (7, [.ref ta, .int tkm, .int tkb, .int tkk, .int tka, .int tkv, .long tkc, .ref (ad tkw), .int tkf, .int tkg])), (ta, .inr (6, [.ref tab, .int tan])), (tab, .inl (tabt, 940, .inl tabf))]) (wr := [(na, .inr (2, [.ref nac, .int nan])), (nac, .inl (nact, 7, .inr (.inl nacf)))]) (va_runV (As := [.int 1]) (rest := []) ⟨hx, hb, hml, hown, hts⟩ (hc9 _) (cwV 1 hts gX7_findKnown_X7_fails rfl rfl rfl (by decide +kernel) ⟨Nat.le_of_ble_eq_true rfl, Nat.le_of_ble_eq_true rfl⟩) (z_preV hP hD hK hS hA hE hO [2, 3, 4] [0] rfl (by decide +kernel) rfl 2 7 rfl rfl rfl) rfl rfl hl.1 rfl (lv_room (Nat.le_of_ble_eq_true rfl)) dX7_findKnown_9 ⟨Nat.le_of_ble_eq_true rfl, Nat.le_of_ble_eq_true rfl⟩) hP hD hK hS hA [2, 3, 4] [0, 1] rfl rfl (by decide +kernel) (by decide +kernel) (fun y_22 u9 H locs hw hP hD hK hS => ?_)
    obtain ⟨x_23, x_24, h_25, h_26, rfl⟩ := hw
    have hP : va_P D vwCl [(na, .inr (2, [.ref nac, .int nan])), (nac, .inl (nact, 7, .inr (.inl nacf))), (tk, .inr (7, [.ref ta, .int tkm, .int tkb, .int tkk, .int tka, .int tkv, .long tkc, .ref (ad tkw), .int x_23, .int x_24])), (ta, .inr (6, [.ref tab, .int tan])), (tab, .inl (tabt, 940, .inl tabf))] H := hP
    have hD : va_D A [(na, .inr (2, [.ref nac, .int nan])), (nac, .inl (nact, 7, .inr (.inl nacf))), (tk, .inr (7, [.ref ta, .int tkm, .int tkb, .int tkk, .int tka, .int tkv, .long tkc, .ref (ad tkw), .int x_23, .int x_24])), (ta, .inr (6, [.ref tab, .int tan])), (tab, .inl (tabt, 940, .inl tabf))] := hD
    have hK : va_K D vwCl [(tabt, .byte), (nact, .long)] s := hK
    refine W.cs (cells' := 0) (slots' := 0) rfl rfl ?_
    refine W.eq (g2 := F0 m 12 ls (.int y_22 :: [])) rfl ?_
    refine lv_pop hx hb dX7_findKnown_12 rfl ?_
    refine lv_iconst (v := (-1)) hx hb dX7_findKnown_13 (by decide) ?_
    exact hret (-1) ([(tk, .inr (7, [.ref ta, .int tkm, .int tkb, .int tkk, .int tka, .int tkv, .long tkc, .ref (ad tkw), .int x_23, .int x_24])), (ta, .inr (6, [.ref tab, .int tan])), (tab, .inl (tabt, 940, .inl tabf)), (na, .inr (2, [.ref nac, .int nan])), (nac, .inl (nact, 7, .inr (.inl nacf)))], []) _ _ _ _ dX7_findKnown_14 rfl ⟨x_23, x_24, (z_w (c := (-1)) (d := 6) (z_lit (x := (-1)) (a := (-1)) (b := (-1)) rfl) rfl), (fun h9 => absurd (Int.le_trans h9 (z_lit (x := (-1)) (a := (-1)) (b := (-1)) rfl).2) (by decide)), (fun h9 => absurd (Int.le_trans h9 (z_lit (x := (-1)) (a := (-1)) (b := (-1)) rfl).2) (by decide)), (z_Kc1 h_4 (z_eqk h_21 rfl) h_26), rfl⟩ (hP.sub [2, 3, 4, 0, 1] rfl) (hK.sub [] rfl) (hD.sub [2, 3, 4, 0, 1] (by decide +kernel) rfl) hS

set_option maxHeartbeats 8000000 in
set_option maxRecDepth 100000 in
theorem s_Tokens_passKnown7 (l : Launch) (D : va_G) (ad : Nat → Nat) (tk : Nat) (tkm : Int32) (tkb : Int32) (tkk : Int32) (tka : Int32) (tkv : Int32) (tkc : Int64) (tkf : Int32) (tkg : Int32) (tkw : Nat) (ta : Nat) (tan : Int32) (tab : Nat) (tabt : ClassId) (tabf : Nat → Int32) (na : Nat) (nan : Int32) (nac : Nat) (nact : ClassId) (nacf : Nat → Int64) (htkm : z_in 0 940 tkm) (htkb : z_in 0 940 tkb) (htkk : z_in 0 4 tkk) (htkw : tkw < 22) (htan : z_in 0 940 tan) (hnan : z_in 0 7 nan) (httk : z_tk tkk tkw) (hctk : z_ctk z_cds tabf tan tkm tkk tka tkv tkc tkw tkb) (hf0 : z_z0 tkf) : z_Mi l yX7_passKnown wsX7_passKnown { frames := 3, cells := 0, slots := 0, locals := 66 } D ad [.ref tk, .ref na] [(tk, .inr (7, [.ref ta, .int tkm, .int tkb, .int tkk, .int tka, .int tkv, .long tkc, .ref (ad tkw), .int tkf, .int tkg])), (ta, .inr (6, [.ref tab, .int tan])), (tab, .inl (tabt, 940, .inl tabf)), (na, .inr (2, [.ref nac, .int nan])), (nac, .inl (nact, 7, .inr (.inl nacf)))] [(tabt, .byte), (nact, .long)] 0 0 (fun r9 u9 => ∃ (x0_2 : Int32) (x0_3 : Int32) (x0_4 : Int32) (x0_5 : Int32) (x0_6 : Int64) (x0_7 : Nat) (x0_8 : Int32) (x0_9 : Int32), z_in 0 940 x0_2 ∧ z_in 0 4 x0_3 ∧ x0_7 < 22 ∧ z_in (-1) 6 r9 ∧ (0 ≤ r9.toInt → z_in 4 4 tkk) ∧ (0 ≤ r9.toInt → z_in 1 7 nan) ∧ z_tk x0_3 x0_7 ∧ z_ctk z_cds tabf tan tkm x0_3 x0_4 x0_5 x0_6 x0_7 x0_2 ∧ z_Pk tabf tan tkm tka nacf nan r9 x0_4 x0_8 x0_9 ∧ u9 = ([(tk, .inr (7, [.ref ta, .int tkm, .int x0_2, .int x0_3, .int x0_4, .int x0_5, .long x0_6, .ref (ad x0_7), .int x0_8, .int x0_9])), (ta, .inr (6, [.ref tab, .int tan])), (tab, .inl (tabt, 940, .inl tabf)), (na, .inr (2, [.ref nac, .int nan])), (nac, .inl (nact, 7, .inr (.inl nacf)))], [])) := by
  refine z_ofI (cc := cX7_passKnown) (maxL := 3) (rt := .int) (by decide) rfl (Nat.le_of_ble_eq_true rfl) ?_
  intro p e s m below meth c Q A ls hx hb hml hown hts hin hK hP hD hA hE hO hS hl hret
  have hown : s.vm.findClass RX7 = some m.cls := hown
  have hiX7 : ∀ w ∈ wsX70, w ∈ wsX7_passKnown := fun _ h9 => List.mem_cons_of_mem _ (List.mem_append_left _ (List.mem_append_left _ (List.mem_append_right _ h9)))
  have hiX2 : ∀ w ∈ wsX20, w ∈ wsX7_passKnown := fun _ h9 => List.mem_cons_of_mem _ (List.mem_append_left _ (List.mem_append_right _ h9))
  have hiX6 : ∀ w ∈ wsX60, w ∈ wsX7_passKnown := fun _ h9 => List.mem_cons_of_mem _ (List.mem_append_right _ h9)
  have hl : lv_has ls 3 [(0, .ref tk), (1, .ref na)] := hl
  refine lv_aload_n hx hb dX7_passKnown_0 rfl (lv_at hl 0 rfl) ?_
  refine lv_aload_n hx hb dX7_passKnown_1 rfl (lv_at hl 1 rfl) ?_
  have hc9 := (s_Tokens_findKnown7 l D ad tk tkm tkb tkk tka tkv tkc tkf tkg tkw ta tan tab tabt tabf na nan nac nact nacf htkm htkb htkk htkw htan hnan httk hctk hf0)
  refine z_calli (w0 := [(tk, .inr (7, [.ref ta, .int tkm, .int tkb, .int tkk, .int tka, .int tkv, .long tkc, .ref (ad tkw), .int tkf, .int tkg])), (ta, .inr (6, [.ref tab, .int tan])), (tab, .inl (tabt, 940, .inl tabf)), (na, .inr (2, [.ref nac, .int nan])), (nac, .inl (nact, 7, .inr (.inl nacf)))]) (wr := []) (va_runV (As := [.ref na]) (rest := []) ⟨hx, hb, hml, hown, hts⟩ (hc9 _) (cwV 1 hts gX7_passKnown_X7_findKnown rfl rfl rfl (by decide +kernel) ⟨Nat.le_of_ble_eq_true rfl, Nat.le_of_ble_eq_true rfl⟩) (z_preV hP hD hK hS hA hE hO [0, 1, 2, 3, 4] [0, 1] rfl (by decide +kernel) rfl 0 7 rfl rfl rfl) rfl rfl hl.1 rfl (lv_room (Nat.le_of_ble_eq_true rfl)) dX7_passKnown_2 ⟨Nat.le_of_ble_eq_true rfl, Nat.le_of_ble_eq_true rfl⟩) hP hD hK hS hA [0, 1, 2, 3, 4] [] rfl rfl (by decide +kernel) (by decide +kernel) (fun y_1 u9 H locs hw hP hD hK hS => ?_)
  refine z_ex2 hw (fun x_2 x_3 hw => ?_)
  refine z_an4 hw (fun h_4 h_5 h_6 h_7 hw => ?_)
  subst hw
  have hP : va_P D vwCl [(tk, .inr (7, [.ref ta, .int tkm, .int tkb, .int tkk, .int tka, .int tkv, .long tkc, .ref (ad tkw), .int x_2, .int x_3])), (ta, .inr (6, [.ref tab, .int tan])), (tab, .inl (tabt, 940, .inl tabf)), (na, .inr (2, [.ref nac, .int nan])), (nac, .inl (nact, 7, .inr (.inl nacf)))] H := hP
  have hD : va_D A [(tk, .inr (7, [.ref ta, .int tkm, .int tkb, .int tkk, .int tka, .int tkv, .long tkc, .ref (ad tkw), .int x_2, .int x_3])), (ta, .inr (6, [.ref tab, .int tan])), (tab, .inl (tabt, 940, .inl tabf)), (na, .inr (2, [.ref nac, .int nan])), (nac, .inl (nact, 7, .inr (.inl nacf)))] := hD
  have hK : va_K D vwCl [(tabt, .byte), (nact, .long)] s := hK
  refine W.cs (cells' := 0) (slots' := 0) rfl rfl ?_
  refine W.eq (g2 := F0 m 5 ls (.int y_1 :: [])) rfl ?_
  refine lv_istore_n (lv' := [(2, .int y_1), (0, .ref tk), (1, .ref na)]) hx hb dX7_passKnown_5 rfl hl (by decide) rfl (fun ls hl => ?_)
  refine lv_iload_n hx hb dX7_passKnown_6 rfl (lv_at hl 0 rfl) ?_
  refine lv_iconst (v := (-1)) hx hb dX7_passKnown_7 (by decide) ?_
  refine lv_icmp_eq (tgt := 15) hx hb dX7_passKnown_8 (by decide) (fun c_8 => ?_) (fun c_8 => ?_)
  · skip
    have h_9 : z_in (-1) (-1) y_1 := z_leL (Int32.le_of_eq c_8) h_4 (z_lit (x := (-1)) (a := (-1)) (b := (-1)) rfl) rfl
    refine lv_iload_n hx hb dX7_passKnown_15 rfl (lv_at hl 0 rfl) ?_
    exact hret y_1 ([(tk, .inr (7, [.ref ta, .int tkm, .int tkb, .int tkk, .int tka, .int tkv, .long tkc, .ref (ad tkw), .int x_2, .int x_3])), (ta, .inr (6, [.ref tab, .int tan])), (tab, .inl (tabt, 940, .inl tabf)), (na, .inr (2, [.ref nac, .int nan])), (nac, .inl (nact, 7, .inr (.inl nacf)))], []) _ _ _ _ dX7_passKnown_16 rfl ⟨tkb, tkk, tka, tkv, tkc, tkw, x_2, x_3, htkb, htkk, htkw, (z_w (c := (-1)) (d := 6) h_9 rfl), (fun h9 => absurd (Int.le_trans h9 h_9.2) (by decide)), (fun h9 => absurd (Int.le_trans h9 h_9.2) (by decide)), httk, hctk, (z_Pk0 h_7 (z_eqk h_9 rfl)), rfl⟩ hP (hK.sub [] rfl) hD hS
  · skip
    have h_10 : z_in 0 6 y_1 := z_neLo c_8 h_4 (z_lit (x := (-1)) (a := (-1)) (b := (-1)) rfl) rfl
    have h_11 : z_in 4 4 tkk := z_both htkk (h_5 (Int.le_trans (by decide) h_10.1)) rfl
    have h_12 : z_in 1 7 nan := z_both hnan (h_6 (Int.le_trans (by decide) h_10.1)) rfl
    refine lv_aload_n hx hb dX7_passKnown_11 rfl (lv_at hl 1 rfl) ?_
    have hc9 := (w_Tokens_advance l D ad tk tkm tkb tkk tka tkv tkc x_2 x_3 tkw ta tan tab tabt tabf htkm htkb (z_w (c := 0) (d := 4) h_11 rfl) htkw htan httk)
    refine z_callv (w0 := [(tk, .inr (7, [.ref ta, .int tkm, .int tkb, .int tkk, .int tka, .int tkv, .long tkc, .ref (ad tkw), .int x_2, .int x_3])), (ta, .inr (6, [.ref tab, .int tan])), (tab, .inl (tabt, 940, .inl tabf))]) (wr := [(na, .inr (2, [.ref nac, .int nan])), (nac, .inl (nact, 7, .inr (.inl nacf)))]) (va_runV (As := []) (rest := []) ⟨hx, hb, hml, hown, hts⟩ (hc9 _) (cwV 0 hts gX7_passKnown_X7_advance rfl rfl rfl (by decide +kernel) ⟨Nat.le_of_ble_eq_true rfl, Nat.le_of_ble_eq_true rfl⟩) (z_preV hP hD hK hS hA hE hO [0, 1, 2] [0] rfl (by decide +kernel) rfl 0 7 rfl rfl rfl) rfl rfl hl.1 rfl (lv_room (Nat.le_of_ble_eq_true rfl)) dX7_passKnown_12 ⟨Nat.le_of_ble_eq_true rfl, Nat.le_of_ble_eq_true rfl⟩) hP hD hK hS hA [0, 1, 2] [3, 4] rfl rfl (by decide +kernel) (by decide +kernel) (fun u9 H locs hw hP hD hK hS => ?_)
    refine z_ex6 hw (fun x_13 x_15 x_17 x_18 f_19 f_20 hw => ?_)
    refine z_an6 hw (fun h_14 h_16 h_21 h_22 h_23 h_24 hw => ?_)
    subst hw
    have hP : va_P D vwCl [(na, .inr (2, [.ref nac, .int nan])), (nac, .inl (nact, 7, .inr (.inl nacf))), (tk, .inr (7, [.ref ta, .int tkm, .int x_13, .int x_15, .int x_17, .int x_18, .long f_19, .ref (ad f_20), .int x_2, .int x_3])), (ta, .inr (6, [.ref tab, .int tan])), (tab, .inl (tabt, 940, .inl tabf))] H := hP
    have hD : va_D A [(na, .inr (2, [.ref nac, .int nan])), (nac, .inl (nact, 7, .inr (.inl nacf))), (tk, .inr (7, [.ref ta, .int tkm, .int x_13, .int x_15, .int x_17, .int x_18, .long f_19, .ref (ad f_20), .int x_2, .int x_3])), (ta, .inr (6, [.ref tab, .int tan])), (tab, .inl (tabt, 940, .inl tabf))] := hD
    have hK : va_K D vwCl [(tabt, .byte), (nact, .long)] s := hK
    refine W.cs (cells' := 0) (slots' := 0) rfl rfl ?_
    refine lv_iload_n hx hb dX7_passKnown_15 rfl (lv_at hl 0 rfl) ?_
    exact hret y_1 ([(tk, .inr (7, [.ref ta, .int tkm, .int x_13, .int x_15, .int x_17, .int x_18, .long f_19, .ref (ad f_20), .int x_2, .int x_3])), (ta, .inr (6, [.ref tab, .int tan])), (tab, .inl (tabt, 940, .inl tabf)), (na, .inr (2, [.ref nac, .int nan])), (nac, .inl (nact, 7, .inr (.inl nacf)))], []) _ _ _ _ dX7_passKnown_16 rfl ⟨x_13, x_15, x_17, x_18, f_19, f_20, x_2, x_3, h_14, h_16, h_21, (z_w (c := (-1)) (d := 6) h_10 rfl), (fun _ => h_11), (fun _ => h_12), h_22, h_23, (z_Pk1 h_7 c_8 hctk h_24 h_23), rfl⟩ (hP.sub [2, 3, 4, 0, 1] rfl) (hK.sub [] rfl) (hD.sub [2, 3, 4, 0, 1] (by decide +kernel) rfl) hS

set_option maxHeartbeats 8000000 in
set_option maxRecDepth 100000 in
theorem w_Tokens_findKnown7 (l : Launch) (D : va_G) (ad : Nat → Nat) (tk : Nat) (tkm : Int32) (tkb : Int32) (tkk : Int32) (tka : Int32) (tkv : Int32) (tkc : Int64) (tkf : Int32) (tkg : Int32) (tkw : Nat) (ta : Nat) (tan : Int32) (tab : Nat) (tabt : ClassId) (tabf : Nat → Int32) (na : Nat) (nan : Int32) (nac : Nat) (nact : ClassId) (nacf : Nat → Int64) (htkm : z_in 0 940 tkm) (htkb : z_in 0 940 tkb) (htkk : z_in 0 4 tkk) (htkw : tkw < 22) (htan : z_in 0 940 tan) (hnan : z_in 0 7 nan) (httk : z_tk tkk tkw) : z_Mi l yX7_findKnown wsX7_findKnown { frames := 1, cells := 0, slots := 0, locals := 23 } D ad [.ref tk, .ref na] [(tk, .inr (7, [.ref ta, .int tkm, .int tkb, .int tkk, .int tka, .int tkv, .long tkc, .ref (ad tkw), .int tkf, .int tkg])), (ta, .inr (6, [.ref tab, .int tan])), (tab, .inl (tabt, 940, .inl tabf)), (na, .inr (2, [.ref nac, .int nan])), (nac, .inl (nact, 7, .inr (.inl nacf)))] [(tabt, .byte), (nact, .long)] 0 0 (fun r9 u9 => ∃ (x0_8 : Int32) (x0_9 : Int32), z_in (-1) 6 r9 ∧ (0 ≤ r9.toInt → z_in 4 4 tkk) ∧ (0 ≤ r9.toInt → z_in 1 7 nan) ∧ u9 = ([(tk, .inr (7, [.ref ta, .int tkm, .int tkb, .int tkk, .int tka, .int tkv, .long tkc, .ref (ad tkw), .int x0_8, .int x0_9])), (ta, .inr (6, [.ref tab, .int tan])), (tab, .inl (tabt, 940, .inl tabf)), (na, .inr (2, [.ref nac, .int nan])), (nac, .inl (nact, 7, .inr (.inl nacf)))], [])) := by
  refine z_ofI (cc := cX7_findKnown) (maxL := 3) (rt := .int) (by decide) rfl (Nat.le_of_ble_eq_true rfl) ?_
  intro p e s m below meth c Q A ls hx hb hml hown hts hin hK hP hD hA hE hO hS hl hret
  have hown : s.vm.findClass RX7 = some m.cls := hown
  have hiX7 : ∀ w ∈ wsX70, w ∈ wsX7_findKnown := fun _ h9 => List.mem_cons_of_mem _ (List.mem_append_left _ (List.mem_append_right _ h9))
  have hiX2 : ∀ w ∈ wsX20, w ∈ wsX7_findKnown := fun _ h9 => List.mem_cons_of_mem _ (List.mem_append_right _ h9)
  have hl : lv_has ls 3 [(0, .ref tk), (1, .ref na)] := hl
  refine lv_aload_n hx hb dX7_findKnown_0 rfl (lv_at hl 0 rfl) ?_
  have hc9 := (w_Tokens_isName l D ad tk tkm tkb tkk tka tkv tkc tkf tkg tkw ta tan tab tabt tabf htkm htkb htkk htkw htan httk)
  refine z_calli (w0 := [(tk, .inr (7, [.ref ta, .int tkm, .int tkb, .int tkk, .int tka, .int tkv, .long tkc, .ref (ad tkw), .int tkf, .int tkg])), (ta, .inr (6, [.ref tab, .int tan])), (tab, .inl (tabt, 940, .inl tabf))]) (wr := [(na, .inr (2, [.ref nac, .int nan])), (nac, .inl (nact, 7, .inr (.inl nacf)))]) (va_runV (As := []) (rest := []) ⟨hx, hb, hml, hown, hts⟩ (hc9 _) (cwV 0 hts gX7_findKnown_X7_isName rfl rfl rfl (by decide +kernel) ⟨Nat.le_of_ble_eq_true rfl, Nat.le_of_ble_eq_true rfl⟩) (z_preV hP hD hK hS hA hE hO [0, 1, 2] [0] rfl (by decide +kernel) rfl 0 7 rfl rfl rfl) rfl rfl hl.1 rfl (lv_room (Nat.le_of_ble_eq_true rfl)) dX7_findKnown_1 ⟨Nat.le_of_ble_eq_true rfl, Nat.le_of_ble_eq_true rfl⟩) hP hD hK hS hA [0, 1, 2] [3, 4] rfl rfl (by decide +kernel) (by decide +kernel) (fun y_1 u9 H locs hw hP hD hK hS => ?_)
  obtain ⟨h_2, h_3, rfl⟩ := hw
  have hP : va_P D vwCl [(na, .inr (2, [.ref nac, .int nan])), (nac, .inl (nact, 7, .inr (.inl nacf))), (tk, .inr (7, [.ref ta, .int tkm, .int tkb, .int tkk, .int tka, .int tkv, .long tkc, .ref (ad tkw), .int tkf, .int tkg])), (ta, .inr (6, [.ref tab, .int tan])), (tab, .inl (tabt, 940, .inl tabf))] H := hP
  have hD : va_D A [(na, .inr (2, [.ref nac, .int nan])), (nac, .inl (nact, 7, .inr (.inl nacf))), (tk, .inr (7, [.ref ta, .int tkm, .int tkb, .int tkk, .int tka, .int tkv, .long tkc, .ref (ad tkw), .int tkf, .int tkg])), (ta, .inr (6, [.ref tab, .int tan])), (tab, .inl (tabt, 940, .inl tabf))] := hD
  have hK : va_K D vwCl [(tabt, .byte), (nact, .long)] s := hK
  refine W.cs (cells' := 0) (slots' := 0) rfl rfl ?_
  refine W.eq (g2 := F0 m 4 ls (.int y_1 :: [])) rfl ?_
  refine lv_if_ne (tgt := 15) hx hb dX7_findKnown_4 (by decide) (fun c_4 => ?_) (fun c_4 => ?_)
  · skip
    have h_5 : z_in 1 1 y_1 := z_neLo c_4 h_2 (z_lit (x := 0) (a := 0) (b := 0) rfl) rfl
    have h_6 : z_in 4 4 tkk := z_both htkk (h_3 (z_eqk h_5 rfl)) rfl
    refine lv_aload_n hx hb dX7_findKnown_15 rfl (lv_at hl 1 rfl) ?_
    refine lv_aload_n hx hb dX7_findKnown_16 rfl (lv_at hl 0 rfl) ?_
    refine va_get (D := D) (ci := 7) (v := .long tkc) (C := RX7) (T := TX7) (N := 10) hx hb hts hiX7 hown hK hP 2 rfl rfl 6 (by decide) (hts _ (List.mem_of_getElem? (i := 1) rfl)) (fun _ h9 => h9) rfl dX7_findKnown_17 ?_
    have hc9 := (w_Names7_find l D ad na nan nac nact nacf tkc hnan)
    refine z_calli (w0 := [(na, .inr (2, [.ref nac, .int nan])), (nac, .inl (nact, 7, .inr (.inl nacf)))]) (wr := [(tk, .inr (7, [.ref ta, .int tkm, .int tkb, .int tkk, .int tka, .int tkv, .long tkc, .ref (ad tkw), .int tkf, .int tkg])), (ta, .inr (6, [.ref tab, .int tan])), (tab, .inl (tabt, 940, .inl tabf))]) (va_runV (As := [.long tkc]) (rest := []) ⟨hx, hb, hml, hown, hts⟩ (hc9 _) (cwV 1 hts gX7_findKnown_X2_find rfl rfl rfl (by decide +kernel) ⟨Nat.le_of_ble_eq_true rfl, Nat.le_of_ble_eq_true rfl⟩) (z_preV hP hD hK hS hA hE hO [0, 1] [1] rfl (by decide +kernel) rfl 0 2 rfl rfl rfl) rfl rfl hl.1 rfl (lv_room (Nat.le_of_ble_eq_true rfl)) dX7_findKnown_20 ⟨Nat.le_of_ble_eq_true rfl, Nat.le_of_ble_eq_true rfl⟩) hP hD hK hS hA [0, 1] [2, 3, 4] rfl rfl (by decide +kernel) (by decide +kernel) (fun y_7 u9 H locs hw hP hD hK hS => ?_)
    obtain ⟨h_8, h_9, h_10, rfl⟩ := hw
    have hP : va_P D vwCl [(tk, .inr (7, [.ref ta, .int tkm, .int tkb, .int tkk, .int tka, .int tkv, .long tkc, .ref (ad tkw), .int tkf, .int tkg])), (ta, .inr (6, [.ref tab, .int tan])), (tab, .inl (tabt, 940, .inl tabf)), (na, .inr (2, [.ref nac, .int nan])), (nac, .inl (nact, 7, .inr (.inl nacf)))] H := hP
    have hD : va_D A [(tk, .inr (7, [.ref ta, .int tkm, .int tkb, .int tkk, .int tka, .int tkv, .long tkc, .ref (ad tkw), .int tkf, .int tkg])), (ta, .inr (6, [.ref tab, .int tan])), (tab, .inl (tabt, 940, .inl tabf)), (na, .inr (2, [.ref nac, .int nan])), (nac, .inl (nact, 7, .inr (.inl nacf)))] := hD
    have hK : va_K D vwCl [(tabt, .byte), (nact, .long)] s := hK
    refine W.cs (cells' := 0) (slots' := 0) rfl rfl ?_
    refine W.eq (g2 := F0 m 23 ls (.int y_7 :: [])) rfl ?_
    refine lv_istore_n (lv' := [(2, .int y_7), (0, .ref tk), (1, .ref na)]) hx hb dX7_findKnown_23 rfl hl (by decide) rfl (fun ls hl => ?_)
    refine lv_iload_n hx hb dX7_findKnown_24 rfl (lv_at hl 0 rfl) ?_
    refine lv_iconst (v := (-1)) hx hb dX7_findKnown_25 (by decide) ?_
    refine lv_icmp_ne (tgt := 35) hx hb dX7_findKnown_26 (by decide) (fun c_11 => ?_) (fun c_11 => ?_)
    · skip
      have h_12 : z_in 0 6 y_7 := z_neLo c_11 h_8 (z_lit (x := (-1)) (a := (-1)) (b := (-1)) rfl) rfl
      have h_13 : z_in 1 7 nan := z_both hnan (h_9 (Int.le_trans (by decide) h_12.1)) rfl
      refine lv_iload_n hx hb dX7_findKnown_35 rfl (lv_at hl 0 rfl) ?_
      exact hret y_7 ([(tk, .inr (7, [.ref ta, .int tkm, .int tkb, .int tkk, .int tka, .int tkv, .long tkc, .ref (ad tkw), .int tkf, .int tkg])), (ta, .inr (6, [.ref tab, .int tan])), (tab, .inl (tabt, 940, .inl tabf)), (na, .inr (2, [.ref nac, .int nan])), (nac, .inl (nact, 7, .inr (.inl nacf)))], []) _ _ _ _ dX7_findKnown_36 rfl ⟨tkf, tkg, (z_w (c := (-1)) (d := 6) h_12 rfl), (fun _ => h_6), (fun _ => h_13), rfl⟩ hP (hK.sub [] rfl) hD hS
    · skip
      have h_14 : z_in (-1) (-1) y_7 := z_leL (Int32.le_of_eq c_11) h_8 (z_lit (x := (-1)) (a := (-1)) (b := (-1)) rfl) rfl
      refine lv_aload_n hx hb dX7_findKnown_29 rfl (lv_at hl 1 rfl) ?_
      refine lv_iconst (v := 3) hx hb dX7_findKnown_30 (by decide) ?_
      have hc9 := (w_Tokens_fails l D ad tk tkm tkb tkk tka tkv tkc tkf tkg tkw ta tan tab tabt tabf 3 htkm htkb (z_w (c := 0) (d := 4) h_6 rfl) htkw htan httk)
      refine z_calli (w0 := [(tk, .inr (7, [.ref ta, .int tkm, .int tkb, .int tkk, .int tka, .int tkv, .long tkc, .ref (ad tkw), .int tkf, .int tkg])), (ta, .inr (6, [.ref tab, .int tan])), (tab, .inl (tabt, 940, .inl tabf))]) (wr := [(na, .inr (2, [.ref nac, .int nan])), (nac, .inl (nact, 7, .inr (.inl nacf)))]) (va_runV (As := [.int 3]) (rest := []) ⟨hx, hb, hml, hown, hts⟩ (hc9 _) (cwV 1 hts gX7_findKnown_X7_fails rfl rfl rfl (by decide +kernel) ⟨Nat.le_of_ble_eq_true rfl, Nat.le_of_ble_eq_true rfl⟩) (z_preV hP hD hK hS hA hE hO [0, 1, 2] [0] rfl (by decide +kernel) rfl 0 7 rfl rfl rfl) rfl rfl hl.1 rfl (lv_room (Nat.le_of_ble_eq_true rfl)) dX7_findKnown_31 ⟨Nat.le_of_ble_eq_true rfl, Nat.le_of_ble_eq_true rfl⟩) hP hD hK hS hA [0, 1, 2] [3, 4] rfl rfl (by decide +kernel) (by decide +kernel) (fun y_15 u9 H locs hw hP hD hK hS => ?_)
      obtain ⟨x_16, x_17, h_18, rfl⟩ := hw
      have hP : va_P D vwCl [(na, .inr (2, [.ref nac, .int nan])), (nac, .inl (nact, 7, .inr (.inl nacf))), (tk, .inr (7, [.ref ta, .int tkm, .int tkb, .int tkk, .int tka, .int tkv, .long tkc, .ref (ad tkw), .int x_16, .int x_17])), (ta, .inr (6, [.ref tab, .int tan])), (tab, .inl (tabt, 940, .inl tabf))] H := hP
      have hD : va_D A [(na, .inr (2, [.ref nac, .int nan])), (nac, .inl (nact, 7, .inr (.inl nacf))), (tk, .inr (7, [.ref ta, .int tkm, .int tkb, .int tkk, .int tka, .int tkv, .long tkc, .ref (ad tkw), .int x_16, .int x_17])), (ta, .inr (6, [.ref tab, .int tan])), (tab, .inl (tabt, 940, .inl tabf))] := hD
      have hK : va_K D vwCl [(tabt, .byte), (nact, .long)] s := hK
      refine W.cs (cells' := 0) (slots' := 0) rfl rfl ?_
      refine W.eq (g2 := F0 m 34 ls (.int y_15 :: [])) rfl ?_
      refine lv_pop hx hb dX7_findKnown_34 rfl ?_
      refine lv_iload_n hx hb dX7_findKnown_35 rfl (lv_at hl 0 rfl) ?_
      exact hret y_7 ([(tk, .inr (7, [.ref ta, .int tkm, .int tkb, .int tkk, .int tka, .int tkv, .long tkc, .ref (ad tkw), .int x_16, .int x_17])), (ta, .inr (6, [.ref tab, .int tan])), (tab, .inl (tabt, 940, .inl tabf)), (na, .inr (2, [.ref nac, .int nan])), (nac, .inl (nact, 7, .inr (.inl nacf)))], []) _ _ _ _ dX7_findKnown_36 rfl ⟨x_16, x_17, (z_w (c := (-1)) (d := 6) h_14 rfl), (fun h9 => absurd (Int.le_trans h9 h_14.2) (by decide)), (fun h9 => absurd (Int.le_trans h9 h_14.2) (by decide)), rfl⟩ (hP.sub [2, 3, 4, 0, 1] rfl) (hK.sub [] rfl) (hD.sub [2, 3, 4, 0, 1] (by decide +kernel) rfl) hS
  · skip
    have h_19 : z_in 0 0 y_1 := z_leL (Int32.le_of_eq c_4) h_2 (z_lit (x := 0) (a := 0) (b := 0) rfl) rfl
    refine lv_aload_n hx hb dX7_findKnown_7 rfl (lv_at hl 0 rfl) ?_
    refine lv_iconst (v := 1) hx hb dX7_findKnown_8 (by decide) ?_
    have hc9 := (w_Tokens_fails l D ad tk tkm tkb tkk tka tkv tkc tkf tkg tkw ta tan tab tabt tabf 1 htkm htkb htkk htkw htan httk)
    refine z_calli (w0 := [(tk, .inr (7, [.ref ta, .int tkm, .int tkb, .int tkk, .int tka, .int tkv, .long tkc, .ref (ad tkw), .int tkf, .int tkg])), (ta, .inr (6, [.ref tab, .int tan])), (tab, .inl (tabt, 940, .inl tabf))]) (wr := [(na, .inr (2, [.ref nac, .int nan])), (nac, .inl (nact, 7, .inr (.inl nacf)))]) (va_runV (As := [.int 1]) (rest := []) ⟨hx, hb, hml, hown, hts⟩ (hc9 _) (cwV 1 hts gX7_findKnown_X7_fails rfl rfl rfl (by decide +kernel) ⟨Nat.le_of_ble_eq_true rfl, Nat.le_of_ble_eq_true rfl⟩) (z_preV hP hD hK hS hA hE hO [2, 3, 4] [0] rfl (by decide +kernel) rfl 2 7 rfl rfl rfl) rfl rfl hl.1 rfl (lv_room (Nat.le_of_ble_eq_true rfl)) dX7_findKnown_9 ⟨Nat.le_of_ble_eq_true rfl, Nat.le_of_ble_eq_true rfl⟩) hP hD hK hS hA [2, 3, 4] [0, 1] rfl rfl (by decide +kernel) (by decide +kernel) (fun y_20 u9 H locs hw hP hD hK hS => ?_)
    obtain ⟨x_21, x_22, h_23, rfl⟩ := hw
    have hP : va_P D vwCl [(na, .inr (2, [.ref nac, .int nan])), (nac, .inl (nact, 7, .inr (.inl nacf))), (tk, .inr (7, [.ref ta, .int tkm, .int tkb, .int tkk, .int tka, .int tkv, .long tkc, .ref (ad tkw), .int x_21, .int x_22])), (ta, .inr (6, [.ref tab, .int tan])), (tab, .inl (tabt, 940, .inl tabf))] H := hP
    have hD : va_D A [(na, .inr (2, [.ref nac, .int nan])), (nac, .inl (nact, 7, .inr (.inl nacf))), (tk, .inr (7, [.ref ta, .int tkm, .int tkb, .int tkk, .int tka, .int tkv, .long tkc, .ref (ad tkw), .int x_21, .int x_22])), (ta, .inr (6, [.ref tab, .int tan])), (tab, .inl (tabt, 940, .inl tabf))] := hD
    have hK : va_K D vwCl [(tabt, .byte), (nact, .long)] s := hK
    refine W.cs (cells' := 0) (slots' := 0) rfl rfl ?_
    refine W.eq (g2 := F0 m 12 ls (.int y_20 :: [])) rfl ?_
    refine lv_pop hx hb dX7_findKnown_12 rfl ?_
    refine lv_iconst (v := (-1)) hx hb dX7_findKnown_13 (by decide) ?_
    exact hret (-1) ([(tk, .inr (7, [.ref ta, .int tkm, .int tkb, .int tkk, .int tka, .int tkv, .long tkc, .ref (ad tkw), .int x_21, .int x_22])), (ta, .inr (6, [.ref tab, .int tan])), (tab, .inl (tabt, 940, .inl tabf)), (na, .inr (2, [.ref nac, .int nan])), (nac, .inl (nact, 7, .inr (.inl nacf)))], []) _ _ _ _ dX7_findKnown_14 rfl ⟨x_21, x_22, (z_w (c := (-1)) (d := 6) (z_lit (x := (-1)) (a := (-1)) (b := (-1)) rfl) rfl), (fun h9 => absurd (Int.le_trans h9 (z_lit (x := (-1)) (a := (-1)) (b := (-1)) rfl).2) (by decide)), (fun h9 => absurd (Int.le_trans h9 (z_lit (x := (-1)) (a := (-1)) (b := (-1)) rfl).2) (by decide)), rfl⟩ (hP.sub [2, 3, 4, 0, 1] rfl) (hK.sub [] rfl) (hD.sub [2, 3, 4, 0, 1] (by decide +kernel) rfl) hS

set_option maxHeartbeats 8000000 in
set_option maxRecDepth 100000 in
theorem w_Tokens_passKnown7 (l : Launch) (D : va_G) (ad : Nat → Nat) (tk : Nat) (tkm : Int32) (tkb : Int32) (tkk : Int32) (tka : Int32) (tkv : Int32) (tkc : Int64) (tkf : Int32) (tkg : Int32) (tkw : Nat) (ta : Nat) (tan : Int32) (tab : Nat) (tabt : ClassId) (tabf : Nat → Int32) (na : Nat) (nan : Int32) (nac : Nat) (nact : ClassId) (nacf : Nat → Int64) (htkm : z_in 0 940 tkm) (htkb : z_in 0 940 tkb) (htkk : z_in 0 4 tkk) (htkw : tkw < 22) (htan : z_in 0 940 tan) (hnan : z_in 0 7 nan) (httk : z_tk tkk tkw) : z_Mi l yX7_passKnown wsX7_passKnown { frames := 3, cells := 0, slots := 0, locals := 66 } D ad [.ref tk, .ref na] [(tk, .inr (7, [.ref ta, .int tkm, .int tkb, .int tkk, .int tka, .int tkv, .long tkc, .ref (ad tkw), .int tkf, .int tkg])), (ta, .inr (6, [.ref tab, .int tan])), (tab, .inl (tabt, 940, .inl tabf)), (na, .inr (2, [.ref nac, .int nan])), (nac, .inl (nact, 7, .inr (.inl nacf)))] [(tabt, .byte), (nact, .long)] 0 0 (fun r9 u9 => ∃ (x0_2 : Int32) (x0_3 : Int32) (x0_4 : Int32) (x0_5 : Int32) (x0_6 : Int64) (x0_7 : Nat) (x0_8 : Int32) (x0_9 : Int32), z_in 0 940 x0_2 ∧ z_in 0 4 x0_3 ∧ x0_7 < 22 ∧ z_in (-1) 6 r9 ∧ (0 ≤ r9.toInt → z_in 4 4 tkk) ∧ (0 ≤ r9.toInt → z_in 1 7 nan) ∧ z_tk x0_3 x0_7 ∧ u9 = ([(tk, .inr (7, [.ref ta, .int tkm, .int x0_2, .int x0_3, .int x0_4, .int x0_5, .long x0_6, .ref (ad x0_7), .int x0_8, .int x0_9])), (ta, .inr (6, [.ref tab, .int tan])), (tab, .inl (tabt, 940, .inl tabf)), (na, .inr (2, [.ref nac, .int nan])), (nac, .inl (nact, 7, .inr (.inl nacf)))], [])) := by
  refine z_ofI (cc := cX7_passKnown) (maxL := 3) (rt := .int) (by decide) rfl (Nat.le_of_ble_eq_true rfl) ?_
  intro p e s m below meth c Q A ls hx hb hml hown hts hin hK hP hD hA hE hO hS hl hret
  have hown : s.vm.findClass RX7 = some m.cls := hown
  have hiX7 : ∀ w ∈ wsX70, w ∈ wsX7_passKnown := fun _ h9 => List.mem_cons_of_mem _ (List.mem_append_left _ (List.mem_append_left _ (List.mem_append_right _ h9)))
  have hiX2 : ∀ w ∈ wsX20, w ∈ wsX7_passKnown := fun _ h9 => List.mem_cons_of_mem _ (List.mem_append_left _ (List.mem_append_right _ h9))
  have hiX6 : ∀ w ∈ wsX60, w ∈ wsX7_passKnown := fun _ h9 => List.mem_cons_of_mem _ (List.mem_append_right _ h9)
  have hl : lv_has ls 3 [(0, .ref tk), (1, .ref na)] := hl
  refine lv_aload_n hx hb dX7_passKnown_0 rfl (lv_at hl 0 rfl) ?_
  refine lv_aload_n hx hb dX7_passKnown_1 rfl (lv_at hl 1 rfl) ?_
  have hc9 := (w_Tokens_findKnown7 l D ad tk tkm tkb tkk tka tkv tkc tkf tkg tkw ta tan tab tabt tabf na nan nac nact nacf htkm htkb htkk htkw htan hnan httk)
  refine z_calli (w0 := [(tk, .inr (7, [.ref ta, .int tkm, .int tkb, .int tkk, .int tka, .int tkv, .long tkc, .ref (ad tkw), .int tkf, .int tkg])), (ta, .inr (6, [.ref tab, .int tan])), (tab, .inl (tabt, 940, .inl tabf)), (na, .inr (2, [.ref nac, .int nan])), (nac, .inl (nact, 7, .inr (.inl nacf)))]) (wr := []) (va_runV (As := [.ref na]) (rest := []) ⟨hx, hb, hml, hown, hts⟩ (hc9 _) (cwV 1 hts gX7_passKnown_X7_findKnown rfl rfl rfl (by decide +kernel) ⟨Nat.le_of_ble_eq_true rfl, Nat.le_of_ble_eq_true rfl⟩) (z_preV hP hD hK hS hA hE hO [0, 1, 2, 3, 4] [0, 1] rfl (by decide +kernel) rfl 0 7 rfl rfl rfl) rfl rfl hl.1 rfl (lv_room (Nat.le_of_ble_eq_true rfl)) dX7_passKnown_2 ⟨Nat.le_of_ble_eq_true rfl, Nat.le_of_ble_eq_true rfl⟩) hP hD hK hS hA [0, 1, 2, 3, 4] [] rfl rfl (by decide +kernel) (by decide +kernel) (fun y_1 u9 H locs hw hP hD hK hS => ?_)
  obtain ⟨x_2, x_3, h_4, h_5, h_6, rfl⟩ := hw
  have hP : va_P D vwCl [(tk, .inr (7, [.ref ta, .int tkm, .int tkb, .int tkk, .int tka, .int tkv, .long tkc, .ref (ad tkw), .int x_2, .int x_3])), (ta, .inr (6, [.ref tab, .int tan])), (tab, .inl (tabt, 940, .inl tabf)), (na, .inr (2, [.ref nac, .int nan])), (nac, .inl (nact, 7, .inr (.inl nacf)))] H := hP
  have hD : va_D A [(tk, .inr (7, [.ref ta, .int tkm, .int tkb, .int tkk, .int tka, .int tkv, .long tkc, .ref (ad tkw), .int x_2, .int x_3])), (ta, .inr (6, [.ref tab, .int tan])), (tab, .inl (tabt, 940, .inl tabf)), (na, .inr (2, [.ref nac, .int nan])), (nac, .inl (nact, 7, .inr (.inl nacf)))] := hD
  have hK : va_K D vwCl [(tabt, .byte), (nact, .long)] s := hK
  refine W.cs (cells' := 0) (slots' := 0) rfl rfl ?_
  refine W.eq (g2 := F0 m 5 ls (.int y_1 :: [])) rfl ?_
  refine lv_istore_n (lv' := [(2, .int y_1), (0, .ref tk), (1, .ref na)]) hx hb dX7_passKnown_5 rfl hl (by decide) rfl (fun ls hl => ?_)
  refine lv_iload_n hx hb dX7_passKnown_6 rfl (lv_at hl 0 rfl) ?_
  refine lv_iconst (v := (-1)) hx hb dX7_passKnown_7 (by decide) ?_
  refine lv_icmp_eq (tgt := 15) hx hb dX7_passKnown_8 (by decide) (fun c_7 => ?_) (fun c_7 => ?_)
  · skip
    have h_8 : z_in (-1) (-1) y_1 := z_leL (Int32.le_of_eq c_7) h_4 (z_lit (x := (-1)) (a := (-1)) (b := (-1)) rfl) rfl
    refine lv_iload_n hx hb dX7_passKnown_15 rfl (lv_at hl 0 rfl) ?_
    exact hret y_1 ([(tk, .inr (7, [.ref ta, .int tkm, .int tkb, .int tkk, .int tka, .int tkv, .long tkc, .ref (ad tkw), .int x_2, .int x_3])), (ta, .inr (6, [.ref tab, .int tan])), (tab, .inl (tabt, 940, .inl tabf)), (na, .inr (2, [.ref nac, .int nan])), (nac, .inl (nact, 7, .inr (.inl nacf)))], []) _ _ _ _ dX7_passKnown_16 rfl ⟨tkb, tkk, tka, tkv, tkc, tkw, x_2, x_3, htkb, htkk, htkw, (z_w (c := (-1)) (d := 6) h_8 rfl), (fun h9 => absurd (Int.le_trans h9 h_8.2) (by decide)), (fun h9 => absurd (Int.le_trans h9 h_8.2) (by decide)), httk, rfl⟩ hP (hK.sub [] rfl) hD hS
  · skip
    have h_9 : z_in 0 6 y_1 := z_neLo c_7 h_4 (z_lit (x := (-1)) (a := (-1)) (b := (-1)) rfl) rfl
    have h_10 : z_in 4 4 tkk := z_both htkk (h_5 (Int.le_trans (by decide) h_9.1)) rfl
    have h_11 : z_in 1 7 nan := z_both hnan (h_6 (Int.le_trans (by decide) h_9.1)) rfl
    refine lv_aload_n hx hb dX7_passKnown_11 rfl (lv_at hl 1 rfl) ?_
    have hc9 := (w_Tokens_advance l D ad tk tkm tkb tkk tka tkv tkc x_2 x_3 tkw ta tan tab tabt tabf htkm htkb (z_w (c := 0) (d := 4) h_10 rfl) htkw htan httk)
    refine z_callv (w0 := [(tk, .inr (7, [.ref ta, .int tkm, .int tkb, .int tkk, .int tka, .int tkv, .long tkc, .ref (ad tkw), .int x_2, .int x_3])), (ta, .inr (6, [.ref tab, .int tan])), (tab, .inl (tabt, 940, .inl tabf))]) (wr := [(na, .inr (2, [.ref nac, .int nan])), (nac, .inl (nact, 7, .inr (.inl nacf)))]) (va_runV (As := []) (rest := []) ⟨hx, hb, hml, hown, hts⟩ (hc9 _) (cwV 0 hts gX7_passKnown_X7_advance rfl rfl rfl (by decide +kernel) ⟨Nat.le_of_ble_eq_true rfl, Nat.le_of_ble_eq_true rfl⟩) (z_preV hP hD hK hS hA hE hO [0, 1, 2] [0] rfl (by decide +kernel) rfl 0 7 rfl rfl rfl) rfl rfl hl.1 rfl (lv_room (Nat.le_of_ble_eq_true rfl)) dX7_passKnown_12 ⟨Nat.le_of_ble_eq_true rfl, Nat.le_of_ble_eq_true rfl⟩) hP hD hK hS hA [0, 1, 2] [3, 4] rfl rfl (by decide +kernel) (by decide +kernel) (fun u9 H locs hw hP hD hK hS => ?_)
    refine z_ex6 hw (fun x_12 x_14 x_16 x_17 f_18 f_19 hw => ?_)
    refine z_an6 hw (fun h_13 h_15 h_20 h_21 h_22 h_23 hw => ?_)
    subst hw
    have hP : va_P D vwCl [(na, .inr (2, [.ref nac, .int nan])), (nac, .inl (nact, 7, .inr (.inl nacf))), (tk, .inr (7, [.ref ta, .int tkm, .int x_12, .int x_14, .int x_16, .int x_17, .long f_18, .ref (ad f_19), .int x_2, .int x_3])), (ta, .inr (6, [.ref tab, .int tan])), (tab, .inl (tabt, 940, .inl tabf))] H := hP
    have hD : va_D A [(na, .inr (2, [.ref nac, .int nan])), (nac, .inl (nact, 7, .inr (.inl nacf))), (tk, .inr (7, [.ref ta, .int tkm, .int x_12, .int x_14, .int x_16, .int x_17, .long f_18, .ref (ad f_19), .int x_2, .int x_3])), (ta, .inr (6, [.ref tab, .int tan])), (tab, .inl (tabt, 940, .inl tabf))] := hD
    have hK : va_K D vwCl [(tabt, .byte), (nact, .long)] s := hK
    refine W.cs (cells' := 0) (slots' := 0) rfl rfl ?_
    refine lv_iload_n hx hb dX7_passKnown_15 rfl (lv_at hl 0 rfl) ?_
    exact hret y_1 ([(tk, .inr (7, [.ref ta, .int tkm, .int x_12, .int x_14, .int x_16, .int x_17, .long f_18, .ref (ad f_19), .int x_2, .int x_3])), (ta, .inr (6, [.ref tab, .int tan])), (tab, .inl (tabt, 940, .inl tabf)), (na, .inr (2, [.ref nac, .int nan])), (nac, .inl (nact, 7, .inr (.inl nacf)))], []) _ _ _ _ dX7_passKnown_16 rfl ⟨x_12, x_14, x_16, x_17, f_18, f_19, x_2, x_3, h_13, h_15, h_20, (z_w (c := (-1)) (d := 6) h_9 rfl), (fun _ => h_10), (fun _ => h_11), h_21, rfl⟩ (hP.sub [2, 3, 4, 0, 1] rfl) (hK.sub [] rfl) (hD.sub [2, 3, 4, 0, 1] (by decide +kernel) rfl) hS

set_option maxHeartbeats 8000000 in
set_option maxRecDepth 100000 in
theorem s_Tokens_findKnown6 (l : Launch) (D : va_G) (ad : Nat → Nat) (tk : Nat) (tkm : Int32) (tkb : Int32) (tkk : Int32) (tka : Int32) (tkv : Int32) (tkc : Int64) (tkf : Int32) (tkg : Int32) (tkw : Nat) (ta : Nat) (tan : Int32) (tab : Nat) (tabt : ClassId) (tabf : Nat → Int32) (na : Nat) (nan : Int32) (nac : Nat) (nact : ClassId) (nacf : Nat → Int64) (htkm : z_in 0 940 tkm) (htkb : z_in 0 940 tkb) (htkk : z_in 0 4 tkk) (htkw : tkw < 22) (htan : z_in 0 940 tan) (hnan : z_in 0 6 nan) (httk : z_tk tkk tkw) (hctk : z_ctk z_cds tabf tan tkm tkk tka tkv tkc tkw tkb) (hf0 : z_z0 tkf) : z_Mi l yX7_findKnown wsX7_findKnown { frames := 1, cells := 0, slots := 0, locals := 23 } D ad [.ref tk, .ref na] [(tk, .inr (7, [.ref ta, .int tkm, .int tkb, .int tkk, .int tka, .int tkv, .long tkc, .ref (ad tkw), .int tkf, .int tkg])), (ta, .inr (6, [.ref tab, .int tan])), (tab, .inl (tabt, 940, .inl tabf)), (na, .inr (2, [.ref nac, .int nan])), (nac, .inl (nact, 6, .inr (.inl nacf)))] [(tabt, .byte), (nact, .long)] 0 0 (fun r9 u9 => ∃ (x0_8 : Int32) (x0_9 : Int32), z_in (-1) 5 r9 ∧ (0 ≤ r9.toInt → z_in 4 4 tkk) ∧ (0 ≤ r9.toInt → z_in 1 6 nan) ∧ z_Kc tabf tan tkm tka nacf nan r9 x0_8 x0_9 ∧ u9 = ([(tk, .inr (7, [.ref ta, .int tkm, .int tkb, .int tkk, .int tka, .int tkv, .long tkc, .ref (ad tkw), .int x0_8, .int x0_9])), (ta, .inr (6, [.ref tab, .int tan])), (tab, .inl (tabt, 940, .inl tabf)), (na, .inr (2, [.ref nac, .int nan])), (nac, .inl (nact, 6, .inr (.inl nacf)))], [])) := by
  refine z_ofI (cc := cX7_findKnown) (maxL := 3) (rt := .int) (by decide) rfl (Nat.le_of_ble_eq_true rfl) ?_
  intro p e s m below meth c Q A ls hx hb hml hown hts hin hK hP hD hA hE hO hS hl hret
  have hown : s.vm.findClass RX7 = some m.cls := hown
  have hiX7 : ∀ w ∈ wsX70, w ∈ wsX7_findKnown := fun _ h9 => List.mem_cons_of_mem _ (List.mem_append_left _ (List.mem_append_right _ h9))
  have hiX2 : ∀ w ∈ wsX20, w ∈ wsX7_findKnown := fun _ h9 => List.mem_cons_of_mem _ (List.mem_append_right _ h9)
  have hl : lv_has ls 3 [(0, .ref tk), (1, .ref na)] := hl
  refine lv_aload_n hx hb dX7_findKnown_0 rfl (lv_at hl 0 rfl) ?_
  have hc9 := (s_Tokens_isName l D ad tk tkm tkb tkk tka tkv tkc tkf tkg tkw ta tan tab tabt tabf htkm htkb htkk htkw htan httk hctk)
  refine z_calli (w0 := [(tk, .inr (7, [.ref ta, .int tkm, .int tkb, .int tkk, .int tka, .int tkv, .long tkc, .ref (ad tkw), .int tkf, .int tkg])), (ta, .inr (6, [.ref tab, .int tan])), (tab, .inl (tabt, 940, .inl tabf))]) (wr := [(na, .inr (2, [.ref nac, .int nan])), (nac, .inl (nact, 6, .inr (.inl nacf)))]) (va_runV (As := []) (rest := []) ⟨hx, hb, hml, hown, hts⟩ (hc9 _) (cwV 0 hts gX7_findKnown_X7_isName rfl rfl rfl (by decide +kernel) ⟨Nat.le_of_ble_eq_true rfl, Nat.le_of_ble_eq_true rfl⟩) (z_preV hP hD hK hS hA hE hO [0, 1, 2] [0] rfl (by decide +kernel) rfl 0 7 rfl rfl rfl) rfl rfl hl.1 rfl (lv_room (Nat.le_of_ble_eq_true rfl)) dX7_findKnown_1 ⟨Nat.le_of_ble_eq_true rfl, Nat.le_of_ble_eq_true rfl⟩) hP hD hK hS hA [0, 1, 2] [3, 4] rfl rfl (by decide +kernel) (by decide +kernel) (fun y_1 u9 H locs hw hP hD hK hS => ?_)
  obtain ⟨h_2, h_3, h_4, rfl⟩ := hw
  have hP : va_P D vwCl [(na, .inr (2, [.ref nac, .int nan])), (nac, .inl (nact, 6, .inr (.inl nacf))), (tk, .inr (7, [.ref ta, .int tkm, .int tkb, .int tkk, .int tka, .int tkv, .long tkc, .ref (ad tkw), .int tkf, .int tkg])), (ta, .inr (6, [.ref tab, .int tan])), (tab, .inl (tabt, 940, .inl tabf))] H := hP
  have hD : va_D A [(na, .inr (2, [.ref nac, .int nan])), (nac, .inl (nact, 6, .inr (.inl nacf))), (tk, .inr (7, [.ref ta, .int tkm, .int tkb, .int tkk, .int tka, .int tkv, .long tkc, .ref (ad tkw), .int tkf, .int tkg])), (ta, .inr (6, [.ref tab, .int tan])), (tab, .inl (tabt, 940, .inl tabf))] := hD
  have hK : va_K D vwCl [(tabt, .byte), (nact, .long)] s := hK
  refine W.cs (cells' := 0) (slots' := 0) rfl rfl ?_
  refine W.eq (g2 := F0 m 4 ls (.int y_1 :: [])) rfl ?_
  refine lv_if_ne (tgt := 15) hx hb dX7_findKnown_4 (by decide) (fun c_5 => ?_) (fun c_5 => ?_)
  · skip
    have h_6 : z_in 1 1 y_1 := z_neLo c_5 h_2 (z_lit (x := 0) (a := 0) (b := 0) rfl) rfl
    have h_7 : z_in 4 4 tkk := z_both htkk (h_3 (z_eqk h_6 rfl)) rfl
    refine lv_aload_n hx hb dX7_findKnown_15 rfl (lv_at hl 1 rfl) ?_
    refine lv_aload_n hx hb dX7_findKnown_16 rfl (lv_at hl 0 rfl) ?_
    refine va_get (D := D) (ci := 7) (v := .long tkc) (C := RX7) (T := TX7) (N := 10) hx hb hts hiX7 hown hK hP 2 rfl rfl 6 (by decide) (hts _ (List.mem_of_getElem? (i := 1) rfl)) (fun _ h9 => h9) rfl dX7_findKnown_17 ?_
    have hc9 := (w_Names6_find l D ad na nan nac nact nacf tkc hnan)
    refine z_calli (w0 := [(na, .inr (2, [.ref nac, .int nan])), (nac, .inl (nact, 6, .inr (.inl nacf)))]) (wr := [(tk, .inr (7, [.ref ta, .int tkm, .int tkb, .int tkk, .int tka, .int tkv, .long tkc, .ref (ad tkw), .int tkf, .int tkg])), (ta, .inr (6, [.ref tab, .int tan])), (tab, .inl (tabt, 940, .inl tabf))]) (va_runV (As := [.long tkc]) (rest := []) ⟨hx, hb, hml, hown, hts⟩ (hc9 _) (cwV 1 hts gX7_findKnown_X2_find rfl rfl rfl (by decide +kernel) ⟨Nat.le_of_ble_eq_true rfl, Nat.le_of_ble_eq_true rfl⟩) (z_preV hP hD hK hS hA hE hO [0, 1] [1] rfl (by decide +kernel) rfl 0 2 rfl rfl rfl) rfl rfl hl.1 rfl (lv_room (Nat.le_of_ble_eq_true rfl)) dX7_findKnown_20 ⟨Nat.le_of_ble_eq_true rfl, Nat.le_of_ble_eq_true rfl⟩) hP hD hK hS hA [0, 1] [2, 3, 4] rfl rfl (by decide +kernel) (by decide +kernel) (fun y_8 u9 H locs hw hP hD hK hS => ?_)
    obtain ⟨h_9, h_10, h_11, rfl⟩ := hw
    have hP : va_P D vwCl [(tk, .inr (7, [.ref ta, .int tkm, .int tkb, .int tkk, .int tka, .int tkv, .long tkc, .ref (ad tkw), .int tkf, .int tkg])), (ta, .inr (6, [.ref tab, .int tan])), (tab, .inl (tabt, 940, .inl tabf)), (na, .inr (2, [.ref nac, .int nan])), (nac, .inl (nact, 6, .inr (.inl nacf)))] H := hP
    have hD : va_D A [(tk, .inr (7, [.ref ta, .int tkm, .int tkb, .int tkk, .int tka, .int tkv, .long tkc, .ref (ad tkw), .int tkf, .int tkg])), (ta, .inr (6, [.ref tab, .int tan])), (tab, .inl (tabt, 940, .inl tabf)), (na, .inr (2, [.ref nac, .int nan])), (nac, .inl (nact, 6, .inr (.inl nacf)))] := hD
    have hK : va_K D vwCl [(tabt, .byte), (nact, .long)] s := hK
    refine W.cs (cells' := 0) (slots' := 0) rfl rfl ?_
    refine W.eq (g2 := F0 m 23 ls (.int y_8 :: [])) rfl ?_
    refine lv_istore_n (lv' := [(2, .int y_8), (0, .ref tk), (1, .ref na)]) hx hb dX7_findKnown_23 rfl hl (by decide) rfl (fun ls hl => ?_)
    refine lv_iload_n hx hb dX7_findKnown_24 rfl (lv_at hl 0 rfl) ?_
    refine lv_iconst (v := (-1)) hx hb dX7_findKnown_25 (by decide) ?_
    refine lv_icmp_ne (tgt := 35) hx hb dX7_findKnown_26 (by decide) (fun c_12 => ?_) (fun c_12 => ?_)
    · skip
      have h_13 : z_in 0 5 y_8 := z_neLo c_12 h_9 (z_lit (x := (-1)) (a := (-1)) (b := (-1)) rfl) rfl
      have h_14 : z_in 1 6 nan := z_both hnan (h_10 (Int.le_trans (by decide) h_13.1)) rfl
      refine lv_iload_n hx hb dX7_findKnown_35 rfl (lv_at hl 0 rfl) ?_
      exact hret y_8 ([(tk, .inr (7, [.ref ta, .int tkm, .int tkb, .int tkk, .int tka, .int tkv, .long tkc, .ref (ad tkw), .int tkf, .int tkg])), (ta, .inr (6, [.ref tab, .int tan])), (tab, .inl (tabt, 940, .inl tabf)), (na, .inr (2, [.ref nac, .int nan])), (nac, .inl (nact, 6, .inr (.inl nacf)))], []) _ _ _ _ dX7_findKnown_36 rfl ⟨tkf, tkg, (z_w (c := (-1)) (d := 5) h_13 rfl), (fun _ => h_7), (fun _ => h_14), (z_Kc0 h_4 (z_eqk h_6 rfl) h_11 c_12 hf0), rfl⟩ hP (hK.sub [] rfl) hD hS
    · skip
      have h_15 : z_in (-1) (-1) y_8 := z_leL (Int32.le_of_eq c_12) h_9 (z_lit (x := (-1)) (a := (-1)) (b := (-1)) rfl) rfl
      refine lv_aload_n hx hb dX7_findKnown_29 rfl (lv_at hl 1 rfl) ?_
      refine lv_iconst (v := 3) hx hb dX7_findKnown_30 (by decide) ?_
      have hc9 := (s_Tokens_fails l D ad tk tkm tkb tkk tka tkv tkc tkf tkg tkw ta tan tab tabt tabf 3 htkm htkb (z_w (c := 0) (d := 4) h_7 rfl) htkw htan httk hctk hf0)
      refine z_calli (w0 := [(tk, .inr (7, [.ref ta, .int tkm, .int tkb, .int tkk, .int tka, .int tkv, .long tkc, .ref (ad tkw), .int tkf, .int tkg])), (ta, .inr (6, [.ref tab, .int tan])), (tab, .inl (tabt, 940, .inl tabf))]) (wr := [(na, .inr (2, [.ref nac, .int nan])), (nac, .inl (nact, 6, .inr (.inl nacf)))]) (va_runV (As := [.int 3]) (rest := []) ⟨hx, hb, hml, hown, hts⟩ (hc9 _) (cwV 1 hts gX7_findKnown_X7_fails rfl rfl rfl (by decide +kernel) ⟨Nat.le_of_ble_eq_true rfl, Nat.le_of_ble_eq_true rfl⟩) (z_preV hP hD hK hS hA hE hO [0, 1, 2] [0] rfl (by decide +kernel) rfl 0 7 rfl rfl rfl) rfl rfl hl.1 rfl (lv_room (Nat.le_of_ble_eq_true rfl)) dX7_findKnown_31 ⟨Nat.le_of_ble_eq_true rfl, Nat.le_of_ble_eq_true rfl⟩) hP hD hK hS hA [0, 1, 2] [3, 4] rfl rfl (by decide +kernel) (by decide +kernel) (fun y_16 u9 H locs hw hP hD hK hS => ?_)
      obtain ⟨x_17, x_18, h_19, h_20, rfl⟩ := hw
      have hP : va_P D vwCl [(na, .inr (2, [.ref nac, .int nan])), (nac, .inl (nact, 6, .inr (.inl nacf))), (tk, .inr (7, [.ref ta, .int tkm, .int tkb, .int tkk, .int tka, .int tkv, .long tkc, .ref (ad tkw), .int x_17, .int x_18])), (ta, .inr (6, [.ref tab, .int tan])), (tab, .inl (tabt, 940, .inl tabf))] H := hP
      have hD : va_D A [(na, .inr (2, [.ref nac, .int nan])), (nac, .inl (nact, 6, .inr (.inl nacf))), (tk, .inr (7, [.ref ta, .int tkm, .int tkb, .int tkk, .int tka, .int tkv, .long tkc, .ref (ad tkw), .int x_17, .int x_18])), (ta, .inr (6, [.ref tab, .int tan])), (tab, .inl (tabt, 940, .inl tabf))] := hD
      have hK : va_K D vwCl [(tabt, .byte), (nact, .long)] s := hK
      refine W.cs (cells' := 0) (slots' := 0) rfl rfl ?_
      refine W.eq (g2 := F0 m 34 ls (.int y_16 :: [])) rfl ?_
      refine lv_pop hx hb dX7_findKnown_34 rfl ?_
      refine lv_iload_n hx hb dX7_findKnown_35 rfl (lv_at hl 0 rfl) ?_
      exact hret y_8 ([(tk, .inr (7, [.ref ta, .int tkm, .int tkb, .int tkk, .int tka, .int tkv, .long tkc, .ref (ad tkw), .int x_17, .int x_18])), (ta, .inr (6, [.ref tab, .int tan])), (tab, .inl (tabt, 940, .inl tabf)), (na, .inr (2, [.ref nac, .int nan])), (nac, .inl (nact, 6, .inr (.inl nacf)))], []) _ _ _ _ dX7_findKnown_36 rfl ⟨x_17, x_18, (z_w (c := (-1)) (d := 5) h_15 rfl), (fun h9 => absurd (Int.le_trans h9 h_15.2) (by decide)), (fun h9 => absurd (Int.le_trans h9 h_15.2) (by decide)), (z_Kc3 h_4 (z_eqk h_6 rfl) h_11 (z_eqk h_15 rfl) h_20), rfl⟩ (hP.sub [2, 3, 4, 0, 1] rfl) (hK.sub [] rfl) (hD.sub [2, 3, 4, 0, 1] (by decide +kernel) rfl) hS
  · skip
    have h_21 : z_in 0 0 y_1 := z_leL (Int32.le_of_eq c_5) h_2 (z_lit (x := 0) (a := 0) (b := 0) rfl) rfl
    refine lv_aload_n hx hb dX7_findKnown_7 rfl (lv_at hl 0 rfl) ?_
    refine lv_iconst (v := 1) hx hb dX7_findKnown_8 (by decide) ?_
    have hc9 := (s_Tokens_fails l D ad tk tkm tkb tkk tka tkv tkc tkf tkg tkw ta tan tab tabt tabf 1 htkm htkb htkk htkw htan httk hctk hf0)
    refine z_calli (w0 := [(tk, .inr (7, [.ref ta, .int tkm, .int tkb, .int tkk, .int tka, .int tkv, .long tkc, .ref (ad tkw), .int tkf, .int tkg])), (ta, .inr (6, [.ref tab, .int tan])), (tab, .inl (tabt, 940, .inl tabf))]) (wr := [(na, .inr (2, [.ref nac, .int nan])), (nac, .inl (nact, 6, .inr (.inl nacf)))]) (va_runV (As := [.int 1]) (rest := []) ⟨hx, hb, hml, hown, hts⟩ (hc9 _) (cwV 1 hts gX7_findKnown_X7_fails rfl rfl rfl (by decide +kernel) ⟨Nat.le_of_ble_eq_true rfl, Nat.le_of_ble_eq_true rfl⟩) (z_preV hP hD hK hS hA hE hO [2, 3, 4] [0] rfl (by decide +kernel) rfl 2 7 rfl rfl rfl) rfl rfl hl.1 rfl (lv_room (Nat.le_of_ble_eq_true rfl)) dX7_findKnown_9 ⟨Nat.le_of_ble_eq_true rfl, Nat.le_of_ble_eq_true rfl⟩) hP hD hK hS hA [2, 3, 4] [0, 1] rfl rfl (by decide +kernel) (by decide +kernel) (fun y_22 u9 H locs hw hP hD hK hS => ?_)
    obtain ⟨x_23, x_24, h_25, h_26, rfl⟩ := hw
    have hP : va_P D vwCl [(na, .inr (2, [.ref nac, .int nan])), (nac, .inl (nact, 6, .inr (.inl nacf))), (tk, .inr (7, [.ref ta, .int tkm, .int tkb, .int tkk, .int tka, .int tkv, .long tkc, .ref (ad tkw), .int x_23, .int x_24])), (ta, .inr (6, [.ref tab, .int tan])), (tab, .inl (tabt, 940, .inl tabf))] H := hP
    have hD : va_D A [(na, .inr (2, [.ref nac, .int nan])), (nac, .inl (nact, 6, .inr (.inl nacf))), (tk, .inr (7, [.ref ta, .int tkm, .int tkb, .int tkk, .int tka, .int tkv, .long tkc, .ref (ad tkw), .int x_23, .int x_24])), (ta, .inr (6, [.ref tab, .int tan])), (tab, .inl (tabt, 940, .inl tabf))] := hD
    have hK : va_K D vwCl [(tabt, .byte), (nact, .long)] s := hK
    refine W.cs (cells' := 0) (slots' := 0) rfl rfl ?_
    refine W.eq (g2 := F0 m 12 ls (.int y_22 :: [])) rfl ?_
    refine lv_pop hx hb dX7_findKnown_12 rfl ?_
    refine lv_iconst (v := (-1)) hx hb dX7_findKnown_13 (by decide) ?_
    exact hret (-1) ([(tk, .inr (7, [.ref ta, .int tkm, .int tkb, .int tkk, .int tka, .int tkv, .long tkc, .ref (ad tkw), .int x_23, .int x_24])), (ta, .inr (6, [.ref tab, .int tan])), (tab, .inl (tabt, 940, .inl tabf)), (na, .inr (2, [.ref nac, .int nan])), (nac, .inl (nact, 6, .inr (.inl nacf)))], []) _ _ _ _ dX7_findKnown_14 rfl ⟨x_23, x_24, (z_w (c := (-1)) (d := 5) (z_lit (x := (-1)) (a := (-1)) (b := (-1)) rfl) rfl), (fun h9 => absurd (Int.le_trans h9 (z_lit (x := (-1)) (a := (-1)) (b := (-1)) rfl).2) (by decide)), (fun h9 => absurd (Int.le_trans h9 (z_lit (x := (-1)) (a := (-1)) (b := (-1)) rfl).2) (by decide)), (z_Kc1 h_4 (z_eqk h_21 rfl) h_26), rfl⟩ (hP.sub [2, 3, 4, 0, 1] rfl) (hK.sub [] rfl) (hD.sub [2, 3, 4, 0, 1] (by decide +kernel) rfl) hS

set_option maxHeartbeats 8000000 in
set_option maxRecDepth 100000 in
theorem s_Tokens_passKnown6 (l : Launch) (D : va_G) (ad : Nat → Nat) (tk : Nat) (tkm : Int32) (tkb : Int32) (tkk : Int32) (tka : Int32) (tkv : Int32) (tkc : Int64) (tkf : Int32) (tkg : Int32) (tkw : Nat) (ta : Nat) (tan : Int32) (tab : Nat) (tabt : ClassId) (tabf : Nat → Int32) (na : Nat) (nan : Int32) (nac : Nat) (nact : ClassId) (nacf : Nat → Int64) (htkm : z_in 0 940 tkm) (htkb : z_in 0 940 tkb) (htkk : z_in 0 4 tkk) (htkw : tkw < 22) (htan : z_in 0 940 tan) (hnan : z_in 0 6 nan) (httk : z_tk tkk tkw) (hctk : z_ctk z_cds tabf tan tkm tkk tka tkv tkc tkw tkb) (hf0 : z_z0 tkf) : z_Mi l yX7_passKnown wsX7_passKnown { frames := 3, cells := 0, slots := 0, locals := 66 } D ad [.ref tk, .ref na] [(tk, .inr (7, [.ref ta, .int tkm, .int tkb, .int tkk, .int tka, .int tkv, .long tkc, .ref (ad tkw), .int tkf, .int tkg])), (ta, .inr (6, [.ref tab, .int tan])), (tab, .inl (tabt, 940, .inl tabf)), (na, .inr (2, [.ref nac, .int nan])), (nac, .inl (nact, 6, .inr (.inl nacf)))] [(tabt, .byte), (nact, .long)] 0 0 (fun r9 u9 => ∃ (x0_2 : Int32) (x0_3 : Int32) (x0_4 : Int32) (x0_5 : Int32) (x0_6 : Int64) (x0_7 : Nat) (x0_8 : Int32) (x0_9 : Int32), z_in 0 940 x0_2 ∧ z_in 0 4 x0_3 ∧ x0_7 < 22 ∧ z_in (-1) 5 r9 ∧ (0 ≤ r9.toInt → z_in 4 4 tkk) ∧ (0 ≤ r9.toInt → z_in 1 6 nan) ∧ z_tk x0_3 x0_7 ∧ z_ctk z_cds tabf tan tkm x0_3 x0_4 x0_5 x0_6 x0_7 x0_2 ∧ z_Pk tabf tan tkm tka nacf nan r9 x0_4 x0_8 x0_9 ∧ u9 = ([(tk, .inr (7, [.ref ta, .int tkm, .int x0_2, .int x0_3, .int x0_4, .int x0_5, .long x0_6, .ref (ad x0_7), .int x0_8, .int x0_9])), (ta, .inr (6, [.ref tab, .int tan])), (tab, .inl (tabt, 940, .inl tabf)), (na, .inr (2, [.ref nac, .int nan])), (nac, .inl (nact, 6, .inr (.inl nacf)))], [])) := by
  refine z_ofI (cc := cX7_passKnown) (maxL := 3) (rt := .int) (by decide) rfl (Nat.le_of_ble_eq_true rfl) ?_
  intro p e s m below meth c Q A ls hx hb hml hown hts hin hK hP hD hA hE hO hS hl hret
  have hown : s.vm.findClass RX7 = some m.cls := hown
  have hiX7 : ∀ w ∈ wsX70, w ∈ wsX7_passKnown := fun _ h9 => List.mem_cons_of_mem _ (List.mem_append_left _ (List.mem_append_left _ (List.mem_append_right _ h9)))
  have hiX2 : ∀ w ∈ wsX20, w ∈ wsX7_passKnown := fun _ h9 => List.mem_cons_of_mem _ (List.mem_append_left _ (List.mem_append_right _ h9))
  have hiX6 : ∀ w ∈ wsX60, w ∈ wsX7_passKnown := fun _ h9 => List.mem_cons_of_mem _ (List.mem_append_right _ h9)
  have hl : lv_has ls 3 [(0, .ref tk), (1, .ref na)] := hl
  refine lv_aload_n hx hb dX7_passKnown_0 rfl (lv_at hl 0 rfl) ?_
  refine lv_aload_n hx hb dX7_passKnown_1 rfl (lv_at hl 1 rfl) ?_
  have hc9 := (s_Tokens_findKnown6 l D ad tk tkm tkb tkk tka tkv tkc tkf tkg tkw ta tan tab tabt tabf na nan nac nact nacf htkm htkb htkk htkw htan hnan httk hctk hf0)
  refine z_calli (w0 := [(tk, .inr (7, [.ref ta, .int tkm, .int tkb, .int tkk, .int tka, .int tkv, .long tkc, .ref (ad tkw), .int tkf, .int tkg])), (ta, .inr (6, [.ref tab, .int tan])), (tab, .inl (tabt, 940, .inl tabf)), (na, .inr (2, [.ref nac, .int nan])), (nac, .inl (nact, 6, .inr (.inl nacf)))]) (wr := []) (va_runV (As := [.ref na]) (rest := []) ⟨hx, hb, hml, hown, hts⟩ (hc9 _) (cwV 1 hts gX7_passKnown_X7_findKnown rfl rfl rfl (by decide +kernel) ⟨Nat.le_of_ble_eq_true rfl, Nat.le_of_ble_eq_true rfl⟩) (z_preV hP hD hK hS hA hE hO [0, 1, 2, 3, 4] [0, 1] rfl (by decide +kernel) rfl 0 7 rfl rfl rfl) rfl rfl hl.1 rfl (lv_room (Nat.le_of_ble_eq_true rfl)) dX7_passKnown_2 ⟨Nat.le_of_ble_eq_true rfl, Nat.le_of_ble_eq_true rfl⟩) hP hD hK hS hA [0, 1, 2, 3, 4] [] rfl rfl (by decide +kernel) (by decide +kernel) (fun y_1 u9 H locs hw hP hD hK hS => ?_)
  refine z_ex2 hw (fun x_2 x_3 hw => ?_)
  refine z_an4 hw (fun h_4 h_5 h_6 h_7 hw => ?_)
  subst hw
  have hP : va_P D vwCl [(tk, .inr (7, [.ref ta, .int tkm, .int tkb, .int tkk, .int tka, .int tkv, .long tkc, .ref (ad tkw), .int x_2, .int x_3])), (ta, .inr (6, [.ref tab, .int tan])), (tab, .inl (tabt, 940, .inl tabf)), (na, .inr (2, [.ref nac, .int nan])), (nac, .inl (nact, 6, .inr (.inl nacf)))] H := hP
  have hD : va_D A [(tk, .inr (7, [.ref ta, .int tkm, .int tkb, .int tkk, .int tka, .int tkv, .long tkc, .ref (ad tkw), .int x_2, .int x_3])), (ta, .inr (6, [.ref tab, .int tan])), (tab, .inl (tabt, 940, .inl tabf)), (na, .inr (2, [.ref nac, .int nan])), (nac, .inl (nact, 6, .inr (.inl nacf)))] := hD
  have hK : va_K D vwCl [(tabt, .byte), (nact, .long)] s := hK
  refine W.cs (cells' := 0) (slots' := 0) rfl rfl ?_
  refine W.eq (g2 := F0 m 5 ls (.int y_1 :: [])) rfl ?_
  refine lv_istore_n (lv' := [(2, .int y_1), (0, .ref tk), (1, .ref na)]) hx hb dX7_passKnown_5 rfl hl (by decide) rfl (fun ls hl => ?_)
  refine lv_iload_n hx hb dX7_passKnown_6 rfl (lv_at hl 0 rfl) ?_
  refine lv_iconst (v := (-1)) hx hb dX7_passKnown_7 (by decide) ?_
  refine lv_icmp_eq (tgt := 15) hx hb dX7_passKnown_8 (by decide) (fun c_8 => ?_) (fun c_8 => ?_)
  · skip
    have h_9 : z_in (-1) (-1) y_1 := z_leL (Int32.le_of_eq c_8) h_4 (z_lit (x := (-1)) (a := (-1)) (b := (-1)) rfl) rfl
    refine lv_iload_n hx hb dX7_passKnown_15 rfl (lv_at hl 0 rfl) ?_
    exact hret y_1 ([(tk, .inr (7, [.ref ta, .int tkm, .int tkb, .int tkk, .int tka, .int tkv, .long tkc, .ref (ad tkw), .int x_2, .int x_3])), (ta, .inr (6, [.ref tab, .int tan])), (tab, .inl (tabt, 940, .inl tabf)), (na, .inr (2, [.ref nac, .int nan])), (nac, .inl (nact, 6, .inr (.inl nacf)))], []) _ _ _ _ dX7_passKnown_16 rfl ⟨tkb, tkk, tka, tkv, tkc, tkw, x_2, x_3, htkb, htkk, htkw, (z_w (c := (-1)) (d := 5) h_9 rfl), (fun h9 => absurd (Int.le_trans h9 h_9.2) (by decide)), (fun h9 => absurd (Int.le_trans h9 h_9.2) (by decide)), httk, hctk, (z_Pk0 h_7 (z_eqk h_9 rfl)), rfl⟩ hP (hK.sub [] rfl) hD hS
  · skip
    have h_10 : z_in 0 5 y_1 := z_neLo c_8 h_4 (z_lit (x := (-1)) (a := (-1)) (b := (-1)) rfl) rfl
    have h_11 : z_in 4 4 tkk := z_both htkk (h_5 (Int.le_trans (by decide) h_10.1)) rfl
    have h_12 : z_in 1 6 nan := z_both hnan (h_6 (Int.le_trans (by decide) h_10.1)) rfl
    refine lv_aload_n hx hb dX7_passKnown_11 rfl (lv_at hl 1 rfl) ?_
    have hc9 := (w_Tokens_advance l D ad tk tkm tkb tkk tka tkv tkc x_2 x_3 tkw ta tan tab tabt tabf htkm htkb (z_w (c := 0) (d := 4) h_11 rfl) htkw htan httk)
    refine z_callv (w0 := [(tk, .inr (7, [.ref ta, .int tkm, .int tkb, .int tkk, .int tka, .int tkv, .long tkc, .ref (ad tkw), .int x_2, .int x_3])), (ta, .inr (6, [.ref tab, .int tan])), (tab, .inl (tabt, 940, .inl tabf))]) (wr := [(na, .inr (2, [.ref nac, .int nan])), (nac, .inl (nact, 6, .inr (.inl nacf)))]) (va_runV (As := []) (rest := []) ⟨hx, hb, hml, hown, hts⟩ (hc9 _) (cwV 0 hts gX7_passKnown_X7_advance rfl rfl rfl (by decide +kernel) ⟨Nat.le_of_ble_eq_true rfl, Nat.le_of_ble_eq_true rfl⟩) (z_preV hP hD hK hS hA hE hO [0, 1, 2] [0] rfl (by decide +kernel) rfl 0 7 rfl rfl rfl) rfl rfl hl.1 rfl (lv_room (Nat.le_of_ble_eq_true rfl)) dX7_passKnown_12 ⟨Nat.le_of_ble_eq_true rfl, Nat.le_of_ble_eq_true rfl⟩) hP hD hK hS hA [0, 1, 2] [3, 4] rfl rfl (by decide +kernel) (by decide +kernel) (fun u9 H locs hw hP hD hK hS => ?_)
    refine z_ex6 hw (fun x_13 x_15 x_17 x_18 f_19 f_20 hw => ?_)
    refine z_an6 hw (fun h_14 h_16 h_21 h_22 h_23 h_24 hw => ?_)
    subst hw
    have hP : va_P D vwCl [(na, .inr (2, [.ref nac, .int nan])), (nac, .inl (nact, 6, .inr (.inl nacf))), (tk, .inr (7, [.ref ta, .int tkm, .int x_13, .int x_15, .int x_17, .int x_18, .long f_19, .ref (ad f_20), .int x_2, .int x_3])), (ta, .inr (6, [.ref tab, .int tan])), (tab, .inl (tabt, 940, .inl tabf))] H := hP
    have hD : va_D A [(na, .inr (2, [.ref nac, .int nan])), (nac, .inl (nact, 6, .inr (.inl nacf))), (tk, .inr (7, [.ref ta, .int tkm, .int x_13, .int x_15, .int x_17, .int x_18, .long f_19, .ref (ad f_20), .int x_2, .int x_3])), (ta, .inr (6, [.ref tab, .int tan])), (tab, .inl (tabt, 940, .inl tabf))] := hD
    have hK : va_K D vwCl [(tabt, .byte), (nact, .long)] s := hK
    refine W.cs (cells' := 0) (slots' := 0) rfl rfl ?_
    refine lv_iload_n hx hb dX7_passKnown_15 rfl (lv_at hl 0 rfl) ?_
    exact hret y_1 ([(tk, .inr (7, [.ref ta, .int tkm, .int x_13, .int x_15, .int x_17, .int x_18, .long f_19, .ref (ad f_20), .int x_2, .int x_3])), (ta, .inr (6, [.ref tab, .int tan])), (tab, .inl (tabt, 940, .inl tabf)), (na, .inr (2, [.ref nac, .int nan])), (nac, .inl (nact, 6, .inr (.inl nacf)))], []) _ _ _ _ dX7_passKnown_16 rfl ⟨x_13, x_15, x_17, x_18, f_19, f_20, x_2, x_3, h_14, h_16, h_21, (z_w (c := (-1)) (d := 5) h_10 rfl), (fun _ => h_11), (fun _ => h_12), h_22, h_23, (z_Pk1 h_7 c_8 hctk h_24 h_23), rfl⟩ (hP.sub [2, 3, 4, 0, 1] rfl) (hK.sub [] rfl) (hD.sub [2, 3, 4, 0, 1] (by decide +kernel) rfl) hS

set_option maxHeartbeats 8000000 in
set_option maxRecDepth 100000 in
theorem w_Tokens_findKnown6 (l : Launch) (D : va_G) (ad : Nat → Nat) (tk : Nat) (tkm : Int32) (tkb : Int32) (tkk : Int32) (tka : Int32) (tkv : Int32) (tkc : Int64) (tkf : Int32) (tkg : Int32) (tkw : Nat) (ta : Nat) (tan : Int32) (tab : Nat) (tabt : ClassId) (tabf : Nat → Int32) (na : Nat) (nan : Int32) (nac : Nat) (nact : ClassId) (nacf : Nat → Int64) (htkm : z_in 0 940 tkm) (htkb : z_in 0 940 tkb) (htkk : z_in 0 4 tkk) (htkw : tkw < 22) (htan : z_in 0 940 tan) (hnan : z_in 0 6 nan) (httk : z_tk tkk tkw) : z_Mi l yX7_findKnown wsX7_findKnown { frames := 1, cells := 0, slots := 0, locals := 23 } D ad [.ref tk, .ref na] [(tk, .inr (7, [.ref ta, .int tkm, .int tkb, .int tkk, .int tka, .int tkv, .long tkc, .ref (ad tkw), .int tkf, .int tkg])), (ta, .inr (6, [.ref tab, .int tan])), (tab, .inl (tabt, 940, .inl tabf)), (na, .inr (2, [.ref nac, .int nan])), (nac, .inl (nact, 6, .inr (.inl nacf)))] [(tabt, .byte), (nact, .long)] 0 0 (fun r9 u9 => ∃ (x0_8 : Int32) (x0_9 : Int32), z_in (-1) 5 r9 ∧ (0 ≤ r9.toInt → z_in 4 4 tkk) ∧ (0 ≤ r9.toInt → z_in 1 6 nan) ∧ u9 = ([(tk, .inr (7, [.ref ta, .int tkm, .int tkb, .int tkk, .int tka, .int tkv, .long tkc, .ref (ad tkw), .int x0_8, .int x0_9])), (ta, .inr (6, [.ref tab, .int tan])), (tab, .inl (tabt, 940, .inl tabf)), (na, .inr (2, [.ref nac, .int nan])), (nac, .inl (nact, 6, .inr (.inl nacf)))], [])) := by
  refine z_ofI (cc := cX7_findKnown) (maxL := 3) (rt := .int) (by decide) rfl (Nat.le_of_ble_eq_true rfl) ?_
  intro p e s m below meth c Q A ls hx hb hml hown hts hin hK hP hD hA hE hO hS hl hret
  have hown : s.vm.findClass RX7 = some m.cls := hown
  have hiX7 : ∀ w ∈ wsX70, w ∈ wsX7_findKnown := fun _ h9 => List.mem_cons_of_mem _ (List.mem_append_left _ (List.mem_append_right _ h9))
  have hiX2 : ∀ w ∈ wsX20, w ∈ wsX7_findKnown := fun _ h9 => List.mem_cons_of_mem _ (List.mem_append_right _ h9)
  have hl : lv_has ls 3 [(0, .ref tk), (1, .ref na)] := hl
  refine lv_aload_n hx hb dX7_findKnown_0 rfl (lv_at hl 0 rfl) ?_
  have hc9 := (w_Tokens_isName l D ad tk tkm tkb tkk tka tkv tkc tkf tkg tkw ta tan tab tabt tabf htkm htkb htkk htkw htan httk)
  refine z_calli (w0 := [(tk, .inr (7, [.ref ta, .int tkm, .int tkb, .int tkk, .int tka, .int tkv, .long tkc, .ref (ad tkw), .int tkf, .int tkg])), (ta, .inr (6, [.ref tab, .int tan])), (tab, .inl (tabt, 940, .inl tabf))]) (wr := [(na, .inr (2, [.ref nac, .int nan])), (nac, .inl (nact, 6, .inr (.inl nacf)))]) (va_runV (As := []) (rest := []) ⟨hx, hb, hml, hown, hts⟩ (hc9 _) (cwV 0 hts gX7_findKnown_X7_isName rfl rfl rfl (by decide +kernel) ⟨Nat.le_of_ble_eq_true rfl, Nat.le_of_ble_eq_true rfl⟩) (z_preV hP hD hK hS hA hE hO [0, 1, 2] [0] rfl (by decide +kernel) rfl 0 7 rfl rfl rfl) rfl rfl hl.1 rfl (lv_room (Nat.le_of_ble_eq_true rfl)) dX7_findKnown_1 ⟨Nat.le_of_ble_eq_true rfl, Nat.le_of_ble_eq_true rfl⟩) hP hD hK hS hA [0, 1, 2] [3, 4] rfl rfl (by decide +kernel) (by decide +kernel) (fun y_1 u9 H locs hw hP hD hK hS => ?_)
  obtain ⟨h_2, h_3, rfl⟩ := hw
  have hP : va_P D vwCl [(na, .inr (2, [.ref nac, .int nan])), (nac, .inl (nact, 6, .inr (.inl nacf))), (tk, .inr (7, [.ref ta, .int tkm, .int tkb, .int tkk, .int tka, .int tkv, .long tkc, .ref (ad tkw), .int tkf, .int tkg])), (ta, .inr (6, [.ref tab, .int tan])), (tab, .inl (tabt, 940, .inl tabf))] H := hP
  have hD : va_D A [(na, .inr (2, [.ref nac, .int nan])), (nac, .inl (nact, 6, .inr (.inl nacf))), (tk, .inr (7, [.ref ta, .int tkm, .int tkb, .int tkk, .int tka, .int tkv, .long tkc, .ref (ad tkw), .int tkf, .int tkg])), (ta, .inr (6, [.ref tab, .int tan])), (tab, .inl (tabt, 940, .inl tabf))] := hD
  have hK : va_K D vwCl [(tabt, .byte), (nact, .long)] s := hK
  refine W.cs (cells' := 0) (slots' := 0) rfl rfl ?_
  refine W.eq (g2 := F0 m 4 ls (.int y_1 :: [])) rfl ?_
  refine lv_if_ne (tgt := 15) hx hb dX7_findKnown_4 (by decide) (fun c_4 => ?_) (fun c_4 => ?_)
  · skip
    have h_5 : z_in 1 1 y_1 := z_neLo c_4 h_2 (z_lit (x := 0) (a := 0) (b := 0) rfl) rfl
    have h_6 : z_in 4 4 tkk := z_both htkk (h_3 (z_eqk h_5 rfl)) rfl
    refine lv_aload_n hx hb dX7_findKnown_15 rfl (lv_at hl 1 rfl) ?_
    refine lv_aload_n hx hb dX7_findKnown_16 rfl (lv_at hl 0 rfl) ?_
    refine va_get (D := D) (ci := 7) (v := .long tkc) (C := RX7) (T := TX7) (N := 10) hx hb hts hiX7 hown hK hP 2 rfl rfl 6 (by decide) (hts _ (List.mem_of_getElem? (i := 1) rfl)) (fun _ h9 => h9) rfl dX7_findKnown_17 ?_
    have hc9 := (w_Names6_find l D ad na nan nac nact nacf tkc hnan)
    refine z_calli (w0 := [(na, .inr (2, [.ref nac, .int nan])), (nac, .inl (nact, 6, .inr (.inl nacf)))]) (wr := [(tk, .inr (7, [.ref ta, .int tkm, .int tkb, .int tkk, .int tka, .int tkv, .long tkc, .ref (ad tkw), .int tkf, .int tkg])), (ta, .inr (6, [.ref tab, .int tan])), (tab, .inl (tabt, 940, .inl tabf))]) (va_runV (As := [.long tkc]) (rest := []) ⟨hx, hb, hml, hown, hts⟩ (hc9 _) (cwV 1 hts gX7_findKnown_X2_find rfl rfl rfl (by decide +kernel) ⟨Nat.le_of_ble_eq_true rfl, Nat.le_of_ble_eq_true rfl⟩) (z_preV hP hD hK hS hA hE hO [0, 1] [1] rfl (by decide +kernel) rfl 0 2 rfl rfl rfl) rfl rfl hl.1 rfl (lv_room (Nat.le_of_ble_eq_true rfl)) dX7_findKnown_20 ⟨Nat.le_of_ble_eq_true rfl, Nat.le_of_ble_eq_true rfl⟩) hP hD hK hS hA [0, 1] [2, 3, 4] rfl rfl (by decide +kernel) (by decide +kernel) (fun y_7 u9 H locs hw hP hD hK hS => ?_)
    obtain ⟨h_8, h_9, h_10, rfl⟩ := hw
    have hP : va_P D vwCl [(tk, .inr (7, [.ref ta, .int tkm, .int tkb, .int tkk, .int tka, .int tkv, .long tkc, .ref (ad tkw), .int tkf, .int tkg])), (ta, .inr (6, [.ref tab, .int tan])), (tab, .inl (tabt, 940, .inl tabf)), (na, .inr (2, [.ref nac, .int nan])), (nac, .inl (nact, 6, .inr (.inl nacf)))] H := hP
    have hD : va_D A [(tk, .inr (7, [.ref ta, .int tkm, .int tkb, .int tkk, .int tka, .int tkv, .long tkc, .ref (ad tkw), .int tkf, .int tkg])), (ta, .inr (6, [.ref tab, .int tan])), (tab, .inl (tabt, 940, .inl tabf)), (na, .inr (2, [.ref nac, .int nan])), (nac, .inl (nact, 6, .inr (.inl nacf)))] := hD
    have hK : va_K D vwCl [(tabt, .byte), (nact, .long)] s := hK
    refine W.cs (cells' := 0) (slots' := 0) rfl rfl ?_
    refine W.eq (g2 := F0 m 23 ls (.int y_7 :: [])) rfl ?_
    refine lv_istore_n (lv' := [(2, .int y_7), (0, .ref tk), (1, .ref na)]) hx hb dX7_findKnown_23 rfl hl (by decide) rfl (fun ls hl => ?_)
    refine lv_iload_n hx hb dX7_findKnown_24 rfl (lv_at hl 0 rfl) ?_
    refine lv_iconst (v := (-1)) hx hb dX7_findKnown_25 (by decide) ?_
    refine lv_icmp_ne (tgt := 35) hx hb dX7_findKnown_26 (by decide) (fun c_11 => ?_) (fun c_11 => ?_)
    · skip
      have h_12 : z_in 0 5 y_7 := z_neLo c_11 h_8 (z_lit (x := (-1)) (a := (-1)) (b := (-1)) rfl) rfl
      have h_13 : z_in 1 6 nan := z_both hnan (h_9 (Int.le_trans (by decide) h_12.1)) rfl
      refine lv_iload_n hx hb dX7_findKnown_35 rfl (lv_at hl 0 rfl) ?_
      exact hret y_7 ([(tk, .inr (7, [.ref ta, .int tkm, .int tkb, .int tkk, .int tka, .int tkv, .long tkc, .ref (ad tkw), .int tkf, .int tkg])), (ta, .inr (6, [.ref tab, .int tan])), (tab, .inl (tabt, 940, .inl tabf)), (na, .inr (2, [.ref nac, .int nan])), (nac, .inl (nact, 6, .inr (.inl nacf)))], []) _ _ _ _ dX7_findKnown_36 rfl ⟨tkf, tkg, (z_w (c := (-1)) (d := 5) h_12 rfl), (fun _ => h_6), (fun _ => h_13), rfl⟩ hP (hK.sub [] rfl) hD hS
    · skip
      have h_14 : z_in (-1) (-1) y_7 := z_leL (Int32.le_of_eq c_11) h_8 (z_lit (x := (-1)) (a := (-1)) (b := (-1)) rfl) rfl
      refine lv_aload_n hx hb dX7_findKnown_29 rfl (lv_at hl 1 rfl) ?_
      refine lv_iconst (v := 3) hx hb dX7_findKnown_30 (by decide) ?_
      have hc9 := (w_Tokens_fails l D ad tk tkm tkb tkk tka tkv tkc tkf tkg tkw ta tan tab tabt tabf 3 htkm htkb (z_w (c := 0) (d := 4) h_6 rfl) htkw htan httk)
      refine z_calli (w0 := [(tk, .inr (7, [.ref ta, .int tkm, .int tkb, .int tkk, .int tka, .int tkv, .long tkc, .ref (ad tkw), .int tkf, .int tkg])), (ta, .inr (6, [.ref tab, .int tan])), (tab, .inl (tabt, 940, .inl tabf))]) (wr := [(na, .inr (2, [.ref nac, .int nan])), (nac, .inl (nact, 6, .inr (.inl nacf)))]) (va_runV (As := [.int 3]) (rest := []) ⟨hx, hb, hml, hown, hts⟩ (hc9 _) (cwV 1 hts gX7_findKnown_X7_fails rfl rfl rfl (by decide +kernel) ⟨Nat.le_of_ble_eq_true rfl, Nat.le_of_ble_eq_true rfl⟩) (z_preV hP hD hK hS hA hE hO [0, 1, 2] [0] rfl (by decide +kernel) rfl 0 7 rfl rfl rfl) rfl rfl hl.1 rfl (lv_room (Nat.le_of_ble_eq_true rfl)) dX7_findKnown_31 ⟨Nat.le_of_ble_eq_true rfl, Nat.le_of_ble_eq_true rfl⟩) hP hD hK hS hA [0, 1, 2] [3, 4] rfl rfl (by decide +kernel) (by decide +kernel) (fun y_15 u9 H locs hw hP hD hK hS => ?_)
      obtain ⟨x_16, x_17, h_18, rfl⟩ := hw
      have hP : va_P D vwCl [(na, .inr (2, [.ref nac, .int nan])), (nac, .inl (nact, 6, .inr (.inl nacf))), (tk, .inr (7, [.ref ta, .int tkm, .int tkb, .int tkk, .int tka, .int tkv, .long tkc, .ref (ad tkw), .int x_16, .int x_17])), (ta, .inr (6, [.ref tab, .int tan])), (tab, .inl (tabt, 940, .inl tabf))] H := hP
      have hD : va_D A [(na, .inr (2, [.ref nac, .int nan])), (nac, .inl (nact, 6, .inr (.inl nacf))), (tk, .inr (7, [.ref ta, .int tkm, .int tkb, .int tkk, .int tka, .int tkv, .long tkc, .ref (ad tkw), .int x_16, .int x_17])), (ta, .inr (6, [.ref tab, .int tan])), (tab, .inl (tabt, 940, .inl tabf))] := hD
      have hK : va_K D vwCl [(tabt, .byte), (nact, .long)] s := hK
      refine W.cs (cells' := 0) (slots' := 0) rfl rfl ?_
      refine W.eq (g2 := F0 m 34 ls (.int y_15 :: [])) rfl ?_
      refine lv_pop hx hb dX7_findKnown_34 rfl ?_
      refine lv_iload_n hx hb dX7_findKnown_35 rfl (lv_at hl 0 rfl) ?_
      exact hret y_7 ([(tk, .inr (7, [.ref ta, .int tkm, .int tkb, .int tkk, .int tka, .int tkv, .long tkc, .ref (ad tkw), .int x_16, .int x_17])), (ta, .inr (6, [.ref tab, .int tan])), (tab, .inl (tabt, 940, .inl tabf)), (na, .inr (2, [.ref nac, .int nan])), (nac, .inl (nact, 6, .inr (.inl nacf)))], []) _ _ _ _ dX7_findKnown_36 rfl ⟨x_16, x_17, (z_w (c := (-1)) (d := 5) h_14 rfl), (fun h9 => absurd (Int.le_trans h9 h_14.2) (by decide)), (fun h9 => absurd (Int.le_trans h9 h_14.2) (by decide)), rfl⟩ (hP.sub [2, 3, 4, 0, 1] rfl) (hK.sub [] rfl) (hD.sub [2, 3, 4, 0, 1] (by decide +kernel) rfl) hS
  · skip
    have h_19 : z_in 0 0 y_1 := z_leL (Int32.le_of_eq c_4) h_2 (z_lit (x := 0) (a := 0) (b := 0) rfl) rfl
    refine lv_aload_n hx hb dX7_findKnown_7 rfl (lv_at hl 0 rfl) ?_
    refine lv_iconst (v := 1) hx hb dX7_findKnown_8 (by decide) ?_
    have hc9 := (w_Tokens_fails l D ad tk tkm tkb tkk tka tkv tkc tkf tkg tkw ta tan tab tabt tabf 1 htkm htkb htkk htkw htan httk)
    refine z_calli (w0 := [(tk, .inr (7, [.ref ta, .int tkm, .int tkb, .int tkk, .int tka, .int tkv, .long tkc, .ref (ad tkw), .int tkf, .int tkg])), (ta, .inr (6, [.ref tab, .int tan])), (tab, .inl (tabt, 940, .inl tabf))]) (wr := [(na, .inr (2, [.ref nac, .int nan])), (nac, .inl (nact, 6, .inr (.inl nacf)))]) (va_runV (As := [.int 1]) (rest := []) ⟨hx, hb, hml, hown, hts⟩ (hc9 _) (cwV 1 hts gX7_findKnown_X7_fails rfl rfl rfl (by decide +kernel) ⟨Nat.le_of_ble_eq_true rfl, Nat.le_of_ble_eq_true rfl⟩) (z_preV hP hD hK hS hA hE hO [2, 3, 4] [0] rfl (by decide +kernel) rfl 2 7 rfl rfl rfl) rfl rfl hl.1 rfl (lv_room (Nat.le_of_ble_eq_true rfl)) dX7_findKnown_9 ⟨Nat.le_of_ble_eq_true rfl, Nat.le_of_ble_eq_true rfl⟩) hP hD hK hS hA [2, 3, 4] [0, 1] rfl rfl (by decide +kernel) (by decide +kernel) (fun y_20 u9 H locs hw hP hD hK hS => ?_)
    obtain ⟨x_21, x_22, h_23, rfl⟩ := hw
    have hP : va_P D vwCl [(na, .inr (2, [.ref nac, .int nan])), (nac, .inl (nact, 6, .inr (.inl nacf))), (tk, .inr (7, [.ref ta, .int tkm, .int tkb, .int tkk, .int tka, .int tkv, .long tkc, .ref (ad tkw), .int x_21, .int x_22])), (ta, .inr (6, [.ref tab, .int tan])), (tab, .inl (tabt, 940, .inl tabf))] H := hP
    have hD : va_D A [(na, .inr (2, [.ref nac, .int nan])), (nac, .inl (nact, 6, .inr (.inl nacf))), (tk, .inr (7, [.ref ta, .int tkm, .int tkb, .int tkk, .int tka, .int tkv, .long tkc, .ref (ad tkw), .int x_21, .int x_22])), (ta, .inr (6, [.ref tab, .int tan])), (tab, .inl (tabt, 940, .inl tabf))] := hD
    have hK : va_K D vwCl [(tabt, .byte), (nact, .long)] s := hK
    refine W.cs (cells' := 0) (slots' := 0) rfl rfl ?_
    refine W.eq (g2 := F0 m 12 ls (.int y_20 :: [])) rfl ?_
    refine lv_pop hx hb dX7_findKnown_12 rfl ?_
    refine lv_iconst (v := (-1)) hx hb dX7_findKnown_13 (by decide) ?_
    exact hret (-1) ([(tk, .inr (7, [.ref ta, .int tkm, .int tkb, .int tkk, .int tka, .int tkv, .long tkc, .ref (ad tkw), .int x_21, .int x_22])), (ta, .inr (6, [.ref tab, .int tan])), (tab, .inl (tabt, 940, .inl tabf)), (na, .inr (2, [.ref nac, .int nan])), (nac, .inl (nact, 6, .inr (.inl nacf)))], []) _ _ _ _ dX7_findKnown_14 rfl ⟨x_21, x_22, (z_w (c := (-1)) (d := 5) (z_lit (x := (-1)) (a := (-1)) (b := (-1)) rfl) rfl), (fun h9 => absurd (Int.le_trans h9 (z_lit (x := (-1)) (a := (-1)) (b := (-1)) rfl).2) (by decide)), (fun h9 => absurd (Int.le_trans h9 (z_lit (x := (-1)) (a := (-1)) (b := (-1)) rfl).2) (by decide)), rfl⟩ (hP.sub [2, 3, 4, 0, 1] rfl) (hK.sub [] rfl) (hD.sub [2, 3, 4, 0, 1] (by decide +kernel) rfl) hS
