theorem dX7_isSign_0 : decode cX7_isSign 0 = .ok (.aload_n 0, 1) := by decide +kernel
theorem dX7_isSign_1 : decode cX7_isSign 1 = .ok (.getfield 76, 3) := by decide +kernel
theorem dX7_isSign_4 : decode cX7_isSign 4 = .ok (.iconst 2, 1) := by decide +kernel
theorem dX7_isSign_5 : decode cX7_isSign 5 = .ok (.if_icmp .ne 15, 3) := by decide +kernel
theorem dX7_isSign_8 : decode cX7_isSign 8 = .ok (.aload_n 0, 1) := by decide +kernel
theorem dX7_isSign_9 : decode cX7_isSign 9 = .ok (.getfield 53, 3) := by decide +kernel
theorem dX7_isSign_12 : decode cX7_isSign 12 = .ok (.iload_n 1, 1) := by decide +kernel
theorem dX7_isSign_13 : decode cX7_isSign 13 = .ok (.if_icmp .ne 7, 3) := by decide +kernel
theorem dX7_isSign_16 : decode cX7_isSign 16 = .ok (.iconst 1, 1) := by decide +kernel
theorem dX7_isSign_17 : decode cX7_isSign 17 = .ok (.goto 4, 3) := by decide +kernel
theorem dX7_isSign_20 : decode cX7_isSign 20 = .ok (.iconst 0, 1) := by decide +kernel
theorem dX7_isSign_21 : decode cX7_isSign 21 = .ok (.ireturn, 1) := by decide +kernel
theorem dX7_isComparison_0 : decode cX7_isComparison 0 = .ok (.aload_n 0, 1) := by decide +kernel
theorem dX7_isComparison_1 : decode cX7_isComparison 1 = .ok (.bipush 60, 2) := by decide +kernel
theorem dX7_isComparison_3 : decode cX7_isComparison 3 = .ok (.invokevirtual 99, 3) := by decide +kernel
theorem dX7_isComparison_6 : decode cX7_isComparison 6 = .ok (.ifCond .ne 21, 3) := by decide +kernel
theorem dX7_isComparison_9 : decode cX7_isComparison 9 = .ok (.aload_n 0, 1) := by decide +kernel
theorem dX7_isComparison_10 : decode cX7_isComparison 10 = .ok (.bipush 61, 2) := by decide +kernel
theorem dX7_isComparison_12 : decode cX7_isComparison 12 = .ok (.invokevirtual 99, 3) := by decide +kernel
theorem dX7_isComparison_15 : decode cX7_isComparison 15 = .ok (.ifCond .ne 12, 3) := by decide +kernel
theorem dX7_isComparison_18 : decode cX7_isComparison 18 = .ok (.aload_n 0, 1) := by decide +kernel
theorem dX7_isComparison_19 : decode cX7_isComparison 19 = .ok (.bipush 62, 2) := by decide +kernel
theorem dX7_isComparison_21 : decode cX7_isComparison 21 = .ok (.invokevirtual 99, 3) := by decide +kernel
theorem dX7_isComparison_24 : decode cX7_isComparison 24 = .ok (.ifCond .eq 7, 3) := by decide +kernel
theorem dX7_isComparison_27 : decode cX7_isComparison 27 = .ok (.iconst 1, 1) := by decide +kernel
theorem dX7_isComparison_28 : decode cX7_isComparison 28 = .ok (.goto 4, 3) := by decide +kernel
theorem dX7_isComparison_31 : decode cX7_isComparison 31 = .ok (.iconst 0, 1) := by decide +kernel
theorem dX7_isComparison_32 : decode cX7_isComparison 32 = .ok (.ireturn, 1) := by decide +kernel
theorem dX7_isName_0 : decode cX7_isName 0 = .ok (.aload_n 0, 1) := by decide +kernel
theorem dX7_isName_1 : decode cX7_isName 1 = .ok (.getfield 76, 3) := by decide +kernel
theorem dX7_isName_4 : decode cX7_isName 4 = .ok (.iconst 4, 1) := by decide +kernel
theorem dX7_isName_5 : decode cX7_isName 5 = .ok (.if_icmp .ne 17, 3) := by decide +kernel
theorem dX7_isName_8 : decode cX7_isName 8 = .ok (.aload_n 0, 1) := by decide +kernel
theorem dX7_isName_9 : decode cX7_isName 9 = .ok (.getfield 15, 3) := by decide +kernel
theorem dX7_isName_12 : decode cX7_isName 12 = .ok (.getstatic 9, 3) := by decide +kernel
theorem dX7_isName_15 : decode cX7_isName 15 = .ok (.if_acmp .ne 7, 3) := by decide +kernel
theorem dX7_isName_18 : decode cX7_isName 18 = .ok (.iconst 1, 1) := by decide +kernel
theorem dX7_isName_19 : decode cX7_isName 19 = .ok (.goto 4, 3) := by decide +kernel
theorem dX7_isName_22 : decode cX7_isName 22 = .ok (.iconst 0, 1) := by decide +kernel
theorem dX7_isName_23 : decode cX7_isName 23 = .ok (.ireturn, 1) := by decide +kernel
theorem dX7_wordHere_0 : decode cX7_wordHere 0 = .ok (.aload_n 0, 1) := by decide +kernel
theorem dX7_wordHere_1 : decode cX7_wordHere 1 = .ok (.getfield 15, 3) := by decide +kernel
theorem dX7_wordHere_4 : decode cX7_wordHere 4 = .ok (.areturn, 1) := by decide +kernel
theorem dX7_signHere_0 : decode cX7_signHere 0 = .ok (.aload_n 0, 1) := by decide +kernel
theorem dX7_signHere_1 : decode cX7_signHere 1 = .ok (.getfield 53, 3) := by decide +kernel
theorem dX7_signHere_4 : decode cX7_signHere 4 = .ok (.ireturn, 1) := by decide +kernel
theorem dX7_fails_0 : decode cX7_fails 0 = .ok (.aload_n 0, 1) := by decide +kernel
theorem dX7_fails_1 : decode cX7_fails 1 = .ok (.getfield 31, 3) := by decide +kernel
theorem dX7_fails_4 : decode cX7_fails 4 = .ok (.ifCond .ne 16, 3) := by decide +kernel
theorem dX7_fails_7 : decode cX7_fails 7 = .ok (.aload_n 0, 1) := by decide +kernel
theorem dX7_fails_8 : decode cX7_fails 8 = .ok (.iload_n 1, 1) := by decide +kernel
theorem dX7_fails_9 : decode cX7_fails 9 = .ok (.putfield 31, 3) := by decide +kernel
theorem dX7_fails_12 : decode cX7_fails 12 = .ok (.aload_n 0, 1) := by decide +kernel
theorem dX7_fails_13 : decode cX7_fails 13 = .ok (.aload_n 0, 1) := by decide +kernel
theorem dX7_fails_14 : decode cX7_fails 14 = .ok (.getfield 85, 3) := by decide +kernel
theorem dX7_fails_17 : decode cX7_fails 17 = .ok (.putfield 34, 3) := by decide +kernel
theorem dX7_fails_20 : decode cX7_fails 20 = .ok (.iconst 0, 1) := by decide +kernel
theorem dX7_fails_21 : decode cX7_fails 21 = .ok (.ireturn, 1) := by decide +kernel
theorem dX7_passSign_0 : decode cX7_passSign 0 = .ok (.aload_n 0, 1) := by decide +kernel
theorem dX7_passSign_1 : decode cX7_passSign 1 = .ok (.iload_n 1, 1) := by decide +kernel
theorem dX7_passSign_2 : decode cX7_passSign 2 = .ok (.invokevirtual 99, 3) := by decide +kernel
theorem dX7_passSign_5 : decode cX7_passSign 5 = .ok (.ifCond .ne 9, 3) := by decide +kernel
theorem dX7_passSign_8 : decode cX7_passSign 8 = .ok (.aload_n 0, 1) := by decide +kernel
theorem dX7_passSign_9 : decode cX7_passSign 9 = .ok (.iconst 1, 1) := by decide +kernel
theorem dX7_passSign_10 : decode cX7_passSign 10 = .ok (.invokevirtual 103, 3) := by decide +kernel
theorem dX7_passSign_13 : decode cX7_passSign 13 = .ok (.ireturn, 1) := by decide +kernel
theorem dX7_passSign_14 : decode cX7_passSign 14 = .ok (.aload_n 0, 1) := by decide +kernel
theorem dX7_passSign_15 : decode cX7_passSign 15 = .ok (.invokevirtual 37, 3) := by decide +kernel
theorem dX7_passSign_18 : decode cX7_passSign 18 = .ok (.iconst 1, 1) := by decide +kernel
theorem dX7_passSign_19 : decode cX7_passSign 19 = .ok (.ireturn, 1) := by decide +kernel
set_option maxRecDepth 20000 in
theorem ggX7_isComparison_X7_isSign : GoodIn wsX7_isComparison wsX7_isSign := goodIn_r _ [5, 6, 7, 8, 9, 10, 11, 12, 13, 14, 15, 16, 17] rfl (by decide +kernel)
set_option maxRecDepth 20000 in
theorem gX7_isComparison_X7_isSign : GoodIn wsX7_isComparison (wsV RX7 99 RX7 yX7_isSign wsX7_isSign) := goodIn_app (a := [.methodLink RX7 99 yX7_isSign, .instanceMethod yX7_isSign, .selects RX7 yX7_isSign yX7_isSign, .initialized RX7]) (g_c9 (List.mem_cons_of_mem _ (List.mem_append_left _ (List.mem_of_getElem? (i := 0) rfl))) rfl (g_c9 (List.mem_cons_of_mem _ (List.mem_append_left _ (List.mem_of_getElem? (i := 1) rfl))) rfl (g_c9 (List.mem_cons_of_mem _ (List.mem_append_left _ (List.mem_of_getElem? (i := 2) rfl))) rfl (g_c9 (List.mem_cons_of_mem _ (List.mem_append_left _ (List.mem_of_getElem? (i := 3) rfl))) rfl g_n9)))) ggX7_isComparison_X7_isSign
set_option maxRecDepth 20000 in
theorem ggX7_passSign_X7_isSign : GoodIn wsX7_passSign wsX7_isSign := goodIn_r _ [5, 6, 7, 71, 72, 73, 74, 75, 76, 77, 78, 79, 80] rfl (by decide +kernel)
set_option maxRecDepth 20000 in
theorem gX7_passSign_X7_isSign : GoodIn wsX7_passSign (wsV RX7 99 RX7 yX7_isSign wsX7_isSign) := goodIn_app (a := [.methodLink RX7 99 yX7_isSign, .instanceMethod yX7_isSign, .selects RX7 yX7_isSign yX7_isSign, .initialized RX7]) (have hq0 : ∀ w, w ∈ wsX7_passSign_r1 → w ∈ wsX7_passSign := fun _ h9 => (List.mem_cons_of_mem _ (List.mem_append_left _ (List.mem_append_left _ (List.mem_append_left _ h9)))); (g_c9 (hq0 _ (List.mem_of_getElem? (i := 0) rfl)) rfl (g_c9 (hq0 _ (List.mem_of_getElem? (i := 1) rfl)) rfl (g_c9 (hq0 _ (List.mem_of_getElem? (i := 2) rfl)) rfl (g_c9 (hq0 _ (List.mem_of_getElem? (i := 3) rfl)) rfl g_n9))))) ggX7_passSign_X7_isSign
set_option maxRecDepth 20000 in
theorem ggX7_passSign_X7_fails : GoodIn wsX7_passSign wsX7_fails := goodIn_r _ [11, 12, 13, 14, 71, 72, 73, 74, 75, 76, 77, 78, 79, 80] rfl (by decide +kernel)
set_option maxRecDepth 20000 in
theorem gX7_passSign_X7_fails : GoodIn wsX7_passSign (wsV RX7 103 RX7 yX7_fails wsX7_fails) := goodIn_app (a := [.methodLink RX7 103 yX7_fails, .instanceMethod yX7_fails, .selects RX7 yX7_fails yX7_fails, .initialized RX7]) (have hq0 : ∀ w, w ∈ wsX7_passSign_r1 → w ∈ wsX7_passSign := fun _ h9 => (List.mem_cons_of_mem _ (List.mem_append_left _ (List.mem_append_left _ (List.mem_append_left _ h9)))); (g_c9 (hq0 _ (List.mem_of_getElem? (i := 7) rfl)) rfl (g_c9 (hq0 _ (List.mem_of_getElem? (i := 8) rfl)) rfl (g_c9 (hq0 _ (List.mem_of_getElem? (i := 9) rfl)) rfl (g_c9 (hq0 _ (List.mem_of_getElem? (i := 3) rfl)) rfl g_n9))))) ggX7_passSign_X7_fails
set_option maxRecDepth 20000 in
theorem ggX7_passSign_X7_advance : GoodIn wsX7_passSign wsX7_advance := goodIn_r _ [18, 19, 20, 21, 22, 23, 7, 24, 25, 26, 27, 28, 29, 30, 31, 32, 33, 34, 4, 35, 36, 37, 38, 39, 6, 40, 41, 42, 43, 13, 44, 45, 46, 47, 48, 49, 50, 51, 52, 53, 54, 55, 56, 57, 58, 59, 60, 61, 62, 63, 64, 65, 66, 67, 68, 69, 70, 71, 72, 73, 74, 75, 76, 77, 78, 79, 80, 81, 82] rfl (by decide +kernel)
set_option maxRecDepth 20000 in
theorem gX7_passSign_X7_advance : GoodIn wsX7_passSign (wsV RX7 37 RX7 yX7_advance wsX7_advance) := goodIn_app (a := [.methodLink RX7 37 yX7_advance, .instanceMethod yX7_advance, .selects RX7 yX7_advance yX7_advance, .initialized RX7]) (have hq0 : ∀ w, w ∈ wsX7_passSign_r1 → w ∈ wsX7_passSign := fun _ h9 => (List.mem_cons_of_mem _ (List.mem_append_left _ (List.mem_append_left _ (List.mem_append_left _ h9)))); (g_c9 (hq0 _ (List.mem_of_getElem? (i := 14) rfl)) rfl (g_c9 (hq0 _ (List.mem_of_getElem? (i := 15) rfl)) rfl (g_c9 (hq0 _ (List.mem_of_getElem? (i := 16) rfl)) rfl (g_c9 (hq0 _ (List.mem_of_getElem? (i := 3) rfl)) rfl g_n9))))) ggX7_passSign_X7_advance
set_option maxHeartbeats 8000000 in
set_option maxRecDepth 100000 in
theorem s_Tokens_isSign (l : Launch) (D : va_G) (ad : Nat → Nat) (tk : Nat) (tkm : Int32) (tkb : Int32) (tkk : Int32) (tka : Int32) (tkv : Int32) (tkc : Int64) (tkf : Int32) (tkg : Int32) (tkw : Nat) (ta : Nat) (tan : Int32) (tab : Nat) (tabt : ClassId) (tabf : Nat → Int32) (i0 : Int32) (htkm : z_in 0 940 tkm) (htkb : z_in 0 940 tkb) (htkk : z_in 0 4 tkk) (htkw : tkw < 22) (htan : z_in 0 940 tan) (httk : z_tk tkk tkw) (hctk : z_ctk z_cds tabf tan tkm tkk tka tkv tkc tkw tkb) : z_Mi l yX7_isSign wsX7_isSign { frames := 0, cells := 0, slots := 0, locals := 0 } D ad [.ref tk, .int i0] [(tk, .inr (7, [.ref ta, .int tkm, .int tkb, .int tkk, .int tka, .int tkv, .long tkc, .ref (ad tkw), .int tkf, .int tkg])), (ta, .inr (6, [.ref tab, .int tan])), (tab, .inl (tabt, 940, .inl tabf))] [(tabt, .byte)] 0 0 (fun r9 u9 => z_in 0 1 r9 ∧ (r9 = 1 → z_in 2 2 tkk) ∧ z_SS r9 tabf tan tkm tka i0 ∧ u9 = ([(tk, .inr (7, [.ref ta, .int tkm, .int tkb, .int tkk, .int tka, .int tkv, .long tkc, .ref (ad tkw), .int tkf, .int tkg])), (ta, .inr (6, [.ref tab, .int tan])), (tab, .inl (tabt, 940, .inl tabf))], [])) := by
  refine z_ofI (cc := cX7_isSign) (maxL := 2) (rt := .boolean) (by decide) rfl (Nat.le_of_ble_eq_true rfl) ?_
  intro p e s m below meth c Q A ls hx hb hml hown hts hin hK hP hD hA hE hO hS hl hret
  have hown : s.vm.findClass RX7 = some m.cls := hown
  have hiX7 : ∀ w ∈ wsX70, w ∈ wsX7_isSign := fun _ h9 => List.mem_cons_of_mem _ (List.mem_append_right _ h9)
  have hl : lv_has ls 2 [(0, .ref tk), (1, .int i0)] := hl
  refine lv_aload_n hx hb dX7_isSign_0 rfl (lv_at hl 0 rfl) ?_
  refine va_get (D := D) (ci := 7) (v := .int tkk) (C := RX7) (T := TX7) (N := 10) hx hb hts hiX7 hown hK hP 0 rfl rfl 3 (by decide) (hts _ (List.mem_of_getElem? (i := 1) rfl)) (fun _ h9 => h9) rfl dX7_isSign_1 ?_
  refine lv_iconst (v := 2) hx hb dX7_isSign_4 (by decide) ?_
  refine lv_icmp_ne (tgt := 20) hx hb dX7_isSign_5 (by decide) (fun c_1 => ?_) (fun c_1 => ?_)
  · skip
    refine lv_iconst (v := 0) hx hb dX7_isSign_20 (by decide) ?_
    exact hret 0 ([(tk, .inr (7, [.ref ta, .int tkm, .int tkb, .int tkk, .int tka, .int tkv, .long tkc, .ref (ad tkw), .int tkf, .int tkg])), (ta, .inr (6, [.ref tab, .int tan])), (tab, .inl (tabt, 940, .inl tabf))], []) _ _ _ _ dX7_isSign_21 (by decide) ⟨(z_w (c := 0) (d := 1) (z_lit (x := 0) (a := 0) (b := 0) rfl) rfl), (fun h9 => absurd h9 (by decide)), (z_SS0 hctk c_1), rfl⟩ hP (hK.sub [] rfl) hD hS
  · skip
    have h_2 : z_in 0 2 tkk := z_leL (Int32.le_of_eq c_1) htkk (z_lit (x := 2) (a := 2) (b := 2) rfl) rfl
    have h_3 : z_in 2 2 tkk := z_leR (Int32.le_of_eq (Eq.symm c_1)) (z_lit (x := 2) (a := 2) (b := 2) rfl) h_2 rfl
    refine lv_aload_n hx hb dX7_isSign_8 rfl (lv_at hl 0 rfl) ?_
    refine va_get (D := D) (ci := 7) (v := .int tkv) (C := RX7) (T := TX7) (N := 10) hx hb hts hiX7 hown hK hP 0 rfl rfl 5 (by decide) (hts _ (List.mem_of_getElem? (i := 2) rfl)) (fun _ h9 => h9) rfl dX7_isSign_9 ?_
    refine lv_iload_n hx hb dX7_isSign_12 rfl (lv_at hl 1 rfl) ?_
    refine lv_icmp_ne (tgt := 20) hx hb dX7_isSign_13 (by decide) (fun c_4 => ?_) (fun c_4 => ?_)
    · skip
      refine lv_iconst (v := 0) hx hb dX7_isSign_20 (by decide) ?_
      exact hret 0 ([(tk, .inr (7, [.ref ta, .int tkm, .int tkb, .int tkk, .int tka, .int tkv, .long tkc, .ref (ad tkw), .int tkf, .int tkg])), (ta, .inr (6, [.ref tab, .int tan])), (tab, .inl (tabt, 940, .inl tabf))], []) _ _ _ _ dX7_isSign_21 (by decide) ⟨(z_w (c := 0) (d := 1) (z_lit (x := 0) (a := 0) (b := 0) rfl) rfl), (fun h9 => absurd h9 (by decide)), (z_SS2 hctk (z_eqk h_3 rfl) c_4), rfl⟩ hP (hK.sub [] rfl) hD hS
    · skip
      refine lv_iconst (v := 1) hx hb dX7_isSign_16 (by decide) ?_
      refine lv_goto (tgt := 21) hx hb dX7_isSign_17 (by decide) ?_
      exact hret 1 ([(tk, .inr (7, [.ref ta, .int tkm, .int tkb, .int tkk, .int tka, .int tkv, .long tkc, .ref (ad tkw), .int tkf, .int tkg])), (ta, .inr (6, [.ref tab, .int tan])), (tab, .inl (tabt, 940, .inl tabf))], []) _ _ _ _ dX7_isSign_21 (by decide) ⟨(z_w (c := 0) (d := 1) (z_lit (x := 1) (a := 1) (b := 1) rfl) rfl), (fun _ => h_3), (z_SS1 hctk (z_eqk h_3 rfl) c_4), rfl⟩ hP (hK.sub [] rfl) hD hS

set_option maxHeartbeats 8000000 in
set_option maxRecDepth 100000 in
theorem s_Tokens_isName (l : Launch) (D : va_G) (ad : Nat → Nat) (tk : Nat) (tkm : Int32) (tkb : Int32) (tkk : Int32) (tka : Int32) (tkv : Int32) (tkc : Int64) (tkf : Int32) (tkg : Int32) (tkw : Nat) (ta : Nat) (tan : Int32) (tab : Nat) (tabt : ClassId) (tabf : Nat → Int32) (htkm : z_in 0 940 tkm) (htkb : z_in 0 940 tkb) (htkk : z_in 0 4 tkk) (htkw : tkw < 22) (htan : z_in 0 940 tan) (httk : z_tk tkk tkw) (hctk : z_ctk z_cds tabf tan tkm tkk tka tkv tkc tkw tkb) : z_Mi l yX7_isName wsX7_isName { frames := 0, cells := 0, slots := 0, locals := 0 } D ad [.ref tk] [(tk, .inr (7, [.ref ta, .int tkm, .int tkb, .int tkk, .int tka, .int tkv, .long tkc, .ref (ad tkw), .int tkf, .int tkg])), (ta, .inr (6, [.ref tab, .int tan])), (tab, .inl (tabt, 940, .inl tabf))] [(tabt, .byte)] 0 0 (fun r9 u9 => z_in 0 1 r9 ∧ (r9 = 1 → z_in 4 4 tkk) ∧ z_Nc r9 tabf tan tkm tka tkc ∧ u9 = ([(tk, .inr (7, [.ref ta, .int tkm, .int tkb, .int tkk, .int tka, .int tkv, .long tkc, .ref (ad tkw), .int tkf, .int tkg])), (ta, .inr (6, [.ref tab, .int tan])), (tab, .inl (tabt, 940, .inl tabf))], [])) := by
  refine z_ofI (cc := cX7_isName) (maxL := 1) (rt := .boolean) (by decide) rfl (Nat.le_of_ble_eq_true rfl) ?_
  intro p e s m below meth c Q A ls hx hb hml hown hts hin hK hP hD hA hE hO hS hl hret
  have hown : s.vm.findClass RX7 = some m.cls := hown
  have hiX7 : ∀ w ∈ wsX70, w ∈ wsX7_isName := fun _ h9 => List.mem_cons_of_mem _ (List.mem_append_right _ h9)
  have hl : lv_has ls 1 [(0, .ref tk)] := hl
  refine lv_aload_n hx hb dX7_isName_0 rfl (lv_at hl 0 rfl) ?_
  refine va_get (D := D) (ci := 7) (v := .int tkk) (C := RX7) (T := TX7) (N := 10) hx hb hts hiX7 hown hK hP 0 rfl rfl 3 (by decide) (hts _ (List.mem_of_getElem? (i := 1) rfl)) (fun _ h9 => h9) rfl dX7_isName_1 ?_
  refine lv_iconst (v := 4) hx hb dX7_isName_4 (by decide) ?_
  refine lv_icmp_ne (tgt := 22) hx hb dX7_isName_5 (by decide) (fun c_1 => ?_) (fun c_1 => ?_)
  · skip
    have h_2 : z_in 0 3 tkk := z_neHi c_1 htkk (z_lit (x := 4) (a := 4) (b := 4) rfl) rfl
    refine lv_iconst (v := 0) hx hb dX7_isName_22 (by decide) ?_
    exact hret 0 ([(tk, .inr (7, [.ref ta, .int tkm, .int tkb, .int tkk, .int tka, .int tkv, .long tkc, .ref (ad tkw), .int tkf, .int tkg])), (ta, .inr (6, [.ref tab, .int tan])), (tab, .inl (tabt, 940, .inl tabf))], []) _ _ _ _ dX7_isName_23 (by decide) ⟨(z_w (c := 0) (d := 1) (z_lit (x := 0) (a := 0) (b := 0) rfl) rfl), (fun h9 => absurd h9 (by decide)), (z_Nc0 hctk c_1), rfl⟩ hP (hK.sub [] rfl) hD hS
  · skip
    have h_3 : z_in 4 4 tkk := z_leR (Int32.le_of_eq (Eq.symm c_1)) (z_lit (x := 4) (a := 4) (b := 4) rfl) htkk rfl
    refine lv_aload_n hx hb dX7_isName_8 rfl (lv_at hl 0 rfl) ?_
    refine va_get (D := D) (ci := 7) (v := .ref (ad tkw)) (C := RX7) (T := TX7) (N := 10) hx hb hts hiX7 hown hK hP 0 rfl rfl 7 (by decide) (hts _ (List.mem_of_getElem? (i := 2) rfl)) (fun _ h9 => h9) rfl dX7_isName_9 ?_
    refine va_gets (v := .ref (ad 0)) hx hb (hE.1.1 0 (by decide)).1 hS hown (hts _ (List.mem_of_getElem? (i := 3) rfl)) (fun _ h9 => h9) dX7_isName_12 ?_
    refine W.eq (g2 := F0 m 15 ls (va_rf (some (ad 0)) :: va_rf (some (ad tkw)) :: [])) rfl ?_
    refine lv_acmp_ne (tgt := 22) hx hb dX7_isName_15 (by decide) (fun c_4 => ?_) (fun c_4 => ?_)
    · have h_5 : tkw ≠ 0 := fun q9 => c_4 (by rw [q9])
      refine lv_iconst (v := 0) hx hb dX7_isName_22 (by decide) ?_
      exact hret 0 ([(tk, .inr (7, [.ref ta, .int tkm, .int tkb, .int tkk, .int tka, .int tkv, .long tkc, .ref (ad tkw), .int tkf, .int tkg])), (ta, .inr (6, [.ref tab, .int tan])), (tab, .inl (tabt, 940, .inl tabf))], []) _ _ _ _ dX7_isName_23 (by decide) ⟨(z_w (c := 0) (d := 1) (z_lit (x := 0) (a := 0) (b := 0) rfl) rfl), (fun h9 => absurd h9 (by decide)), (z_Nc2 hctk (z_eqk h_3 rfl) h_5), rfl⟩ hP (hK.sub [] rfl) hD hS
    · have h_6 : tkw = 0 := (hE.1.2 tkw 0 htkw (by decide) (Option.some.inj c_4))
      refine lv_iconst (v := 1) hx hb dX7_isName_18 (by decide) ?_
      refine lv_goto (tgt := 23) hx hb dX7_isName_19 (by decide) ?_
      exact hret 1 ([(tk, .inr (7, [.ref ta, .int tkm, .int tkb, .int tkk, .int tka, .int tkv, .long tkc, .ref (ad tkw), .int tkf, .int tkg])), (ta, .inr (6, [.ref tab, .int tan])), (tab, .inl (tabt, 940, .inl tabf))], []) _ _ _ _ dX7_isName_23 (by decide) ⟨(z_w (c := 0) (d := 1) (z_lit (x := 1) (a := 1) (b := 1) rfl) rfl), (fun _ => h_3), (z_Nc1 hctk (z_eqk h_3 rfl) h_6), rfl⟩ hP (hK.sub [] rfl) hD hS

set_option maxHeartbeats 8000000 in
set_option maxRecDepth 100000 in
theorem s_Tokens_fails (l : Launch) (D : va_G) (ad : Nat → Nat) (tk : Nat) (tkm : Int32) (tkb : Int32) (tkk : Int32) (tka : Int32) (tkv : Int32) (tkc : Int64) (tkf : Int32) (tkg : Int32) (tkw : Nat) (ta : Nat) (tan : Int32) (tab : Nat) (tabt : ClassId) (tabf : Nat → Int32) (i0 : Int32) (htkm : z_in 0 940 tkm) (htkb : z_in 0 940 tkb) (htkk : z_in 0 4 tkk) (htkw : tkw < 22) (htan : z_in 0 940 tan) (httk : z_tk tkk tkw) (hctk : z_ctk z_cds tabf tan tkm tkk tka tkv tkc tkw tkb) (hf0 : z_z0 tkf) : z_Mi l yX7_fails wsX7_fails { frames := 0, cells := 0, slots := 0, locals := 0 } D ad [.ref tk, .int i0] [(tk, .inr (7, [.ref ta, .int tkm, .int tkb, .int tkk, .int tka, .int tkv, .long tkc, .ref (ad tkw), .int tkf, .int tkg])), (ta, .inr (6, [.ref tab, .int tan])), (tab, .inl (tabt, 940, .inl tabf))] [(tabt, .byte)] 0 0 (fun r9 u9 => ∃ (x0_8 : Int32) (x0_9 : Int32), z_in 0 0 r9 ∧ z_fa x0_8 x0_9 i0 tka ∧ u9 = ([(tk, .inr (7, [.ref ta, .int tkm, .int tkb, .int tkk, .int tka, .int tkv, .long tkc, .ref (ad tkw), .int x0_8, .int x0_9])), (ta, .inr (6, [.ref tab, .int tan])), (tab, .inl (tabt, 940, .inl tabf))], [])) := by
  refine z_ofI (cc := cX7_fails) (maxL := 2) (rt := .boolean) (by decide) rfl (Nat.le_of_ble_eq_true rfl) ?_
  intro p e s m below meth c Q A ls hx hb hml hown hts hin hK hP hD hA hE hO hS hl hret
  have hown : s.vm.findClass RX7 = some m.cls := hown
  have hiX7 : ∀ w ∈ wsX70, w ∈ wsX7_fails := fun _ h9 => List.mem_cons_of_mem _ (List.mem_append_right _ h9)
  have hl : lv_has ls 2 [(0, .ref tk), (1, .int i0)] := hl
  refine lv_aload_n hx hb dX7_fails_0 rfl (lv_at hl 0 rfl) ?_
  refine va_get (D := D) (ci := 7) (v := .int tkf) (C := RX7) (T := TX7) (N := 10) hx hb hts hiX7 hown hK hP 0 rfl rfl 8 (by decide) (hts _ (List.mem_of_getElem? (i := 1) rfl)) (fun _ h9 => h9) rfl dX7_fails_1 ?_
  refine lv_if_ne (tgt := 20) hx hb dX7_fails_4 (by decide) (fun c_1 => ?_) (fun c_1 => ?_)
  · skip
    refine lv_iconst (v := 0) hx hb dX7_fails_20 (by decide) ?_
    exact hret 0 ([(tk, .inr (7, [.ref ta, .int tkm, .int tkb, .int tkk, .int tka, .int tkv, .long tkc, .ref (ad tkw), .int tkf, .int tkg])), (ta, .inr (6, [.ref tab, .int tan])), (tab, .inl (tabt, 940, .inl tabf))], []) _ _ _ _ dX7_fails_21 (by decide) ⟨tkf, tkg, (z_lit (x := 0) (a := 0) (b := 0) rfl), (z_faX hf0 c_1), rfl⟩ hP (hK.sub [] rfl) hD hS
  · skip
    have h_2 : z_in (-2147483648) 0 tkf := z_leL (Int32.le_of_eq c_1) (z_any tkf) (z_lit (x := 0) (a := 0) (b := 0) rfl) rfl
    have h_3 : z_in 0 0 tkf := z_leR (Int32.le_of_eq (Eq.symm c_1)) (z_lit (x := 0) (a := 0) (b := 0) rfl) h_2 rfl
    refine lv_aload_n hx hb dX7_fails_7 rfl (lv_at hl 0 rfl) ?_
    refine lv_iload_n hx hb dX7_fails_8 rfl (lv_at hl 1 rfl) ?_
    refine va_put (D := D) (ci := 7) (v := .int i0) (ty := tyX7 8) (C := RX7) (T := TX7) (N := 10) hx hb hts hiX7 tyX7 tyX7_ok nmX7 hown hK hP hD hS 0 rfl rfl 8 (by decide) (hts _ (List.mem_of_getElem? (i := 1) rfl)) (fun _ h9 => h9) rfl (tyX7_ok 8 (by decide)) rfl rfl (Nat.le_of_ble_eq_true rfl) dX7_fails_9 (fun H locs hP hD hS => ?_)
    have hP : va_P D vwCl [(tk, .inr (7, [.ref ta, .int tkm, .int tkb, .int tkk, .int tka, .int tkv, .long tkc, .ref (ad tkw), .int i0, .int tkg])), (ta, .inr (6, [.ref tab, .int tan])), (tab, .inl (tabt, 940, .inl tabf))] H := hP
    have hD : va_D A [(tk, .inr (7, [.ref ta, .int tkm, .int tkb, .int tkk, .int tka, .int tkv, .long tkc, .ref (ad tkw), .int i0, .int tkg])), (ta, .inr (6, [.ref tab, .int tan])), (tab, .inl (tabt, 940, .inl tabf))] := hD
    refine lv_aload_n hx hb dX7_fails_12 rfl (lv_at hl 0 rfl) ?_
    refine lv_aload_n hx hb dX7_fails_13 rfl (lv_at hl 0 rfl) ?_
    refine va_get (D := D) (ci := 7) (v := .int tka) (C := RX7) (T := TX7) (N := 10) hx hb hts hiX7 hown hK hP 0 rfl rfl 4 (by decide) (hts _ (List.mem_of_getElem? (i := 2) rfl)) (fun _ h9 => h9) rfl dX7_fails_14 ?_
    refine va_put (D := D) (ci := 7) (v := .int tka) (ty := tyX7 9) (C := RX7) (T := TX7) (N := 10) hx hb hts hiX7 tyX7 tyX7_ok nmX7 hown hK hP hD hS 0 rfl rfl 9 (by decide) (hts _ (List.mem_of_getElem? (i := 3) rfl)) (fun _ h9 => h9) rfl (tyX7_ok 9 (by decide)) rfl rfl (Nat.le_of_ble_eq_true rfl) dX7_fails_17 (fun H locs hP hD hS => ?_)
    have hP : va_P D vwCl [(tk, .inr (7, [.ref ta, .int tkm, .int tkb, .int tkk, .int tka, .int tkv, .long tkc, .ref (ad tkw), .int i0, .int tka])), (ta, .inr (6, [.ref tab, .int tan])), (tab, .inl (tabt, 940, .inl tabf))] H := hP
    have hD : va_D A [(tk, .inr (7, [.ref ta, .int tkm, .int tkb, .int tkk, .int tka, .int tkv, .long tkc, .ref (ad tkw), .int i0, .int tka])), (ta, .inr (6, [.ref tab, .int tan])), (tab, .inl (tabt, 940, .inl tabf))] := hD
    refine lv_iconst (v := 0) hx hb dX7_fails_20 (by decide) ?_
    exact hret 0 ([(tk, .inr (7, [.ref ta, .int tkm, .int tkb, .int tkk, .int tka, .int tkv, .long tkc, .ref (ad tkw), .int i0, .int tka])), (ta, .inr (6, [.ref tab, .int tan])), (tab, .inl (tabt, 940, .inl tabf))], []) _ _ _ _ dX7_fails_21 (by decide) ⟨i0, tka, (z_lit (x := 0) (a := 0) (b := 0) rfl), z_faI, rfl⟩ hP (hK.sub [] rfl) hD hS

set_option maxHeartbeats 8000000 in
set_option maxRecDepth 100000 in
theorem s_Tokens_passSign (l : Launch) (D : va_G) (ad : Nat → Nat) (tk : Nat) (tkm : Int32) (tkb : Int32) (tkk : Int32) (tka : Int32) (tkv : Int32) (tkc : Int64) (tkf : Int32) (tkg : Int32) (tkw : Nat) (ta : Nat) (tan : Int32) (tab : Nat) (tabt : ClassId) (tabf : Nat → Int32) (i0 : Int32) (htkm : z_in 0 940 tkm) (htkb : z_in 0 940 tkb) (htkk : z_in 0 4 tkk) (htkw : tkw < 22) (htan : z_in 0 940 tan) (httk : z_tk tkk tkw) (hctk : z_ctk z_cds tabf tan tkm tkk tka tkv tkc tkw tkb) (hf0 : z_z0 tkf) : z_Mi l yX7_passSign wsX7_passSign { frames := 3, cells := 0, slots := 0, locals := 66 } D ad [.ref tk, .int i0] [(tk, .inr (7, [.ref ta, .int tkm, .int tkb, .int tkk, .int tka, .int tkv, .long tkc, .ref (ad tkw), .int tkf, .int tkg])), (ta, .inr (6, [.ref tab, .int tan])), (tab, .inl (tabt, 940, .inl tabf))] [(tabt, .byte)] 0 0 (fun r9 u9 => ∃ (x0_2 : Int32) (x0_3 : Int32) (x0_4 : Int32) (x0_5 : Int32) (x0_6 : Int64) (x0_7 : Nat) (x0_8 : Int32) (x0_9 : Int32), z_in 0 940 x0_2 ∧ z_in 0 4 x0_3 ∧ x0_7 < 22 ∧ z_in 0 1 r9 ∧ (r9 = 1 → z_in 2 2 tkk) ∧ z_tk x0_3 x0_7 ∧ z_ctk z_cds tabf tan tkm x0_3 x0_4 x0_5 x0_6 x0_7 x0_2 ∧ z_Ps tabf tan tkm tka i0 r9 x0_4 x0_8 x0_9 ∧ u9 = ([(tk, .inr (7, [.ref ta, .int tkm, .int x0_2, .int x0_3, .int x0_4, .int x0_5, .long x0_6, .ref (ad x0_7), .int x0_8, .int x0_9])), (ta, .inr (6, [.ref tab, .int tan])), (tab, .inl (tabt, 940, .inl tabf))], [])) := by
  refine z_ofI (cc := cX7_passSign) (maxL := 2) (rt := .boolean) (by decide) rfl (Nat.le_of_ble_eq_true rfl) ?_
  intro p e s m below meth c Q A ls hx hb hml hown hts hin hK hP hD hA hE hO hS hl hret
  have hown : s.vm.findClass RX7 = some m.cls := hown
  have hiX7 : ∀ w ∈ wsX70, w ∈ wsX7_passSign := fun _ h9 => List.mem_cons_of_mem _ (List.mem_append_left _ (List.mem_append_right _ h9))
  have hiX6 : ∀ w ∈ wsX60, w ∈ wsX7_passSign := fun _ h9 => List.mem_cons_of_mem _ (List.mem_append_right _ h9)
  have hl : lv_has ls 2 [(0, .ref tk), (1, .int i0)] := hl
  refine lv_aload_n hx hb dX7_passSign_0 rfl (lv_at hl 0 rfl) ?_
  refine lv_iload_n hx hb dX7_passSign_1 rfl (lv_at hl 1 rfl) ?_
  have hc9 := (s_Tokens_isSign l D ad tk tkm tkb tkk tka tkv tkc tkf tkg tkw ta tan tab tabt tabf i0 htkm htkb htkk htkw htan httk hctk)
  refine z_calli (w0 := [(tk, .inr (7, [.ref ta, .int tkm, .int tkb, .int tkk, .int tka, .int tkv, .long tkc, .ref (ad tkw), .int tkf, .int tkg])), (ta, .inr (6, [.ref tab, .int tan])), (tab, .inl (tabt, 940, .inl tabf))]) (wr := []) (va_runV (As := [.int i0]) (rest := []) ⟨hx, hb, hml, hown, hts⟩ (hc9 _) (cwV 1 hts gX7_passSign_X7_isSign rfl rfl rfl (by decide +kernel) ⟨Nat.le_of_ble_eq_true rfl, Nat.le_of_ble_eq_true rfl⟩) (z_preV hP hD hK hS hA hE hO [0, 1, 2] [0] rfl (by decide +kernel) rfl 0 7 rfl rfl rfl) rfl rfl hl.1 rfl (lv_room (Nat.le_of_ble_eq_true rfl)) dX7_passSign_2 ⟨Nat.le_of_ble_eq_true rfl, Nat.le_of_ble_eq_true rfl⟩) hP hD hK hS hA [0, 1, 2] [] rfl rfl (by decide +kernel) (by decide +kernel) (fun y_1 u9 H locs hw hP hD hK hS => ?_)
  obtain ⟨h_2, h_3, h_4, rfl⟩ := hw
  have hP : va_P D vwCl [(tk, .inr (7, [.ref ta, .int tkm, .int tkb, .int tkk, .int tka, .int tkv, .long tkc, .ref (ad tkw), .int tkf, .int tkg])), (ta, .inr (6, [.ref tab, .int tan])), (tab, .inl (tabt, 940, .inl tabf))] H := hP
  have hD : va_D A [(tk, .inr (7, [.ref ta, .int tkm, .int tkb, .int tkk, .int tka, .int tkv, .long tkc, .ref (ad tkw), .int tkf, .int tkg])), (ta, .inr (6, [.ref tab, .int tan])), (tab, .inl (tabt, 940, .inl tabf))] := hD
  have hK : va_K D vwCl [(tabt, .byte)] s := hK
  refine W.cs (cells' := 0) (slots' := 0) rfl rfl ?_
  refine W.eq (g2 := F0 m 5 ls (.int y_1 :: [])) rfl ?_
  refine lv_if_ne (tgt := 14) hx hb dX7_passSign_5 (by decide) (fun c_5 => ?_) (fun c_5 => ?_)
  · skip
    have h_6 : z_in 1 1 y_1 := z_neLo c_5 h_2 (z_lit (x := 0) (a := 0) (b := 0) rfl) rfl
    have h_7 : z_in 2 2 tkk := z_both htkk (h_3 (z_eqk h_6 rfl)) rfl
    refine lv_aload_n hx hb dX7_passSign_14 rfl (lv_at hl 0 rfl) ?_
    have hc9 := (w_Tokens_advance l D ad tk tkm tkb tkk tka tkv tkc tkf tkg tkw ta tan tab tabt tabf htkm htkb (z_w (c := 0) (d := 4) h_7 rfl) htkw htan httk)
    refine z_callv (w0 := [(tk, .inr (7, [.ref ta, .int tkm, .int tkb, .int tkk, .int tka, .int tkv, .long tkc, .ref (ad tkw), .int tkf, .int tkg])), (ta, .inr (6, [.ref tab, .int tan])), (tab, .inl (tabt, 940, .inl tabf))]) (wr := []) (va_runV (As := []) (rest := []) ⟨hx, hb, hml, hown, hts⟩ (hc9 _) (cwV 0 hts gX7_passSign_X7_advance rfl rfl rfl (by decide +kernel) ⟨Nat.le_of_ble_eq_true rfl, Nat.le_of_ble_eq_true rfl⟩) (z_preV hP hD hK hS hA hE hO [0, 1, 2] [0] rfl (by decide +kernel) rfl 0 7 rfl rfl rfl) rfl rfl hl.1 rfl (lv_room (Nat.le_of_ble_eq_true rfl)) dX7_passSign_15 ⟨Nat.le_of_ble_eq_true rfl, Nat.le_of_ble_eq_true rfl⟩) hP hD hK hS hA [0, 1, 2] [] rfl rfl (by decide +kernel) (by decide +kernel) (fun u9 H locs hw hP hD hK hS => ?_)
    refine z_ex6 hw (fun x_8 x_10 x_12 x_13 f_14 f_15 hw => ?_)
    refine z_an6 hw (fun h_9 h_11 h_16 h_17 h_18 h_19 hw => ?_)
    subst hw
    have hP : va_P D vwCl [(tk, .inr (7, [.ref ta, .int tkm, .int x_8, .int x_10, .int x_12, .int x_13, .long f_14, .ref (ad f_15), .int tkf, .int tkg])), (ta, .inr (6, [.ref tab, .int tan])), (tab, .inl (tabt, 940, .inl tabf))] H := hP
    have hD : va_D A [(tk, .inr (7, [.ref ta, .int tkm, .int x_8, .int x_10, .int x_12, .int x_13, .long f_14, .ref (ad f_15), .int tkf, .int tkg])), (ta, .inr (6, [.ref tab, .int tan])), (tab, .inl (tabt, 940, .inl tabf))] := hD
    have hK : va_K D vwCl [(tabt, .byte)] s := hK
    refine W.cs (cells' := 0) (slots' := 0) rfl rfl ?_
    refine lv_iconst (v := 1) hx hb dX7_passSign_18 (by decide) ?_
    exact hret 1 ([(tk, .inr (7, [.ref ta, .int tkm, .int x_8, .int x_10, .int x_12, .int x_13, .long f_14, .ref (ad f_15), .int tkf, .int tkg])), (ta, .inr (6, [.ref tab, .int tan])), (tab, .inl (tabt, 940, .inl tabf))], []) _ _ _ _ dX7_passSign_19 (by decide) ⟨x_8, x_10, x_12, x_13, f_14, f_15, tkf, tkg, h_9, h_11, h_16, (z_w (c := 0) (d := 1) (z_lit (x := 1) (a := 1) (b := 1) rfl) rfl), (fun _ => h_7), h_17, h_18, (z_Ps1 rfl h_4 (z_eqk h_6 rfl) hf0 h_19 hctk h_18), rfl⟩ hP (hK.sub [] rfl) hD hS
  · skip
    have h_20 : z_in 0 0 y_1 := z_leL (Int32.le_of_eq c_5) h_2 (z_lit (x := 0) (a := 0) (b := 0) rfl) rfl
    refine lv_aload_n hx hb dX7_passSign_8 rfl (lv_at hl 0 rfl) ?_
    refine lv_iconst (v := 1) hx hb dX7_passSign_9 (by decide) ?_
    have hc9 := (s_Tokens_fails l D ad tk tkm tkb tkk tka tkv tkc tkf tkg tkw ta tan tab tabt tabf 1 htkm htkb htkk htkw htan httk hctk hf0)
    refine z_calli (w0 := [(tk, .inr (7, [.ref ta, .int tkm, .int tkb, .int tkk, .int tka, .int tkv, .long tkc, .ref (ad tkw), .int tkf, .int tkg])), (ta, .inr (6, [.ref tab, .int tan])), (tab, .inl (tabt, 940, .inl tabf))]) (wr := []) (va_runV (As := [.int 1]) (rest := []) ⟨hx, hb, hml, hown, hts⟩ (hc9 _) (cwV 1 hts gX7_passSign_X7_fails rfl rfl rfl (by decide +kernel) ⟨Nat.le_of_ble_eq_true rfl, Nat.le_of_ble_eq_true rfl⟩) (z_preV hP hD hK hS hA hE hO [0, 1, 2] [0] rfl (by decide +kernel) rfl 0 7 rfl rfl rfl) rfl rfl hl.1 rfl (lv_room (Nat.le_of_ble_eq_true rfl)) dX7_passSign_10 ⟨Nat.le_of_ble_eq_true rfl, Nat.le_of_ble_eq_true rfl⟩) hP hD hK hS hA [0, 1, 2] [] rfl rfl (by decide +kernel) (by decide +kernel) (fun y_21 u9 H locs hw hP hD hK hS => ?_)
    obtain ⟨x_22, x_23, h_24, h_25, rfl⟩ := hw
    have hP : va_P D vwCl [(tk, .inr (7, [.ref ta, .int tkm, .int tkb, .int tkk, .int tka, .int tkv, .long tkc, .ref (ad tkw), .int x_22, .int x_23])), (ta, .inr (6, [.ref tab, .int tan])), (tab, .inl (tabt, 940, .inl tabf))] H := hP
    have hD : va_D A [(tk, .inr (7, [.ref ta, .int tkm, .int tkb, .int tkk, .int tka, .int tkv, .long tkc, .ref (ad tkw), .int x_22, .int x_23])), (ta, .inr (6, [.ref tab, .int tan])), (tab, .inl (tabt, 940, .inl tabf))] := hD
    have hK : va_K D vwCl [(tabt, .byte)] s := hK
    refine W.cs (cells' := 0) (slots' := 0) rfl rfl ?_
    refine W.eq (g2 := F0 m 13 ls (.int y_21 :: [])) rfl ?_
    exact hret y_21 ([(tk, .inr (7, [.ref ta, .int tkm, .int tkb, .int tkk, .int tka, .int tkv, .long tkc, .ref (ad tkw), .int x_22, .int x_23])), (ta, .inr (6, [.ref tab, .int tan])), (tab, .inl (tabt, 940, .inl tabf))], []) _ _ _ _ dX7_passSign_13 (z_nar01 (z_w (c := 0) (d := 1) h_24 rfl)) ⟨tkb, tkk, tka, tkv, tkc, tkw, x_22, x_23, htkb, htkk, htkw, (z_w (c := 0) (d := 1) h_24 rfl), (fun h9 => (z_kno h_24 h9 rfl).elim), httk, hctk, (z_Ps0 (z_eqk h_24 rfl) h_4 (z_eqk h_20 rfl) h_25), rfl⟩ hP (hK.sub [] rfl) hD hS

set_option maxHeartbeats 8000000 in
set_option maxRecDepth 100000 in
theorem s_Tokens_isComparison (l : Launch) (D : va_G) (ad : Nat → Nat) (tk : Nat) (tkm : Int32) (tkb : Int32) (tkk : Int32) (tka : Int32) (tkv : Int32) (tkc : Int64) (tkf : Int32) (tkg : Int32) (tkw : Nat) (ta : Nat) (tan : Int32) (tab : Nat) (tabt : ClassId) (tabf : Nat → Int32) (htkm : z_in 0 940 tkm) (htkb : z_in 0 940 tkb) (htkk : z_in 0 4 tkk) (htkw : tkw < 22) (htan : z_in 0 940 tan) (httk : z_tk tkk tkw) (hctk : z_ctk z_cds tabf tan tkm tkk tka tkv tkc tkw tkb) : z_Mi l yX7_isComparison wsX7_isComparison { frames := 1, cells := 0, slots := 0, locals := 21 } D ad [.ref tk] [(tk, .inr (7, [.ref ta, .int tkm, .int tkb, .int tkk, .int tka, .int tkv, .long tkc, .ref (ad tkw), .int tkf, .int tkg])), (ta, .inr (6, [.ref tab, .int tan])), (tab, .inl (tabt, 940, .inl tabf))] [(tabt, .byte)] 0 0 (fun r9 u9 => z_in 0 1 r9 ∧ (r9 = 1 → z_in 2 2 tkk) ∧ z_Cq r9 tabf tan tkm tka ∧ u9 = ([(tk, .inr (7, [.ref ta, .int tkm, .int tkb, .int tkk, .int tka, .int tkv, .long tkc, .ref (ad tkw), .int tkf, .int tkg])), (ta, .inr (6, [.ref tab, .int tan])), (tab, .inl (tabt, 940, .inl tabf))], [])) := by
  refine z_ofI (cc := cX7_isComparison) (maxL := 1) (rt := .boolean) (by decide) rfl (Nat.le_of_ble_eq_true rfl) ?_
  intro p e s m below meth c Q A ls hx hb hml hown hts hin hK hP hD hA hE hO hS hl hret
  have hown : s.vm.findClass RX7 = some m.cls := hown
  have hiX7 : ∀ w ∈ wsX70, w ∈ wsX7_isComparison := fun _ h9 => List.mem_cons_of_mem _ (List.mem_append_right _ h9)
  have hl : lv_has ls 1 [(0, .ref tk)] := hl
  refine lv_aload_n hx hb dX7_isComparison_0 rfl (lv_at hl 0 rfl) ?_
  refine lv_bipush (v := 60) hx hb dX7_isComparison_1 (by decide) ?_
  have hc9 := (s_Tokens_isSign l D ad tk tkm tkb tkk tka tkv tkc tkf tkg tkw ta tan tab tabt tabf 60 htkm htkb htkk htkw htan httk hctk)
  refine z_calli (w0 := [(tk, .inr (7, [.ref ta, .int tkm, .int tkb, .int tkk, .int tka, .int tkv, .long tkc, .ref (ad tkw), .int tkf, .int tkg])), (ta, .inr (6, [.ref tab, .int tan])), (tab, .inl (tabt, 940, .inl tabf))]) (wr := []) (va_runV (As := [.int 60]) (rest := []) ⟨hx, hb, hml, hown, hts⟩ (hc9 _) (cwV 1 hts gX7_isComparison_X7_isSign rfl rfl rfl (by decide +kernel) ⟨Nat.le_of_ble_eq_true rfl, Nat.le_of_ble_eq_true rfl⟩) (z_preV hP hD hK hS hA hE hO [0, 1, 2] [0] rfl (by decide +kernel) rfl 0 7 rfl rfl rfl) rfl rfl hl.1 rfl (lv_room (Nat.le_of_ble_eq_true rfl)) dX7_isComparison_3 ⟨Nat.le_of_ble_eq_true rfl, Nat.le_of_ble_eq_true rfl⟩) hP hD hK hS hA [0, 1, 2] [] rfl rfl (by decide +kernel) (by decide +kernel) (fun y_1 u9 H locs hw hP hD hK hS => ?_)
  obtain ⟨h_2, h_3, h_4, rfl⟩ := hw
  have hP : va_P D vwCl [(tk, .inr (7, [.ref ta, .int tkm, .int tkb, .int tkk, .int tka, .int tkv, .long tkc, .ref (ad tkw), .int tkf, .int tkg])), (ta, .inr (6, [.ref tab, .int tan])), (tab, .inl (tabt, 940, .inl tabf))] H := hP
  have hD : va_D A [(tk, .inr (7, [.ref ta, .int tkm, .int tkb, .int tkk, .int tka, .int tkv, .long tkc, .ref (ad tkw), .int tkf, .int tkg])), (ta, .inr (6, [.ref tab, .int tan])), (tab, .inl (tabt, 940, .inl tabf))] := hD
  have hK : va_K D vwCl [(tabt, .byte)] s := hK
  refine W.cs (cells' := 0) (slots' := 0) rfl rfl ?_
  refine W.eq (g2 := F0 m 6 ls (.int y_1 :: [])) rfl ?_
  refine lv_if_ne (tgt := 27) hx hb dX7_isComparison_6 (by decide) (fun c_5 => ?_) (fun c_5 => ?_)
  · skip
    have h_6 : z_in 1 1 y_1 := z_neLo c_5 h_2 (z_lit (x := 0) (a := 0) (b := 0) rfl) rfl
    have h_7 : z_in 2 2 tkk := z_both htkk (h_3 (z_eqk h_6 rfl)) rfl
    refine lv_iconst (v := 1) hx hb dX7_isComparison_27 (by decide) ?_
    refine lv_goto (tgt := 32) hx hb dX7_isComparison_28 (by decide) ?_
    exact hret 1 ([(tk, .inr (7, [.ref ta, .int tkm, .int tkb, .int tkk, .int tka, .int tkv, .long tkc, .ref (ad tkw), .int tkf, .int tkg])), (ta, .inr (6, [.ref tab, .int tan])), (tab, .inl (tabt, 940, .inl tabf))], []) _ _ _ _ dX7_isComparison_32 (by decide) ⟨(z_w (c := 0) (d := 1) (z_lit (x := 1) (a := 1) (b := 1) rfl) rfl), (fun _ => h_7), (z_Cq1 h_4 (z_eqk h_6 rfl)), rfl⟩ hP (hK.sub [] rfl) hD hS
  · skip
    have h_8 : z_in 0 0 y_1 := z_leL (Int32.le_of_eq c_5) h_2 (z_lit (x := 0) (a := 0) (b := 0) rfl) rfl
    refine lv_aload_n hx hb dX7_isComparison_9 rfl (lv_at hl 0 rfl) ?_
    refine lv_bipush (v := 61) hx hb dX7_isComparison_10 (by decide) ?_
    have hc9 := (s_Tokens_isSign l D ad tk tkm tkb tkk tka tkv tkc tkf tkg tkw ta tan tab tabt tabf 61 htkm htkb htkk htkw htan httk hctk)
    refine z_calli (w0 := [(tk, .inr (7, [.ref ta, .int tkm, .int tkb, .int tkk, .int tka, .int tkv, .long tkc, .ref (ad tkw), .int tkf, .int tkg])), (ta, .inr (6, [.ref tab, .int tan])), (tab, .inl (tabt, 940, .inl tabf))]) (wr := []) (va_runV (As := [.int 61]) (rest := []) ⟨hx, hb, hml, hown, hts⟩ (hc9 _) (cwV 1 hts gX7_isComparison_X7_isSign rfl rfl rfl (by decide +kernel) ⟨Nat.le_of_ble_eq_true rfl, Nat.le_of_ble_eq_true rfl⟩) (z_preV hP hD hK hS hA hE hO [0, 1, 2] [0] rfl (by decide +kernel) rfl 0 7 rfl rfl rfl) rfl rfl hl.1 rfl (lv_room (Nat.le_of_ble_eq_true rfl)) dX7_isComparison_12 ⟨Nat.le_of_ble_eq_true rfl, Nat.le_of_ble_eq_true rfl⟩) hP hD hK hS hA [0, 1, 2] [] rfl rfl (by decide +kernel) (by decide +kernel) (fun y_9 u9 H locs hw hP hD hK hS => ?_)
    obtain ⟨h_10, h_11, h_12, rfl⟩ := hw
    have hP : va_P D vwCl [(tk, .inr (7, [.ref ta, .int tkm, .int tkb, .int tkk, .int tka, .int tkv, .long tkc, .ref (ad tkw), .int tkf, .int tkg])), (ta, .inr (6, [.ref tab, .int tan])), (tab, .inl (tabt, 940, .inl tabf))] H := hP
    have hD : va_D A [(tk, .inr (7, [.ref ta, .int tkm, .int tkb, .int tkk, .int tka, .int tkv, .long tkc, .ref (ad tkw), .int tkf, .int tkg])), (ta, .inr (6, [.ref tab, .int tan])), (tab, .inl (tabt, 940, .inl tabf))] := hD
    have hK : va_K D vwCl [(tabt, .byte)] s := hK
    refine W.cs (cells' := 0) (slots' := 0) rfl rfl ?_
    refine W.eq (g2 := F0 m 15 ls (.int y_9 :: [])) rfl ?_
    refine lv_if_ne (tgt := 27) hx hb dX7_isComparison_15 (by decide) (fun c_13 => ?_) (fun c_13 => ?_)
    · skip
      have h_14 : z_in 1 1 y_9 := z_neLo c_13 h_10 (z_lit (x := 0) (a := 0) (b := 0) rfl) rfl
      have h_15 : z_in 2 2 tkk := z_both htkk (h_11 (z_eqk h_14 rfl)) rfl
      refine lv_iconst (v := 1) hx hb dX7_isComparison_27 (by decide) ?_
      refine lv_goto (tgt := 32) hx hb dX7_isComparison_28 (by decide) ?_
      exact hret 1 ([(tk, .inr (7, [.ref ta, .int tkm, .int tkb, .int tkk, .int tka, .int tkv, .long tkc, .ref (ad tkw), .int tkf, .int tkg])), (ta, .inr (6, [.ref tab, .int tan])), (tab, .inl (tabt, 940, .inl tabf))], []) _ _ _ _ dX7_isComparison_32 (by decide) ⟨(z_w (c := 0) (d := 1) (z_lit (x := 1) (a := 1) (b := 1) rfl) rfl), (fun _ => h_15), (z_Cq2 h_12 (z_eqk h_14 rfl)), rfl⟩ hP (hK.sub [] rfl) hD hS
    · skip
      have h_16 : z_in 0 0 y_9 := z_leL (Int32.le_of_eq c_13) h_10 (z_lit (x := 0) (a := 0) (b := 0) rfl) rfl
      refine lv_aload_n hx hb dX7_isComparison_18 rfl (lv_at hl 0 rfl) ?_
      refine lv_bipush (v := 62) hx hb dX7_isComparison_19 (by decide) ?_
      have hc9 := (s_Tokens_isSign l D ad tk tkm tkb tkk tka tkv tkc tkf tkg tkw ta tan tab tabt tabf 62 htkm htkb htkk htkw htan httk hctk)
      refine z_calli (w0 := [(tk, .inr (7, [.ref ta, .int tkm, .int tkb, .int tkk, .int tka, .int tkv, .long tkc, .ref (ad tkw), .int tkf, .int tkg])), (ta, .inr (6, [.ref tab, .int tan])), (tab, .inl (tabt, 940, .inl tabf))]) (wr := []) (va_runV (As := [.int 62]) (rest := []) ⟨hx, hb, hml, hown, hts⟩ (hc9 _) (cwV 1 hts gX7_isComparison_X7_isSign rfl rfl rfl (by decide +kernel) ⟨Nat.le_of_ble_eq_true rfl, Nat.le_of_ble_eq_true rfl⟩) (z_preV hP hD hK hS hA hE hO [0, 1, 2] [0] rfl (by decide +kernel) rfl 0 7 rfl rfl rfl) rfl rfl hl.1 rfl (lv_room (Nat.le_of_ble_eq_true rfl)) dX7_isComparison_21 ⟨Nat.le_of_ble_eq_true rfl, Nat.le_of_ble_eq_true rfl⟩) hP hD hK hS hA [0, 1, 2] [] rfl rfl (by decide +kernel) (by decide +kernel) (fun y_17 u9 H locs hw hP hD hK hS => ?_)
      obtain ⟨h_18, h_19, h_20, rfl⟩ := hw
      have hP : va_P D vwCl [(tk, .inr (7, [.ref ta, .int tkm, .int tkb, .int tkk, .int tka, .int tkv, .long tkc, .ref (ad tkw), .int tkf, .int tkg])), (ta, .inr (6, [.ref tab, .int tan])), (tab, .inl (tabt, 940, .inl tabf))] H := hP
      have hD : va_D A [(tk, .inr (7, [.ref ta, .int tkm, .int tkb, .int tkk, .int tka, .int tkv, .long tkc, .ref (ad tkw), .int tkf, .int tkg])), (ta, .inr (6, [.ref tab, .int tan])), (tab, .inl (tabt, 940, .inl tabf))] := hD
      have hK : va_K D vwCl [(tabt, .byte)] s := hK
      refine W.cs (cells' := 0) (slots' := 0) rfl rfl ?_
      refine W.eq (g2 := F0 m 24 ls (.int y_17 :: [])) rfl ?_
      refine lv_if_eq (tgt := 31) hx hb dX7_isComparison_24 (by decide) (fun c_21 => ?_) (fun c_21 => ?_)
      · skip
        have h_22 : z_in 0 0 y_17 := z_leL (Int32.le_of_eq c_21) h_18 (z_lit (x := 0) (a := 0) (b := 0) rfl) rfl
        refine lv_iconst (v := 0) hx hb dX7_isComparison_31 (by decide) ?_
        exact hret 0 ([(tk, .inr (7, [.ref ta, .int tkm, .int tkb, .int tkk, .int tka, .int tkv, .long tkc, .ref (ad tkw), .int tkf, .int tkg])), (ta, .inr (6, [.ref tab, .int tan])), (tab, .inl (tabt, 940, .inl tabf))], []) _ _ _ _ dX7_isComparison_32 (by decide) ⟨(z_w (c := 0) (d := 1) (z_lit (x := 0) (a := 0) (b := 0) rfl) rfl), (fun h9 => absurd h9 (by decide)), (z_Cq0 h_4 (z_eqk h_8 rfl) h_12 (z_eqk h_16 rfl) h_20 (z_eqk h_22 rfl)), rfl⟩ hP (hK.sub [] rfl) hD hS
      · skip
        have h_23 : z_in 1 1 y_17 := z_neLo c_21 h_18 (z_lit (x := 0) (a := 0) (b := 0) rfl) rfl
        have h_24 : z_in 2 2 tkk := z_both htkk (h_19 (z_eqk h_23 rfl)) rfl
        refine lv_iconst (v := 1) hx hb dX7_isComparison_27 (by decide) ?_
        refine lv_goto (tgt := 32) hx hb dX7_isComparison_28 (by decide) ?_
        exact hret 1 ([(tk, .inr (7, [.ref ta, .int tkm, .int tkb, .int tkk, .int tka, .int tkv, .long tkc, .ref (ad tkw), .int tkf, .int tkg])), (ta, .inr (6, [.ref tab, .int tan])), (tab, .inl (tabt, 940, .inl tabf))], []) _ _ _ _ dX7_isComparison_32 (by decide) ⟨(z_w (c := 0) (d := 1) (z_lit (x := 1) (a := 1) (b := 1) rfl) rfl), (fun _ => h_24), (z_Cq3 h_20 (z_eqk h_23 rfl)), rfl⟩ hP (hK.sub [] rfl) hD hS

set_option maxHeartbeats 8000000 in
set_option maxRecDepth 100000 in
theorem w_Tokens_isEnd (l : Launch) (D : va_G) (ad : Nat → Nat) (tk : Nat) (tkm : Int32) (tkb : Int32) (tkk : Int32) (tka : Int32) (tkv : Int32) (tkc : Int64) (tkf : Int32) (tkg : Int32) (tkw : Nat) (ta : Nat) (tan : Int32) (tab : Nat) (tabt : ClassId) (tabf : Nat → Int32) (htkm : z_in 0 940 tkm) (htkb : z_in 0 940 tkb) (htkk : z_in 0 4 tkk) (htkw : tkw < 22) (htan : z_in 0 940 tan) (httk : z_tk tkk tkw) : z_Mi l yX7_isEnd wsX7_isEnd { frames := 0, cells := 0, slots := 0, locals := 0 } D ad [.ref tk] [(tk, .inr (7, [.ref ta, .int tkm, .int tkb, .int tkk, .int tka, .int tkv, .long tkc, .ref (ad tkw), .int tkf, .int tkg])), (ta, .inr (6, [.ref tab, .int tan])), (tab, .inl (tabt, 940, .inl tabf))] [(tabt, .byte)] 0 0 (fun r9 u9 => z_in 0 1 r9 ∧ (r9 = 0 → z_in 1 4 tkk) ∧ (r9 = 1 → z_in 0 0 tkk) ∧ u9 = ([(tk, .inr (7, [.ref ta, .int tkm, .int tkb, .int tkk, .int tka, .int tkv, .long tkc, .ref (ad tkw), .int tkf, .int tkg])), (ta, .inr (6, [.ref tab, .int tan])), (tab, .inl (tabt, 940, .inl tabf))], [])) := by
  refine z_ofI (cc := cX7_isEnd) (maxL := 1) (rt := .boolean) (by decide) rfl (Nat.le_of_ble_eq_true rfl) ?_
  intro p e s m below meth c Q A ls hx hb hml hown hts hin hK hP hD hA hE hO hS hl hret
  have hown : s.vm.findClass RX7 = some m.cls := hown
  have hiX7 : ∀ w ∈ wsX70, w ∈ wsX7_isEnd := fun _ h9 => List.mem_cons_of_mem _ (List.mem_append_right _ h9)
  have hl : lv_has ls 1 [(0, .ref tk)] := hl
  refine lv_aload_n hx hb dX7_isEnd_0 rfl (lv_at hl 0 rfl) ?_
  refine va_get (D := D) (ci := 7) (v := .int tkk) (C := RX7) (T := TX7) (N := 10) hx hb hts hiX7 hown hK hP 0 rfl rfl 3 (by decide) (hts _ (List.mem_of_getElem? (i := 1) rfl)) (fun _ h9 => h9) rfl dX7_isEnd_1 ?_
  refine lv_if_ne (tgt := 11) hx hb dX7_isEnd_4 (by decide) (fun c_1 => ?_) (fun c_1 => ?_)
  · skip
    have h_2 : z_in 1 4 tkk := z_neLo c_1 htkk (z_lit (x := 0) (a := 0) (b := 0) rfl) rfl
    refine lv_iconst (v := 0) hx hb dX7_isEnd_11 (by decide) ?_
    exact hret 0 ([(tk, .inr (7, [.ref ta, .int tkm, .int tkb, .int tkk, .int tka, .int tkv, .long tkc, .ref (ad tkw), .int tkf, .int tkg])), (ta, .inr (6, [.ref tab, .int tan])), (tab, .inl (tabt, 940, .inl tabf))], []) _ _ _ _ dX7_isEnd_12 (by decide) ⟨(z_w (c := 0) (d := 1) (z_lit (x := 0) (a := 0) (b := 0) rfl) rfl), (fun _ => h_2), (fun h9 => absurd h9 (by decide)), rfl⟩ hP (hK.sub [] rfl) hD hS
  · skip
    have h_3 : z_in 0 0 tkk := z_leL (Int32.le_of_eq c_1) htkk (z_lit (x := 0) (a := 0) (b := 0) rfl) rfl
    refine lv_iconst (v := 1) hx hb dX7_isEnd_7 (by decide) ?_
    refine lv_goto (tgt := 12) hx hb dX7_isEnd_8 (by decide) ?_
    exact hret 1 ([(tk, .inr (7, [.ref ta, .int tkm, .int tkb, .int tkk, .int tka, .int tkv, .long tkc, .ref (ad tkw), .int tkf, .int tkg])), (ta, .inr (6, [.ref tab, .int tan])), (tab, .inl (tabt, 940, .inl tabf))], []) _ _ _ _ dX7_isEnd_12 (by decide) ⟨(z_w (c := 0) (d := 1) (z_lit (x := 1) (a := 1) (b := 1) rfl) rfl), (fun h9 => absurd h9 (by decide)), (fun _ => h_3), rfl⟩ hP (hK.sub [] rfl) hD hS

set_option maxHeartbeats 8000000 in
set_option maxRecDepth 100000 in
theorem w_Tokens_isSign (l : Launch) (D : va_G) (ad : Nat → Nat) (tk : Nat) (tkm : Int32) (tkb : Int32) (tkk : Int32) (tka : Int32) (tkv : Int32) (tkc : Int64) (tkf : Int32) (tkg : Int32) (tkw : Nat) (ta : Nat) (tan : Int32) (tab : Nat) (tabt : ClassId) (tabf : Nat → Int32) (i0 : Int32) (htkm : z_in 0 940 tkm) (htkb : z_in 0 940 tkb) (htkk : z_in 0 4 tkk) (htkw : tkw < 22) (htan : z_in 0 940 tan) (httk : z_tk tkk tkw) : z_Mi l yX7_isSign wsX7_isSign { frames := 0, cells := 0, slots := 0, locals := 0 } D ad [.ref tk, .int i0] [(tk, .inr (7, [.ref ta, .int tkm, .int tkb, .int tkk, .int tka, .int tkv, .long tkc, .ref (ad tkw), .int tkf, .int tkg])), (ta, .inr (6, [.ref tab, .int tan])), (tab, .inl (tabt, 940, .inl tabf))] [(tabt, .byte)] 0 0 (fun r9 u9 => z_in 0 1 r9 ∧ (r9 = 1 → z_in 2 2 tkk) ∧ u9 = ([(tk, .inr (7, [.ref ta, .int tkm, .int tkb, .int tkk, .int tka, .int tkv, .long tkc, .ref (ad tkw), .int tkf, .int tkg])), (ta, .inr (6, [.ref tab, .int tan])), (tab, .inl (tabt, 940, .inl tabf))], [])) := by
  refine z_ofI (cc := cX7_isSign) (maxL := 2) (rt := .boolean) (by decide) rfl (Nat.le_of_ble_eq_true rfl) ?_
  intro p e s m below meth c Q A ls hx hb hml hown hts hin hK hP hD hA hE hO hS hl hret
  have hown : s.vm.findClass RX7 = some m.cls := hown
  have hiX7 : ∀ w ∈ wsX70, w ∈ wsX7_isSign := fun _ h9 => List.mem_cons_of_mem _ (List.mem_append_right _ h9)
  have hl : lv_has ls 2 [(0, .ref tk), (1, .int i0)] := hl
  refine lv_aload_n hx hb dX7_isSign_0 rfl (lv_at hl 0 rfl) ?_
  refine va_get (D := D) (ci := 7) (v := .int tkk) (C := RX7) (T := TX7) (N := 10) hx hb hts hiX7 hown hK hP 0 rfl rfl 3 (by decide) (hts _ (List.mem_of_getElem? (i := 1) rfl)) (fun _ h9 => h9) rfl dX7_isSign_1 ?_
  refine lv_iconst (v := 2) hx hb dX7_isSign_4 (by decide) ?_
  refine lv_icmp_ne (tgt := 20) hx hb dX7_isSign_5 (by decide) (fun c_1 => ?_) (fun c_1 => ?_)
  · skip
    refine lv_iconst (v := 0) hx hb dX7_isSign_20 (by decide) ?_
    exact hret 0 ([(tk, .inr (7, [.ref ta, .int tkm, .int tkb, .int tkk, .int tka, .int tkv, .long tkc, .ref (ad tkw), .int tkf, .int tkg])), (ta, .inr (6, [.ref tab, .int tan])), (tab, .inl (tabt, 940, .inl tabf))], []) _ _ _ _ dX7_isSign_21 (by decide) ⟨(z_w (c := 0) (d := 1) (z_lit (x := 0) (a := 0) (b := 0) rfl) rfl), (fun h9 => absurd h9 (by decide)), rfl⟩ hP (hK.sub [] rfl) hD hS
  · skip
    have h_2 : z_in 0 2 tkk := z_leL (Int32.le_of_eq c_1) htkk (z_lit (x := 2) (a := 2) (b := 2) rfl) rfl
    have h_3 : z_in 2 2 tkk := z_leR (Int32.le_of_eq (Eq.symm c_1)) (z_lit (x := 2) (a := 2) (b := 2) rfl) h_2 rfl
    refine lv_aload_n hx hb dX7_isSign_8 rfl (lv_at hl 0 rfl) ?_
    refine va_get (D := D) (ci := 7) (v := .int tkv) (C := RX7) (T := TX7) (N := 10) hx hb hts hiX7 hown hK hP 0 rfl rfl 5 (by decide) (hts _ (List.mem_of_getElem? (i := 2) rfl)) (fun _ h9 => h9) rfl dX7_isSign_9 ?_
    refine lv_iload_n hx hb dX7_isSign_12 rfl (lv_at hl 1 rfl) ?_
    refine lv_icmp_ne (tgt := 20) hx hb dX7_isSign_13 (by decide) (fun c_4 => ?_) (fun c_4 => ?_)
    · skip
      refine lv_iconst (v := 0) hx hb dX7_isSign_20 (by decide) ?_
      exact hret 0 ([(tk, .inr (7, [.ref ta, .int tkm, .int tkb, .int tkk, .int tka, .int tkv, .long tkc, .ref (ad tkw), .int tkf, .int tkg])), (ta, .inr (6, [.ref tab, .int tan])), (tab, .inl (tabt, 940, .inl tabf))], []) _ _ _ _ dX7_isSign_21 (by decide) ⟨(z_w (c := 0) (d := 1) (z_lit (x := 0) (a := 0) (b := 0) rfl) rfl), (fun h9 => absurd h9 (by decide)), rfl⟩ hP (hK.sub [] rfl) hD hS
    · skip
      refine lv_iconst (v := 1) hx hb dX7_isSign_16 (by decide) ?_
      refine lv_goto (tgt := 21) hx hb dX7_isSign_17 (by decide) ?_
      exact hret 1 ([(tk, .inr (7, [.ref ta, .int tkm, .int tkb, .int tkk, .int tka, .int tkv, .long tkc, .ref (ad tkw), .int tkf, .int tkg])), (ta, .inr (6, [.ref tab, .int tan])), (tab, .inl (tabt, 940, .inl tabf))], []) _ _ _ _ dX7_isSign_21 (by decide) ⟨(z_w (c := 0) (d := 1) (z_lit (x := 1) (a := 1) (b := 1) rfl) rfl), (fun _ => h_3), rfl⟩ hP (hK.sub [] rfl) hD hS

set_option maxHeartbeats 8000000 in
set_option maxRecDepth 100000 in
theorem w_Tokens_isComparison (l : Launch) (D : va_G) (ad : Nat → Nat) (tk : Nat) (tkm : Int32) (tkb : Int32) (tkk : Int32) (tka : Int32) (tkv : Int32) (tkc : Int64) (tkf : Int32) (tkg : Int32) (tkw : Nat) (ta : Nat) (tan : Int32) (tab : Nat) (tabt : ClassId) (tabf : Nat → Int32) (htkm : z_in 0 940 tkm) (htkb : z_in 0 940 tkb) (htkk : z_in 0 4 tkk) (htkw : tkw < 22) (htan : z_in 0 940 tan) (httk : z_tk tkk tkw) : z_Mi l yX7_isComparison wsX7_isComparison { frames := 1, cells := 0, slots := 0, locals := 21 } D ad [.ref tk] [(tk, .inr (7, [.ref ta, .int tkm, .int tkb, .int tkk, .int tka, .int tkv, .long tkc, .ref (ad tkw), .int tkf, .int tkg])), (ta, .inr (6, [.ref tab, .int tan])), (tab, .inl (tabt, 940, .inl tabf))] [(tabt, .byte)] 0 0 (fun r9 u9 => z_in 0 1 r9 ∧ (r9 = 1 → z_in 2 2 tkk) ∧ u9 = ([(tk, .inr (7, [.ref ta, .int tkm, .int tkb, .int tkk, .int tka, .int tkv, .long tkc, .ref (ad tkw), .int tkf, .int tkg])), (ta, .inr (6, [.ref tab, .int tan])), (tab, .inl (tabt, 940, .inl tabf))], [])) := by
  refine z_ofI (cc := cX7_isComparison) (maxL := 1) (rt := .boolean) (by decide) rfl (Nat.le_of_ble_eq_true rfl) ?_
  intro p e s m below meth c Q A ls hx hb hml hown hts hin hK hP hD hA hE hO hS hl hret
  have hown : s.vm.findClass RX7 = some m.cls := hown
  have hiX7 : ∀ w ∈ wsX70, w ∈ wsX7_isComparison := fun _ h9 => List.mem_cons_of_mem _ (List.mem_append_right _ h9)
  have hl : lv_has ls 1 [(0, .ref tk)] := hl
  refine lv_aload_n hx hb dX7_isComparison_0 rfl (lv_at hl 0 rfl) ?_
  refine lv_bipush (v := 60) hx hb dX7_isComparison_1 (by decide) ?_
  have hc9 := (w_Tokens_isSign l D ad tk tkm tkb tkk tka tkv tkc tkf tkg tkw ta tan tab tabt tabf 60 htkm htkb htkk htkw htan httk)
  refine z_calli (w0 := [(tk, .inr (7, [.ref ta, .int tkm, .int tkb, .int tkk, .int tka, .int tkv, .long tkc, .ref (ad tkw), .int tkf, .int tkg])), (ta, .inr (6, [.ref tab, .int tan])), (tab, .inl (tabt, 940, .inl tabf))]) (wr := []) (va_runV (As := [.int 60]) (rest := []) ⟨hx, hb, hml, hown, hts⟩ (hc9 _) (cwV 1 hts gX7_isComparison_X7_isSign rfl rfl rfl (by decide +kernel) ⟨Nat.le_of_ble_eq_true rfl, Nat.le_of_ble_eq_true rfl⟩) (z_preV hP hD hK hS hA hE hO [0, 1, 2] [0] rfl (by decide +kernel) rfl 0 7 rfl rfl rfl) rfl rfl hl.1 rfl (lv_room (Nat.le_of_ble_eq_true rfl)) dX7_isComparison_3 ⟨Nat.le_of_ble_eq_true rfl, Nat.le_of_ble_eq_true rfl⟩) hP hD hK hS hA [0, 1, 2] [] rfl rfl (by decide +kernel) (by decide +kernel) (fun y_1 u9 H locs hw hP hD hK hS => ?_)
  obtain ⟨h_2, h_3, rfl⟩ := hw
  have hP : va_P D vwCl [(tk, .inr (7, [.ref ta, .int tkm, .int tkb, .int tkk, .int tka, .int tkv, .long tkc, .ref (ad tkw), .int tkf, .int tkg])), (ta, .inr (6, [.ref tab, .int tan])), (tab, .inl (tabt, 940, .inl tabf))] H := hP
  have hD : va_D A [(tk, .inr (7, [.ref ta, .int tkm, .int tkb, .int tkk, .int tka, .int tkv, .long tkc, .ref (ad tkw), .int tkf, .int tkg])), (ta, .inr (6, [.ref tab, .int tan])), (tab, .inl (tabt, 940, .inl tabf))] := hD
  have hK : va_K D vwCl [(tabt, .byte)] s := hK
  refine W.cs (cells' := 0) (slots' := 0) rfl rfl ?_
  refine W.eq (g2 := F0 m 6 ls (.int y_1 :: [])) rfl ?_
  refine lv_if_ne (tgt := 27) hx hb dX7_isComparison_6 (by decide) (fun c_4 => ?_) (fun c_4 => ?_)
  · skip
    have h_5 : z_in 1 1 y_1 := z_neLo c_4 h_2 (z_lit (x := 0) (a := 0) (b := 0) rfl) rfl
    have h_6 : z_in 2 2 tkk := z_both htkk (h_3 (z_eqk h_5 rfl)) rfl
    refine lv_iconst (v := 1) hx hb dX7_isComparison_27 (by decide) ?_
    refine lv_goto (tgt := 32) hx hb dX7_isComparison_28 (by decide) ?_
    exact hret 1 ([(tk, .inr (7, [.ref ta, .int tkm, .int tkb, .int tkk, .int tka, .int tkv, .long tkc, .ref (ad tkw), .int tkf, .int tkg])), (ta, .inr (6, [.ref tab, .int tan])), (tab, .inl (tabt, 940, .inl tabf))], []) _ _ _ _ dX7_isComparison_32 (by decide) ⟨(z_w (c := 0) (d := 1) (z_lit (x := 1) (a := 1) (b := 1) rfl) rfl), (fun _ => h_6), rfl⟩ hP (hK.sub [] rfl) hD hS
  · skip
    have h_7 : z_in 0 0 y_1 := z_leL (Int32.le_of_eq c_4) h_2 (z_lit (x := 0) (a := 0) (b := 0) rfl) rfl
    refine lv_aload_n hx hb dX7_isComparison_9 rfl (lv_at hl 0 rfl) ?_
    refine lv_bipush (v := 61) hx hb dX7_isComparison_10 (by decide) ?_
    have hc9 := (w_Tokens_isSign l D ad tk tkm tkb tkk tka tkv tkc tkf tkg tkw ta tan tab tabt tabf 61 htkm htkb htkk htkw htan httk)
    refine z_calli (w0 := [(tk, .inr (7, [.ref ta, .int tkm, .int tkb, .int tkk, .int tka, .int tkv, .long tkc, .ref (ad tkw), .int tkf, .int tkg])), (ta, .inr (6, [.ref tab, .int tan])), (tab, .inl (tabt, 940, .inl tabf))]) (wr := []) (va_runV (As := [.int 61]) (rest := []) ⟨hx, hb, hml, hown, hts⟩ (hc9 _) (cwV 1 hts gX7_isComparison_X7_isSign rfl rfl rfl (by decide +kernel) ⟨Nat.le_of_ble_eq_true rfl, Nat.le_of_ble_eq_true rfl⟩) (z_preV hP hD hK hS hA hE hO [0, 1, 2] [0] rfl (by decide +kernel) rfl 0 7 rfl rfl rfl) rfl rfl hl.1 rfl (lv_room (Nat.le_of_ble_eq_true rfl)) dX7_isComparison_12 ⟨Nat.le_of_ble_eq_true rfl, Nat.le_of_ble_eq_true rfl⟩) hP hD hK hS hA [0, 1, 2] [] rfl rfl (by decide +kernel) (by decide +kernel) (fun y_8 u9 H locs hw hP hD hK hS => ?_)
    obtain ⟨h_9, h_10, rfl⟩ := hw
    have hP : va_P D vwCl [(tk, .inr (7, [.ref ta, .int tkm, .int tkb, .int tkk, .int tka, .int tkv, .long tkc, .ref (ad tkw), .int tkf, .int tkg])), (ta, .inr (6, [.ref tab, .int tan])), (tab, .inl (tabt, 940, .inl tabf))] H := hP
    have hD : va_D A [(tk, .inr (7, [.ref ta, .int tkm, .int tkb, .int tkk, .int tka, .int tkv, .long tkc, .ref (ad tkw), .int tkf, .int tkg])), (ta, .inr (6, [.ref tab, .int tan])), (tab, .inl (tabt, 940, .inl tabf))] := hD
    have hK : va_K D vwCl [(tabt, .byte)] s := hK
    refine W.cs (cells' := 0) (slots' := 0) rfl rfl ?_
    refine W.eq (g2 := F0 m 15 ls (.int y_8 :: [])) rfl ?_
    refine lv_if_ne (tgt := 27) hx hb dX7_isComparison_15 (by decide) (fun c_11 => ?_) (fun c_11 => ?_)
    · skip
      have h_12 : z_in 1 1 y_8 := z_neLo c_11 h_9 (z_lit (x := 0) (a := 0) (b := 0) rfl) rfl
      have h_13 : z_in 2 2 tkk := z_both htkk (h_10 (z_eqk h_12 rfl)) rfl
      refine lv_iconst (v := 1) hx hb dX7_isComparison_27 (by decide) ?_
      refine lv_goto (tgt := 32) hx hb dX7_isComparison_28 (by decide) ?_
      exact hret 1 ([(tk, .inr (7, [.ref ta, .int tkm, .int tkb, .int tkk, .int tka, .int tkv, .long tkc, .ref (ad tkw), .int tkf, .int tkg])), (ta, .inr (6, [.ref tab, .int tan])), (tab, .inl (tabt, 940, .inl tabf))], []) _ _ _ _ dX7_isComparison_32 (by decide) ⟨(z_w (c := 0) (d := 1) (z_lit (x := 1) (a := 1) (b := 1) rfl) rfl), (fun _ => h_13), rfl⟩ hP (hK.sub [] rfl) hD hS
    · skip
      have h_14 : z_in 0 0 y_8 := z_leL (Int32.le_of_eq c_11) h_9 (z_lit (x := 0) (a := 0) (b := 0) rfl) rfl
      refine lv_aload_n hx hb dX7_isComparison_18 rfl (lv_at hl 0 rfl) ?_
      refine lv_bipush (v := 62) hx hb dX7_isComparison_19 (by decide) ?_
      have hc9 := (w_Tokens_isSign l D ad tk tkm tkb tkk tka tkv tkc tkf tkg tkw ta tan tab tabt tabf 62 htkm htkb htkk htkw htan httk)
      refine z_calli (w0 := [(tk, .inr (7, [.ref ta, .int tkm, .int tkb, .int tkk, .int tka, .int tkv, .long tkc, .ref (ad tkw), .int tkf, .int tkg])), (ta, .inr (6, [.ref tab, .int tan])), (tab, .inl (tabt, 940, .inl tabf))]) (wr := []) (va_runV (As := [.int 62]) (rest := []) ⟨hx, hb, hml, hown, hts⟩ (hc9 _) (cwV 1 hts gX7_isComparison_X7_isSign rfl rfl rfl (by decide +kernel) ⟨Nat.le_of_ble_eq_true rfl, Nat.le_of_ble_eq_true rfl⟩) (z_preV hP hD hK hS hA hE hO [0, 1, 2] [0] rfl (by decide +kernel) rfl 0 7 rfl rfl rfl) rfl rfl hl.1 rfl (lv_room (Nat.le_of_ble_eq_true rfl)) dX7_isComparison_21 ⟨Nat.le_of_ble_eq_true rfl, Nat.le_of_ble_eq_true rfl⟩) hP hD hK hS hA [0, 1, 2] [] rfl rfl (by decide +kernel) (by decide +kernel) (fun y_15 u9 H locs hw hP hD hK hS => ?_)
      obtain ⟨h_16, h_17, rfl⟩ := hw
      have hP : va_P D vwCl [(tk, .inr (7, [.ref ta, .int tkm, .int tkb, .int tkk, .int tka, .int tkv, .long tkc, .ref (ad tkw), .int tkf, .int tkg])), (ta, .inr (6, [.ref tab, .int tan])), (tab, .inl (tabt, 940, .inl tabf))] H := hP
      have hD : va_D A [(tk, .inr (7, [.ref ta, .int tkm, .int tkb, .int tkk, .int tka, .int tkv, .long tkc, .ref (ad tkw), .int tkf, .int tkg])), (ta, .inr (6, [.ref tab, .int tan])), (tab, .inl (tabt, 940, .inl tabf))] := hD
      have hK : va_K D vwCl [(tabt, .byte)] s := hK
      refine W.cs (cells' := 0) (slots' := 0) rfl rfl ?_
      refine W.eq (g2 := F0 m 24 ls (.int y_15 :: [])) rfl ?_
      refine lv_if_eq (tgt := 31) hx hb dX7_isComparison_24 (by decide) (fun c_18 => ?_) (fun c_18 => ?_)
      · skip
        have h_19 : z_in 0 0 y_15 := z_leL (Int32.le_of_eq c_18) h_16 (z_lit (x := 0) (a := 0) (b := 0) rfl) rfl
        refine lv_iconst (v := 0) hx hb dX7_isComparison_31 (by decide) ?_
        exact hret 0 ([(tk, .inr (7, [.ref ta, .int tkm, .int tkb, .int tkk, .int tka, .int tkv, .long tkc, .ref (ad tkw), .int tkf, .int tkg])), (ta, .inr (6, [.ref tab, .int tan])), (tab, .inl (tabt, 940, .inl tabf))], []) _ _ _ _ dX7_isComparison_32 (by decide) ⟨(z_w (c := 0) (d := 1) (z_lit (x := 0) (a := 0) (b := 0) rfl) rfl), (fun h9 => absurd h9 (by decide)), rfl⟩ hP (hK.sub [] rfl) hD hS
      · skip
        have h_20 : z_in 1 1 y_15 := z_neLo c_18 h_16 (z_lit (x := 0) (a := 0) (b := 0) rfl) rfl
        have h_21 : z_in 2 2 tkk := z_both htkk (h_17 (z_eqk h_20 rfl)) rfl
        refine lv_iconst (v := 1) hx hb dX7_isComparison_27 (by decide) ?_
        refine lv_goto (tgt := 32) hx hb dX7_isComparison_28 (by decide) ?_
        exact hret 1 ([(tk, .inr (7, [.ref ta, .int tkm, .int tkb, .int tkk, .int tka, .int tkv, .long tkc, .ref (ad tkw), .int tkf, .int tkg])), (ta, .inr (6, [.ref tab, .int tan])), (tab, .inl (tabt, 940, .inl tabf))], []) _ _ _ _ dX7_isComparison_32 (by decide) ⟨(z_w (c := 0) (d := 1) (z_lit (x := 1) (a := 1) (b := 1) rfl) rfl), (fun _ => h_21), rfl⟩ hP (hK.sub [] rfl) hD hS

set_option maxHeartbeats 8000000 in
set_option maxRecDepth 100000 in
theorem w_Tokens_isName (l : Launch) (D : va_G) (ad : Nat → Nat) (tk : Nat) (tkm : Int32) (tkb : Int32) (tkk : Int32) (tka : Int32) (tkv : Int32) (tkc : Int64) (tkf : Int32) (tkg : Int32) (tkw : Nat) (ta : Nat) (tan : Int32) (tab : Nat) (tabt : ClassId) (tabf : Nat → Int32) (htkm : z_in 0 940 tkm) (htkb : z_in 0 940 tkb) (htkk : z_in 0 4 tkk) (htkw : tkw < 22) (htan : z_in 0 940 tan) (httk : z_tk tkk tkw) : z_Mi l yX7_isName wsX7_isName { frames := 0, cells := 0, slots := 0, locals := 0 } D ad [.ref tk] [(tk, .inr (7, [.ref ta, .int tkm, .int tkb, .int tkk, .int tka, .int tkv, .long tkc, .ref (ad tkw), .int tkf, .int tkg])), (ta, .inr (6, [.ref tab, .int tan])), (tab, .inl (tabt, 940, .inl tabf))] [(tabt, .byte)] 0 0 (fun r9 u9 => z_in 0 1 r9 ∧ (r9 = 1 → z_in 4 4 tkk) ∧ u9 = ([(tk, .inr (7, [.ref ta, .int tkm, .int tkb, .int tkk, .int tka, .int tkv, .long tkc, .ref (ad tkw), .int tkf, .int tkg])), (ta, .inr (6, [.ref tab, .int tan])), (tab, .inl (tabt, 940, .inl tabf))], [])) := by
  refine z_ofI (cc := cX7_isName) (maxL := 1) (rt := .boolean) (by decide) rfl (Nat.le_of_ble_eq_true rfl) ?_
  intro p e s m below meth c Q A ls hx hb hml hown hts hin hK hP hD hA hE hO hS hl hret
  have hown : s.vm.findClass RX7 = some m.cls := hown
  have hiX7 : ∀ w ∈ wsX70, w ∈ wsX7_isName := fun _ h9 => List.mem_cons_of_mem _ (List.mem_append_right _ h9)
  have hl : lv_has ls 1 [(0, .ref tk)] := hl
  refine lv_aload_n hx hb dX7_isName_0 rfl (lv_at hl 0 rfl) ?_
  refine va_get (D := D) (ci := 7) (v := .int tkk) (C := RX7) (T := TX7) (N := 10) hx hb hts hiX7 hown hK hP 0 rfl rfl 3 (by decide) (hts _ (List.mem_of_getElem? (i := 1) rfl)) (fun _ h9 => h9) rfl dX7_isName_1 ?_
  refine lv_iconst (v := 4) hx hb dX7_isName_4 (by decide) ?_
  refine lv_icmp_ne (tgt := 22) hx hb dX7_isName_5 (by decide) (fun c_1 => ?_) (fun c_1 => ?_)
  · skip
    have h_2 : z_in 0 3 tkk := z_neHi c_1 htkk (z_lit (x := 4) (a := 4) (b := 4) rfl) rfl
    refine lv_iconst (v := 0) hx hb dX7_isName_22 (by decide) ?_
    exact hret 0 ([(tk, .inr (7, [.ref ta, .int tkm, .int tkb, .int tkk, .int tka, .int tkv, .long tkc, .ref (ad tkw), .int tkf, .int tkg])), (ta, .inr (6, [.ref tab, .int tan])), (tab, .inl (tabt, 940, .inl tabf))], []) _ _ _ _ dX7_isName_23 (by decide) ⟨(z_w (c := 0) (d := 1) (z_lit (x := 0) (a := 0) (b := 0) rfl) rfl), (fun h9 => absurd h9 (by decide)), rfl⟩ hP (hK.sub [] rfl) hD hS
  · skip
    have h_3 : z_in 4 4 tkk := z_leR (Int32.le_of_eq (Eq.symm c_1)) (z_lit (x := 4) (a := 4) (b := 4) rfl) htkk rfl
    refine lv_aload_n hx hb dX7_isName_8 rfl (lv_at hl 0 rfl) ?_
    refine va_get (D := D) (ci := 7) (v := .ref (ad tkw)) (C := RX7) (T := TX7) (N := 10) hx hb hts hiX7 hown hK hP 0 rfl rfl 7 (by decide) (hts _ (List.mem_of_getElem? (i := 2) rfl)) (fun _ h9 => h9) rfl dX7_isName_9 ?_
    refine va_gets (v := .ref (ad 0)) hx hb (hE.1.1 0 (by decide)).1 hS hown (hts _ (List.mem_of_getElem? (i := 3) rfl)) (fun _ h9 => h9) dX7_isName_12 ?_
    refine W.eq (g2 := F0 m 15 ls (va_rf (some (ad 0)) :: va_rf (some (ad tkw)) :: [])) rfl ?_
    refine lv_acmp_ne (tgt := 22) hx hb dX7_isName_15 (by decide) (fun c_4 => ?_) (fun c_4 => ?_)
    · have h_5 : tkw ≠ 0 := fun q9 => c_4 (by rw [q9])
      refine lv_iconst (v := 0) hx hb dX7_isName_22 (by decide) ?_
      exact hret 0 ([(tk, .inr (7, [.ref ta, .int tkm, .int tkb, .int tkk, .int tka, .int tkv, .long tkc, .ref (ad tkw), .int tkf, .int tkg])), (ta, .inr (6, [.ref tab, .int tan])), (tab, .inl (tabt, 940, .inl tabf))], []) _ _ _ _ dX7_isName_23 (by decide) ⟨(z_w (c := 0) (d := 1) (z_lit (x := 0) (a := 0) (b := 0) rfl) rfl), (fun h9 => absurd h9 (by decide)), rfl⟩ hP (hK.sub [] rfl) hD hS
    · have h_6 : tkw = 0 := (hE.1.2 tkw 0 htkw (by decide) (Option.some.inj c_4))
      refine lv_iconst (v := 1) hx hb dX7_isName_18 (by decide) ?_
      refine lv_goto (tgt := 23) hx hb dX7_isName_19 (by decide) ?_
      exact hret 1 ([(tk, .inr (7, [.ref ta, .int tkm, .int tkb, .int tkk, .int tka, .int tkv, .long tkc, .ref (ad tkw), .int tkf, .int tkg])), (ta, .inr (6, [.ref tab, .int tan])), (tab, .inl (tabt, 940, .inl tabf))], []) _ _ _ _ dX7_isName_23 (by decide) ⟨(z_w (c := 0) (d := 1) (z_lit (x := 1) (a := 1) (b := 1) rfl) rfl), (fun _ => h_3), rfl⟩ hP (hK.sub [] rfl) hD hS

set_option maxHeartbeats 8000000 in
set_option maxRecDepth 100000 in
theorem w_Tokens_wordHere (l : Launch) (D : va_G) (ad : Nat → Nat) (tk : Nat) (tkm : Int32) (tkb : Int32) (tkk : Int32) (tka : Int32) (tkv : Int32) (tkc : Int64) (tkf : Int32) (tkg : Int32) (tkw : Nat) (ta : Nat) (tan : Int32) (tab : Nat) (tabt : ClassId) (tabf : Nat → Int32) (htkm : z_in 0 940 tkm) (htkb : z_in 0 940 tkb) (htkk : z_in 0 4 tkk) (htkw : tkw < 22) (htan : z_in 0 940 tan) (httk : z_tk tkk tkw) : z_Mr l yX7_wordHere wsX7_wordHere { frames := 0, cells := 0, slots := 0, locals := 0 } D ad [.ref tk] [(tk, .inr (7, [.ref ta, .int tkm, .int tkb, .int tkk, .int tka, .int tkv, .long tkc, .ref (ad tkw), .int tkf, .int tkg])), (ta, .inr (6, [.ref tab, .int tan])), (tab, .inl (tabt, 940, .inl tabf))] [(tabt, .byte)] 0 0 (fun u9 => u9 = ((ad tkw), [(tk, .inr (7, [.ref ta, .int tkm, .int tkb, .int tkk, .int tka, .int tkv, .long tkc, .ref (ad tkw), .int tkf, .int tkg])), (ta, .inr (6, [.ref tab, .int tan])), (tab, .inl (tabt, 940, .inl tabf))], [])) := by
  refine z_ofR (cc := cX7_wordHere) (maxL := 1) (by decide) rfl (Nat.le_of_ble_eq_true rfl) ?_
  intro p e s m below meth c Q A ls hx hb hml hown hts hin hK hP hD hA hE hO hS hl hret
  have hown : s.vm.findClass RX7 = some m.cls := hown
  have hiX7 : ∀ w ∈ wsX70, w ∈ wsX7_wordHere := fun _ h9 => List.mem_cons_of_mem _ (List.mem_append_right _ h9)
  have hl : lv_has ls 1 [(0, .ref tk)] := hl
  refine lv_aload_n hx hb dX7_wordHere_0 rfl (lv_at hl 0 rfl) ?_
  refine va_get (D := D) (ci := 7) (v := .ref (ad tkw)) (C := RX7) (T := TX7) (N := 10) hx hb hts hiX7 hown hK hP 0 rfl rfl 7 (by decide) (hts _ (List.mem_of_getElem? (i := 1) rfl)) (fun _ h9 => h9) rfl dX7_wordHere_1 ?_
  exact hret ((ad tkw), [(tk, .inr (7, [.ref ta, .int tkm, .int tkb, .int tkk, .int tka, .int tkv, .long tkc, .ref (ad tkw), .int tkf, .int tkg])), (ta, .inr (6, [.ref tab, .int tan])), (tab, .inl (tabt, 940, .inl tabf))], []) _ _ _ _ dX7_wordHere_4 rfl hP (hK.sub [] rfl) hD hS

set_option maxHeartbeats 8000000 in
set_option maxRecDepth 100000 in
theorem w_Tokens_signHere (l : Launch) (D : va_G) (ad : Nat → Nat) (tk : Nat) (tkm : Int32) (tkb : Int32) (tkk : Int32) (tka : Int32) (tkv : Int32) (tkc : Int64) (tkf : Int32) (tkg : Int32) (tkw : Nat) (ta : Nat) (tan : Int32) (tab : Nat) (tabt : ClassId) (tabf : Nat → Int32) (htkm : z_in 0 940 tkm) (htkb : z_in 0 940 tkb) (htkk : z_in 0 4 tkk) (htkw : tkw < 22) (htan : z_in 0 940 tan) (httk : z_tk tkk tkw) : z_Mi l yX7_signHere wsX7_signHere { frames := 0, cells := 0, slots := 0, locals := 0 } D ad [.ref tk] [(tk, .inr (7, [.ref ta, .int tkm, .int tkb, .int tkk, .int tka, .int tkv, .long tkc, .ref (ad tkw), .int tkf, .int tkg])), (ta, .inr (6, [.ref tab, .int tan])), (tab, .inl (tabt, 940, .inl tabf))] [(tabt, .byte)] 0 0 (fun r9 u9 => u9 = ([(tk, .inr (7, [.ref ta, .int tkm, .int tkb, .int tkk, .int tka, .int tkv, .long tkc, .ref (ad tkw), .int tkf, .int tkg])), (ta, .inr (6, [.ref tab, .int tan])), (tab, .inl (tabt, 940, .inl tabf))], [])) := by
  refine z_ofI (cc := cX7_signHere) (maxL := 1) (rt := .int) (by decide) rfl (Nat.le_of_ble_eq_true rfl) ?_
  intro p e s m below meth c Q A ls hx hb hml hown hts hin hK hP hD hA hE hO hS hl hret
  have hown : s.vm.findClass RX7 = some m.cls := hown
  have hiX7 : ∀ w ∈ wsX70, w ∈ wsX7_signHere := fun _ h9 => List.mem_cons_of_mem _ (List.mem_append_right _ h9)
  have hl : lv_has ls 1 [(0, .ref tk)] := hl
  refine lv_aload_n hx hb dX7_signHere_0 rfl (lv_at hl 0 rfl) ?_
  refine va_get (D := D) (ci := 7) (v := .int tkv) (C := RX7) (T := TX7) (N := 10) hx hb hts hiX7 hown hK hP 0 rfl rfl 5 (by decide) (hts _ (List.mem_of_getElem? (i := 1) rfl)) (fun _ h9 => h9) rfl dX7_signHere_1 ?_
  exact hret tkv ([(tk, .inr (7, [.ref ta, .int tkm, .int tkb, .int tkk, .int tka, .int tkv, .long tkc, .ref (ad tkw), .int tkf, .int tkg])), (ta, .inr (6, [.ref tab, .int tan])), (tab, .inl (tabt, 940, .inl tabf))], []) _ _ _ _ dX7_signHere_4 rfl rfl hP (hK.sub [] rfl) hD hS

set_option maxHeartbeats 8000000 in
set_option maxRecDepth 100000 in
theorem w_Tokens_fails (l : Launch) (D : va_G) (ad : Nat → Nat) (tk : Nat) (tkm : Int32) (tkb : Int32) (tkk : Int32) (tka : Int32) (tkv : Int32) (tkc : Int64) (tkf : Int32) (tkg : Int32) (tkw : Nat) (ta : Nat) (tan : Int32) (tab : Nat) (tabt : ClassId) (tabf : Nat → Int32) (i0 : Int32) (htkm : z_in 0 940 tkm) (htkb : z_in 0 940 tkb) (htkk : z_in 0 4 tkk) (htkw : tkw < 22) (htan : z_in 0 940 tan) (httk : z_tk tkk tkw) : z_Mi l yX7_fails wsX7_fails { frames := 0, cells := 0, slots := 0, locals := 0 } D ad [.ref tk, .int i0] [(tk, .inr (7, [.ref ta, .int tkm, .int tkb, .int tkk, .int tka, .int tkv, .long tkc, .ref (ad tkw), .int tkf, .int tkg])), (ta, .inr (6, [.ref tab, .int tan])), (tab, .inl (tabt, 940, .inl tabf))] [(tabt, .byte)] 0 0 (fun r9 u9 => ∃ (x0_8 : Int32) (x0_9 : Int32), z_in 0 0 r9 ∧ u9 = ([(tk, .inr (7, [.ref ta, .int tkm, .int tkb, .int tkk, .int tka, .int tkv, .long tkc, .ref (ad tkw), .int x0_8, .int x0_9])), (ta, .inr (6, [.ref tab, .int tan])), (tab, .inl (tabt, 940, .inl tabf))], [])) := by
  refine z_ofI (cc := cX7_fails) (maxL := 2) (rt := .boolean) (by decide) rfl (Nat.le_of_ble_eq_true rfl) ?_
  intro p e s m below meth c Q A ls hx hb hml hown hts hin hK hP hD hA hE hO hS hl hret
  have hown : s.vm.findClass RX7 = some m.cls := hown
  have hiX7 : ∀ w ∈ wsX70, w ∈ wsX7_fails := fun _ h9 => List.mem_cons_of_mem _ (List.mem_append_right _ h9)
  have hl : lv_has ls 2 [(0, .ref tk), (1, .int i0)] := hl
  refine lv_aload_n hx hb dX7_fails_0 rfl (lv_at hl 0 rfl) ?_
  refine va_get (D := D) (ci := 7) (v := .int tkf) (C := RX7) (T := TX7) (N := 10) hx hb hts hiX7 hown hK hP 0 rfl rfl 8 (by decide) (hts _ (List.mem_of_getElem? (i := 1) rfl)) (fun _ h9 => h9) rfl dX7_fails_1 ?_
  refine lv_if_ne (tgt := 20) hx hb dX7_fails_4 (by decide) (fun c_1 => ?_) (fun c_1 => ?_)
  · skip
    refine lv_iconst (v := 0) hx hb dX7_fails_20 (by decide) ?_
    exact hret 0 ([(tk, .inr (7, [.ref ta, .int tkm, .int tkb, .int tkk, .int tka, .int tkv, .long tkc, .ref (ad tkw), .int tkf, .int tkg])), (ta, .inr (6, [.ref tab, .int tan])), (tab, .inl (tabt, 940, .inl tabf))], []) _ _ _ _ dX7_fails_21 (by decide) ⟨tkf, tkg, (z_lit (x := 0) (a := 0) (b := 0) rfl), rfl⟩ hP (hK.sub [] rfl) hD hS
  · skip
    have h_2 : z_in (-2147483648) 0 tkf := z_leL (Int32.le_of_eq c_1) (z_any tkf) (z_lit (x := 0) (a := 0) (b := 0) rfl) rfl
    have h_3 : z_in 0 0 tkf := z_leR (Int32.le_of_eq (Eq.symm c_1)) (z_lit (x := 0) (a := 0) (b := 0) rfl) h_2 rfl
    refine lv_aload_n hx hb dX7_fails_7 rfl (lv_at hl 0 rfl) ?_
    refine lv_iload_n hx hb dX7_fails_8 rfl (lv_at hl 1 rfl) ?_
    refine va_put (D := D) (ci := 7) (v := .int i0) (ty := tyX7 8) (C := RX7) (T := TX7) (N := 10) hx hb hts hiX7 tyX7 tyX7_ok nmX7 hown hK hP hD hS 0 rfl rfl 8 (by decide) (hts _ (List.mem_of_getElem? (i := 1) rfl)) (fun _ h9 => h9) rfl (tyX7_ok 8 (by decide)) rfl rfl (Nat.le_of_ble_eq_true rfl) dX7_fails_9 (fun H locs hP hD hS => ?_)
    have hP : va_P D vwCl [(tk, .inr (7, [.ref ta, .int tkm, .int tkb, .int tkk, .int tka, .int tkv, .long tkc, .ref (ad tkw), .int i0, .int tkg])), (ta, .inr (6, [.ref tab, .int tan])), (tab, .inl (tabt, 940, .inl tabf))] H := hP
    have hD : va_D A [(tk, .inr (7, [.ref ta, .int tkm, .int tkb, .int tkk, .int tka, .int tkv, .long tkc, .ref (ad tkw), .int i0, .int tkg])), (ta, .inr (6, [.ref tab, .int tan])), (tab, .inl (tabt, 940, .inl tabf))] := hD
    refine lv_aload_n hx hb dX7_fails_12 rfl (lv_at hl 0 rfl) ?_
    refine lv_aload_n hx hb dX7_fails_13 rfl (lv_at hl 0 rfl) ?_
    refine va_get (D := D) (ci := 7) (v := .int tka) (C := RX7) (T := TX7) (N := 10) hx hb hts hiX7 hown hK hP 0 rfl rfl 4 (by decide) (hts _ (List.mem_of_getElem? (i := 2) rfl)) (fun _ h9 => h9) rfl dX7_fails_14 ?_
    refine va_put (D := D) (ci := 7) (v := .int tka) (ty := tyX7 9) (C := RX7) (T := TX7) (N := 10) hx hb hts hiX7 tyX7 tyX7_ok nmX7 hown hK hP hD hS 0 rfl rfl 9 (by decide) (hts _ (List.mem_of_getElem? (i := 3) rfl)) (fun _ h9 => h9) rfl (tyX7_ok 9 (by decide)) rfl rfl (Nat.le_of_ble_eq_true rfl) dX7_fails_17 (fun H locs hP hD hS => ?_)
    have hP : va_P D vwCl [(tk, .inr (7, [.ref ta, .int tkm, .int tkb, .int tkk, .int tka, .int tkv, .long tkc, .ref (ad tkw), .int i0, .int tka])), (ta, .inr (6, [.ref tab, .int tan])), (tab, .inl (tabt, 940, .inl tabf))] H := hP
    have hD : va_D A [(tk, .inr (7, [.ref ta, .int tkm, .int tkb, .int tkk, .int tka, .int tkv, .long tkc, .ref (ad tkw), .int i0, .int tka])), (ta, .inr (6, [.ref tab, .int tan])), (tab, .inl (tabt, 940, .inl tabf))] := hD
    refine lv_iconst (v := 0) hx hb dX7_fails_20 (by decide) ?_
    exact hret 0 ([(tk, .inr (7, [.ref ta, .int tkm, .int tkb, .int tkk, .int tka, .int tkv, .long tkc, .ref (ad tkw), .int i0, .int tka])), (ta, .inr (6, [.ref tab, .int tan])), (tab, .inl (tabt, 940, .inl tabf))], []) _ _ _ _ dX7_fails_21 (by decide) ⟨i0, tka, (z_lit (x := 0) (a := 0) (b := 0) rfl), rfl⟩ hP (hK.sub [] rfl) hD hS
