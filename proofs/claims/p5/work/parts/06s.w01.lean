theorem dX6_addText_0 : decode cX6_addText 0 = .ok (.iconst 0, 1) := by decide +kernel
theorem dX6_addText_1 : decode cX6_addText 1 = .ok (.istore_n 2, 1) := by decide +kernel
theorem dX6_addText_2 : decode cX6_addText 2 = .ok (.iload_n 2, 1) := by decide +kernel
theorem dX6_addText_3 : decode cX6_addText 3 = .ok (.aload_n 1, 1) := by decide +kernel
theorem dX6_addText_4 : decode cX6_addText 4 = .ok (.invokevirtual 23, 3) := by decide +kernel
theorem dX6_addText_7 : decode cX6_addText 7 = .ok (.if_icmp .ge 18, 3) := by decide +kernel
theorem dX6_addText_10 : decode cX6_addText 10 = .ok (.aload_n 0, 1) := by decide +kernel
theorem dX6_addText_11 : decode cX6_addText 11 = .ok (.aload_n 1, 1) := by decide +kernel
theorem dX6_addText_12 : decode cX6_addText 12 = .ok (.iload_n 2, 1) := by decide +kernel
theorem dX6_addText_13 : decode cX6_addText 13 = .ok (.invokevirtual 28, 3) := by decide +kernel
theorem dX6_addText_16 : decode cX6_addText 16 = .ok (.invokevirtual 19, 3) := by decide +kernel
theorem dX6_addText_19 : decode cX6_addText 19 = .ok (.iinc 2 1, 3) := by decide +kernel
theorem dX6_addText_22 : decode cX6_addText 22 = .ok (.goto (-20), 3) := by decide +kernel
theorem dX6_addText_25 : decode cX6_addText 25 = .ok (.return_, 1) := by decide +kernel
theorem dJ0_charAt_5068e_0 : decode cJ0_charAt_5068e 0 = .ok (.aload_n 0, 1) := by decide +kernel
theorem dJ0_charAt_5068e_1 : decode cJ0_charAt_5068e 1 = .ok (.invokevirtual 492, 3) := by decide +kernel
theorem dJ0_charAt_5068e_4 : decode cJ0_charAt_5068e 4 = .ok (.ifCond .eq 12, 3) := by decide +kernel
theorem dJ0_charAt_5068e_7 : decode cJ0_charAt_5068e 7 = .ok (.aload_n 0, 1) := by decide +kernel
theorem dJ0_charAt_5068e_8 : decode cJ0_charAt_5068e 8 = .ok (.getfield 9, 3) := by decide +kernel
theorem dJ0_charAt_5068e_11 : decode cJ0_charAt_5068e 11 = .ok (.iload_n 1, 1) := by decide +kernel
theorem dJ0_charAt_5068e_12 : decode cJ0_charAt_5068e 12 = .ok (.invokestatic 495, 3) := by decide +kernel
theorem dJ0_charAt_5068e_15 : decode cJ0_charAt_5068e 15 = .ok (.ireturn, 1) := by decide +kernel
theorem dJ1_charAt_3b067_0 : decode cJ1_charAt_3b067 0 = .ok (.iload_n 1, 1) := by decide +kernel
theorem dJ1_charAt_3b067_1 : decode cJ1_charAt_3b067 1 = .ok (.aload_n 0, 1) := by decide +kernel
theorem dJ1_charAt_3b067_2 : decode cJ1_charAt_3b067 2 = .ok (.arraylength, 1) := by decide +kernel
theorem dJ1_charAt_3b067_3 : decode cJ1_charAt_3b067 3 = .ok (.invokestatic 9, 3) := by decide +kernel
theorem dJ1_charAt_3b067_6 : decode cJ1_charAt_3b067 6 = .ok (.aload_n 0, 1) := by decide +kernel
theorem dJ1_charAt_3b067_7 : decode cJ1_charAt_3b067 7 = .ok (.iload_n 1, 1) := by decide +kernel
theorem dJ1_charAt_3b067_8 : decode cJ1_charAt_3b067 8 = .ok (.baload, 1) := by decide +kernel
theorem dJ1_charAt_3b067_9 : decode cJ1_charAt_3b067 9 = .ok (.sipush 255, 3) := by decide +kernel
theorem dJ1_charAt_3b067_12 : decode cJ1_charAt_3b067 12 = .ok (.iand, 1) := by decide +kernel
theorem dJ1_charAt_3b067_13 : decode cJ1_charAt_3b067 13 = .ok (.i2c, 1) := by decide +kernel
theorem dJ1_charAt_3b067_14 : decode cJ1_charAt_3b067 14 = .ok (.ireturn, 1) := by decide +kernel
set_option maxRecDepth 20000 in
theorem ggX6_addText_J0_length_8abf5 : GoodIn wsX6_addText wsJ0_length_8abf5 := goodIn_r _ [5, 6, 7, 8, 9, 4, 10, 11, 12] rfl (by decide +kernel)
set_option maxRecDepth 20000 in
theorem gX6_addText_J0_length_8abf5 : GoodIn wsX6_addText (wsV RX6 23 RJ0 yJ0_length_8abf5 wsJ0_length_8abf5) := goodIn_app (a := [.methodLink RX6 23 yJ0_length_8abf5, .instanceMethod yJ0_length_8abf5, .selects RJ0 yJ0_length_8abf5 yJ0_length_8abf5, .initialized RJ0]) (have hq0 : ∀ w, w ∈ wsX6_addText_r1 → w ∈ wsX6_addText := fun _ h9 => (List.mem_cons_of_mem _ (List.mem_append_left _ (List.mem_append_left _ h9))); (g_c9 (hq0 _ (List.mem_of_getElem? (i := 0) rfl)) rfl (g_c9 (hq0 _ (List.mem_of_getElem? (i := 1) rfl)) rfl (g_c9 (hq0 _ (List.mem_of_getElem? (i := 2) rfl)) rfl (g_c9 (hq0 _ (List.mem_of_getElem? (i := 3) rfl)) rfl g_n9))))) ggX6_addText_J0_length_8abf5
set_option maxRecDepth 20000 in
theorem ggX6_addText_J0_charAt_5068e : GoodIn wsX6_addText wsJ0_charAt_5068e := goodIn_r _ [16, 6, 17, 18, 19, 4, 20, 11, 12, 21, 22, 23, 24, 25, 26, 27, 28, 29, 30, 31, 32, 33, 34, 35, 36, 37, 38, 39, 40, 41, 42, 43, 44, 45, 46, 47, 48, 49] rfl (by decide +kernel)
set_option maxRecDepth 20000 in
theorem gX6_addText_J0_charAt_5068e : GoodIn wsX6_addText (wsV RX6 28 RJ0 yJ0_charAt_5068e wsJ0_charAt_5068e) := goodIn_app (a := [.methodLink RX6 28 yJ0_charAt_5068e, .instanceMethod yJ0_charAt_5068e, .selects RJ0 yJ0_charAt_5068e yJ0_charAt_5068e, .initialized RJ0]) (have hq0 : ∀ w, w ∈ wsX6_addText_r1 → w ∈ wsX6_addText := fun _ h9 => (List.mem_cons_of_mem _ (List.mem_append_left _ (List.mem_append_left _ h9))); (g_c9 (hq0 _ (List.mem_of_getElem? (i := 12) rfl)) rfl (g_c9 (hq0 _ (List.mem_of_getElem? (i := 13) rfl)) rfl (g_c9 (hq0 _ (List.mem_of_getElem? (i := 14) rfl)) rfl (g_c9 (hq0 _ (List.mem_of_getElem? (i := 3) rfl)) rfl g_n9))))) ggX6_addText_J0_charAt_5068e
set_option maxRecDepth 20000 in
theorem ggX6_addText_X6_add : GoodIn wsX6_addText wsX6_add := goodIn_r _ [54, 55, 56, 57, 58] rfl (by decide +kernel)
set_option maxRecDepth 20000 in
theorem gX6_addText_X6_add : GoodIn wsX6_addText (wsV RX6 19 RX6 yX6_add wsX6_add) := goodIn_app (a := [.methodLink RX6 19 yX6_add, .instanceMethod yX6_add, .selects RX6 yX6_add yX6_add, .initialized RX6]) (have hq0 : ∀ w, w ∈ wsX6_addText_r3 → w ∈ wsX6_addText := fun _ h9 => (List.mem_cons_of_mem _ (List.mem_append_left _ (List.mem_append_right _ (List.mem_append_right _ h9)))); (g_c9 (hq0 _ (List.mem_of_getElem? (i := 1) rfl)) rfl (g_c9 (hq0 _ (List.mem_of_getElem? (i := 2) rfl)) rfl (g_c9 (hq0 _ (List.mem_of_getElem? (i := 3) rfl)) rfl (g_c9 (hq0 _ (List.mem_of_getElem? (i := 4) rfl)) rfl g_n9))))) ggX6_addText_X6_add
set_option maxRecDepth 20000 in
theorem ggJ0_charAt_5068e_J0_isLatin1_aae02 : GoodIn wsJ0_charAt_5068e wsJ0_isLatin1_aae02 := goodIn_r _ [6, 7, 8] rfl (by decide +kernel)
set_option maxRecDepth 20000 in
theorem gJ0_charAt_5068e_J0_isLatin1_aae02 : GoodIn wsJ0_charAt_5068e (wsV RJ0 492 RJ0 yJ0_isLatin1_aae02 wsJ0_isLatin1_aae02) := goodIn_app (a := [.methodLink RJ0 492 yJ0_isLatin1_aae02, .instanceMethod yJ0_isLatin1_aae02, .selects RJ0 yJ0_isLatin1_aae02 yJ0_isLatin1_aae02, .initialized RJ0]) (have hq0 : ∀ w, w ∈ wsJ0_charAt_5068e_r1 → w ∈ wsJ0_charAt_5068e := fun _ h9 => (List.mem_cons_of_mem _ (List.mem_append_left _ h9)); (g_c9 (hq0 _ (List.mem_of_getElem? (i := 1) rfl)) rfl (g_c9 (hq0 _ (List.mem_of_getElem? (i := 2) rfl)) rfl (g_c9 (hq0 _ (List.mem_of_getElem? (i := 3) rfl)) rfl (g_c9 (hq0 _ (List.mem_of_getElem? (i := 4) rfl)) rfl g_n9))))) ggJ0_charAt_5068e_J0_isLatin1_aae02
set_option maxRecDepth 20000 in
theorem ggJ0_charAt_5068e_J1_charAt_3b067 : GoodIn wsJ0_charAt_5068e wsJ1_charAt_3b067 := goodIn_r _ [12, 13, 14, 5, 15, 16, 17, 18, 19, 20] rfl (by decide +kernel)
set_option maxRecDepth 20000 in
theorem gJ0_charAt_5068e_J1_charAt_3b067 : GoodIn wsJ0_charAt_5068e (va_wsS RJ0 495 yJ1_charAt_3b067 wsJ1_charAt_3b067) := goodIn_app (goodIn_of _ (by decide +kernel)) ggJ0_charAt_5068e_J1_charAt_3b067
set_option maxRecDepth 20000 in
theorem ggJ1_charAt_3b067_J0_checkIndex_df160 : GoodIn wsJ1_charAt_3b067 wsJ0_checkIndex_df160 := goodIn_r _ [4, 5, 6, 7, 8, 9] rfl (by decide +kernel)
set_option maxRecDepth 20000 in
theorem gJ1_charAt_3b067_J0_checkIndex_df160 : GoodIn wsJ1_charAt_3b067 (va_wsS RJ1 9 yJ0_checkIndex_df160 wsJ0_checkIndex_df160) := goodIn_app (goodIn_of _ (by decide +kernel)) ggJ1_charAt_3b067_J0_checkIndex_df160
set_option maxHeartbeats 8000000 in
set_option maxRecDepth 100000 in
theorem w_J1_charAt0 (l : Launch) (D : va_G) (ad : Nat → Nat) (i0 : Int32) (hi0 : z_in 0 7 i0) : z_Mi l yJ1_charAt_3b067 wsJ1_charAt_3b067 { frames := 2, cells := 0, slots := 0, locals := 43 } D ad [.ref (ad 200), .int i0] [] [] 0 0 (fun r9 u9 => z_ch r9 ∧ u9 = ([], [])) := by
  refine z_ofI (cc := cJ1_charAt_3b067) (maxL := 2) (rt := .char) (by decide) rfl (Nat.le_of_ble_eq_true rfl) ?_
  intro p e s m below meth c Q A ls hx hb hml hown hts hin hK hP hD hA hE hO hS hl hret
  have hown : s.vm.findClass RJ1 = some m.cls := hown
  have hl : lv_has ls 2 [(0, .ref (ad 200)), (1, .int i0)] := hl
  refine lv_iload_n hx hb dJ1_charAt_3b067_0 rfl (lv_at hl 1 rfl) ?_
  refine lv_aload_n hx hb dJ1_charAt_3b067_1 rfl (lv_at hl 0 rfl) ?_
  obtain ⟨b9_0, hT9_0⟩ := (hE.2.2.1 0 (by decide)).2.2.2
  refine va_tlen (v := 8) hx hb hT9_0 hS rfl dJ1_charAt_3b067_2 ?_
  have hc9 := (w_J0_checkIndex8 l D ad i0 hi0)
  refine z_callv (w0 := []) (wr := []) (va_runS (As := [.int i0, .int 8]) (rest := []) ⟨hx, hb, hml, hown, hts⟩ (hc9 _) (va_cwS 2 hts gJ1_charAt_3b067_J0_checkIndex_df160 rfl rfl rfl (by decide +kernel) ⟨Nat.le_of_ble_eq_true rfl, Nat.le_of_ble_eq_true rfl⟩) (z_preS hP hD hK hS hA hE hO [] [] rfl (by decide +kernel) rfl) rfl rfl hl.1 rfl (lv_room (Nat.le_of_ble_eq_true rfl)) dJ1_charAt_3b067_3 ⟨Nat.le_of_ble_eq_true rfl, Nat.le_of_ble_eq_true rfl⟩) hP hD hK hS hA [] [] rfl rfl (by decide +kernel) (by decide +kernel) (fun u9 H locs hw hP hD hK hS => ?_)
  obtain rfl := hw
  have hP : va_P D vwCl [] H := hP
  have hD : va_D A [] := hD
  have hK : va_K D vwCl [] s := hK
  refine W.cs (cells' := 0) (slots' := 0) rfl rfl ?_
  refine lv_aload_n hx hb dJ1_charAt_3b067_6 rfl (lv_at hl 0 rfl) ?_
  refine lv_iload_n hx hb dJ1_charAt_3b067_7 rfl (lv_at hl 1 rfl) ?_
  refine va_tb hx hb hT9_0 hS (z_vp hi0 rfl) rfl dJ1_charAt_3b067_8 ?_
  refine lv_topi (fun y_1 ey_1 => ?_)
  refine lv_sipush (v := 255) hx hb dJ1_charAt_3b067_9 (by decide) ?_
  refine lv_iand hx hb dJ1_charAt_3b067_12 ?_
  refine lv_topi (fun y_2 ey_2 => ?_)
  have h_3 : z_in 0 255 y_2 := by rw [ey_2]; exact z_andR (z_lit (x := 255) (a := 255) (b := 255) rfl) rfl
  refine lv_i2c hx hb dJ1_charAt_3b067_13 rfl ?_
  refine lv_topi (fun y_4 ey_4 => ?_)
  exact hret y_4 ([], []) _ _ _ _ dJ1_charAt_3b067_14 (z_narc ey_4) ⟨(z_narc ey_4), rfl⟩ hP (hK.sub [] rfl) hD hS

set_option maxHeartbeats 8000000 in
set_option maxRecDepth 100000 in
theorem w_J0_charAt0 (l : Launch) (D : va_G) (ad : Nat → Nat) (i0 : Int32) (hi0 : z_in 0 7 i0) : z_Mi l yJ0_charAt_5068e wsJ0_charAt_5068e { frames := 3, cells := 0, slots := 0, locals := 64 } D ad [.ref (ad 100), .int i0] [] [] 0 0 (fun r9 u9 => z_ch r9 ∧ u9 = ([], [])) := by
  refine z_ofI (cc := cJ0_charAt_5068e) (maxL := 2) (rt := .char) (by decide) rfl (Nat.le_of_ble_eq_true rfl) ?_
  intro p e s m below meth c Q A ls hx hb hml hown hts hin hK hP hD hA hE hO hS hl hret
  have hown : s.vm.findClass RJ0 = some m.cls := hown
  have hl : lv_has ls 2 [(0, .ref (ad 100)), (1, .int i0)] := hl
  refine lv_aload_n hx hb dJ0_charAt_5068e_0 rfl (lv_at hl 0 rfl) ?_
  have hc9 := (w_J0_isLatin1_0 l D ad  )
  refine z_calli (w0 := []) (wr := []) (va_runV (As := []) (rest := []) ⟨hx, hb, hml, hown, hts⟩ (hc9 _) (cwV 0 hts gJ0_charAt_5068e_J0_isLatin1_aae02 rfl rfl rfl (by decide +kernel) ⟨Nat.le_of_ble_eq_true rfl, Nat.le_of_ble_eq_true rfl⟩) (z_preT (i := 0) hP hD hK hS hA hE hO [] [] rfl (by decide) rfl (by decide)) rfl rfl hl.1 rfl (lv_room (Nat.le_of_ble_eq_true rfl)) dJ0_charAt_5068e_1 ⟨Nat.le_of_ble_eq_true rfl, Nat.le_of_ble_eq_true rfl⟩) hP hD hK hS hA [] [] rfl rfl (by decide +kernel) (by decide +kernel) (fun y_1 u9 H locs hw hP hD hK hS => ?_)
  obtain ⟨h_2, rfl⟩ := hw
  have hP : va_P D vwCl [] H := hP
  have hD : va_D A [] := hD
  have hK : va_K D vwCl [] s := hK
  refine W.cs (cells' := 0) (slots' := 0) rfl rfl ?_
  refine W.eq (g2 := F0 m 4 ls (.int y_1 :: [])) rfl ?_
  refine lv_if_eq (tgt := 16) hx hb dJ0_charAt_5068e_4 (by decide) (fun c_3 => ?_) (fun c_3 => ?_)
  · skip
    exact (z_no (z_leL (e := 0) (Int32.le_of_eq c_3) h_2 (z_lit (x := 0) (a := 0) (b := 0) rfl) rfl) rfl).elim
  · skip
    refine lv_aload_n hx hb dJ0_charAt_5068e_7 rfl (lv_at hl 0 rfl) ?_
    refine vk_getf (v := .ref (ad 200)) hx hb (hE.2.2.1 0 (by decide)).2.2.1 hS hown (hts _ (List.mem_of_getElem? (i := 1) rfl)) (fun _ h9 => h9) dJ0_charAt_5068e_8 ?_
    refine lv_iload_n hx hb dJ0_charAt_5068e_11 rfl (lv_at hl 1 rfl) ?_
    have hc9 := (w_J1_charAt0 l D ad i0 hi0)
    refine z_calli (w0 := []) (wr := []) (va_runS (As := [.ref (ad 200), .int i0]) (rest := []) ⟨hx, hb, hml, hown, hts⟩ (hc9 _) (va_cwS 2 hts gJ0_charAt_5068e_J1_charAt_3b067 rfl rfl rfl (by decide +kernel) ⟨Nat.le_of_ble_eq_true rfl, Nat.le_of_ble_eq_true rfl⟩) (z_preS hP hD hK hS hA hE hO [] [] rfl (by decide +kernel) rfl) rfl rfl hl.1 rfl (lv_room (Nat.le_of_ble_eq_true rfl)) dJ0_charAt_5068e_12 ⟨Nat.le_of_ble_eq_true rfl, Nat.le_of_ble_eq_true rfl⟩) hP hD hK hS hA [] [] rfl rfl (by decide +kernel) (by decide +kernel) (fun y_4 u9 H locs hw hP hD hK hS => ?_)
    obtain ⟨h_5, rfl⟩ := hw
    have hP : va_P D vwCl [] H := hP
    have hD : va_D A [] := hD
    have hK : va_K D vwCl [] s := hK
    refine W.cs (cells' := 0) (slots' := 0) rfl rfl ?_
    refine W.eq (g2 := F0 m 15 ls (.int y_4 :: [])) rfl ?_
    exact hret y_4 ([], []) _ _ _ _ dJ0_charAt_5068e_15 h_5 ⟨h_5, rfl⟩ hP (hK.sub [] rfl) hD hS

set_option maxHeartbeats 8000000 in
set_option maxRecDepth 100000 in
theorem w_Tape28_addText0 (l : Launch) (D : va_G) (ad : Nat → Nat) (ta : Nat) (tan : Int32) (tab : Nat) (tabt : ClassId) (tabf : Nat → Int32) (htan : z_in 0 28 tan) : z_Mv l yX6_addText wsX6_addText { frames := 4, cells := 0, slots := 0, locals := 85 } D ad [.ref ta, .ref (ad 100)] [(ta, .inr (6, [.ref tab, .int tan])), (tab, .inl (tabt, 28, .inl tabf))] [(tabt, .byte)] 0 0 (fun u9 => ∃ (x0_1 : Int32) (x1_f : Nat → Int32), z_in 0 28 x0_1 ∧ u9 = ([(ta, .inr (6, [.ref tab, .int x0_1])), (tab, .inl (tabt, 28, .inl x1_f))], [])) := by
  refine z_ofV (cc := cX6_addText) (maxL := 3) (by decide) rfl (Nat.le_of_ble_eq_true rfl) ?_
  intro p e s m below meth c Q A ls hx hb hml hown hts hin hK hP hD hA hE hO hS hl hret
  have hown : s.vm.findClass RX6 = some m.cls := hown
  have hiX6 : ∀ w ∈ wsX60, w ∈ wsX6_addText := fun _ h9 => List.mem_cons_of_mem _ (List.mem_append_right _ h9)
  have hl : lv_has ls 3 [(0, .ref ta), (1, .ref (ad 100))] := hl
  refine lv_iconst (v := 0) hx hb dX6_addText_0 (by decide) ?_
  refine lv_istore_n (lv' := [(2, .int 0), (0, .ref ta), (1, .ref (ad 100))]) hx hb dX6_addText_1 rfl hl (by decide) rfl (fun ls hl => ?_)
  have LP1 : ∀ (n : Nat) (v1_2 : Int32) (w1_1 : Int32) (g1_2 : Nat → Int32) (H : Heap) (locs : List Loc) (ls : Array Slot), z_in 0 8 v1_2 → z_in 0 28 w1_1 → 9 - v1_2.toInt ≤ (n : Int) → va_P D vwCl [(ta, .inr (6, [.ref tab, .int w1_1])), (tab, .inl (tabt, 28, .inl g1_2))] H → va_D A [(ta, .inr (6, [.ref tab, .int w1_1])), (tab, .inl (tabt, 28, .inl g1_2))] → va_S A s.heap H locs → lv_has ls 3 [(2, .int v1_2), (0, .ref ta), (1, .ref (ad 100))] → W p l e ({ frames := 4, cells := 0, slots := 0, locals := 85 }) s m ([.ref ta, .ref (ad 100)] : List Value).toArray below meth c H locs 0 0 Q (F0 m 2 ls []) := by
    intro n
    induction n with
    | zero => intro v1_2 w1_1 g1_2 H locs ls hv1_2 hw1_1 hn1; exact absurd hn1 (by have q1 := hv1_2.1; have q2 := hv1_2.2; omega)
    | succ n ih1 =>
      intro v1_2 w1_1 g1_2 H locs ls hv1_2 hw1_1 hn1 hP hD hS hl
      have q1 := hv1_2.1
      have q1' := hv1_2.2
      refine lv_iload_n hx hb dX6_addText_2 rfl (lv_at hl 0 rfl) ?_
      refine lv_aload_n hx hb dX6_addText_3 rfl (lv_at hl 2 rfl) ?_
      have hc9 := (w_J0_length0 l D ad  )
      refine z_calli (w0 := []) (wr := [(ta, .inr (6, [.ref tab, .int w1_1])), (tab, .inl (tabt, 28, .inl g1_2))]) (va_runV (As := []) (rest := [.int v1_2]) ⟨hx, hb, hml, hown, hts⟩ (hc9 _) (cwV 0 hts gX6_addText_J0_length_8abf5 rfl rfl rfl (by decide +kernel) ⟨Nat.le_of_ble_eq_true rfl, Nat.le_of_ble_eq_true rfl⟩) (z_preT (i := 0) hP hD hK hS hA hE hO [] [] rfl (by decide) rfl (by decide)) rfl rfl hl.1 rfl (lv_room (Nat.le_of_ble_eq_true rfl)) dX6_addText_4 ⟨Nat.le_of_ble_eq_true rfl, Nat.le_of_ble_eq_true rfl⟩) hP hD hK hS hA [] [0, 1] rfl rfl (by decide +kernel) (by decide +kernel) (fun y_1 u9 H locs hw hP hD hK hS => ?_)
      obtain ⟨h_2, rfl⟩ := hw
      have hP : va_P D vwCl [(ta, .inr (6, [.ref tab, .int w1_1])), (tab, .inl (tabt, 28, .inl g1_2))] H := hP
      have hD : va_D A [(ta, .inr (6, [.ref tab, .int w1_1])), (tab, .inl (tabt, 28, .inl g1_2))] := hD
      have hK : va_K D vwCl [(tabt, .byte)] s := hK
      refine W.cs (cells' := 0) (slots' := 0) rfl rfl ?_
      refine W.eq (g2 := F0 m 7 ls (.int y_1 :: [.int v1_2])) rfl ?_
      refine lv_icmp_ge (tgt := 25) hx hb dX6_addText_7 (by decide) (fun c_3 => ?_) (fun c_3 => ?_)
      · skip
        have h_4 : z_in 8 8 v1_2 := z_leR c_3 h_2 hv1_2 rfl
        exact hret ([(ta, .inr (6, [.ref tab, .int w1_1])), (tab, .inl (tabt, 28, .inl g1_2))], []) _ _ _ _ dX6_addText_25 ⟨w1_1, g1_2, hw1_1, rfl⟩ hP (hK.sub [] rfl) hD hS
      · skip
        have h_5 : z_in 0 7 v1_2 := z_ltL (Int32.not_le.mp c_3) hv1_2 h_2 rfl
        refine lv_aload_n hx hb dX6_addText_10 rfl (lv_at hl 1 rfl) ?_
        refine lv_aload_n hx hb dX6_addText_11 rfl (lv_at hl 2 rfl) ?_
        refine lv_iload_n hx hb dX6_addText_12 rfl (lv_at hl 0 rfl) ?_
        have hc9 := (w_J0_charAt0 l D ad v1_2 h_5)
        refine z_calli (w0 := []) (wr := [(ta, .inr (6, [.ref tab, .int w1_1])), (tab, .inl (tabt, 28, .inl g1_2))]) (va_runV (As := [.int v1_2]) (rest := [.ref ta]) ⟨hx, hb, hml, hown, hts⟩ (hc9 _) (cwV 1 hts gX6_addText_J0_charAt_5068e rfl rfl rfl (by decide +kernel) ⟨Nat.le_of_ble_eq_true rfl, Nat.le_of_ble_eq_true rfl⟩) (z_preT (i := 0) hP hD hK hS hA hE hO [] [] rfl (by decide) rfl (by decide)) rfl rfl hl.1 rfl (lv_room (Nat.le_of_ble_eq_true rfl)) dX6_addText_13 ⟨Nat.le_of_ble_eq_true rfl, Nat.le_of_ble_eq_true rfl⟩) hP hD hK hS hA [] [0, 1] rfl rfl (by decide +kernel) (by decide +kernel) (fun y_6 u9 H locs hw hP hD hK hS => ?_)
        obtain ⟨h_7, rfl⟩ := hw
        have hP : va_P D vwCl [(ta, .inr (6, [.ref tab, .int w1_1])), (tab, .inl (tabt, 28, .inl g1_2))] H := hP
        have hD : va_D A [(ta, .inr (6, [.ref tab, .int w1_1])), (tab, .inl (tabt, 28, .inl g1_2))] := hD
        have hK : va_K D vwCl [(tabt, .byte)] s := hK
        refine W.cs (cells' := 0) (slots' := 0) rfl rfl ?_
        refine W.eq (g2 := F0 m 16 ls (.int y_6 :: [.ref ta])) rfl ?_
        have hc9 := (w_Tape28_add l D ad ta w1_1 tab tabt g1_2 y_6 hw1_1)
        refine z_callv (w0 := [(ta, .inr (6, [.ref tab, .int w1_1])), (tab, .inl (tabt, 28, .inl g1_2))]) (wr := []) (va_runV (As := [.int y_6]) (rest := []) ⟨hx, hb, hml, hown, hts⟩ (hc9 _) (cwV 1 hts gX6_addText_X6_add rfl rfl rfl (by decide +kernel) ⟨Nat.le_of_ble_eq_true rfl, Nat.le_of_ble_eq_true rfl⟩) (z_preV hP hD hK hS hA hE hO [0, 1] [0] rfl (by decide +kernel) rfl 0 6 rfl rfl rfl) rfl rfl hl.1 rfl (lv_room (Nat.le_of_ble_eq_true rfl)) dX6_addText_16 ⟨Nat.le_of_ble_eq_true rfl, Nat.le_of_ble_eq_true rfl⟩) hP hD hK hS hA [0, 1] [] rfl rfl (by decide +kernel) (by decide +kernel) (fun u9 H locs hw hP hD hK hS => ?_)
        obtain ⟨x_8, f_10, h_9, rfl⟩ := hw
        have hP : va_P D vwCl [(ta, .inr (6, [.ref tab, .int x_8])), (tab, .inl (tabt, 28, .inl f_10))] H := hP
        have hD : va_D A [(ta, .inr (6, [.ref tab, .int x_8])), (tab, .inl (tabt, 28, .inl f_10))] := hD
        have hK : va_K D vwCl [(tabt, .byte)] s := hK
        refine W.cs (cells' := 0) (slots' := 0) rfl rfl ?_
        obtain ⟨y_11, ey_11⟩ : ∃ y : Int32, y = v1_2 + 1 := ⟨_, rfl⟩
        have h_12 : z_in 1 8 y_11 := by rw [ey_11]; exact z_add h_5 (z_lit (x := 1) (a := 1) (b := 1) rfl) rfl rfl
        have ty_11 : y_11.toInt = v1_2.toInt + 1 := by rw [ey_11]; exact z_addT h_5 (z_lit (x := 1) (a := 1) (b := 1) rfl) rfl
        refine lv_iinc (v := y_11) (lv' := [(2, .int y_11), (0, .ref ta), (1, .ref (ad 100))]) hx hb dX6_addText_19 hl (k := 0) rfl (by rw [ey_11]; rfl) (by decide) rfl (fun ls hl => ?_)
        refine lv_goto (tgt := 2) hx hb dX6_addText_22 (by decide) ?_
        exact ih1 y_11 x_8 f_10 _ _ _ (z_w (c := 0) (d := 8) h_12 rfl) h_9 (by omega) hP hD hS (lv_sub hl [0, 1, 2] rfl)
  exact LP1 9 0 tan tabf _ _ _ (z_w (c := 0) (d := 8) (z_lit (x := 0) (a := 0) (b := 0) rfl) rfl) htan (by decide) hP hD hS (lv_sub hl [0, 1, 2] rfl)

set_option maxHeartbeats 8000000 in
set_option maxRecDepth 100000 in
theorem w_J0_coder1 (l : Launch) (D : va_G) (ad : Nat → Nat)   : z_Mi l yJ0_coder_7d493 wsJ0_coder_7d493 { frames := 0, cells := 0, slots := 0, locals := 0 } D ad [.ref (ad 101)] [] [] 0 0 (fun r9 u9 => z_in 0 0 r9 ∧ u9 = ([], [])) := by
  refine z_ofI (cc := cJ0_coder_7d493) (maxL := 1) (rt := .byte) (by decide) rfl (Nat.le_of_ble_eq_true rfl) ?_
  intro p e s m below meth c Q A ls hx hb hml hown hts hin hK hP hD hA hE hO hS hl hret
  have hown : s.vm.findClass RJ0 = some m.cls := hown
  have hl : lv_has ls 1 [(0, .ref (ad 101))] := hl
  refine va_gets (v := .int 1) hx hb hE.2.2.2.1 hS hown (hts _ (List.mem_of_getElem? (i := 1) rfl)) (fun _ h9 => h9) dJ0_coder_7d493_0 ?_
  refine lv_if_eq (tgt := 13) hx hb dJ0_coder_7d493_3 (by decide) (fun h9 => absurd h9 (by decide)) (fun _ => ?_)
  refine lv_aload_n hx hb dJ0_coder_7d493_6 rfl (lv_at hl 0 rfl) ?_
  refine vk_getf (v := .int 0) hx hb (hE.2.2.1 1 (by decide)).2.1 hS hown (hts _ (List.mem_of_getElem? (i := 2) rfl)) (fun _ h9 => h9) dJ0_coder_7d493_7 ?_
  refine lv_goto (tgt := 14) hx hb dJ0_coder_7d493_10 (by decide) ?_
  exact hret 0 ([], []) _ _ _ _ dJ0_coder_7d493_14 (by decide) ⟨(z_lit (x := 0) (a := 0) (b := 0) rfl), rfl⟩ hP (hK.sub [] rfl) hD hS

set_option maxHeartbeats 8000000 in
set_option maxRecDepth 100000 in
theorem w_J0_length1 (l : Launch) (D : va_G) (ad : Nat → Nat)   : z_Mi l yJ0_length_8abf5 wsJ0_length_8abf5 { frames := 1, cells := 0, slots := 0, locals := 20 } D ad [.ref (ad 101)] [] [] 0 0 (fun r9 u9 => z_in 8 8 r9 ∧ u9 = ([], [])) := by
  refine z_ofI (cc := cJ0_length_8abf5) (maxL := 1) (rt := .int) (by decide) rfl (Nat.le_of_ble_eq_true rfl) ?_
  intro p e s m below meth c Q A ls hx hb hml hown hts hin hK hP hD hA hE hO hS hl hret
  have hown : s.vm.findClass RJ0 = some m.cls := hown
  have hl : lv_has ls 1 [(0, .ref (ad 101))] := hl
  refine lv_aload_n hx hb dJ0_length_8abf5_0 rfl (lv_at hl 0 rfl) ?_
  refine vk_getf (v := .ref (ad 201)) hx hb (hE.2.2.1 1 (by decide)).2.2.1 hS hown (hts _ (List.mem_of_getElem? (i := 1) rfl)) (fun _ h9 => h9) dJ0_length_8abf5_1 ?_
  obtain ⟨b9_1, hT9_1⟩ := (hE.2.2.1 1 (by decide)).2.2.2
  refine va_tlen (v := 8) hx hb hT9_1 hS rfl dJ0_length_8abf5_4 ?_
  refine lv_aload_n hx hb dJ0_length_8abf5_5 rfl (lv_at hl 0 rfl) ?_
  have hc9 := (w_J0_coder1 l D ad  )
  refine z_calli (w0 := []) (wr := []) (va_runV (As := []) (rest := [.int 8]) ⟨hx, hb, hml, hown, hts⟩ (hc9 _) (cwV 0 hts gJ0_length_8abf5_J0_coder_7d493 rfl rfl rfl (by decide +kernel) ⟨Nat.le_of_ble_eq_true rfl, Nat.le_of_ble_eq_true rfl⟩) (z_preT (i := 1) hP hD hK hS hA hE hO [] [] rfl (by decide) rfl (by decide)) rfl rfl hl.1 rfl (lv_room (Nat.le_of_ble_eq_true rfl)) dJ0_length_8abf5_6 ⟨Nat.le_of_ble_eq_true rfl, Nat.le_of_ble_eq_true rfl⟩) hP hD hK hS hA [] [] rfl rfl (by decide +kernel) (by decide +kernel) (fun y_1 u9 H locs hw hP hD hK hS => ?_)
  obtain ⟨h_2, rfl⟩ := hw
  have hP : va_P D vwCl [] H := hP
  have hD : va_D A [] := hD
  have hK : va_K D vwCl [] s := hK
  refine W.cs (cells' := 0) (slots' := 0) rfl rfl ?_
  refine W.eq (g2 := F0 m 9 ls (.int y_1 :: [.int 8])) rfl ?_
  refine lv_ishr hx hb dJ0_length_8abf5_9 ?_
  refine lv_topi (fun y_3 ey_3 => ?_)
  have h_4 : z_in 8 8 y_3 := by rw [ey_3]; exact z_shr0 (z_lit (x := 8) (a := 8) (b := 8) rfl) h_2
  exact hret y_3 ([], []) _ _ _ _ dJ0_length_8abf5_10 rfl ⟨h_4, rfl⟩ hP (hK.sub [] rfl) hD hS

set_option maxHeartbeats 8000000 in
set_option maxRecDepth 100000 in
theorem w_J0_isLatin1_1 (l : Launch) (D : va_G) (ad : Nat → Nat)   : z_Mi l yJ0_isLatin1_aae02 wsJ0_isLatin1_aae02 { frames := 0, cells := 0, slots := 0, locals := 0 } D ad [.ref (ad 101)] [] [] 0 0 (fun r9 u9 => z_in 1 1 r9 ∧ u9 = ([], [])) := by
  refine z_ofI (cc := cJ0_isLatin1_aae02) (maxL := 1) (rt := .boolean) (by decide) rfl (Nat.le_of_ble_eq_true rfl) ?_
  intro p e s m below meth c Q A ls hx hb hml hown hts hin hK hP hD hA hE hO hS hl hret
  have hown : s.vm.findClass RJ0 = some m.cls := hown
  have hl : lv_has ls 1 [(0, .ref (ad 101))] := hl
  refine va_gets (v := .int 1) hx hb hE.2.2.2.1 hS hown (hts _ (List.mem_of_getElem? (i := 1) rfl)) (fun _ h9 => h9) dJ0_isLatin1_aae02_0 ?_
  refine lv_if_eq (tgt := 17) hx hb dJ0_isLatin1_aae02_3 (by decide) (fun h9 => absurd h9 (by decide)) (fun _ => ?_)
  refine lv_aload_n hx hb dJ0_isLatin1_aae02_6 rfl (lv_at hl 0 rfl) ?_
  refine vk_getf (v := .int 0) hx hb (hE.2.2.1 1 (by decide)).2.1 hS hown (hts _ (List.mem_of_getElem? (i := 2) rfl)) (fun _ h9 => h9) dJ0_isLatin1_aae02_7 ?_
  refine lv_if_ne (tgt := 17) hx hb dJ0_isLatin1_aae02_10 (by decide) (fun h9 => absurd (by decide) h9) (fun _ => ?_)
  refine lv_iconst (v := 1) hx hb dJ0_isLatin1_aae02_13 (by decide) ?_
  refine lv_goto (tgt := 18) hx hb dJ0_isLatin1_aae02_14 (by decide) ?_
  exact hret 1 ([], []) _ _ _ _ dJ0_isLatin1_aae02_18 (by decide) ⟨(z_lit (x := 1) (a := 1) (b := 1) rfl), rfl⟩ hP (hK.sub [] rfl) hD hS

set_option maxHeartbeats 8000000 in
set_option maxRecDepth 100000 in
theorem w_J1_charAt1 (l : Launch) (D : va_G) (ad : Nat → Nat) (i0 : Int32) (hi0 : z_in 0 7 i0) : z_Mi l yJ1_charAt_3b067 wsJ1_charAt_3b067 { frames := 2, cells := 0, slots := 0, locals := 43 } D ad [.ref (ad 201), .int i0] [] [] 0 0 (fun r9 u9 => z_ch r9 ∧ u9 = ([], [])) := by
  refine z_ofI (cc := cJ1_charAt_3b067) (maxL := 2) (rt := .char) (by decide) rfl (Nat.le_of_ble_eq_true rfl) ?_
  intro p e s m below meth c Q A ls hx hb hml hown hts hin hK hP hD hA hE hO hS hl hret
  have hown : s.vm.findClass RJ1 = some m.cls := hown
  have hl : lv_has ls 2 [(0, .ref (ad 201)), (1, .int i0)] := hl
  refine lv_iload_n hx hb dJ1_charAt_3b067_0 rfl (lv_at hl 1 rfl) ?_
  refine lv_aload_n hx hb dJ1_charAt_3b067_1 rfl (lv_at hl 0 rfl) ?_
  obtain ⟨b9_1, hT9_1⟩ := (hE.2.2.1 1 (by decide)).2.2.2
  refine va_tlen (v := 8) hx hb hT9_1 hS rfl dJ1_charAt_3b067_2 ?_
  have hc9 := (w_J0_checkIndex8 l D ad i0 hi0)
  refine z_callv (w0 := []) (wr := []) (va_runS (As := [.int i0, .int 8]) (rest := []) ⟨hx, hb, hml, hown, hts⟩ (hc9 _) (va_cwS 2 hts gJ1_charAt_3b067_J0_checkIndex_df160 rfl rfl rfl (by decide +kernel) ⟨Nat.le_of_ble_eq_true rfl, Nat.le_of_ble_eq_true rfl⟩) (z_preS hP hD hK hS hA hE hO [] [] rfl (by decide +kernel) rfl) rfl rfl hl.1 rfl (lv_room (Nat.le_of_ble_eq_true rfl)) dJ1_charAt_3b067_3 ⟨Nat.le_of_ble_eq_true rfl, Nat.le_of_ble_eq_true rfl⟩) hP hD hK hS hA [] [] rfl rfl (by decide +kernel) (by decide +kernel) (fun u9 H locs hw hP hD hK hS => ?_)
  obtain rfl := hw
  have hP : va_P D vwCl [] H := hP
  have hD : va_D A [] := hD
  have hK : va_K D vwCl [] s := hK
  refine W.cs (cells' := 0) (slots' := 0) rfl rfl ?_
  refine lv_aload_n hx hb dJ1_charAt_3b067_6 rfl (lv_at hl 0 rfl) ?_
  refine lv_iload_n hx hb dJ1_charAt_3b067_7 rfl (lv_at hl 1 rfl) ?_
  refine va_tb hx hb hT9_1 hS (z_vp hi0 rfl) rfl dJ1_charAt_3b067_8 ?_
  refine lv_topi (fun y_1 ey_1 => ?_)
  refine lv_sipush (v := 255) hx hb dJ1_charAt_3b067_9 (by decide) ?_
  refine lv_iand hx hb dJ1_charAt_3b067_12 ?_
  refine lv_topi (fun y_2 ey_2 => ?_)
  have h_3 : z_in 0 255 y_2 := by rw [ey_2]; exact z_andR (z_lit (x := 255) (a := 255) (b := 255) rfl) rfl
  refine lv_i2c hx hb dJ1_charAt_3b067_13 rfl ?_
  refine lv_topi (fun y_4 ey_4 => ?_)
  exact hret y_4 ([], []) _ _ _ _ dJ1_charAt_3b067_14 (z_narc ey_4) ⟨(z_narc ey_4), rfl⟩ hP (hK.sub [] rfl) hD hS

set_option maxHeartbeats 8000000 in
set_option maxRecDepth 100000 in
theorem w_J0_charAt1 (l : Launch) (D : va_G) (ad : Nat → Nat) (i0 : Int32) (hi0 : z_in 0 7 i0) : z_Mi l yJ0_charAt_5068e wsJ0_charAt_5068e { frames := 3, cells := 0, slots := 0, locals := 64 } D ad [.ref (ad 101), .int i0] [] [] 0 0 (fun r9 u9 => z_ch r9 ∧ u9 = ([], [])) := by
  refine z_ofI (cc := cJ0_charAt_5068e) (maxL := 2) (rt := .char) (by decide) rfl (Nat.le_of_ble_eq_true rfl) ?_
  intro p e s m below meth c Q A ls hx hb hml hown hts hin hK hP hD hA hE hO hS hl hret
  have hown : s.vm.findClass RJ0 = some m.cls := hown
  have hl : lv_has ls 2 [(0, .ref (ad 101)), (1, .int i0)] := hl
  refine lv_aload_n hx hb dJ0_charAt_5068e_0 rfl (lv_at hl 0 rfl) ?_
  have hc9 := (w_J0_isLatin1_1 l D ad  )
  refine z_calli (w0 := []) (wr := []) (va_runV (As := []) (rest := []) ⟨hx, hb, hml, hown, hts⟩ (hc9 _) (cwV 0 hts gJ0_charAt_5068e_J0_isLatin1_aae02 rfl rfl rfl (by decide +kernel) ⟨Nat.le_of_ble_eq_true rfl, Nat.le_of_ble_eq_true rfl⟩) (z_preT (i := 1) hP hD hK hS hA hE hO [] [] rfl (by decide) rfl (by decide)) rfl rfl hl.1 rfl (lv_room (Nat.le_of_ble_eq_true rfl)) dJ0_charAt_5068e_1 ⟨Nat.le_of_ble_eq_true rfl, Nat.le_of_ble_eq_true rfl⟩) hP hD hK hS hA [] [] rfl rfl (by decide +kernel) (by decide +kernel) (fun y_1 u9 H locs hw hP hD hK hS => ?_)
  obtain ⟨h_2, rfl⟩ := hw
  have hP : va_P D vwCl [] H := hP
  have hD : va_D A [] := hD
  have hK : va_K D vwCl [] s := hK
  refine W.cs (cells' := 0) (slots' := 0) rfl rfl ?_
  refine W.eq (g2 := F0 m 4 ls (.int y_1 :: [])) rfl ?_
  refine lv_if_eq (tgt := 16) hx hb dJ0_charAt_5068e_4 (by decide) (fun c_3 => ?_) (fun c_3 => ?_)
  · skip
    exact (z_no (z_leL (e := 0) (Int32.le_of_eq c_3) h_2 (z_lit (x := 0) (a := 0) (b := 0) rfl) rfl) rfl).elim
  · skip
    refine lv_aload_n hx hb dJ0_charAt_5068e_7 rfl (lv_at hl 0 rfl) ?_
    refine vk_getf (v := .ref (ad 201)) hx hb (hE.2.2.1 1 (by decide)).2.2.1 hS hown (hts _ (List.mem_of_getElem? (i := 1) rfl)) (fun _ h9 => h9) dJ0_charAt_5068e_8 ?_
    refine lv_iload_n hx hb dJ0_charAt_5068e_11 rfl (lv_at hl 1 rfl) ?_
    have hc9 := (w_J1_charAt1 l D ad i0 hi0)
    refine z_calli (w0 := []) (wr := []) (va_runS (As := [.ref (ad 201), .int i0]) (rest := []) ⟨hx, hb, hml, hown, hts⟩ (hc9 _) (va_cwS 2 hts gJ0_charAt_5068e_J1_charAt_3b067 rfl rfl rfl (by decide +kernel) ⟨Nat.le_of_ble_eq_true rfl, Nat.le_of_ble_eq_true rfl⟩) (z_preS hP hD hK hS hA hE hO [] [] rfl (by decide +kernel) rfl) rfl rfl hl.1 rfl (lv_room (Nat.le_of_ble_eq_true rfl)) dJ0_charAt_5068e_12 ⟨Nat.le_of_ble_eq_true rfl, Nat.le_of_ble_eq_true rfl⟩) hP hD hK hS hA [] [] rfl rfl (by decide +kernel) (by decide +kernel) (fun y_4 u9 H locs hw hP hD hK hS => ?_)
    obtain ⟨h_5, rfl⟩ := hw
    have hP : va_P D vwCl [] H := hP
    have hD : va_D A [] := hD
    have hK : va_K D vwCl [] s := hK
    refine W.cs (cells' := 0) (slots' := 0) rfl rfl ?_
    refine W.eq (g2 := F0 m 15 ls (.int y_4 :: [])) rfl ?_
    exact hret y_4 ([], []) _ _ _ _ dJ0_charAt_5068e_15 h_5 ⟨h_5, rfl⟩ hP (hK.sub [] rfl) hD hS

set_option maxHeartbeats 8000000 in
set_option maxRecDepth 100000 in
theorem w_Tape28_addText1 (l : Launch) (D : va_G) (ad : Nat → Nat) (ta : Nat) (tan : Int32) (tab : Nat) (tabt : ClassId) (tabf : Nat → Int32) (htan : z_in 0 28 tan) : z_Mv l yX6_addText wsX6_addText { frames := 4, cells := 0, slots := 0, locals := 85 } D ad [.ref ta, .ref (ad 101)] [(ta, .inr (6, [.ref tab, .int tan])), (tab, .inl (tabt, 28, .inl tabf))] [(tabt, .byte)] 0 0 (fun u9 => ∃ (x0_1 : Int32) (x1_f : Nat → Int32), z_in 0 28 x0_1 ∧ u9 = ([(ta, .inr (6, [.ref tab, .int x0_1])), (tab, .inl (tabt, 28, .inl x1_f))], [])) := by
  refine z_ofV (cc := cX6_addText) (maxL := 3) (by decide) rfl (Nat.le_of_ble_eq_true rfl) ?_
  intro p e s m below meth c Q A ls hx hb hml hown hts hin hK hP hD hA hE hO hS hl hret
  have hown : s.vm.findClass RX6 = some m.cls := hown
  have hiX6 : ∀ w ∈ wsX60, w ∈ wsX6_addText := fun _ h9 => List.mem_cons_of_mem _ (List.mem_append_right _ h9)
  have hl : lv_has ls 3 [(0, .ref ta), (1, .ref (ad 101))] := hl
  refine lv_iconst (v := 0) hx hb dX6_addText_0 (by decide) ?_
  refine lv_istore_n (lv' := [(2, .int 0), (0, .ref ta), (1, .ref (ad 101))]) hx hb dX6_addText_1 rfl hl (by decide) rfl (fun ls hl => ?_)
  have LP1 : ∀ (n : Nat) (v1_2 : Int32) (w1_1 : Int32) (g1_2 : Nat → Int32) (H : Heap) (locs : List Loc) (ls : Array Slot), z_in 0 8 v1_2 → z_in 0 28 w1_1 → 9 - v1_2.toInt ≤ (n : Int) → va_P D vwCl [(ta, .inr (6, [.ref tab, .int w1_1])), (tab, .inl (tabt, 28, .inl g1_2))] H → va_D A [(ta, .inr (6, [.ref tab, .int w1_1])), (tab, .inl (tabt, 28, .inl g1_2))] → va_S A s.heap H locs → lv_has ls 3 [(2, .int v1_2), (0, .ref ta), (1, .ref (ad 101))] → W p l e ({ frames := 4, cells := 0, slots := 0, locals := 85 }) s m ([.ref ta, .ref (ad 101)] : List Value).toArray below meth c H locs 0 0 Q (F0 m 2 ls []) := by
    intro n
    induction n with
    | zero => intro v1_2 w1_1 g1_2 H locs ls hv1_2 hw1_1 hn1; exact absurd hn1 (by have q1 := hv1_2.1; have q2 := hv1_2.2; omega)
    | succ n ih1 =>
      intro v1_2 w1_1 g1_2 H locs ls hv1_2 hw1_1 hn1 hP hD hS hl
      have q1 := hv1_2.1
      have q1' := hv1_2.2
      refine lv_iload_n hx hb dX6_addText_2 rfl (lv_at hl 0 rfl) ?_
      refine lv_aload_n hx hb dX6_addText_3 rfl (lv_at hl 2 rfl) ?_
      have hc9 := (w_J0_length1 l D ad  )
      refine z_calli (w0 := []) (wr := [(ta, .inr (6, [.ref tab, .int w1_1])), (tab, .inl (tabt, 28, .inl g1_2))]) (va_runV (As := []) (rest := [.int v1_2]) ⟨hx, hb, hml, hown, hts⟩ (hc9 _) (cwV 0 hts gX6_addText_J0_length_8abf5 rfl rfl rfl (by decide +kernel) ⟨Nat.le_of_ble_eq_true rfl, Nat.le_of_ble_eq_true rfl⟩) (z_preT (i := 1) hP hD hK hS hA hE hO [] [] rfl (by decide) rfl (by decide)) rfl rfl hl.1 rfl (lv_room (Nat.le_of_ble_eq_true rfl)) dX6_addText_4 ⟨Nat.le_of_ble_eq_true rfl, Nat.le_of_ble_eq_true rfl⟩) hP hD hK hS hA [] [0, 1] rfl rfl (by decide +kernel) (by decide +kernel) (fun y_1 u9 H locs hw hP hD hK hS => ?_)
      obtain ⟨h_2, rfl⟩ := hw
      have hP : va_P D vwCl [(ta, .inr (6, [.ref tab, .int w1_1])), (tab, .inl (tabt, 28, .inl g1_2))] H := hP
      have hD : va_D A [(ta, .inr (6, [.ref tab, .int w1_1])), (tab, .inl (tabt, 28, .inl g1_2))] := hD
      have hK : va_K D vwCl [(tabt, .byte)] s := hK
      refine W.cs (cells' := 0) (slots' := 0) rfl rfl ?_
      refine W.eq (g2 := F0 m 7 ls (.int y_1 :: [.int v1_2])) rfl ?_
      refine lv_icmp_ge (tgt := 25) hx hb dX6_addText_7 (by decide) (fun c_3 => ?_) (fun c_3 => ?_)
      · skip
        have h_4 : z_in 8 8 v1_2 := z_leR c_3 h_2 hv1_2 rfl
        exact hret ([(ta, .inr (6, [.ref tab, .int w1_1])), (tab, .inl (tabt, 28, .inl g1_2))], []) _ _ _ _ dX6_addText_25 ⟨w1_1, g1_2, hw1_1, rfl⟩ hP (hK.sub [] rfl) hD hS
      · skip
        have h_5 : z_in 0 7 v1_2 := z_ltL (Int32.not_le.mp c_3) hv1_2 h_2 rfl
        refine lv_aload_n hx hb dX6_addText_10 rfl (lv_at hl 1 rfl) ?_
        refine lv_aload_n hx hb dX6_addText_11 rfl (lv_at hl 2 rfl) ?_
        refine lv_iload_n hx hb dX6_addText_12 rfl (lv_at hl 0 rfl) ?_
        have hc9 := (w_J0_charAt1 l D ad v1_2 h_5)
        refine z_calli (w0 := []) (wr := [(ta, .inr (6, [.ref tab, .int w1_1])), (tab, .inl (tabt, 28, .inl g1_2))]) (va_runV (As := [.int v1_2]) (rest := [.ref ta]) ⟨hx, hb, hml, hown, hts⟩ (hc9 _) (cwV 1 hts gX6_addText_J0_charAt_5068e rfl rfl rfl (by decide +kernel) ⟨Nat.le_of_ble_eq_true rfl, Nat.le_of_ble_eq_true rfl⟩) (z_preT (i := 1) hP hD hK hS hA hE hO [] [] rfl (by decide) rfl (by decide)) rfl rfl hl.1 rfl (lv_room (Nat.le_of_ble_eq_true rfl)) dX6_addText_13 ⟨Nat.le_of_ble_eq_true rfl, Nat.le_of_ble_eq_true rfl⟩) hP hD hK hS hA [] [0, 1] rfl rfl (by decide +kernel) (by decide +kernel) (fun y_6 u9 H locs hw hP hD hK hS => ?_)
        obtain ⟨h_7, rfl⟩ := hw
        have hP : va_P D vwCl [(ta, .inr (6, [.ref tab, .int w1_1])), (tab, .inl (tabt, 28, .inl g1_2))] H := hP
        have hD : va_D A [(ta, .inr (6, [.ref tab, .int w1_1])), (tab, .inl (tabt, 28, .inl g1_2))] := hD
        have hK : va_K D vwCl [(tabt, .byte)] s := hK
        refine W.cs (cells' := 0) (slots' := 0) rfl rfl ?_
        refine W.eq (g2 := F0 m 16 ls (.int y_6 :: [.ref ta])) rfl ?_
        have hc9 := (w_Tape28_add l D ad ta w1_1 tab tabt g1_2 y_6 hw1_1)
        refine z_callv (w0 := [(ta, .inr (6, [.ref tab, .int w1_1])), (tab, .inl (tabt, 28, .inl g1_2))]) (wr := []) (va_runV (As := [.int y_6]) (rest := []) ⟨hx, hb, hml, hown, hts⟩ (hc9 _) (cwV 1 hts gX6_addText_X6_add rfl rfl rfl (by decide +kernel) ⟨Nat.le_of_ble_eq_true rfl, Nat.le_of_ble_eq_true rfl⟩) (z_preV hP hD hK hS hA hE hO [0, 1] [0] rfl (by decide +kernel) rfl 0 6 rfl rfl rfl) rfl rfl hl.1 rfl (lv_room (Nat.le_of_ble_eq_true rfl)) dX6_addText_16 ⟨Nat.le_of_ble_eq_true rfl, Nat.le_of_ble_eq_true rfl⟩) hP hD hK hS hA [0, 1] [] rfl rfl (by decide +kernel) (by decide +kernel) (fun u9 H locs hw hP hD hK hS => ?_)
        obtain ⟨x_8, f_10, h_9, rfl⟩ := hw
        have hP : va_P D vwCl [(ta, .inr (6, [.ref tab, .int x_8])), (tab, .inl (tabt, 28, .inl f_10))] H := hP
        have hD : va_D A [(ta, .inr (6, [.ref tab, .int x_8])), (tab, .inl (tabt, 28, .inl f_10))] := hD
        have hK : va_K D vwCl [(tabt, .byte)] s := hK
        refine W.cs (cells' := 0) (slots' := 0) rfl rfl ?_
        obtain ⟨y_11, ey_11⟩ : ∃ y : Int32, y = v1_2 + 1 := ⟨_, rfl⟩
        have h_12 : z_in 1 8 y_11 := by rw [ey_11]; exact z_add h_5 (z_lit (x := 1) (a := 1) (b := 1) rfl) rfl rfl
        have ty_11 : y_11.toInt = v1_2.toInt + 1 := by rw [ey_11]; exact z_addT h_5 (z_lit (x := 1) (a := 1) (b := 1) rfl) rfl
        refine lv_iinc (v := y_11) (lv' := [(2, .int y_11), (0, .ref ta), (1, .ref (ad 101))]) hx hb dX6_addText_19 hl (k := 0) rfl (by rw [ey_11]; rfl) (by decide) rfl (fun ls hl => ?_)
        refine lv_goto (tgt := 2) hx hb dX6_addText_22 (by decide) ?_
        exact ih1 y_11 x_8 f_10 _ _ _ (z_w (c := 0) (d := 8) h_12 rfl) h_9 (by omega) hP hD hS (lv_sub hl [0, 1, 2] rfl)
  exact LP1 9 0 tan tabf _ _ _ (z_w (c := 0) (d := 8) (z_lit (x := 0) (a := 0) (b := 0) rfl) rfl) htan (by decide) hP hD hS (lv_sub hl [0, 1, 2] rfl)

set_option maxHeartbeats 8000000 in
set_option maxRecDepth 100000 in
theorem w_J0_coder2 (l : Launch) (D : va_G) (ad : Nat → Nat)   : z_Mi l yJ0_coder_7d493 wsJ0_coder_7d493 { frames := 0, cells := 0, slots := 0, locals := 0 } D ad [.ref (ad 102)] [] [] 0 0 (fun r9 u9 => z_in 0 0 r9 ∧ u9 = ([], [])) := by
  refine z_ofI (cc := cJ0_coder_7d493) (maxL := 1) (rt := .byte) (by decide) rfl (Nat.le_of_ble_eq_true rfl) ?_
  intro p e s m below meth c Q A ls hx hb hml hown hts hin hK hP hD hA hE hO hS hl hret
  have hown : s.vm.findClass RJ0 = some m.cls := hown
  have hl : lv_has ls 1 [(0, .ref (ad 102))] := hl
  refine va_gets (v := .int 1) hx hb hE.2.2.2.1 hS hown (hts _ (List.mem_of_getElem? (i := 1) rfl)) (fun _ h9 => h9) dJ0_coder_7d493_0 ?_
  refine lv_if_eq (tgt := 13) hx hb dJ0_coder_7d493_3 (by decide) (fun h9 => absurd h9 (by decide)) (fun _ => ?_)
  refine lv_aload_n hx hb dJ0_coder_7d493_6 rfl (lv_at hl 0 rfl) ?_
  refine vk_getf (v := .int 0) hx hb (hE.2.2.1 2 (by decide)).2.1 hS hown (hts _ (List.mem_of_getElem? (i := 2) rfl)) (fun _ h9 => h9) dJ0_coder_7d493_7 ?_
  refine lv_goto (tgt := 14) hx hb dJ0_coder_7d493_10 (by decide) ?_
  exact hret 0 ([], []) _ _ _ _ dJ0_coder_7d493_14 (by decide) ⟨(z_lit (x := 0) (a := 0) (b := 0) rfl), rfl⟩ hP (hK.sub [] rfl) hD hS

set_option maxHeartbeats 8000000 in
set_option maxRecDepth 100000 in
theorem w_J0_length2 (l : Launch) (D : va_G) (ad : Nat → Nat)   : z_Mi l yJ0_length_8abf5 wsJ0_length_8abf5 { frames := 1, cells := 0, slots := 0, locals := 20 } D ad [.ref (ad 102)] [] [] 0 0 (fun r9 u9 => z_in 4 4 r9 ∧ u9 = ([], [])) := by
  refine z_ofI (cc := cJ0_length_8abf5) (maxL := 1) (rt := .int) (by decide) rfl (Nat.le_of_ble_eq_true rfl) ?_
  intro p e s m below meth c Q A ls hx hb hml hown hts hin hK hP hD hA hE hO hS hl hret
  have hown : s.vm.findClass RJ0 = some m.cls := hown
  have hl : lv_has ls 1 [(0, .ref (ad 102))] := hl
  refine lv_aload_n hx hb dJ0_length_8abf5_0 rfl (lv_at hl 0 rfl) ?_
  refine vk_getf (v := .ref (ad 202)) hx hb (hE.2.2.1 2 (by decide)).2.2.1 hS hown (hts _ (List.mem_of_getElem? (i := 1) rfl)) (fun _ h9 => h9) dJ0_length_8abf5_1 ?_
  obtain ⟨b9_2, hT9_2⟩ := (hE.2.2.1 2 (by decide)).2.2.2
  refine va_tlen (v := 4) hx hb hT9_2 hS rfl dJ0_length_8abf5_4 ?_
  refine lv_aload_n hx hb dJ0_length_8abf5_5 rfl (lv_at hl 0 rfl) ?_
  have hc9 := (w_J0_coder2 l D ad  )
  refine z_calli (w0 := []) (wr := []) (va_runV (As := []) (rest := [.int 4]) ⟨hx, hb, hml, hown, hts⟩ (hc9 _) (cwV 0 hts gJ0_length_8abf5_J0_coder_7d493 rfl rfl rfl (by decide +kernel) ⟨Nat.le_of_ble_eq_true rfl, Nat.le_of_ble_eq_true rfl⟩) (z_preT (i := 2) hP hD hK hS hA hE hO [] [] rfl (by decide) rfl (by decide)) rfl rfl hl.1 rfl (lv_room (Nat.le_of_ble_eq_true rfl)) dJ0_length_8abf5_6 ⟨Nat.le_of_ble_eq_true rfl, Nat.le_of_ble_eq_true rfl⟩) hP hD hK hS hA [] [] rfl rfl (by decide +kernel) (by decide +kernel) (fun y_1 u9 H locs hw hP hD hK hS => ?_)
  obtain ⟨h_2, rfl⟩ := hw
  have hP : va_P D vwCl [] H := hP
  have hD : va_D A [] := hD
  have hK : va_K D vwCl [] s := hK
  refine W.cs (cells' := 0) (slots' := 0) rfl rfl ?_
  refine W.eq (g2 := F0 m 9 ls (.int y_1 :: [.int 4])) rfl ?_
  refine lv_ishr hx hb dJ0_length_8abf5_9 ?_
  refine lv_topi (fun y_3 ey_3 => ?_)
  have h_4 : z_in 4 4 y_3 := by rw [ey_3]; exact z_shr0 (z_lit (x := 4) (a := 4) (b := 4) rfl) h_2
  exact hret y_3 ([], []) _ _ _ _ dJ0_length_8abf5_10 rfl ⟨h_4, rfl⟩ hP (hK.sub [] rfl) hD hS

set_option maxHeartbeats 8000000 in
set_option maxRecDepth 100000 in
theorem w_J0_isLatin1_2 (l : Launch) (D : va_G) (ad : Nat → Nat)   : z_Mi l yJ0_isLatin1_aae02 wsJ0_isLatin1_aae02 { frames := 0, cells := 0, slots := 0, locals := 0 } D ad [.ref (ad 102)] [] [] 0 0 (fun r9 u9 => z_in 1 1 r9 ∧ u9 = ([], [])) := by
  refine z_ofI (cc := cJ0_isLatin1_aae02) (maxL := 1) (rt := .boolean) (by decide) rfl (Nat.le_of_ble_eq_true rfl) ?_
  intro p e s m below meth c Q A ls hx hb hml hown hts hin hK hP hD hA hE hO hS hl hret
  have hown : s.vm.findClass RJ0 = some m.cls := hown
  have hl : lv_has ls 1 [(0, .ref (ad 102))] := hl
  refine va_gets (v := .int 1) hx hb hE.2.2.2.1 hS hown (hts _ (List.mem_of_getElem? (i := 1) rfl)) (fun _ h9 => h9) dJ0_isLatin1_aae02_0 ?_
  refine lv_if_eq (tgt := 17) hx hb dJ0_isLatin1_aae02_3 (by decide) (fun h9 => absurd h9 (by decide)) (fun _ => ?_)
  refine lv_aload_n hx hb dJ0_isLatin1_aae02_6 rfl (lv_at hl 0 rfl) ?_
  refine vk_getf (v := .int 0) hx hb (hE.2.2.1 2 (by decide)).2.1 hS hown (hts _ (List.mem_of_getElem? (i := 2) rfl)) (fun _ h9 => h9) dJ0_isLatin1_aae02_7 ?_
  refine lv_if_ne (tgt := 17) hx hb dJ0_isLatin1_aae02_10 (by decide) (fun h9 => absurd (by decide) h9) (fun _ => ?_)
  refine lv_iconst (v := 1) hx hb dJ0_isLatin1_aae02_13 (by decide) ?_
  refine lv_goto (tgt := 18) hx hb dJ0_isLatin1_aae02_14 (by decide) ?_
  exact hret 1 ([], []) _ _ _ _ dJ0_isLatin1_aae02_18 (by decide) ⟨(z_lit (x := 1) (a := 1) (b := 1) rfl), rfl⟩ hP (hK.sub [] rfl) hD hS
