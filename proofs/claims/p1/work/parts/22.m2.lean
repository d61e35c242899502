theorem dX12_weptByAll_0 : decode cX12_weptByAll 0 = .ok (.iconst 0, 1) := by decide +kernel
theorem dX12_weptByAll_1 : decode cX12_weptByAll 1 = .ok (.istore_n 1, 1) := by decide +kernel
theorem dX12_weptByAll_2 : decode cX12_weptByAll 2 = .ok (.iconst 0, 1) := by decide +kernel
theorem dX12_weptByAll_3 : decode cX12_weptByAll 3 = .ok (.istore_n 2, 1) := by decide +kernel
theorem dX12_weptByAll_4 : decode cX12_weptByAll 4 = .ok (.iload_n 2, 1) := by decide +kernel
theorem dX12_weptByAll_5 : decode cX12_weptByAll 5 = .ok (.aload_n 0, 1) := by decide +kernel
theorem dX12_weptByAll_6 : decode cX12_weptByAll 6 = .ok (.getfield 33, 3) := by decide +kernel
theorem dX12_weptByAll_9 : decode cX12_weptByAll 9 = .ok (.iconst 1, 1) := by decide +kernel
theorem dX12_weptByAll_10 : decode cX12_weptByAll 10 = .ok (.iaload, 1) := by decide +kernel
theorem dX12_weptByAll_11 : decode cX12_weptByAll 11 = .ok (.if_icmp .ge 21, 3) := by decide +kernel
theorem dX12_weptByAll_32 : decode cX12_weptByAll 32 = .ok (.iload_n 1, 1) := by decide +kernel
theorem dX12_weptByAll_33 : decode cX12_weptByAll 33 = .ok (.ireturn, 1) := by decide +kernel
theorem dX12_sparing_0 : decode cX12_sparing 0 = .ok (.iconst 0, 1) := by decide +kernel
theorem dX12_sparing_1 : decode cX12_sparing 1 = .ok (.istore_n 1, 1) := by decide +kernel
theorem dX12_sparing_2 : decode cX12_sparing 2 = .ok (.iconst 0, 1) := by decide +kernel
theorem dX12_sparing_3 : decode cX12_sparing 3 = .ok (.istore_n 2, 1) := by decide +kernel
theorem dX12_sparing_4 : decode cX12_sparing 4 = .ok (.iload_n 2, 1) := by decide +kernel
theorem dX12_sparing_5 : decode cX12_sparing 5 = .ok (.aload_n 0, 1) := by decide +kernel
theorem dX12_sparing_6 : decode cX12_sparing 6 = .ok (.getfield 33, 3) := by decide +kernel
theorem dX12_sparing_9 : decode cX12_sparing 9 = .ok (.iconst 1, 1) := by decide +kernel
theorem dX12_sparing_10 : decode cX12_sparing 10 = .ok (.iaload, 1) := by decide +kernel
theorem dX12_sparing_11 : decode cX12_sparing 11 = .ok (.if_icmp .ge 153, 3) := by decide +kernel
theorem dX12_sparing_164 : decode cX12_sparing 164 = .ok (.iload_n 1, 1) := by decide +kernel
theorem dX12_sparing_165 : decode cX12_sparing 165 = .ok (.ireturn, 1) := by decide +kernel
theorem dX12_keep_0 : decode cX12_keep 0 = .ok (.aload_n 0, 1) := by decide +kernel
theorem dX12_keep_1 : decode cX12_keep 1 = .ok (.getfield 246, 3) := by decide +kernel
theorem dX12_keep_4 : decode cX12_keep 4 = .ok (.bipush 8, 2) := by decide +kernel
theorem dX12_keep_6 : decode cX12_keep 6 = .ok (.if_icmp .ne 39, 3) := by decide +kernel
theorem dX12_keep_45 : decode cX12_keep 45 = .ok (.iconst 0, 1) := by decide +kernel
theorem dX12_keep_46 : decode cX12_keep 46 = .ok (.istore_n 1, 1) := by decide +kernel
theorem dX12_keep_47 : decode cX12_keep 47 = .ok (.iload_n 1, 1) := by decide +kernel
theorem dX12_keep_48 : decode cX12_keep 48 = .ok (.bipush 35, 2) := by decide +kernel
theorem dX12_keep_50 : decode cX12_keep 50 = .ok (.if_icmp .ge 32, 3) := by decide +kernel
theorem dX12_keep_53 : decode cX12_keep 53 = .ok (.aload_n 0, 1) := by decide +kernel
theorem dX12_keep_54 : decode cX12_keep 54 = .ok (.getfield 50, 3) := by decide +kernel
theorem dX12_keep_57 : decode cX12_keep 57 = .ok (.bipush 35, 2) := by decide +kernel
theorem dX12_keep_59 : decode cX12_keep 59 = .ok (.aload_n 0, 1) := by decide +kernel
theorem dX12_keep_60 : decode cX12_keep 60 = .ok (.getfield 246, 3) := by decide +kernel
theorem dX12_keep_63 : decode cX12_keep 63 = .ok (.imul, 1) := by decide +kernel
theorem dX12_keep_64 : decode cX12_keep 64 = .ok (.iload_n 1, 1) := by decide +kernel
theorem dX12_keep_65 : decode cX12_keep 65 = .ok (.iadd, 1) := by decide +kernel
theorem dX12_keep_66 : decode cX12_keep 66 = .ok (.aload_n 0, 1) := by decide +kernel
theorem dX12_keep_67 : decode cX12_keep 67 = .ok (.getfield 33, 3) := by decide +kernel
theorem dX12_keep_70 : decode cX12_keep 70 = .ok (.bipush 67, 2) := by decide +kernel
theorem dX12_keep_72 : decode cX12_keep 72 = .ok (.iload_n 1, 1) := by decide +kernel
theorem dX12_keep_73 : decode cX12_keep 73 = .ok (.iadd, 1) := by decide +kernel
theorem dX12_keep_74 : decode cX12_keep 74 = .ok (.iaload, 1) := by decide +kernel
theorem dX12_keep_75 : decode cX12_keep 75 = .ok (.iastore, 1) := by decide +kernel
theorem dX12_keep_76 : decode cX12_keep 76 = .ok (.iinc 1 1, 3) := by decide +kernel
theorem dX12_keep_79 : decode cX12_keep 79 = .ok (.goto (-32), 3) := by decide +kernel
theorem dX12_keep_82 : decode cX12_keep 82 = .ok (.aload_n 0, 1) := by decide +kernel
theorem dX12_keep_83 : decode cX12_keep 83 = .ok (.dup, 1) := by decide +kernel
theorem dX12_keep_84 : decode cX12_keep 84 = .ok (.getfield 246, 3) := by decide +kernel
theorem dX12_keep_87 : decode cX12_keep 87 = .ok (.iconst 1, 1) := by decide +kernel
theorem dX12_keep_88 : decode cX12_keep 88 = .ok (.iadd, 1) := by decide +kernel
theorem dX12_keep_89 : decode cX12_keep 89 = .ok (.putfield 246, 3) := by decide +kernel
theorem dX12_keep_92 : decode cX12_keep 92 = .ok (.return_, 1) := by decide +kernel
theorem dX12_tries_0 : decode cX12_tries 0 = .ok (.iconst 0, 1) := by decide +kernel
theorem dX12_tries_1 : decode cX12_tries 1 = .ok (.istore_n 1, 1) := by decide +kernel
theorem dX12_tries_2 : decode cX12_tries 2 = .ok (.iload_n 1, 1) := by decide +kernel
theorem dX12_tries_3 : decode cX12_tries 3 = .ok (.bipush 35, 2) := by decide +kernel
theorem dX12_tries_5 : decode cX12_tries 5 = .ok (.if_icmp .ge 24, 3) := by decide +kernel
theorem dX12_tries_8 : decode cX12_tries 8 = .ok (.aload_n 0, 1) := by decide +kernel
theorem dX12_tries_9 : decode cX12_tries 9 = .ok (.getfield 53, 3) := by decide +kernel
theorem dX12_tries_12 : decode cX12_tries 12 = .ok (.iload_n 1, 1) := by decide +kernel
theorem dX12_tries_13 : decode cX12_tries 13 = .ok (.aload_n 0, 1) := by decide +kernel
theorem dX12_tries_14 : decode cX12_tries 14 = .ok (.getfield 33, 3) := by decide +kernel
theorem dX12_tries_17 : decode cX12_tries 17 = .ok (.bipush 67, 2) := by decide +kernel
theorem dX12_tries_19 : decode cX12_tries 19 = .ok (.iload_n 1, 1) := by decide +kernel
theorem dX12_tries_20 : decode cX12_tries 20 = .ok (.iadd, 1) := by decide +kernel
theorem dX12_tries_21 : decode cX12_tries 21 = .ok (.iaload, 1) := by decide +kernel
theorem dX12_tries_22 : decode cX12_tries 22 = .ok (.iastore, 1) := by decide +kernel
theorem dX12_tries_23 : decode cX12_tries 23 = .ok (.iinc 1 1, 3) := by decide +kernel
theorem dX12_tries_26 : decode cX12_tries 26 = .ok (.goto (-24), 3) := by decide +kernel
theorem dX12_tries_29 : decode cX12_tries 29 = .ok (.return_, 1) := by decide +kernel
theorem dX12_back_0 : decode cX12_back 0 = .ok (.iconst 0, 1) := by decide +kernel
theorem dX12_back_1 : decode cX12_back 1 = .ok (.istore_n 1, 1) := by decide +kernel
theorem dX12_back_2 : decode cX12_back 2 = .ok (.iload_n 1, 1) := by decide +kernel
theorem dX12_back_3 : decode cX12_back 3 = .ok (.bipush 35, 2) := by decide +kernel
theorem dX12_back_5 : decode cX12_back 5 = .ok (.if_icmp .ge 24, 3) := by decide +kernel
theorem dX12_back_8 : decode cX12_back 8 = .ok (.aload_n 0, 1) := by decide +kernel
theorem dX12_back_9 : decode cX12_back 9 = .ok (.getfield 33, 3) := by decide +kernel
theorem dX12_back_12 : decode cX12_back 12 = .ok (.bipush 67, 2) := by decide +kernel
theorem dX12_back_14 : decode cX12_back 14 = .ok (.iload_n 1, 1) := by decide +kernel
theorem dX12_back_15 : decode cX12_back 15 = .ok (.iadd, 1) := by decide +kernel
theorem dX12_back_16 : decode cX12_back 16 = .ok (.aload_n 0, 1) := by decide +kernel
theorem dX12_back_17 : decode cX12_back 17 = .ok (.getfield 53, 3) := by decide +kernel
theorem dX12_back_20 : decode cX12_back 20 = .ok (.iload_n 1, 1) := by decide +kernel
theorem dX12_back_21 : decode cX12_back 21 = .ok (.iaload, 1) := by decide +kernel
theorem dX12_back_22 : decode cX12_back 22 = .ok (.iastore, 1) := by decide +kernel
theorem dX12_back_23 : decode cX12_back 23 = .ok (.iinc 1 1, 3) := by decide +kernel
theorem dX12_back_26 : decode cX12_back 26 = .ok (.goto (-24), 3) := by decide +kernel
theorem dX12_back_29 : decode cX12_back 29 = .ok (.return_, 1) := by decide +kernel
set_option maxHeartbeats 8000000 in
set_option maxRecDepth 100000 in
theorem k_X12_clearsV (l : Launch) (D : va_G) (ad : Nat → Nat) (am : Nat → Nat) (tm : Nat → ClassId) (f_h : Nat → Int32) (u_0 : Int32) (u_1 : Nat) (u_2 : Int32) (u_3 : Int32) (u_4 : Int32) (u_5 : Int32) (u_6 : Nat) (u_8 : Nat) (u_9 : Nat) (u_10 : Nat) (u_11 : Int32) (u_12 : Int32) (u_13 : Int32) (u_14 : Int32) (u_15 : Int32) (u_16 : Int32) (u_17 : Int64) (u_18 : Int32) (u_19 : Int32) (u_20 : Int32) (u_21 : Nat) (u_22 : Nat) (u_23 : Int32) (u_24 : Int32) (u_25 : Int32) (u_26 : Int32) (u_27 : Nat) (u_28 : Int32) (u_29 : Nat) (u_30 : Int32) (u_31 : Int32) (u_32 : Nat) (u_33 : Int32) (u_34 : Nat) (u_35 : Nat) (u_36 : Int32) (u_37 : Int32) (u_38 : Nat) (u_39 : Int32) (u_40 : Int32) (u_41 : Int32) (u_42 : Nat) (u_43 : Int32) (u_44 : Nat) (u_45 : Int32) (u_46 : Int32) (u_47 : Int32) (u_48 : Int32) (u_49 : Int32) (u_50 : Nat) (u_51 : Nat) (u_52 : Nat) (u_53 : Nat)  : z_Mv l yX12_clears wsX12_clears { frames := 0, cells := 0, slots := 0, locals := 0 } D ad [.ref (am 18)] [(am 18, .inr (11, [.int u_0, .ref u_1, .int u_2, .int u_3, .int u_4, .int u_5, .ref u_6, .ref (am 19), .ref u_8, .ref u_9, .ref u_10, .int u_11, .int u_12, .int u_13, .int u_14, .int u_15, .int u_16, .long u_17, .int u_18, .int u_19, .int u_20, .ref u_21, .ref u_22, .int u_23, .int u_24, .int u_25, .int u_26, .ref u_27, .int u_28, .ref u_29, .int u_30, .int u_31, .ref u_32, .int u_33, .ref u_34, .ref u_35, .int u_36, .int u_37, .ref u_38, .int u_39, .int u_40, .int u_41, .ref u_42, .int u_43, .ref u_44, .int u_45, .int u_46, .int u_47, .int u_48, .int u_49, .ref u_50, .ref u_51, .ref u_52, .ref u_53])), (am 19, .inl (tm 18, 67, .inl f_h))] [(tm 18, .int)] 0 0 (fun u9 => ∃ (f_2 : Nat → Int32), u9 = ([(am 18, .inr (11, [.int u_0, .ref u_1, .int u_2, .int u_3, .int u_4, .int u_5, .ref u_6, .ref (am 19), .ref u_8, .ref u_9, .ref u_10, .int u_11, .int u_12, .int u_13, .int u_14, .int u_15, .int u_16, .long u_17, .int u_18, .int u_19, .int u_20, .ref u_21, .ref u_22, .int u_23, .int u_24, .int u_25, .int u_26, .ref u_27, .int u_28, .ref u_29, .int u_30, .int u_31, .ref u_32, .int u_33, .ref u_34, .ref u_35, .int u_36, .int u_37, .ref u_38, .int u_39, .int u_40, .int u_41, .ref u_42, .int u_43, .ref u_44, .int u_45, .int u_46, .int u_47, .int u_48, .int u_49, .ref u_50, .ref u_51, .ref u_52, .ref u_53])), (am 19, .inl (tm 18, 67, .inl f_2))], [])) := by
  refine z_ofV (cc := cX12_clears) (maxL := 2) (by decide) rfl (Nat.le_of_ble_eq_true rfl) ?_
  intro p e s m below meth c Q A ls hx hb hml hown hts hin hK hP hD hA hE hO hS hl hret
  have hown : s.vm.findClass RX12 = some m.cls := hown
  have hiX12 : ∀ w ∈ wsX120, w ∈ wsX12_clears := fun _ h9 => List.mem_cons_of_mem _ (List.mem_append_right _ h9)
  have hl : lv_has ls 2 [(0, .ref (am 18))] := hl
  refine lv_iconst (v := 0) hx hb dX12_clears_0 (by decide) ?_
  refine lv_istore_n (lv' := [(1, .int 0), (0, .ref (am 18))]) hx hb dX12_clears_1 rfl hl (by decide) rfl (fun ls hl => ?_)
  have LP1 : ∀ (n k1 : Nat) (g1_0 : Nat → Int32) (H : Heap) (locs : List Loc) (ls : Array Slot), k1 ≤ 67 → 67 < k1 + n → va_P D vwCl [(am 18, .inr (11, [.int u_0, .ref u_1, .int u_2, .int u_3, .int u_4, .int u_5, .ref u_6, .ref (am 19), .ref u_8, .ref u_9, .ref u_10, .int u_11, .int u_12, .int u_13, .int u_14, .int u_15, .int u_16, .long u_17, .int u_18, .int u_19, .int u_20, .ref u_21, .ref u_22, .int u_23, .int u_24, .int u_25, .int u_26, .ref u_27, .int u_28, .ref u_29, .int u_30, .int u_31, .ref u_32, .int u_33, .ref u_34, .ref u_35, .int u_36, .int u_37, .ref u_38, .int u_39, .int u_40, .int u_41, .ref u_42, .int u_43, .ref u_44, .int u_45, .int u_46, .int u_47, .int u_48, .int u_49, .ref u_50, .ref u_51, .ref u_52, .ref u_53])), (am 19, .inl (tm 18, 67, .inl g1_0))] H → va_D A [(am 18, .inr (11, [.int u_0, .ref u_1, .int u_2, .int u_3, .int u_4, .int u_5, .ref u_6, .ref (am 19), .ref u_8, .ref u_9, .ref u_10, .int u_11, .int u_12, .int u_13, .int u_14, .int u_15, .int u_16, .long u_17, .int u_18, .int u_19, .int u_20, .ref u_21, .ref u_22, .int u_23, .int u_24, .int u_25, .int u_26, .ref u_27, .int u_28, .ref u_29, .int u_30, .int u_31, .ref u_32, .int u_33, .ref u_34, .ref u_35, .int u_36, .int u_37, .ref u_38, .int u_39, .int u_40, .int u_41, .ref u_42, .int u_43, .ref u_44, .int u_45, .int u_46, .int u_47, .int u_48, .int u_49, .ref u_50, .ref u_51, .ref u_52, .ref u_53])), (am 19, .inl (tm 18, 67, .inl g1_0))] → va_S A s.heap H locs → lv_has ls 2 [(1, .int (nI k1)), (0, .ref (am 18))] → W p l e ({ frames := 0, cells := 0, slots := 0, locals := 0 }) s m ([.ref (am 18)] : List Value).toArray below meth c H locs 0 0 Q (F0 m 2 ls []) := by
    intro n
    induction n with
    | zero => intro k1 g1_0 H locs ls h1 h2; exact absurd h2 (by omega)
    | succ n ih1 =>
      intro k1 g1_0 H locs ls hk1 hn1  hP hD hS hl
      refine lv_iload_n hx hb dX12_clears_2 rfl (lv_at hl 0 rfl) ?_
      refine lv_bipush (v := 67) hx hb dX12_clears_3 (by decide) ?_
      refine lv_icmp_ge (tgt := 21) hx hb dX12_clears_5 (by decide) (fun c_1 => ?_) (fun c_1 => ?_)
      · have hek1 : k1 = 67 := by
          rcases Nat.lt_or_ge k1 67 with q | q
          · exact absurd c_1 (nI_ge q (by decide))
          · omega
        refine lv_aload_n hx hb dX12_clears_21 rfl (lv_at hl 1 rfl) ?_
        refine va_get (D := D) (ci := 11) (v := .ref (am 19)) (C := RX12) (T := TX12) (N := 54) hx hb hts hiX12 hown hK hP 0 rfl rfl 7 (by decide) (hts _ (List.mem_of_getElem? (i := 1) rfl)) (fun _ h9 => h9) rfl dX12_clears_22 ?_
        refine lv_iconst (v := 4) hx hb dX12_clears_25 (by decide) ?_
        refine lv_iconst (v := 2) hx hb dX12_clears_26 (by decide) ?_
        refine va_iast hx hb hK hP hD hS 1 0 rfl rfl (show ¬ (_ ∨ _) by decide) dX12_clears_27 (fun H locs hP hD hS => ?_)
        have hP : va_P D vwCl [(am 18, .inr (11, [.int u_0, .ref u_1, .int u_2, .int u_3, .int u_4, .int u_5, .ref u_6, .ref (am 19), .ref u_8, .ref u_9, .ref u_10, .int u_11, .int u_12, .int u_13, .int u_14, .int u_15, .int u_16, .long u_17, .int u_18, .int u_19, .int u_20, .ref u_21, .ref u_22, .int u_23, .int u_24, .int u_25, .int u_26, .ref u_27, .int u_28, .ref u_29, .int u_30, .int u_31, .ref u_32, .int u_33, .ref u_34, .ref u_35, .int u_36, .int u_37, .ref u_38, .int u_39, .int u_40, .int u_41, .ref u_42, .int u_43, .ref u_44, .int u_45, .int u_46, .int u_47, .int u_48, .int u_49, .ref u_50, .ref u_51, .ref u_52, .ref u_53])), (am 19, .inl (tm 18, 67, .inl (upd g1_0 4 2)))] H := hP
        have hD : va_D A [(am 18, .inr (11, [.int u_0, .ref u_1, .int u_2, .int u_3, .int u_4, .int u_5, .ref u_6, .ref (am 19), .ref u_8, .ref u_9, .ref u_10, .int u_11, .int u_12, .int u_13, .int u_14, .int u_15, .int u_16, .long u_17, .int u_18, .int u_19, .int u_20, .ref u_21, .ref u_22, .int u_23, .int u_24, .int u_25, .int u_26, .ref u_27, .int u_28, .ref u_29, .int u_30, .int u_31, .ref u_32, .int u_33, .ref u_34, .ref u_35, .int u_36, .int u_37, .ref u_38, .int u_39, .int u_40, .int u_41, .ref u_42, .int u_43, .ref u_44, .int u_45, .int u_46, .int u_47, .int u_48, .int u_49, .ref u_50, .ref u_51, .ref u_52, .ref u_53])), (am 19, .inl (tm 18, 67, .inl (upd g1_0 4 2)))] := hD
        generalize (upd g1_0 4 2) = f_2 at hP hD
        refine W.widen (k := 0) (n := 0) (by decide) (by decide) ?_
        exact hret ([(am 18, .inr (11, [.int u_0, .ref u_1, .int u_2, .int u_3, .int u_4, .int u_5, .ref u_6, .ref (am 19), .ref u_8, .ref u_9, .ref u_10, .int u_11, .int u_12, .int u_13, .int u_14, .int u_15, .int u_16, .long u_17, .int u_18, .int u_19, .int u_20, .ref u_21, .ref u_22, .int u_23, .int u_24, .int u_25, .int u_26, .ref u_27, .int u_28, .ref u_29, .int u_30, .int u_31, .ref u_32, .int u_33, .ref u_34, .ref u_35, .int u_36, .int u_37, .ref u_38, .int u_39, .int u_40, .int u_41, .ref u_42, .int u_43, .ref u_44, .int u_45, .int u_46, .int u_47, .int u_48, .int u_49, .ref u_50, .ref u_51, .ref u_52, .ref u_53])), (am 19, .inl (tm 18, 67, .inl f_2))], []) _ _ _ _ dX12_clears_28 ⟨f_2, rfl⟩ (hP.sub [0, 1] rfl) (hK.sub [] rfl) (hD.sub [0, 1] (by decide +kernel) rfl) hS
      · have hlt1 : k1 < 67 := by
          rcases Nat.lt_or_ge k1 67 with q | q
          · exact q
          · exact absurd (nI_le q (by omega)) c_1
        refine lv_aload_n hx hb dX12_clears_8 rfl (lv_at hl 1 rfl) ?_
        refine va_get (D := D) (ci := 11) (v := .ref (am 19)) (C := RX12) (T := TX12) (N := 54) hx hb hts hiX12 hown hK hP 0 rfl rfl 7 (by decide) (hts _ (List.mem_of_getElem? (i := 1) rfl)) (fun _ h9 => h9) rfl dX12_clears_9 ?_
        refine lv_iload_n hx hb dX12_clears_12 rfl (lv_at hl 0 rfl) ?_
        refine lv_iconst (v := 0) hx hb dX12_clears_13 (by decide) ?_
        refine va_iast hx hb hK hP hD hS 1 0 rfl rfl (vp_in_nI (show k1 < 67 by omega) (by decide)) dX12_clears_14 (fun H locs hP hD hS => ?_)
        rw [nI_clamp (show k1 < 2 ^ 31 by omega)] at hP hD
        have hP : va_P D vwCl [(am 18, .inr (11, [.int u_0, .ref u_1, .int u_2, .int u_3, .int u_4, .int u_5, .ref u_6, .ref (am 19), .ref u_8, .ref u_9, .ref u_10, .int u_11, .int u_12, .int u_13, .int u_14, .int u_15, .int u_16, .long u_17, .int u_18, .int u_19, .int u_20, .ref u_21, .ref u_22, .int u_23, .int u_24, .int u_25, .int u_26, .ref u_27, .int u_28, .ref u_29, .int u_30, .int u_31, .ref u_32, .int u_33, .ref u_34, .ref u_35, .int u_36, .int u_37, .ref u_38, .int u_39, .int u_40, .int u_41, .ref u_42, .int u_43, .ref u_44, .int u_45, .int u_46, .int u_47, .int u_48, .int u_49, .ref u_50, .ref u_51, .ref u_52, .ref u_53])), (am 19, .inl (tm 18, 67, .inl (upd g1_0 k1 0)))] H := hP
        have hD : va_D A [(am 18, .inr (11, [.int u_0, .ref u_1, .int u_2, .int u_3, .int u_4, .int u_5, .ref u_6, .ref (am 19), .ref u_8, .ref u_9, .ref u_10, .int u_11, .int u_12, .int u_13, .int u_14, .int u_15, .int u_16, .long u_17, .int u_18, .int u_19, .int u_20, .ref u_21, .ref u_22, .int u_23, .int u_24, .int u_25, .int u_26, .ref u_27, .int u_28, .ref u_29, .int u_30, .int u_31, .ref u_32, .int u_33, .ref u_34, .ref u_35, .int u_36, .int u_37, .ref u_38, .int u_39, .int u_40, .int u_41, .ref u_42, .int u_43, .ref u_44, .int u_45, .int u_46, .int u_47, .int u_48, .int u_49, .ref u_50, .ref u_51, .ref u_52, .ref u_53])), (am 19, .inl (tm 18, 67, .inl (upd g1_0 k1 0)))] := hD
        generalize (upd g1_0 k1 0) = f_3 at hP hD
        refine lv_iinc (v := nI (k1 + 1)) (lv' := [(1, .int (nI (k1 + 1))), (0, .ref (am 18))]) hx hb dX12_clears_15 hl (k := 0) rfl (nI_1 k1) (by decide) rfl (fun ls hl => ?_)
        refine lv_goto (tgt := 2) hx hb dX12_clears_18 (by decide) ?_
        exact ih1 (k1 + 1) f_3 _ _ _ (by omega) (by omega)  hP hD hS (lv_sub hl [0, 1] rfl)
  exact LP1 (67 + 1) 0 f_h _ _ _ (by omega) (by omega)  hP hD hS hl

set_option maxHeartbeats 8000000 in
set_option maxRecDepth 100000 in
theorem k_X12_keep (l : Launch) (D : va_G) (ad : Nat → Nat) (am : Nat → Nat) (tm : Nat → ClassId) (u_0 : Int32) (u_1 : Nat) (u_2 : Int32) (u_3 : Int32) (u_4 : Int32) (u_5 : Int32) (u_7 : Nat) (u_8 : Nat) (u_9 : Nat) (u_10 : Nat) (u_11 : Int32) (u_12 : Int32) (u_13 : Int32) (u_14 : Int32) (u_15 : Int32) (u_16 : Int32) (u_17 : Int64) (u_18 : Int32) (u_19 : Int32) (u_20 : Int32) (u_22 : Nat) (u_24 : Int32) (u_25 : Int32) (u_26 : Int32) (u_27 : Nat) (u_28 : Int32) (u_29 : Nat) (u_30 : Int32) (u_31 : Int32) (u_32 : Nat) (u_33 : Int32) (u_34 : Nat) (u_35 : Nat) (u_36 : Int32) (u_37 : Int32) (u_38 : Nat) (u_39 : Int32) (u_40 : Int32) (u_41 : Int32) (u_42 : Nat) (u_43 : Int32) (u_44 : Nat) (u_45 : Int32) (u_46 : Int32) (u_47 : Int32) (u_48 : Int32) (u_49 : Int32) (u_50 : Nat) (u_51 : Nat) (u_52 : Nat) (u_53 : Nat)  : z_Mv l yX12_keep wsX12_keep { frames := 0, cells := 0, slots := 0, locals := 0 } D ad [.ref (am 18)] [(am 1, .inl (tm 1, 283, .inl (upd (fun _ => 0) 4 2))), (am 4, .inl (tm 4, 280, .inl (fun _ => 0))), (am 18, .inr (11, [.int u_0, .ref u_1, .int u_2, .int u_3, .int u_4, .int u_5, .ref (am 1), .ref u_7, .ref u_8, .ref u_9, .ref u_10, .int u_11, .int u_12, .int u_13, .int u_14, .int u_15, .int u_16, .long u_17, .int u_18, .int u_19, .int u_20, .ref (am 4), .ref u_22, .int 0, .int u_24, .int u_25, .int u_26, .ref u_27, .int u_28, .ref u_29, .int u_30, .int u_31, .ref u_32, .int u_33, .ref u_34, .ref u_35, .int u_36, .int u_37, .ref u_38, .int u_39, .int u_40, .int u_41, .ref u_42, .int u_43, .ref u_44, .int u_45, .int u_46, .int u_47, .int u_48, .int u_49, .ref u_50, .ref u_51, .ref u_52, .ref u_53]))] [(tm 1, .int), (tm 4, .int)] 0 0 (fun u9 => ∃ (g1_0 : Nat → Int32), u9 = ([(am 1, .inl (tm 1, 283, .inl (upd (fun _ => 0) 4 2))), (am 4, .inl (tm 4, 280, .inl g1_0)), (am 18, .inr (11, [.int u_0, .ref u_1, .int u_2, .int u_3, .int u_4, .int u_5, .ref (am 1), .ref u_7, .ref u_8, .ref u_9, .ref u_10, .int u_11, .int u_12, .int u_13, .int u_14, .int u_15, .int u_16, .long u_17, .int u_18, .int u_19, .int u_20, .ref (am 4), .ref u_22, .int 1, .int u_24, .int u_25, .int u_26, .ref u_27, .int u_28, .ref u_29, .int u_30, .int u_31, .ref u_32, .int u_33, .ref u_34, .ref u_35, .int u_36, .int u_37, .ref u_38, .int u_39, .int u_40, .int u_41, .ref u_42, .int u_43, .ref u_44, .int u_45, .int u_46, .int u_47, .int u_48, .int u_49, .ref u_50, .ref u_51, .ref u_52, .ref u_53]))], [])) := by
  refine z_ofV (cc := cX12_keep) (maxL := 2) (by decide) rfl (Nat.le_of_ble_eq_true rfl) ?_
  intro p e s m below meth c Q A ls hx hb hml hown hts hin hK hP hD hA hE hO hS hl hret
  have hown : s.vm.findClass RX12 = some m.cls := hown
  have hiX12 : ∀ w ∈ wsX120, w ∈ wsX12_keep := fun _ h9 => List.mem_cons_of_mem _ (List.mem_append_right _ h9)
  have hl : lv_has ls 2 [(0, .ref (am 18))] := hl
  refine lv_aload_n hx hb dX12_keep_0 rfl (lv_at hl 0 rfl) ?_
  refine va_get (D := D) (ci := 11) (v := .int 0) (C := RX12) (T := TX12) (N := 54) hx hb hts hiX12 hown hK hP 2 rfl rfl 23 (by decide) (hts _ (List.mem_of_getElem? (i := 1) rfl)) (fun _ h9 => h9) rfl dX12_keep_1 ?_
  refine lv_bipush (v := 8) hx hb dX12_keep_4 (by decide) ?_
  refine lv_icmp_ne (tgt := 45) hx hb dX12_keep_6 (by decide) (fun _ => ?_) (fun h9 => absurd h9 (by decide))
  refine lv_iconst (v := 0) hx hb dX12_keep_45 (by decide) ?_
  refine lv_istore_n (lv' := [(1, .int 0), (0, .ref (am 18))]) hx hb dX12_keep_46 rfl hl (by decide) rfl (fun ls hl => ?_)
  have LP1 : ∀ (n k1 : Nat) (g1_0 : Nat → Int32) (H : Heap) (locs : List Loc) (ls : Array Slot), k1 ≤ 35 → 35 < k1 + n → va_P D vwCl [(am 1, .inl (tm 1, 283, .inl (upd (fun _ => 0) 4 2))), (am 4, .inl (tm 4, 280, .inl g1_0)), (am 18, .inr (11, [.int u_0, .ref u_1, .int u_2, .int u_3, .int u_4, .int u_5, .ref (am 1), .ref u_7, .ref u_8, .ref u_9, .ref u_10, .int u_11, .int u_12, .int u_13, .int u_14, .int u_15, .int u_16, .long u_17, .int u_18, .int u_19, .int u_20, .ref (am 4), .ref u_22, .int 0, .int u_24, .int u_25, .int u_26, .ref u_27, .int u_28, .ref u_29, .int u_30, .int u_31, .ref u_32, .int u_33, .ref u_34, .ref u_35, .int u_36, .int u_37, .ref u_38, .int u_39, .int u_40, .int u_41, .ref u_42, .int u_43, .ref u_44, .int u_45, .int u_46, .int u_47, .int u_48, .int u_49, .ref u_50, .ref u_51, .ref u_52, .ref u_53]))] H → va_D A [(am 1, .inl (tm 1, 283, .inl (upd (fun _ => 0) 4 2))), (am 4, .inl (tm 4, 280, .inl g1_0)), (am 18, .inr (11, [.int u_0, .ref u_1, .int u_2, .int u_3, .int u_4, .int u_5, .ref (am 1), .ref u_7, .ref u_8, .ref u_9, .ref u_10, .int u_11, .int u_12, .int u_13, .int u_14, .int u_15, .int u_16, .long u_17, .int u_18, .int u_19, .int u_20, .ref (am 4), .ref u_22, .int 0, .int u_24, .int u_25, .int u_26, .ref u_27, .int u_28, .ref u_29, .int u_30, .int u_31, .ref u_32, .int u_33, .ref u_34, .ref u_35, .int u_36, .int u_37, .ref u_38, .int u_39, .int u_40, .int u_41, .ref u_42, .int u_43, .ref u_44, .int u_45, .int u_46, .int u_47, .int u_48, .int u_49, .ref u_50, .ref u_51, .ref u_52, .ref u_53]))] → va_S A s.heap H locs → lv_has ls 2 [(1, .int (nI k1)), (0, .ref (am 18))] → W p l e ({ frames := 0, cells := 0, slots := 0, locals := 0 }) s m ([.ref (am 18)] : List Value).toArray below meth c H locs 0 0 Q (F0 m 47 ls []) := by
    intro n
    induction n with
    | zero => intro k1 g1_0 H locs ls h1 h2; exact absurd h2 (by omega)
    | succ n ih1 =>
      intro k1 g1_0 H locs ls hk1 hn1  hP hD hS hl
      refine lv_iload_n hx hb dX12_keep_47 rfl (lv_at hl 0 rfl) ?_
      refine lv_bipush (v := 35) hx hb dX12_keep_48 (by decide) ?_
      refine lv_icmp_ge (tgt := 82) hx hb dX12_keep_50 (by decide) (fun c_1 => ?_) (fun c_1 => ?_)
      · have hek1 : k1 = 35 := by
          rcases Nat.lt_or_ge k1 35 with q | q
          · exact absurd c_1 (nI_ge q (by decide))
          · omega
        refine lv_aload_n hx hb dX12_keep_82 rfl (lv_at hl 1 rfl) ?_
        refine lv_dup hx hb dX12_keep_83 rfl ?_
        refine va_get (D := D) (ci := 11) (v := .int 0) (C := RX12) (T := TX12) (N := 54) hx hb hts hiX12 hown hK hP 2 rfl rfl 23 (by decide) (hts _ (List.mem_of_getElem? (i := 1) rfl)) (fun _ h9 => h9) rfl dX12_keep_84 ?_
        refine lv_iconst (v := 1) hx hb dX12_keep_87 (by decide) ?_
        refine lv_iadd hx hb dX12_keep_88 ?_
        refine lv_topi (fun y_2 ey_2 => ?_)
        obtain rfl : y_2 = 1 := ey_2.trans (by decide)
        refine va_put (D := D) (ci := 11) (v := .int 1) (ty := tyX12 23) (C := RX12) (T := TX12) (N := 54) hx hb hts hiX12 tyX12 tyX12_ok nmX12 hown hK hP hD hS 2 rfl rfl 23 (by decide) (hts _ (List.mem_of_getElem? (i := 1) rfl)) (fun _ h9 => h9) rfl (tyX12_ok 23 (by decide)) rfl rfl (Nat.le_of_ble_eq_true rfl) dX12_keep_89 (fun H locs hP hD hS => ?_)
        have hP : va_P D vwCl [(am 1, .inl (tm 1, 283, .inl (upd (fun _ => 0) 4 2))), (am 4, .inl (tm 4, 280, .inl g1_0)), (am 18, .inr (11, [.int u_0, .ref u_1, .int u_2, .int u_3, .int u_4, .int u_5, .ref (am 1), .ref u_7, .ref u_8, .ref u_9, .ref u_10, .int u_11, .int u_12, .int u_13, .int u_14, .int u_15, .int u_16, .long u_17, .int u_18, .int u_19, .int u_20, .ref (am 4), .ref u_22, .int 1, .int u_24, .int u_25, .int u_26, .ref u_27, .int u_28, .ref u_29, .int u_30, .int u_31, .ref u_32, .int u_33, .ref u_34, .ref u_35, .int u_36, .int u_37, .ref u_38, .int u_39, .int u_40, .int u_41, .ref u_42, .int u_43, .ref u_44, .int u_45, .int u_46, .int u_47, .int u_48, .int u_49, .ref u_50, .ref u_51, .ref u_52, .ref u_53]))] H := hP
        have hD : va_D A [(am 1, .inl (tm 1, 283, .inl (upd (fun _ => 0) 4 2))), (am 4, .inl (tm 4, 280, .inl g1_0)), (am 18, .inr (11, [.int u_0, .ref u_1, .int u_2, .int u_3, .int u_4, .int u_5, .ref (am 1), .ref u_7, .ref u_8, .ref u_9, .ref u_10, .int u_11, .int u_12, .int u_13, .int u_14, .int u_15, .int u_16, .long u_17, .int u_18, .int u_19, .int u_20, .ref (am 4), .ref u_22, .int 1, .int u_24, .int u_25, .int u_26, .ref u_27, .int u_28, .ref u_29, .int u_30, .int u_31, .ref u_32, .int u_33, .ref u_34, .ref u_35, .int u_36, .int u_37, .ref u_38, .int u_39, .int u_40, .int u_41, .ref u_42, .int u_43, .ref u_44, .int u_45, .int u_46, .int u_47, .int u_48, .int u_49, .ref u_50, .ref u_51, .ref u_52, .ref u_53]))] := hD
        refine W.widen (k := 0) (n := 0) (by decide) (by decide) ?_
        exact hret ([(am 1, .inl (tm 1, 283, .inl (upd (fun _ => 0) 4 2))), (am 4, .inl (tm 4, 280, .inl g1_0)), (am 18, .inr (11, [.int u_0, .ref u_1, .int u_2, .int u_3, .int u_4, .int u_5, .ref (am 1), .ref u_7, .ref u_8, .ref u_9, .ref u_10, .int u_11, .int u_12, .int u_13, .int u_14, .int u_15, .int u_16, .long u_17, .int u_18, .int u_19, .int u_20, .ref (am 4), .ref u_22, .int 1, .int u_24, .int u_25, .int u_26, .ref u_27, .int u_28, .ref u_29, .int u_30, .int u_31, .ref u_32, .int u_33, .ref u_34, .ref u_35, .int u_36, .int u_37, .ref u_38, .int u_39, .int u_40, .int u_41, .ref u_42, .int u_43, .ref u_44, .int u_45, .int u_46, .int u_47, .int u_48, .int u_49, .ref u_50, .ref u_51, .ref u_52, .ref u_53]))], []) _ _ _ _ dX12_keep_92 ⟨g1_0, rfl⟩ (hP.sub [0, 1, 2] rfl) (hK.sub [] rfl) (hD.sub [0, 1, 2] (by decide +kernel) rfl) hS
      · have hlt1 : k1 < 35 := by
          rcases Nat.lt_or_ge k1 35 with q | q
          · exact q
          · exact absurd (nI_le q (by omega)) c_1
        refine lv_aload_n hx hb dX12_keep_53 rfl (lv_at hl 1 rfl) ?_
        refine va_get (D := D) (ci := 11) (v := .ref (am 4)) (C := RX12) (T := TX12) (N := 54) hx hb hts hiX12 hown hK hP 2 rfl rfl 21 (by decide) (hts _ (List.mem_of_getElem? (i := 2) rfl)) (fun _ h9 => h9) rfl dX12_keep_54 ?_
        refine lv_bipush (v := 35) hx hb dX12_keep_57 (by decide) ?_
        refine lv_aload_n hx hb dX12_keep_59 rfl (lv_at hl 1 rfl) ?_
        refine va_get (D := D) (ci := 11) (v := .int 0) (C := RX12) (T := TX12) (N := 54) hx hb hts hiX12 hown hK hP 2 rfl rfl 23 (by decide) (hts _ (List.mem_of_getElem? (i := 1) rfl)) (fun _ h9 => h9) rfl dX12_keep_60 ?_
        refine lv_imul hx hb dX12_keep_63 ?_
        refine lv_topi (fun y_3 ey_3 => ?_)
        obtain rfl : y_3 = 0 := ey_3.trans (by decide)
        refine lv_iload_n hx hb dX12_keep_64 rfl (lv_at hl 0 rfl) ?_
        refine lv_iadd hx hb dX12_keep_65 ?_
        refine lv_topi (fun y_4 ey_4 => ?_)
        obtain rfl : y_4 = nI (0 + k1) := ey_4.trans (nI_add 0 k1)
        refine lv_aload_n hx hb dX12_keep_66 rfl (lv_at hl 1 rfl) ?_
        refine va_get (D := D) (ci := 11) (v := .ref (am 1)) (C := RX12) (T := TX12) (N := 54) hx hb hts hiX12 hown hK hP 2 rfl rfl 6 (by decide) (hts _ (List.mem_of_getElem? (i := 3) rfl)) (fun _ h9 => h9) rfl dX12_keep_67 ?_
        refine lv_bipush (v := 67) hx hb dX12_keep_70 (by decide) ?_
        refine lv_iload_n hx hb dX12_keep_72 rfl (lv_at hl 0 rfl) ?_
        refine lv_iadd hx hb dX12_keep_73 ?_
        refine lv_topi (fun y_5 ey_5 => ?_)
        obtain rfl : y_5 = nI (67 + k1) := ey_5.trans (nI_add 67 k1)
        refine va_iald hx hb hK hP 0 0 rfl rfl (vp_in_nI (show (67 + k1) < 283 by omega) (by decide)) dX12_keep_74 ?_
        refine lv_topi (fun y_6 ey_6 => ?_)
        refine va_iast hx hb hK hP hD hS 1 1 rfl rfl (vp_in_nI (show (0 + k1) < 280 by omega) (by decide)) dX12_keep_75 (fun H locs hP hD hS => ?_)
        rw [nI_clamp (show (0 + k1) < 2 ^ 31 by omega)] at hP hD
        have hP : va_P D vwCl [(am 1, .inl (tm 1, 283, .inl (upd (fun _ => 0) 4 2))), (am 4, .inl (tm 4, 280, .inl (upd g1_0 (0 + k1) y_6))), (am 18, .inr (11, [.int u_0, .ref u_1, .int u_2, .int u_3, .int u_4, .int u_5, .ref (am 1), .ref u_7, .ref u_8, .ref u_9, .ref u_10, .int u_11, .int u_12, .int u_13, .int u_14, .int u_15, .int u_16, .long u_17, .int u_18, .int u_19, .int u_20, .ref (am 4), .ref u_22, .int 0, .int u_24, .int u_25, .int u_26, .ref u_27, .int u_28, .ref u_29, .int u_30, .int u_31, .ref u_32, .int u_33, .ref u_34, .ref u_35, .int u_36, .int u_37, .ref u_38, .int u_39, .int u_40, .int u_41, .ref u_42, .int u_43, .ref u_44, .int u_45, .int u_46, .int u_47, .int u_48, .int u_49, .ref u_50, .ref u_51, .ref u_52, .ref u_53]))] H := hP
        have hD : va_D A [(am 1, .inl (tm 1, 283, .inl (upd (fun _ => 0) 4 2))), (am 4, .inl (tm 4, 280, .inl (upd g1_0 (0 + k1) y_6))), (am 18, .inr (11, [.int u_0, .ref u_1, .int u_2, .int u_3, .int u_4, .int u_5, .ref (am 1), .ref u_7, .ref u_8, .ref u_9, .ref u_10, .int u_11, .int u_12, .int u_13, .int u_14, .int u_15, .int u_16, .long u_17, .int u_18, .int u_19, .int u_20, .ref (am 4), .ref u_22, .int 0, .int u_24, .int u_25, .int u_26, .ref u_27, .int u_28, .ref u_29, .int u_30, .int u_31, .ref u_32, .int u_33, .ref u_34, .ref u_35, .int u_36, .int u_37, .ref u_38, .int u_39, .int u_40, .int u_41, .ref u_42, .int u_43, .ref u_44, .int u_45, .int u_46, .int u_47, .int u_48, .int u_49, .ref u_50, .ref u_51, .ref u_52, .ref u_53]))] := hD
        generalize (upd g1_0 (0 + k1) y_6) = f_7 at hP hD
        refine lv_iinc (v := nI (k1 + 1)) (lv' := [(1, .int (nI (k1 + 1))), (0, .ref (am 18))]) hx hb dX12_keep_76 hl (k := 0) rfl (nI_1 k1) (by decide) rfl (fun ls hl => ?_)
        refine lv_goto (tgt := 47) hx hb dX12_keep_79 (by decide) ?_
        exact ih1 (k1 + 1) f_7 _ _ _ (by omega) (by omega)  hP hD hS (lv_sub hl [0, 1] rfl)
  exact LP1 (35 + 1) 0 (fun _ => 0) _ _ _ (by omega) (by omega)  hP hD hS hl

set_option maxHeartbeats 8000000 in
set_option maxRecDepth 100000 in
theorem k_X12_tries (l : Launch) (D : va_G) (ad : Nat → Nat) (am : Nat → Nat) (tm : Nat → ClassId) (u_0 : Int32) (u_1 : Nat) (u_2 : Int32) (u_3 : Int32) (u_4 : Int32) (u_5 : Int32) (u_7 : Nat) (u_8 : Nat) (u_9 : Nat) (u_10 : Nat) (u_11 : Int32) (u_12 : Int32) (u_13 : Int32) (u_14 : Int32) (u_15 : Int32) (u_16 : Int32) (u_17 : Int64) (u_18 : Int32) (u_19 : Int32) (u_20 : Int32) (u_21 : Nat) (u_23 : Int32) (u_24 : Int32) (u_25 : Int32) (u_26 : Int32) (u_27 : Nat) (u_28 : Int32) (u_29 : Nat) (u_30 : Int32) (u_31 : Int32) (u_32 : Nat) (u_33 : Int32) (u_34 : Nat) (u_35 : Nat) (u_36 : Int32) (u_37 : Int32) (u_38 : Nat) (u_39 : Int32) (u_40 : Int32) (u_41 : Int32) (u_42 : Nat) (u_43 : Int32) (u_44 : Nat) (u_45 : Int32) (u_46 : Int32) (u_47 : Int32) (u_48 : Int32) (u_49 : Int32) (u_50 : Nat) (u_51 : Nat) (u_52 : Nat) (u_53 : Nat)  : z_Mv l yX12_tries wsX12_tries { frames := 0, cells := 0, slots := 0, locals := 0 } D ad [.ref (am 18)] [(am 1, .inl (tm 1, 283, .inl (upd (fun _ => 0) 4 2))), (am 5, .inl (tm 5, 35, .inl (fun _ => 0))), (am 18, .inr (11, [.int u_0, .ref u_1, .int u_2, .int u_3, .int u_4, .int u_5, .ref (am 1), .ref u_7, .ref u_8, .ref u_9, .ref u_10, .int u_11, .int u_12, .int u_13, .int u_14, .int u_15, .int u_16, .long u_17, .int u_18, .int u_19, .int u_20, .ref u_21, .ref (am 5), .int u_23, .int u_24, .int u_25, .int u_26, .ref u_27, .int u_28, .ref u_29, .int u_30, .int u_31, .ref u_32, .int u_33, .ref u_34, .ref u_35, .int u_36, .int u_37, .ref u_38, .int u_39, .int u_40, .int u_41, .ref u_42, .int u_43, .ref u_44, .int u_45, .int u_46, .int u_47, .int u_48, .int u_49, .ref u_50, .ref u_51, .ref u_52, .ref u_53]))] [(tm 1, .int), (tm 5, .int)] 0 0 (fun u9 => ∃ (g1_0 : Nat → Int32), u9 = ([(am 1, .inl (tm 1, 283, .inl (upd (fun _ => 0) 4 2))), (am 5, .inl (tm 5, 35, .inl g1_0)), (am 18, .inr (11, [.int u_0, .ref u_1, .int u_2, .int u_3, .int u_4, .int u_5, .ref (am 1), .ref u_7, .ref u_8, .ref u_9, .ref u_10, .int u_11, .int u_12, .int u_13, .int u_14, .int u_15, .int u_16, .long u_17, .int u_18, .int u_19, .int u_20, .ref u_21, .ref (am 5), .int u_23, .int u_24, .int u_25, .int u_26, .ref u_27, .int u_28, .ref u_29, .int u_30, .int u_31, .ref u_32, .int u_33, .ref u_34, .ref u_35, .int u_36, .int u_37, .ref u_38, .int u_39, .int u_40, .int u_41, .ref u_42, .int u_43, .ref u_44, .int u_45, .int u_46, .int u_47, .int u_48, .int u_49, .ref u_50, .ref u_51, .ref u_52, .ref u_53]))], [])) := by
  refine z_ofV (cc := cX12_tries) (maxL := 2) (by decide) rfl (Nat.le_of_ble_eq_true rfl) ?_
  intro p e s m below meth c Q A ls hx hb hml hown hts hin hK hP hD hA hE hO hS hl hret
  have hown : s.vm.findClass RX12 = some m.cls := hown
  have hiX12 : ∀ w ∈ wsX120, w ∈ wsX12_tries := fun _ h9 => List.mem_cons_of_mem _ (List.mem_append_right _ h9)
  have hl : lv_has ls 2 [(0, .ref (am 18))] := hl
  refine lv_iconst (v := 0) hx hb dX12_tries_0 (by decide) ?_
  refine lv_istore_n (lv' := [(1, .int 0), (0, .ref (am 18))]) hx hb dX12_tries_1 rfl hl (by decide) rfl (fun ls hl => ?_)
  have LP1 : ∀ (n k1 : Nat) (g1_0 : Nat → Int32) (H : Heap) (locs : List Loc) (ls : Array Slot), k1 ≤ 35 → 35 < k1 + n → va_P D vwCl [(am 1, .inl (tm 1, 283, .inl (upd (fun _ => 0) 4 2))), (am 5, .inl (tm 5, 35, .inl g1_0)), (am 18, .inr (11, [.int u_0, .ref u_1, .int u_2, .int u_3, .int u_4, .int u_5, .ref (am 1), .ref u_7, .ref u_8, .ref u_9, .ref u_10, .int u_11, .int u_12, .int u_13, .int u_14, .int u_15, .int u_16, .long u_17, .int u_18, .int u_19, .int u_20, .ref u_21, .ref (am 5), .int u_23, .int u_24, .int u_25, .int u_26, .ref u_27, .int u_28, .ref u_29, .int u_30, .int u_31, .ref u_32, .int u_33, .ref u_34, .ref u_35, .int u_36, .int u_37, .ref u_38, .int u_39, .int u_40, .int u_41, .ref u_42, .int u_43, .ref u_44, .int u_45, .int u_46, .int u_47, .int u_48, .int u_49, .ref u_50, .ref u_51, .ref u_52, .ref u_53]))] H → va_D A [(am 1, .inl (tm 1, 283, .inl (upd (fun _ => 0) 4 2))), (am 5, .inl (tm 5, 35, .inl g1_0)), (am 18, .inr (11, [.int u_0, .ref u_1, .int u_2, .int u_3, .int u_4, .int u_5, .ref (am 1), .ref u_7, .ref u_8, .ref u_9, .ref u_10, .int u_11, .int u_12, .int u_13, .int u_14, .int u_15, .int u_16, .long u_17, .int u_18, .int u_19, .int u_20, .ref u_21, .ref (am 5), .int u_23, .int u_24, .int u_25, .int u_26, .ref u_27, .int u_28, .ref u_29, .int u_30, .int u_31, .ref u_32, .int u_33, .ref u_34, .ref u_35, .int u_36, .int u_37, .ref u_38, .int u_39, .int u_40, .int u_41, .ref u_42, .int u_43, .ref u_44, .int u_45, .int u_46, .int u_47, .int u_48, .int u_49, .ref u_50, .ref u_51, .ref u_52, .ref u_53]))] → va_S A s.heap H locs → lv_has ls 2 [(1, .int (nI k1)), (0, .ref (am 18))] → W p l e ({ frames := 0, cells := 0, slots := 0, locals := 0 }) s m ([.ref (am 18)] : List Value).toArray below meth c H locs 0 0 Q (F0 m 2 ls []) := by
    intro n
    induction n with
    | zero => intro k1 g1_0 H locs ls h1 h2; exact absurd h2 (by omega)
    | succ n ih1 =>
      intro k1 g1_0 H locs ls hk1 hn1  hP hD hS hl
      refine lv_iload_n hx hb dX12_tries_2 rfl (lv_at hl 0 rfl) ?_
      refine lv_bipush (v := 35) hx hb dX12_tries_3 (by decide) ?_
      refine lv_icmp_ge (tgt := 29) hx hb dX12_tries_5 (by decide) (fun c_1 => ?_) (fun c_1 => ?_)
      · have hek1 : k1 = 35 := by
          rcases Nat.lt_or_ge k1 35 with q | q
          · exact absurd c_1 (nI_ge q (by decide))
          · omega
        refine W.widen (k := 0) (n := 0) (by decide) (by decide) ?_
        exact hret ([(am 1, .inl (tm 1, 283, .inl (upd (fun _ => 0) 4 2))), (am 5, .inl (tm 5, 35, .inl g1_0)), (am 18, .inr (11, [.int u_0, .ref u_1, .int u_2, .int u_3, .int u_4, .int u_5, .ref (am 1), .ref u_7, .ref u_8, .ref u_9, .ref u_10, .int u_11, .int u_12, .int u_13, .int u_14, .int u_15, .int u_16, .long u_17, .int u_18, .int u_19, .int u_20, .ref u_21, .ref (am 5), .int u_23, .int u_24, .int u_25, .int u_26, .ref u_27, .int u_28, .ref u_29, .int u_30, .int u_31, .ref u_32, .int u_33, .ref u_34, .ref u_35, .int u_36, .int u_37, .ref u_38, .int u_39, .int u_40, .int u_41, .ref u_42, .int u_43, .ref u_44, .int u_45, .int u_46, .int u_47, .int u_48, .int u_49, .ref u_50, .ref u_51, .ref u_52, .ref u_53]))], []) _ _ _ _ dX12_tries_29 ⟨g1_0, rfl⟩ (hP.sub [0, 1, 2] rfl) (hK.sub [] rfl) (hD.sub [0, 1, 2] (by decide +kernel) rfl) hS
      · have hlt1 : k1 < 35 := by
          rcases Nat.lt_or_ge k1 35 with q | q
          · exact q
          · exact absurd (nI_le q (by omega)) c_1
        refine lv_aload_n hx hb dX12_tries_8 rfl (lv_at hl 1 rfl) ?_
        refine va_get (D := D) (ci := 11) (v := .ref (am 5)) (C := RX12) (T := TX12) (N := 54) hx hb hts hiX12 hown hK hP 2 rfl rfl 22 (by decide) (hts _ (List.mem_of_getElem? (i := 1) rfl)) (fun _ h9 => h9) rfl dX12_tries_9 ?_
        refine lv_iload_n hx hb dX12_tries_12 rfl (lv_at hl 0 rfl) ?_
        refine lv_aload_n hx hb dX12_tries_13 rfl (lv_at hl 1 rfl) ?_
        refine va_get (D := D) (ci := 11) (v := .ref (am 1)) (C := RX12) (T := TX12) (N := 54) hx hb hts hiX12 hown hK hP 2 rfl rfl 6 (by decide) (hts _ (List.mem_of_getElem? (i := 2) rfl)) (fun _ h9 => h9) rfl dX12_tries_14 ?_
        refine lv_bipush (v := 67) hx hb dX12_tries_17 (by decide) ?_
        refine lv_iload_n hx hb dX12_tries_19 rfl (lv_at hl 0 rfl) ?_
        refine lv_iadd hx hb dX12_tries_20 ?_
        refine lv_topi (fun y_2 ey_2 => ?_)
        obtain rfl : y_2 = nI (67 + k1) := ey_2.trans (nI_add 67 k1)
        refine va_iald hx hb hK hP 0 0 rfl rfl (vp_in_nI (show (67 + k1) < 283 by omega) (by decide)) dX12_tries_21 ?_
        refine lv_topi (fun y_3 ey_3 => ?_)
        refine va_iast hx hb hK hP hD hS 1 1 rfl rfl (vp_in_nI (show k1 < 35 by omega) (by decide)) dX12_tries_22 (fun H locs hP hD hS => ?_)
        rw [nI_clamp (show k1 < 2 ^ 31 by omega)] at hP hD
        have hP : va_P D vwCl [(am 1, .inl (tm 1, 283, .inl (upd (fun _ => 0) 4 2))), (am 5, .inl (tm 5, 35, .inl (upd g1_0 k1 y_3))), (am 18, .inr (11, [.int u_0, .ref u_1, .int u_2, .int u_3, .int u_4, .int u_5, .ref (am 1), .ref u_7, .ref u_8, .ref u_9, .ref u_10, .int u_11, .int u_12, .int u_13, .int u_14, .int u_15, .int u_16, .long u_17, .int u_18, .int u_19, .int u_20, .ref u_21, .ref (am 5), .int u_23, .int u_24, .int u_25, .int u_26, .ref u_27, .int u_28, .ref u_29, .int u_30, .int u_31, .ref u_32, .int u_33, .ref u_34, .ref u_35, .int u_36, .int u_37, .ref u_38, .int u_39, .int u_40, .int u_41, .ref u_42, .int u_43, .ref u_44, .int u_45, .int u_46, .int u_47, .int u_48, .int u_49, .ref u_50, .ref u_51, .ref u_52, .ref u_53]))] H := hP
        have hD : va_D A [(am 1, .inl (tm 1, 283, .inl (upd (fun _ => 0) 4 2))), (am 5, .inl (tm 5, 35, .inl (upd g1_0 k1 y_3))), (am 18, .inr (11, [.int u_0, .ref u_1, .int u_2, .int u_3, .int u_4, .int u_5, .ref (am 1), .ref u_7, .ref u_8, .ref u_9, .ref u_10, .int u_11, .int u_12, .int u_13, .int u_14, .int u_15, .int u_16, .long u_17, .int u_18, .int u_19, .int u_20, .ref u_21, .ref (am 5), .int u_23, .int u_24, .int u_25, .int u_26, .ref u_27, .int u_28, .ref u_29, .int u_30, .int u_31, .ref u_32, .int u_33, .ref u_34, .ref u_35, .int u_36, .int u_37, .ref u_38, .int u_39, .int u_40, .int u_41, .ref u_42, .int u_43, .ref u_44, .int u_45, .int u_46, .int u_47, .int u_48, .int u_49, .ref u_50, .ref u_51, .ref u_52, .ref u_53]))] := hD
        generalize (upd g1_0 k1 y_3) = f_4 at hP hD
        refine lv_iinc (v := nI (k1 + 1)) (lv' := [(1, .int (nI (k1 + 1))), (0, .ref (am 18))]) hx hb dX12_tries_23 hl (k := 0) rfl (nI_1 k1) (by decide) rfl (fun ls hl => ?_)
        refine lv_goto (tgt := 2) hx hb dX12_tries_26 (by decide) ?_
        exact ih1 (k1 + 1) f_4 _ _ _ (by omega) (by omega)  hP hD hS (lv_sub hl [0, 1] rfl)
  exact LP1 (35 + 1) 0 (fun _ => 0) _ _ _ (by omega) (by omega)  hP hD hS hl

set_option maxHeartbeats 8000000 in
set_option maxRecDepth 100000 in
theorem k_X12_back (l : Launch) (D : va_G) (ad : Nat → Nat) (am : Nat → Nat) (tm : Nat → ClassId) (f_s : Nat → Int32) (f_b : Nat → Int32) (u_0 : Int32) (u_1 : Nat) (u_2 : Int32) (u_3 : Int32) (u_4 : Int32) (u_5 : Int32) (u_7 : Nat) (u_8 : Nat) (u_9 : Nat) (u_10 : Nat) (u_11 : Int32) (u_12 : Int32) (u_13 : Int32) (u_14 : Int32) (u_15 : Int32) (u_16 : Int32) (u_17 : Int64) (u_18 : Int32) (u_19 : Int32) (u_20 : Int32) (u_21 : Nat) (u_23 : Int32) (u_24 : Int32) (u_25 : Int32) (u_26 : Int32) (u_27 : Nat) (u_28 : Int32) (u_29 : Nat) (u_30 : Int32) (u_31 : Int32) (u_32 : Nat) (u_33 : Int32) (u_34 : Nat) (u_35 : Nat) (u_36 : Int32) (u_37 : Int32) (u_38 : Nat) (u_39 : Int32) (u_40 : Int32) (u_41 : Int32) (u_42 : Nat) (u_43 : Int32) (u_44 : Nat) (u_45 : Int32) (u_46 : Int32) (u_47 : Int32) (u_48 : Int32) (u_49 : Int32) (u_50 : Nat) (u_51 : Nat) (u_52 : Nat) (u_53 : Nat)  : z_Mv l yX12_back wsX12_back { frames := 0, cells := 0, slots := 0, locals := 0 } D ad [.ref (am 18)] [(am 1, .inl (tm 1, 283, .inl f_s)), (am 5, .inl (tm 5, 35, .inl f_b)), (am 18, .inr (11, [.int u_0, .ref u_1, .int u_2, .int u_3, .int u_4, .int u_5, .ref (am 1), .ref u_7, .ref u_8, .ref u_9, .ref u_10, .int u_11, .int u_12, .int u_13, .int u_14, .int u_15, .int u_16, .long u_17, .int u_18, .int u_19, .int u_20, .ref u_21, .ref (am 5), .int u_23, .int u_24, .int u_25, .int u_26, .ref u_27, .int u_28, .ref u_29, .int u_30, .int u_31, .ref u_32, .int u_33, .ref u_34, .ref u_35, .int u_36, .int u_37, .ref u_38, .int u_39, .int u_40, .int u_41, .ref u_42, .int u_43, .ref u_44, .int u_45, .int u_46, .int u_47, .int u_48, .int u_49, .ref u_50, .ref u_51, .ref u_52, .ref u_53]))] [(tm 1, .int), (tm 5, .int)] 0 0 (fun u9 => ∃ (g1_0 : Nat → Int32), u9 = ([(am 1, .inl (tm 1, 283, .inl g1_0)), (am 5, .inl (tm 5, 35, .inl f_b)), (am 18, .inr (11, [.int u_0, .ref u_1, .int u_2, .int u_3, .int u_4, .int u_5, .ref (am 1), .ref u_7, .ref u_8, .ref u_9, .ref u_10, .int u_11, .int u_12, .int u_13, .int u_14, .int u_15, .int u_16, .long u_17, .int u_18, .int u_19, .int u_20, .ref u_21, .ref (am 5), .int u_23, .int u_24, .int u_25, .int u_26, .ref u_27, .int u_28, .ref u_29, .int u_30, .int u_31, .ref u_32, .int u_33, .ref u_34, .ref u_35, .int u_36, .int u_37, .ref u_38, .int u_39, .int u_40, .int u_41, .ref u_42, .int u_43, .ref u_44, .int u_45, .int u_46, .int u_47, .int u_48, .int u_49, .ref u_50, .ref u_51, .ref u_52, .ref u_53]))], [])) := by
  refine z_ofV (cc := cX12_back) (maxL := 2) (by decide) rfl (Nat.le_of_ble_eq_true rfl) ?_
  intro p e s m below meth c Q A ls hx hb hml hown hts hin hK hP hD hA hE hO hS hl hret
  have hown : s.vm.findClass RX12 = some m.cls := hown
  have hiX12 : ∀ w ∈ wsX120, w ∈ wsX12_back := fun _ h9 => List.mem_cons_of_mem _ (List.mem_append_right _ h9)
  have hl : lv_has ls 2 [(0, .ref (am 18))] := hl
  refine lv_iconst (v := 0) hx hb dX12_back_0 (by decide) ?_
  refine lv_istore_n (lv' := [(1, .int 0), (0, .ref (am 18))]) hx hb dX12_back_1 rfl hl (by decide) rfl (fun ls hl => ?_)
  have LP1 : ∀ (n k1 : Nat) (g1_0 : Nat → Int32) (H : Heap) (locs : List Loc) (ls : Array Slot), k1 ≤ 35 → 35 < k1 + n → va_P D vwCl [(am 1, .inl (tm 1, 283, .inl g1_0)), (am 5, .inl (tm 5, 35, .inl f_b)), (am 18, .inr (11, [.int u_0, .ref u_1, .int u_2, .int u_3, .int u_4, .int u_5, .ref (am 1), .ref u_7, .ref u_8, .ref u_9, .ref u_10, .int u_11, .int u_12, .int u_13, .int u_14, .int u_15, .int u_16, .long u_17, .int u_18, .int u_19, .int u_20, .ref u_21, .ref (am 5), .int u_23, .int u_24, .int u_25, .int u_26, .ref u_27, .int u_28, .ref u_29, .int u_30, .int u_31, .ref u_32, .int u_33, .ref u_34, .ref u_35, .int u_36, .int u_37, .ref u_38, .int u_39, .int u_40, .int u_41, .ref u_42, .int u_43, .ref u_44, .int u_45, .int u_46, .int u_47, .int u_48, .int u_49, .ref u_50, .ref u_51, .ref u_52, .ref u_53]))] H → va_D A [(am 1, .inl (tm 1, 283, .inl g1_0)), (am 5, .inl (tm 5, 35, .inl f_b)), (am 18, .inr (11, [.int u_0, .ref u_1, .int u_2, .int u_3, .int u_4, .int u_5, .ref (am 1), .ref u_7, .ref u_8, .ref u_9, .ref u_10, .int u_11, .int u_12, .int u_13, .int u_14, .int u_15, .int u_16, .long u_17, .int u_18, .int u_19, .int u_20, .ref u_21, .ref (am 5), .int u_23, .int u_24, .int u_25, .int u_26, .ref u_27, .int u_28, .ref u_29, .int u_30, .int u_31, .ref u_32, .int u_33, .ref u_34, .ref u_35, .int u_36, .int u_37, .ref u_38, .int u_39, .int u_40, .int u_41, .ref u_42, .int u_43, .ref u_44, .int u_45, .int u_46, .int u_47, .int u_48, .int u_49, .ref u_50, .ref u_51, .ref u_52, .ref u_53]))] → va_S A s.heap H locs → lv_has ls 2 [(1, .int (nI k1)), (0, .ref (am 18))] → W p l e ({ frames := 0, cells := 0, slots := 0, locals := 0 }) s m ([.ref (am 18)] : List Value).toArray below meth c H locs 0 0 Q (F0 m 2 ls []) := by
    intro n
    induction n with
    | zero => intro k1 g1_0 H locs ls h1 h2; exact absurd h2 (by omega)
    | succ n ih1 =>
      intro k1 g1_0 H locs ls hk1 hn1  hP hD hS hl
      refine lv_iload_n hx hb dX12_back_2 rfl (lv_at hl 0 rfl) ?_
      refine lv_bipush (v := 35) hx hb dX12_back_3 (by decide) ?_
      refine lv_icmp_ge (tgt := 29) hx hb dX12_back_5 (by decide) (fun c_1 => ?_) (fun c_1 => ?_)
      · have hek1 : k1 = 35 := by
          rcases Nat.lt_or_ge k1 35 with q | q
          · exact absurd c_1 (nI_ge q (by decide))
          · omega
        refine W.widen (k := 0) (n := 0) (by decide) (by decide) ?_
        exact hret ([(am 1, .inl (tm 1, 283, .inl g1_0)), (am 5, .inl (tm 5, 35, .inl f_b)), (am 18, .inr (11, [.int u_0, .ref u_1, .int u_2, .int u_3, .int u_4, .int u_5, .ref (am 1), .ref u_7, .ref u_8, .ref u_9, .ref u_10, .int u_11, .int u_12, .int u_13, .int u_14, .int u_15, .int u_16, .long u_17, .int u_18, .int u_19, .int u_20, .ref u_21, .ref (am 5), .int u_23, .int u_24, .int u_25, .int u_26, .ref u_27, .int u_28, .ref u_29, .int u_30, .int u_31, .ref u_32, .int u_33, .ref u_34, .ref u_35, .int u_36, .int u_37, .ref u_38, .int u_39, .int u_40, .int u_41, .ref u_42, .int u_43, .ref u_44, .int u_45, .int u_46, .int u_47, .int u_48, .int u_49, .ref u_50, .ref u_51, .ref u_52, .ref u_53]))], []) _ _ _ _ dX12_back_29 ⟨g1_0, rfl⟩ (hP.sub [0, 1, 2] rfl) (hK.sub [] rfl) (hD.sub [0, 1, 2] (by decide +kernel) rfl) hS
      · have hlt1 : k1 < 35 := by
          rcases Nat.lt_or_ge k1 35 with q | q
          · exact q
          · exact absurd (nI_le q (by omega)) c_1
        refine lv_aload_n hx hb dX12_back_8 rfl (lv_at hl 1 rfl) ?_
        refine va_get (D := D) (ci := 11) (v := .ref (am 1)) (C := RX12) (T := TX12) (N := 54) hx hb hts hiX12 hown hK hP 2 rfl rfl 6 (by decide) (hts _ (List.mem_of_getElem? (i := 1) rfl)) (fun _ h9 => h9) rfl dX12_back_9 ?_
        refine lv_bipush (v := 67) hx hb dX12_back_12 (by decide) ?_
        refine lv_iload_n hx hb dX12_back_14 rfl (lv_at hl 0 rfl) ?_
        refine lv_iadd hx hb dX12_back_15 ?_
        refine lv_topi (fun y_2 ey_2 => ?_)
        obtain rfl : y_2 = nI (67 + k1) := ey_2.trans (nI_add 67 k1)
        refine lv_aload_n hx hb dX12_back_16 rfl (lv_at hl 1 rfl) ?_
        refine va_get (D := D) (ci := 11) (v := .ref (am 5)) (C := RX12) (T := TX12) (N := 54) hx hb hts hiX12 hown hK hP 2 rfl rfl 22 (by decide) (hts _ (List.mem_of_getElem? (i := 2) rfl)) (fun _ h9 => h9) rfl dX12_back_17 ?_
        refine lv_iload_n hx hb dX12_back_20 rfl (lv_at hl 0 rfl) ?_
        refine va_iald hx hb hK hP 1 1 rfl rfl (vp_in_nI (show k1 < 35 by omega) (by decide)) dX12_back_21 ?_
        refine lv_topi (fun y_3 ey_3 => ?_)
        refine va_iast hx hb hK hP hD hS 0 0 rfl rfl (vp_in_nI (show (67 + k1) < 283 by omega) (by decide)) dX12_back_22 (fun H locs hP hD hS => ?_)
        rw [nI_clamp (show (67 + k1) < 2 ^ 31 by omega)] at hP hD
        have hP : va_P D vwCl [(am 1, .inl (tm 1, 283, .inl (upd g1_0 (67 + k1) y_3))), (am 5, .inl (tm 5, 35, .inl f_b)), (am 18, .inr (11, [.int u_0, .ref u_1, .int u_2, .int u_3, .int u_4, .int u_5, .ref (am 1), .ref u_7, .ref u_8, .ref u_9, .ref u_10, .int u_11, .int u_12, .int u_13, .int u_14, .int u_15, .int u_16, .long u_17, .int u_18, .int u_19, .int u_20, .ref u_21, .ref (am 5), .int u_23, .int u_24, .int u_25, .int u_26, .ref u_27, .int u_28, .ref u_29, .int u_30, .int u_31, .ref u_32, .int u_33, .ref u_34, .ref u_35, .int u_36, .int u_37, .ref u_38, .int u_39, .int u_40, .int u_41, .ref u_42, .int u_43, .ref u_44, .int u_45, .int u_46, .int u_47, .int u_48, .int u_49, .ref u_50, .ref u_51, .ref u_52, .ref u_53]))] H := hP
        have hD : va_D A [(am 1, .inl (tm 1, 283, .inl (upd g1_0 (67 + k1) y_3))), (am 5, .inl (tm 5, 35, .inl f_b)), (am 18, .inr (11, [.int u_0, .ref u_1, .int u_2, .int u_3, .int u_4, .int u_5, .ref (am 1), .ref u_7, .ref u_8, .ref u_9, .ref u_10, .int u_11, .int u_12, .int u_13, .int u_14, .int u_15, .int u_16, .long u_17, .int u_18, .int u_19, .int u_20, .ref u_21, .ref (am 5), .int u_23, .int u_24, .int u_25, .int u_26, .ref u_27, .int u_28, .ref u_29, .int u_30, .int u_31, .ref u_32, .int u_33, .ref u_34, .ref u_35, .int u_36, .int u_37, .ref u_38, .int u_39, .int u_40, .int u_41, .ref u_42, .int u_43, .ref u_44, .int u_45, .int u_46, .int u_47, .int u_48, .int u_49, .ref u_50, .ref u_51, .ref u_52, .ref u_53]))] := hD
        generalize (upd g1_0 (67 + k1) y_3) = f_4 at hP hD
        refine lv_iinc (v := nI (k1 + 1)) (lv' := [(1, .int (nI (k1 + 1))), (0, .ref (am 18))]) hx hb dX12_back_23 hl (k := 0) rfl (nI_1 k1) (by decide) rfl (fun ls hl => ?_)
        refine lv_goto (tgt := 2) hx hb dX12_back_26 (by decide) ?_
        exact ih1 (k1 + 1) f_4 _ _ _ (by omega) (by omega)  hP hD hS (lv_sub hl [0, 1] rfl)
  exact LP1 (35 + 1) 0 f_s _ _ _ (by omega) (by omega)  hP hD hS hl

set_option maxHeartbeats 8000000 in
set_option maxRecDepth 100000 in
theorem k_X12_sparing (l : Launch) (D : va_G) (ad : Nat → Nat) (am : Nat → Nat) (tm : Nat → ClassId) (f_s : Nat → Int32) (u_0 : Int32) (u_1 : Nat) (u_2 : Int32) (u_3 : Int32) (u_4 : Int32) (u_5 : Int32) (u_7 : Nat) (u_8 : Nat) (u_9 : Nat) (u_10 : Nat) (u_11 : Int32) (u_12 : Int32) (u_13 : Int32) (u_14 : Int32) (u_15 : Int32) (u_16 : Int32) (u_17 : Int64) (u_18 : Int32) (u_19 : Int32) (u_20 : Int32) (u_21 : Nat) (u_22 : Nat) (u_23 : Int32) (u_24 : Int32) (u_25 : Int32) (u_26 : Int32) (u_27 : Nat) (u_28 : Int32) (u_29 : Nat) (u_30 : Int32) (u_31 : Int32) (u_32 : Nat) (u_33 : Int32) (u_34 : Nat) (u_35 : Nat) (u_36 : Int32) (u_37 : Int32) (u_38 : Nat) (u_39 : Int32) (u_40 : Int32) (u_41 : Int32) (u_42 : Nat) (u_43 : Int32) (u_44 : Nat) (u_45 : Int32) (u_46 : Int32) (u_47 : Int32) (u_48 : Int32) (u_49 : Int32) (u_50 : Nat) (u_51 : Nat) (u_52 : Nat) (u_53 : Nat) (h1 : f_s 1 = 0) : z_Mi l yX12_sparing wsX12_sparing { frames := 0, cells := 0, slots := 0, locals := 0 } D ad [.ref (am 18)] [(am 1, .inl (tm 1, 283, .inl f_s)), (am 18, .inr (11, [.int u_0, .ref u_1, .int u_2, .int u_3, .int u_4, .int u_5, .ref (am 1), .ref u_7, .ref u_8, .ref u_9, .ref u_10, .int u_11, .int u_12, .int u_13, .int u_14, .int u_15, .int u_16, .long u_17, .int u_18, .int u_19, .int u_20, .ref u_21, .ref u_22, .int u_23, .int u_24, .int u_25, .int u_26, .ref u_27, .int u_28, .ref u_29, .int u_30, .int u_31, .ref u_32, .int u_33, .ref u_34, .ref u_35, .int u_36, .int u_37, .ref u_38, .int u_39, .int u_40, .int u_41, .ref u_42, .int u_43, .ref u_44, .int u_45, .int u_46, .int u_47, .int u_48, .int u_49, .ref u_50, .ref u_51, .ref u_52, .ref u_53]))] [(tm 1, .int)] 0 0 (fun r9 u9 => r9 = 0 ∧ u9 = ([(am 1, .inl (tm 1, 283, .inl f_s)), (am 18, .inr (11, [.int u_0, .ref u_1, .int u_2, .int u_3, .int u_4, .int u_5, .ref (am 1), .ref u_7, .ref u_8, .ref u_9, .ref u_10, .int u_11, .int u_12, .int u_13, .int u_14, .int u_15, .int u_16, .long u_17, .int u_18, .int u_19, .int u_20, .ref u_21, .ref u_22, .int u_23, .int u_24, .int u_25, .int u_26, .ref u_27, .int u_28, .ref u_29, .int u_30, .int u_31, .ref u_32, .int u_33, .ref u_34, .ref u_35, .int u_36, .int u_37, .ref u_38, .int u_39, .int u_40, .int u_41, .ref u_42, .int u_43, .ref u_44, .int u_45, .int u_46, .int u_47, .int u_48, .int u_49, .ref u_50, .ref u_51, .ref u_52, .ref u_53]))], [])) := by
  refine z_ofI (cc := cX12_sparing) (maxL := 5) (rt := .int) (by decide) rfl (Nat.le_of_ble_eq_true rfl) ?_
  intro p e s m below meth c Q A ls hx hb hml hown hts hin hK hP hD hA hE hO hS hl hret
  have hown : s.vm.findClass RX12 = some m.cls := hown
  have hiX12 : ∀ w ∈ wsX120, w ∈ wsX12_sparing := fun _ h9 => List.mem_cons_of_mem _ (List.mem_append_right _ h9)
  have hl : lv_has ls 5 [(0, .ref (am 18))] := hl
  refine lv_iconst (v := 0) hx hb dX12_sparing_0 (by decide) ?_
  refine lv_istore_n (lv' := [(1, .int 0), (0, .ref (am 18))]) hx hb dX12_sparing_1 rfl hl (by decide) rfl (fun ls hl => ?_)
  refine lv_iconst (v := 0) hx hb dX12_sparing_2 (by decide) ?_
  refine lv_istore_n (lv' := [(2, .int 0), (1, .int 0), (0, .ref (am 18))]) hx hb dX12_sparing_3 rfl hl (by decide) rfl (fun ls hl => ?_)
  refine lv_iload_n hx hb dX12_sparing_4 rfl (lv_at hl 0 rfl) ?_
  refine lv_aload_n hx hb dX12_sparing_5 rfl (lv_at hl 2 rfl) ?_
  refine va_get (D := D) (ci := 11) (v := .ref (am 1)) (C := RX12) (T := TX12) (N := 54) hx hb hts hiX12 hown hK hP 1 rfl rfl 6 (by decide) (hts _ (List.mem_of_getElem? (i := 1) rfl)) (fun _ h9 => h9) rfl dX12_sparing_6 ?_
  refine lv_iconst (v := 1) hx hb dX12_sparing_9 (by decide) ?_
  refine va_iald hx hb hK hP 0 0 rfl rfl (show ¬ (_ ∨ _) by decide) dX12_sparing_10 ?_
  refine lv_topi (fun y_1 ey_1 => ?_)
  obtain rfl : y_1 = 0 := ey_1.trans (show _ = _ from h1)
  refine lv_icmp_ge (tgt := 164) hx hb dX12_sparing_11 (by decide) (fun _ => ?_) (fun h9 => absurd (by decide) h9)
  refine lv_iload_n hx hb dX12_sparing_164 rfl (lv_at hl 1 rfl) ?_
  refine W.widen (k := 0) (n := 0) (by decide) (by decide) ?_
  exact hret 0 ([(am 1, .inl (tm 1, 283, .inl f_s)), (am 18, .inr (11, [.int u_0, .ref u_1, .int u_2, .int u_3, .int u_4, .int u_5, .ref (am 1), .ref u_7, .ref u_8, .ref u_9, .ref u_10, .int u_11, .int u_12, .int u_13, .int u_14, .int u_15, .int u_16, .long u_17, .int u_18, .int u_19, .int u_20, .ref u_21, .ref u_22, .int u_23, .int u_24, .int u_25, .int u_26, .ref u_27, .int u_28, .ref u_29, .int u_30, .int u_31, .ref u_32, .int u_33, .ref u_34, .ref u_35, .int u_36, .int u_37, .ref u_38, .int u_39, .int u_40, .int u_41, .ref u_42, .int u_43, .ref u_44, .int u_45, .int u_46, .int u_47, .int u_48, .int u_49, .ref u_50, .ref u_51, .ref u_52, .ref u_53]))], []) _ _ _ _ dX12_sparing_165 rfl ⟨rfl, rfl⟩ (hP.sub [0, 1] rfl) (hK.sub [] rfl) (hD.sub [0, 1] (by decide +kernel) rfl) hS

set_option maxHeartbeats 8000000 in
set_option maxRecDepth 100000 in
theorem k_X12_weptByAll (l : Launch) (D : va_G) (ad : Nat → Nat) (am : Nat → Nat) (tm : Nat → ClassId) (f_s : Nat → Int32) (u_0 : Int32) (u_1 : Nat) (u_2 : Int32) (u_3 : Int32) (u_4 : Int32) (u_5 : Int32) (u_7 : Nat) (u_8 : Nat) (u_9 : Nat) (u_10 : Nat) (u_11 : Int32) (u_12 : Int32) (u_13 : Int32) (u_14 : Int32) (u_15 : Int32) (u_16 : Int32) (u_17 : Int64) (u_18 : Int32) (u_19 : Int32) (u_20 : Int32) (u_21 : Nat) (u_22 : Nat) (u_23 : Int32) (u_24 : Int32) (u_25 : Int32) (u_26 : Int32) (u_27 : Nat) (u_28 : Int32) (u_29 : Nat) (u_30 : Int32) (u_31 : Int32) (u_32 : Nat) (u_33 : Int32) (u_34 : Nat) (u_35 : Nat) (u_36 : Int32) (u_37 : Int32) (u_38 : Nat) (u_39 : Int32) (u_40 : Int32) (u_41 : Int32) (u_42 : Nat) (u_43 : Int32) (u_44 : Nat) (u_45 : Int32) (u_46 : Int32) (u_47 : Int32) (u_48 : Int32) (u_49 : Int32) (u_50 : Nat) (u_51 : Nat) (u_52 : Nat) (u_53 : Nat) (h1 : f_s 1 = 0) : z_Mi l yX12_weptByAll wsX12_weptByAll { frames := 0, cells := 0, slots := 0, locals := 0 } D ad [.ref (am 18)] [(am 1, .inl (tm 1, 283, .inl f_s)), (am 18, .inr (11, [.int u_0, .ref u_1, .int u_2, .int u_3, .int u_4, .int u_5, .ref (am 1), .ref u_7, .ref u_8, .ref u_9, .ref u_10, .int u_11, .int u_12, .int u_13, .int u_14, .int u_15, .int u_16, .long u_17, .int u_18, .int u_19, .int u_20, .ref u_21, .ref u_22, .int u_23, .int u_24, .int u_25, .int u_26, .ref u_27, .int u_28, .ref u_29, .int u_30, .int u_31, .ref u_32, .int u_33, .ref u_34, .ref u_35, .int u_36, .int u_37, .ref u_38, .int u_39, .int u_40, .int u_41, .ref u_42, .int u_43, .ref u_44, .int u_45, .int u_46, .int u_47, .int u_48, .int u_49, .ref u_50, .ref u_51, .ref u_52, .ref u_53]))] [(tm 1, .int)] 0 0 (fun r9 u9 => r9 = 0 ∧ u9 = ([(am 1, .inl (tm 1, 283, .inl f_s)), (am 18, .inr (11, [.int u_0, .ref u_1, .int u_2, .int u_3, .int u_4, .int u_5, .ref (am 1), .ref u_7, .ref u_8, .ref u_9, .ref u_10, .int u_11, .int u_12, .int u_13, .int u_14, .int u_15, .int u_16, .long u_17, .int u_18, .int u_19, .int u_20, .ref u_21, .ref u_22, .int u_23, .int u_24, .int u_25, .int u_26, .ref u_27, .int u_28, .ref u_29, .int u_30, .int u_31, .ref u_32, .int u_33, .ref u_34, .ref u_35, .int u_36, .int u_37, .ref u_38, .int u_39, .int u_40, .int u_41, .ref u_42, .int u_43, .ref u_44, .int u_45, .int u_46, .int u_47, .int u_48, .int u_49, .ref u_50, .ref u_51, .ref u_52, .ref u_53]))], [])) := by
  refine z_ofI (cc := cX12_weptByAll) (maxL := 3) (rt := .int) (by decide) rfl (Nat.le_of_ble_eq_true rfl) ?_
  intro p e s m below meth c Q A ls hx hb hml hown hts hin hK hP hD hA hE hO hS hl hret
  have hown : s.vm.findClass RX12 = some m.cls := hown
  have hiX12 : ∀ w ∈ wsX120, w ∈ wsX12_weptByAll := fun _ h9 => List.mem_cons_of_mem _ (List.mem_append_right _ h9)
  have hl : lv_has ls 3 [(0, .ref (am 18))] := hl
  refine lv_iconst (v := 0) hx hb dX12_weptByAll_0 (by decide) ?_
  refine lv_istore_n (lv' := [(1, .int 0), (0, .ref (am 18))]) hx hb dX12_weptByAll_1 rfl hl (by decide) rfl (fun ls hl => ?_)
  refine lv_iconst (v := 0) hx hb dX12_weptByAll_2 (by decide) ?_
  refine lv_istore_n (lv' := [(2, .int 0), (1, .int 0), (0, .ref (am 18))]) hx hb dX12_weptByAll_3 rfl hl (by decide) rfl (fun ls hl => ?_)
  refine lv_iload_n hx hb dX12_weptByAll_4 rfl (lv_at hl 0 rfl) ?_
  refine lv_aload_n hx hb dX12_weptByAll_5 rfl (lv_at hl 2 rfl) ?_
  refine va_get (D := D) (ci := 11) (v := .ref (am 1)) (C := RX12) (T := TX12) (N := 54) hx hb hts hiX12 hown hK hP 1 rfl rfl 6 (by decide) (hts _ (List.mem_of_getElem? (i := 1) rfl)) (fun _ h9 => h9) rfl dX12_weptByAll_6 ?_
  refine lv_iconst (v := 1) hx hb dX12_weptByAll_9 (by decide) ?_
  refine va_iald hx hb hK hP 0 0 rfl rfl (show ¬ (_ ∨ _) by decide) dX12_weptByAll_10 ?_
  refine lv_topi (fun y_1 ey_1 => ?_)
  obtain rfl : y_1 = 0 := ey_1.trans (show _ = _ from h1)
  refine lv_icmp_ge (tgt := 32) hx hb dX12_weptByAll_11 (by decide) (fun _ => ?_) (fun h9 => absurd (by decide) h9)
  refine lv_iload_n hx hb dX12_weptByAll_32 rfl (lv_at hl 1 rfl) ?_
  refine W.widen (k := 0) (n := 0) (by decide) (by decide) ?_
  exact hret 0 ([(am 1, .inl (tm 1, 283, .inl f_s)), (am 18, .inr (11, [.int u_0, .ref u_1, .int u_2, .int u_3, .int u_4, .int u_5, .ref (am 1), .ref u_7, .ref u_8, .ref u_9, .ref u_10, .int u_11, .int u_12, .int u_13, .int u_14, .int u_15, .int u_16, .long u_17, .int u_18, .int u_19, .int u_20, .ref u_21, .ref u_22, .int u_23, .int u_24, .int u_25, .int u_26, .ref u_27, .int u_28, .ref u_29, .int u_30, .int u_31, .ref u_32, .int u_33, .ref u_34, .ref u_35, .int u_36, .int u_37, .ref u_38, .int u_39, .int u_40, .int u_41, .ref u_42, .int u_43, .ref u_44, .int u_45, .int u_46, .int u_47, .int u_48, .int u_49, .ref u_50, .ref u_51, .ref u_52, .ref u_53]))], []) _ _ _ _ dX12_weptByAll_33 rfl ⟨rfl, rfl⟩ (hP.sub [0, 1] rfl) (hK.sub [] rfl) (hD.sub [0, 1] (by decide +kernel) rfl) hS
