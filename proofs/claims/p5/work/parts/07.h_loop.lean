theorem dL_law_23 : decode cL_law 23 = .ok (.iload 4, 2) := by decide +kernel
theorem dL_law_25 : decode cL_law 25 = .ok (.aload_n 0, 1) := by decide +kernel
theorem dL_law_26 : decode cL_law 26 = .ok (.arraylength, 1) := by decide +kernel
theorem dL_law_27 : decode cL_law 27 = .ok (.bipush 6, 2) := by decide +kernel
theorem dL_law_29 : decode cL_law 29 = .ok (.isub, 1) := by decide +kernel
theorem dL_law_30 : decode cL_law 30 = .ok (.if_icmp .gt 1290, 3) := by decide +kernel
theorem dL_law_33 : decode cL_law 33 = .ok (.aload_n 0, 1) := by decide +kernel
theorem dL_law_34 : decode cL_law 34 = .ok (.iload 4, 2) := by decide +kernel
theorem dL_law_36 : decode cL_law 36 = .ok (.iaload, 1) := by decide +kernel
theorem dL_law_37 : decode cL_law 37 = .ok (.bipush 63, 2) := by decide +kernel
theorem dL_law_39 : decode cL_law 39 = .ok (.iand, 1) := by decide +kernel
theorem dL_law_40 : decode cL_law 40 = .ok (.tableswitch 1274 0 40 #[180, 253, 278, 291, 304, 344, 384, 424, 461, 486, 523, 560, 597, 622, 647, 660, 685, 710, 735, 748, 761, 774, 787, 824, 849, 862, 875, 888, 913, 962, 975, 1000, 1025, 1062, 1111, 1136, 1161, 1174, 1199, 1224, 1249], 180) := by decide +kernel
theorem dL_law_1320 : decode cL_law 1320 = .ok (.iconst 1, 1) := by decide +kernel
theorem dL_law_1321 : decode cL_law 1321 = .ok (.ireturn, 1) := by decide +kernel
theorem z_len {L : Nat} (hL : L ≤ 3072) : (Int32.ofNat L - 6).toInt = (L : Int) - 6 := by
  have e : (Int32.ofNat L).toInt = (L : Int) := by
    exact Int32.toInt_ofNat_of_lt (by omega)
  have e6 : (6 : Int32).toInt = 6 := rfl
  rw [z_subT (a := 0) (b := 3072) (c := 6) (d := 6) ⟨by omega, by omega⟩ ⟨by decide, by decide⟩ rfl, e, e6]
theorem z_scr0 {L : Nat} {i : Int32} (hi : 0 ≤ i.toInt ∧ i.toInt + 6 ≤ (L : Int)) (hL : L ≤ 3072) : vp_in i L := by
  rintro (h | h)
  · have h := Int32.lt_iff_toInt_lt.mp h
    have e0 : (0 : Int32).toInt = 0 := rfl
    omega
  · rw [z_tnc] at h
    omega
theorem law_out {p : Program} {l : Launch} {e : Env} {s : State} {m : MethodId} {below : List Frame} {meth : Method} {c : Code} {A : Nat → Prop} {b : Nat} (hx : p.tables.exec = Jvm.exec) (hb : c.code = code) (hr : meth.sig.returnType = ret) (hlocks : meth.locks = false) (hAl : ∀ q, A q → s.heap.size ≤ q) {H : Heap} {locs : List Loc} {ls : Array Slot} {cells slots : Nat} (hS : va_S A s.heap H locs) (hc : cells ≤ 601024) (hs : slots ≤ 7293034) : W p l e room_1 s m #[Value.ref b] below meth c H locs cells slots (lw_Z below #[Value.ref b] s) (F0 m 1321 ls [.int 1]) := by
  refine va_forget (fun q hq => hAl _ (hS.2.2 q hq)) ?_
  refine W.widen (k := 601024) (n := 7293034) hc hs ?_
  exact lw_ret hx hb hr hlocks dL_law_1321
set_option maxHeartbeats 8000000 in
set_option maxRecDepth 100000 in
theorem law_loop {p : Program} {l : Launch} {e : Env} {s : State} {m : MethodId} {below : List Frame} {meth : Method} {c : Code} {D : va_G} {ad : Nat → Nat} {A : Nat → Prop} {b L : Nat} {xs : Nat → Int32} (hst : l.stackTraces = false) (hZ : z_Y A s) (hzt : ∀ w ∈ wzL_law, w.before #[Value.ref b] s = true) (G : z_G p s m meth c ad A b L xs) (hL : L ≤ 3072) {fu ta tk wh tw sc wd im sd pa pl dr bk tg se tx sx sy plb mo qo : Nat} : ∀ (n : Nat) {gs : List va_W} {i : Int32} {cells slots : Nat} {H : Heap} {locs : List Loc} {ls : Array Slot}, z_IN D ad s fu ta tk wh tw sc wd im sd pa pl dr bk tg se tx sx sy plb mo qo gs → 0 ≤ i.toInt → i.toInt ≤ 3072 → (L : Int) ≤ i.toInt + 6 * n → cells + n ≤ 601024 → slots + 6 * n ≤ 7293034 → va_P D vwCl gs.flatten H → va_D A gs.flatten → va_S A s.heap H locs → lv_has ls 7 [(4, .int i), (3, .ref qo), (2, .ref mo), (1, .ref fu), (0, .ref b)] → W p l e room_1 s m #[Value.ref b] below meth c H locs cells slots (lw_Z below #[Value.ref b] s) (F0 m 23 ls []) := by
  intro n
  induction n with
  | zero =>
    intro gs i cells slots H locs ls hIN h0 h1 hn hc hs hP hD hS hl
    obtain ⟨hx, hb, hr, hml, hown, hts, hX, hbl, hbA, hA, hAl, hlocks, hE, hO⟩ := G
    refine lv_iload hx hb dL_law_23 (lv_at hl 0 rfl) ?_
    refine lv_aload_n hx hb dL_law_25 rfl (lv_at hl 4 rfl) ?_
    refine va_slen hx hb hX hbl hbA hS dL_law_26 ?_
    refine lv_bipush (v := 6) hx hb dL_law_27 (by decide) ?_
    refine lv_isub hx hb dL_law_29 ?_
    refine lv_topi (fun y9 ey9 => ?_)
    have ty9 : y9.toInt = (L : Int) - 6 := by rw [ey9]; exact z_len hL
    refine lv_icmp_gt (tgt := 1320) hx hb dL_law_30 (by decide) (fun _ => ?_) (fun h9 => absurd (Int32.le_iff_toInt_le.mp (Int32.not_lt.mp h9)) (by omega))
    refine lv_iconst (v := 1) hx hb dL_law_1320 (by decide) ?_
    exact law_out hx hb hr hlocks hAl hS (by omega) (by omega)
  | succ n ihn =>
    intro gs i cells slots H locs ls hIN h0 h1 hn hc hs hP hD hS hl
    have G0 := G
    obtain ⟨hx, hb, hr, hml, hown, hts, hX, hbl, hbA, hA, hAl, hlocks, hE, hO⟩ := G
    refine lv_iload hx hb dL_law_23 (lv_at hl 0 rfl) ?_
    refine lv_aload_n hx hb dL_law_25 rfl (lv_at hl 4 rfl) ?_
    refine va_slen hx hb hX hbl hbA hS dL_law_26 ?_
    refine lv_bipush (v := 6) hx hb dL_law_27 (by decide) ?_
    refine lv_isub hx hb dL_law_29 ?_
    refine lv_topi (fun y9 ey9 => ?_)
    have ty9 : y9.toInt = (L : Int) - 6 := by rw [ey9]; exact z_len hL
    refine lv_icmp_gt (tgt := 1320) hx hb dL_law_30 (by decide) (fun _ => ?_) (fun h9 => ?_)
    · refine lv_iconst (v := 1) hx hb dL_law_1320 (by decide) ?_
      exact law_out hx hb hr hlocks hAl hS (by omega) (by omega)
    · have h9 := Int32.le_iff_toInt_le.mp (Int32.not_lt.mp h9)
      have hi : 0 ≤ i.toInt ∧ i.toInt + 6 ≤ (L : Int) := ⟨h0, by omega⟩
      have hrm : cells + 1 ≤ 601024 ∧ slots + 6 ≤ 7293034 := ⟨by omega, by omega⟩
      have t6 : (i + 6).toInt = i.toInt + 6 := z_addT (a := 0) (b := 3072) (c := 6) (d := 6) ⟨h0, h1⟩ ⟨by decide, by decide⟩ rfl
      have ih : ∀ {gs : List va_W} {H : Heap} {locs : List Loc} {ls : Array Slot} {cells' slots' : Nat}, z_IN D ad s fu ta tk wh tw sc wd im sd pa pl dr bk tg se tx sx sy plb mo qo gs → va_P D vwCl gs.flatten H → va_D A gs.flatten → va_S A s.heap H locs → lv_has ls 7 [(4, .int (i + 6)), (3, .ref qo), (2, .ref mo), (1, .ref fu), (0, .ref b)] → cells' ≤ cells + 1 → slots' ≤ slots + 6 → W p l e room_1 s m #[Value.ref b] below meth c H locs cells' slots' (lw_Z below #[Value.ref b] s) (F0 m 23 ls []) := fun hIN hP hD hS hl h1 h2 => ihn hIN (by omega) (by omega) (by omega) (by omega) (by omega) hP hD hS hl
      refine lv_aload_n hx hb dL_law_33 rfl (lv_at hl 4 rfl) ?_
      refine lv_iload hx hb dL_law_34 (lv_at hl 0 rfl) ?_
      refine va_sld hx hb hX hbl hbA hS (z_scr0 hi hL) dL_law_36 ?_
      refine lv_bipush (v := 63) hx hb dL_law_37 (by decide) ?_
      refine lv_iand hx hb dL_law_39 ?_
      refine lv_topi (fun y8 ey8 => ?_)
      obtain ⟨j9, hj9, ej9⟩ := pk_andE (xs i.toNatClampNeg) (m := 63) 6 (by decide)
      obtain rfl : y8 = nI j9 := ey8.trans ej9
      have h8 : 0 ≤ j9 := Nat.zero_le _
      rcases Nat.eq_or_lt_of_le (n := 0) h8 with c9 | h8
      · subst c9
        exact lv_tableIn (tgt := 220) hx hb dL_law_40 (by decide) (by decide) rfl (by decide) (lk_0 G0 hIN hi hL hrm hP hD hS hl ih)
      rcases Nat.eq_or_lt_of_le (n := 1) h8 with c9 | h8
      · subst c9
        exact lv_tableIn (tgt := 293) hx hb dL_law_40 (by decide) (by decide) rfl (by decide) (lk_1 G0 hIN hi hL hrm hP hD hS hl ih)
      rcases Nat.eq_or_lt_of_le (n := 2) h8 with c9 | h8
      · subst c9
        exact lv_tableIn (tgt := 318) hx hb dL_law_40 (by decide) (by decide) rfl (by decide) (lk_2 G0 hIN hi hL hrm hP hD hS hl ih)
      rcases Nat.eq_or_lt_of_le (n := 3) h8 with c9 | h8
      · subst c9
        exact lv_tableIn (tgt := 331) hx hb dL_law_40 (by decide) (by decide) rfl (by decide) (lk_3 G0 hIN hi hL hrm hP hD hS hl ih)
      rcases Nat.eq_or_lt_of_le (n := 4) h8 with c9 | h8
      · subst c9
        exact lv_tableIn (tgt := 344) hx hb dL_law_40 (by decide) (by decide) rfl (by decide) (lk_4 hst hZ hzt G0 hIN hi hL hrm hP hD hS hl ih)
      rcases Nat.eq_or_lt_of_le (n := 5) h8 with c9 | h8
      · subst c9
        exact lv_tableIn (tgt := 384) hx hb dL_law_40 (by decide) (by decide) rfl (by decide) (lk_5 hst hZ hzt G0 hIN hi hL hrm hP hD hS hl ih)
      rcases Nat.eq_or_lt_of_le (n := 6) h8 with c9 | h8
      · subst c9
        exact lv_tableIn (tgt := 424) hx hb dL_law_40 (by decide) (by decide) rfl (by decide) (lk_6 hst hZ hzt G0 hIN hi hL hrm hP hD hS hl ih)
      rcases Nat.eq_or_lt_of_le (n := 7) h8 with c9 | h8
      · subst c9
        exact lv_tableIn (tgt := 464) hx hb dL_law_40 (by decide) (by decide) rfl (by decide) (lk_7 G0 hIN hi hL hrm hP hD hS hl ih)
      rcases Nat.eq_or_lt_of_le (n := 8) h8 with c9 | h8
      · subst c9
        exact lv_tableIn (tgt := 501) hx hb dL_law_40 (by decide) (by decide) rfl (by decide) (lk_8 G0 hIN hi hL hrm hP hD hS hl ih)
      rcases Nat.eq_or_lt_of_le (n := 9) h8 with c9 | h8
      · subst c9
        exact lv_tableIn (tgt := 526) hx hb dL_law_40 (by decide) (by decide) rfl (by decide) (lk_9 G0 hIN hi hL hrm hP hD hS hl ih)
      rcases Nat.eq_or_lt_of_le (n := 10) h8 with c9 | h8
      · subst c9
        exact lv_tableIn (tgt := 563) hx hb dL_law_40 (by decide) (by decide) rfl (by decide) (lk_10 G0 hIN hi hL hrm hP hD hS hl ih)
      rcases Nat.eq_or_lt_of_le (n := 11) h8 with c9 | h8
      · subst c9
        exact lv_tableIn (tgt := 600) hx hb dL_law_40 (by decide) (by decide) rfl (by decide) (lk_11 G0 hIN hi hL hrm hP hD hS hl ih)
      rcases Nat.eq_or_lt_of_le (n := 12) h8 with c9 | h8
      · subst c9
        exact lv_tableIn (tgt := 637) hx hb dL_law_40 (by decide) (by decide) rfl (by decide) (lk_12 G0 hIN hi hL hrm hP hD hS hl ih)
      rcases Nat.eq_or_lt_of_le (n := 13) h8 with c9 | h8
      · subst c9
        exact lv_tableIn (tgt := 662) hx hb dL_law_40 (by decide) (by decide) rfl (by decide) (lk_13 G0 hIN hi hL hrm hP hD hS hl ih)
      rcases Nat.eq_or_lt_of_le (n := 14) h8 with c9 | h8
      · subst c9
        exact lv_tableIn (tgt := 687) hx hb dL_law_40 (by decide) (by decide) rfl (by decide) (lk_14 G0 hIN hi hL hrm hP hD hS hl ih)
      rcases Nat.eq_or_lt_of_le (n := 15) h8 with c9 | h8
      · subst c9
        exact lv_tableIn (tgt := 700) hx hb dL_law_40 (by decide) (by decide) rfl (by decide) (lk_15 G0 hIN hi hL hrm hP hD hS hl ih)
      rcases Nat.eq_or_lt_of_le (n := 16) h8 with c9 | h8
      · subst c9
        exact lv_tableIn (tgt := 725) hx hb dL_law_40 (by decide) (by decide) rfl (by decide) (lk_16 G0 hIN hi hL hrm hP hD hS hl ih)
      rcases Nat.eq_or_lt_of_le (n := 17) h8 with c9 | h8
      · subst c9
        exact lv_tableIn (tgt := 750) hx hb dL_law_40 (by decide) (by decide) rfl (by decide) (lk_17 G0 hIN hi hL hrm hP hD hS hl ih)
      rcases Nat.eq_or_lt_of_le (n := 18) h8 with c9 | h8
      · subst c9
        exact lv_tableIn (tgt := 775) hx hb dL_law_40 (by decide) (by decide) rfl (by decide) (lk_18 G0 hIN hi hL hrm hP hD hS hl ih)
      rcases Nat.eq_or_lt_of_le (n := 19) h8 with c9 | h8
      · subst c9
        exact lv_tableIn (tgt := 788) hx hb dL_law_40 (by decide) (by decide) rfl (by decide) (lk_19 G0 hIN hi hL hrm hP hD hS hl ih)
      rcases Nat.eq_or_lt_of_le (n := 20) h8 with c9 | h8
      · subst c9
        exact lv_tableIn (tgt := 801) hx hb dL_law_40 (by decide) (by decide) rfl (by decide) (lk_20 G0 hIN hi hL hrm hP hD hS hl ih)
      rcases Nat.eq_or_lt_of_le (n := 21) h8 with c9 | h8
      · subst c9
        exact lv_tableIn (tgt := 814) hx hb dL_law_40 (by decide) (by decide) rfl (by decide) (lk_21 G0 hIN hi hL hrm hP hD hS hl ih)
      rcases Nat.eq_or_lt_of_le (n := 22) h8 with c9 | h8
      · subst c9
        exact lv_tableIn (tgt := 827) hx hb dL_law_40 (by decide) (by decide) rfl (by decide) (lk_22 G0 hIN hi hL hrm hP hD hS hl ih)
      rcases Nat.eq_or_lt_of_le (n := 23) h8 with c9 | h8
      · subst c9
        exact lv_tableIn (tgt := 864) hx hb dL_law_40 (by decide) (by decide) rfl (by decide) (lk_23 G0 hIN hi hL hrm hP hD hS hl ih)
      rcases Nat.eq_or_lt_of_le (n := 24) h8 with c9 | h8
      · subst c9
        exact lv_tableIn (tgt := 889) hx hb dL_law_40 (by decide) (by decide) rfl (by decide) (lk_24 G0 hIN hi hL hrm hP hD hS hl ih)
      rcases Nat.eq_or_lt_of_le (n := 25) h8 with c9 | h8
      · subst c9
        exact lv_tableIn (tgt := 902) hx hb dL_law_40 (by decide) (by decide) rfl (by decide) (lk_25 G0 hIN hi hL hrm hP hD hS hl ih)
      rcases Nat.eq_or_lt_of_le (n := 26) h8 with c9 | h8
      · subst c9
        exact lv_tableIn (tgt := 915) hx hb dL_law_40 (by decide) (by decide) rfl (by decide) (lk_26 G0 hIN hi hL hrm hP hD hS hl ih)
      rcases Nat.eq_or_lt_of_le (n := 27) h8 with c9 | h8
      · subst c9
        exact lv_tableIn (tgt := 928) hx hb dL_law_40 (by decide) (by decide) rfl (by decide) (lk_27 G0 hIN hi hL hrm hP hD hS hl ih)
      rcases Nat.eq_or_lt_of_le (n := 28) h8 with c9 | h8
      · subst c9
        exact lv_tableIn (tgt := 953) hx hb dL_law_40 (by decide) (by decide) rfl (by decide) (lk_28 G0 hIN hi hL hrm hP hD hS hl ih)
      rcases Nat.eq_or_lt_of_le (n := 29) h8 with c9 | h8
      · subst c9
        exact lv_tableIn (tgt := 1002) hx hb dL_law_40 (by decide) (by decide) rfl (by decide) (lk_29 G0 hIN hi hL hrm hP hD hS hl ih)
      rcases Nat.eq_or_lt_of_le (n := 30) h8 with c9 | h8
      · subst c9
        exact lv_tableIn (tgt := 1015) hx hb dL_law_40 (by decide) (by decide) rfl (by decide) (lk_30 G0 hIN hi hL hrm hP hD hS hl ih)
      rcases Nat.eq_or_lt_of_le (n := 31) h8 with c9 | h8
      · subst c9
        exact lv_tableIn (tgt := 1040) hx hb dL_law_40 (by decide) (by decide) rfl (by decide) (lk_31 G0 hIN hi hL hrm hP hD hS hl ih)
      rcases Nat.eq_or_lt_of_le (n := 32) h8 with c9 | h8
      · subst c9
        exact lv_tableIn (tgt := 1065) hx hb dL_law_40 (by decide) (by decide) rfl (by decide) (lk_32 G0 hIN hi hL hrm hP hD hS hl ih)
      rcases Nat.eq_or_lt_of_le (n := 33) h8 with c9 | h8
      · subst c9
        exact lv_tableIn (tgt := 1102) hx hb dL_law_40 (by decide) (by decide) rfl (by decide) (lk_33 G0 hIN hi hL hrm hP hD hS hl ih)
      rcases Nat.eq_or_lt_of_le (n := 34) h8 with c9 | h8
      · subst c9
        exact lv_tableIn (tgt := 1151) hx hb dL_law_40 (by decide) (by decide) rfl (by decide) (lk_34 G0 hIN hi hL hrm hP hD hS hl ih)
      rcases Nat.eq_or_lt_of_le (n := 35) h8 with c9 | h8
      · subst c9
        exact lv_tableIn (tgt := 1176) hx hb dL_law_40 (by decide) (by decide) rfl (by decide) (lk_35 G0 hIN hi hL hrm hP hD hS hl ih)
      rcases Nat.eq_or_lt_of_le (n := 36) h8 with c9 | h8
      · subst c9
        exact lv_tableIn (tgt := 1201) hx hb dL_law_40 (by decide) (by decide) rfl (by decide) (lk_36 G0 hIN hi hL hrm hP hD hS hl ih)
      rcases Nat.eq_or_lt_of_le (n := 37) h8 with c9 | h8
      · subst c9
        exact lv_tableIn (tgt := 1214) hx hb dL_law_40 (by decide) (by decide) rfl (by decide) (lk_37 G0 hIN hi hL hrm hP hD hS hl ih)
      rcases Nat.eq_or_lt_of_le (n := 38) h8 with c9 | h8
      · subst c9
        exact lv_tableIn (tgt := 1239) hx hb dL_law_40 (by decide) (by decide) rfl (by decide) (lk_38 G0 hIN hi hL hrm hP hD hS hl ih)
      rcases Nat.eq_or_lt_of_le (n := 39) h8 with c9 | h8
      · subst c9
        exact lv_tableIn (tgt := 1264) hx hb dL_law_40 (by decide) (by decide) rfl (by decide) (lk_39 G0 hIN hi hL hrm hP hD hS hl ih)
      rcases Nat.eq_or_lt_of_le (n := 40) h8 with c9 | h8
      · subst c9
        exact lv_tableIn (tgt := 1289) hx hb dL_law_40 (by decide) (by decide) rfl (by decide) (lk_40 G0 hIN hi hL hrm hP hD hS hl ih)
      refine lv_tableOut (tgt := 1314) hx hb dL_law_40 (Or.inr (by rw [nI_toInt (by omega)]; omega)) (by decide) ?_
      refine lv_iinc (v := i + 6) (lv' := [(4, .int (i + 6)), (3, .ref qo), (2, .ref mo), (1, .ref fu), (0, .ref b)]) hx hb dL_law_1314 hl (k := 0) rfl rfl (by decide) rfl (fun ls hl => ?_)
      refine lv_goto (tgt := 23) hx hb dL_law_1317 (by decide) ?_
      exact ih hIN hP hD hS hl (by omega) (by omega)
