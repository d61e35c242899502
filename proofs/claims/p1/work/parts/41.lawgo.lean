set_option maxHeartbeats 8000000 in
set_option maxRecDepth 100000 in
theorem law_go {p : Program} {l : Launch} {e : Env} {s : State} {m : MethodId} {below : List Frame} {meth : Method} {c : Code} {D : va_G} {ad : Nat → Nat} {A : Nat → Prop} {b : Nat} {xs : Nat → Int32} (hst : l.stackTraces = false) (hZ : z_Y A s) (hzt : ∀ w ∈ wzL_law, w.before #[Value.ref b] s = true) (G : z_G p s m meth c ad A b xs) {a am : Nat → Nat} {t tm : Nat → ClassId} {qo : Nat} {to : ClassId} {H : Heap} {locs : List Loc} {ls : Array Slot} (hP : va_P D vwCl ((gF ad a t ++ gM ad am tm) ++ [(qo, .inl (to, 1, .inr (.inl (fun _ => 0))))]) H) (hD : va_D A ((gF ad a t ++ gM ad am tm) ++ [(qo, .inl (to, 1, .inr (.inl (fun _ => 0))))])) (hK : va_K D vwCl ((gFt t ++ gMt tm) ++ [(to, .long)]) s) (hS : va_S A s.heap H locs) (hl : lv_has ls 7 [(4, .int 0), (3, .ref qo), (2, .ref (am 18)), (1, .ref (a 0)), (0, .ref b)]) : W p l e room_1 s m #[Value.ref b] below meth c H locs 212 5680 (lw_Z below #[Value.ref b] s) (F0 m 23 ls []) := by
  have G0 := G
  obtain ⟨hx, hb, hr, hml, hown, hts, hX, hbl, hbA, hA, hAl, hlocks, hE, hO⟩ := G
  refine lv_iload hx hb dL_law_23 (lv_at hl 0 rfl) ?_
  refine lv_aload_n hx hb dL_law_25 rfl (lv_at hl 4 rfl) ?_
  refine va_slen hx hb hX hbl hbA hS dL_law_26 ?_
  refine lv_bipush (v := 6) hx hb dL_law_27 (by decide) ?_
  refine lv_isub hx hb dL_law_29 ?_
  refine lv_icmp_gt (tgt := 1404) hx hb dL_law_30 (by decide) (fun h9 => absurd h9 (by decide)) (fun _ => ?_)
  refine lv_aload_n hx hb dL_law_33 rfl (lv_at hl 4 rfl) ?_
  refine lv_iload hx hb dL_law_34 (lv_at hl 0 rfl) ?_
  refine va_sld hx hb hX hbl hbA hS (show ¬ (_ ∨ _) by decide) dL_law_36 ?_
  refine lv_bipush (v := 63) hx hb dL_law_37 (by decide) ?_
  refine lv_iand hx hb dL_law_39 ?_
  refine lv_topi (fun y9 ey9 => ?_)
  obtain ⟨j9, hj9, ej9⟩ := pk_andE (xs (0 : Int32).toNatClampNeg) (m := 63) 6 (by decide)
  obtain rfl : y9 = nI j9 := ey9.trans ej9
  have h9 : 0 ≤ j9 := Nat.zero_le _
  rcases Nat.eq_or_lt_of_le (n := 0) h9 with c9 | h9
  · subst c9
    exact lv_tableIn (tgt := 220) hx hb dL_law_40 (by decide) (by decide) rfl (by decide) (lc_0 G0 hP hD hK hS hl)
  rcases Nat.eq_or_lt_of_le (n := 1) h9 with c9 | h9
  · subst c9
    exact lv_tableIn (tgt := 293) hx hb dL_law_40 (by decide) (by decide) rfl (by decide) (lc_1 G0 hP hD hK hS hl)
  rcases Nat.eq_or_lt_of_le (n := 2) h9 with c9 | h9
  · subst c9
    exact lv_tableIn (tgt := 318) hx hb dL_law_40 (by decide) (by decide) rfl (by decide) (lc_2 G0 hP hD hK hS hl)
  rcases Nat.eq_or_lt_of_le (n := 3) h9 with c9 | h9
  · subst c9
    exact lv_tableIn (tgt := 331) hx hb dL_law_40 (by decide) (by decide) rfl (by decide) (lc_3 G0 hP hD hK hS hl)
  rcases Nat.eq_or_lt_of_le (n := 4) h9 with c9 | h9
  · subst c9
    exact lv_tableIn (tgt := 344) hx hb dL_law_40 (by decide) (by decide) rfl (by decide) (lc_4 hst hZ hzt G0 hP hD hK hS hl)
  rcases Nat.eq_or_lt_of_le (n := 5) h9 with c9 | h9
  · subst c9
    exact lv_tableIn (tgt := 412) hx hb dL_law_40 (by decide) (by decide) rfl (by decide) (lc_5 hst hZ hzt G0 hP hD hK hS hl)
  rcases Nat.eq_or_lt_of_le (n := 6) h9 with c9 | h9
  · subst c9
    exact lv_tableIn (tgt := 480) hx hb dL_law_40 (by decide) (by decide) rfl (by decide) (lc_6 hst hZ hzt G0 hP hD hK hS hl)
  rcases Nat.eq_or_lt_of_le (n := 7) h9 with c9 | h9
  · subst c9
    exact lv_tableIn (tgt := 548) hx hb dL_law_40 (by decide) (by decide) rfl (by decide) (lc_7 G0 hP hD hK hS hl)
  rcases Nat.eq_or_lt_of_le (n := 8) h9 with c9 | h9
  · subst c9
    exact lv_tableIn (tgt := 585) hx hb dL_law_40 (by decide) (by decide) rfl (by decide) (lc_8 G0 hP hD hK hS hl)
  rcases Nat.eq_or_lt_of_le (n := 9) h9 with c9 | h9
  · subst c9
    exact lv_tableIn (tgt := 610) hx hb dL_law_40 (by decide) (by decide) rfl (by decide) (lc_9 G0 hP hD hK hS hl)
  rcases Nat.eq_or_lt_of_le (n := 10) h9 with c9 | h9
  · subst c9
    exact lv_tableIn (tgt := 647) hx hb dL_law_40 (by decide) (by decide) rfl (by decide) (lc_10 G0 hP hD hK hS hl)
  rcases Nat.eq_or_lt_of_le (n := 11) h9 with c9 | h9
  · subst c9
    exact lv_tableIn (tgt := 684) hx hb dL_law_40 (by decide) (by decide) rfl (by decide) (lc_11 G0 hP hD hK hS hl)
  rcases Nat.eq_or_lt_of_le (n := 12) h9 with c9 | h9
  · subst c9
    exact lv_tableIn (tgt := 721) hx hb dL_law_40 (by decide) (by decide) rfl (by decide) (lc_12 G0 hP hD hK hS hl)
  rcases Nat.eq_or_lt_of_le (n := 13) h9 with c9 | h9
  · subst c9
    exact lv_tableIn (tgt := 746) hx hb dL_law_40 (by decide) (by decide) rfl (by decide) (lc_13 G0 hP hD hK hS hl)
  rcases Nat.eq_or_lt_of_le (n := 14) h9 with c9 | h9
  · subst c9
    exact lv_tableIn (tgt := 771) hx hb dL_law_40 (by decide) (by decide) rfl (by decide) (lc_14 G0 hP hD hK hS hl)
  rcases Nat.eq_or_lt_of_le (n := 15) h9 with c9 | h9
  · subst c9
    exact lv_tableIn (tgt := 784) hx hb dL_law_40 (by decide) (by decide) rfl (by decide) (lc_15 G0 hP hD hK hS hl)
  rcases Nat.eq_or_lt_of_le (n := 16) h9 with c9 | h9
  · subst c9
    exact lv_tableIn (tgt := 809) hx hb dL_law_40 (by decide) (by decide) rfl (by decide) (lc_16 G0 hP hD hK hS hl)
  rcases Nat.eq_or_lt_of_le (n := 17) h9 with c9 | h9
  · subst c9
    exact lv_tableIn (tgt := 834) hx hb dL_law_40 (by decide) (by decide) rfl (by decide) (lc_17 G0 hP hD hK hS hl)
  rcases Nat.eq_or_lt_of_le (n := 18) h9 with c9 | h9
  · subst c9
    exact lv_tableIn (tgt := 859) hx hb dL_law_40 (by decide) (by decide) rfl (by decide) (lc_18 G0 hP hD hK hS hl)
  rcases Nat.eq_or_lt_of_le (n := 19) h9 with c9 | h9
  · subst c9
    exact lv_tableIn (tgt := 872) hx hb dL_law_40 (by decide) (by decide) rfl (by decide) (lc_19 G0 hP hD hK hS hl)
  rcases Nat.eq_or_lt_of_le (n := 20) h9 with c9 | h9
  · subst c9
    exact lv_tableIn (tgt := 885) hx hb dL_law_40 (by decide) (by decide) rfl (by decide) (lc_20 G0 hP hD hK hS hl)
  rcases Nat.eq_or_lt_of_le (n := 21) h9 with c9 | h9
  · subst c9
    exact lv_tableIn (tgt := 898) hx hb dL_law_40 (by decide) (by decide) rfl (by decide) (lc_21 G0 hP hD hK hS hl)
  rcases Nat.eq_or_lt_of_le (n := 22) h9 with c9 | h9
  · subst c9
    exact lv_tableIn (tgt := 911) hx hb dL_law_40 (by decide) (by decide) rfl (by decide) (lc_22 G0 hP hD hK hS hl)
  rcases Nat.eq_or_lt_of_le (n := 23) h9 with c9 | h9
  · subst c9
    exact lv_tableIn (tgt := 948) hx hb dL_law_40 (by decide) (by decide) rfl (by decide) (lc_23 G0 hP hD hK hS hl)
  rcases Nat.eq_or_lt_of_le (n := 24) h9 with c9 | h9
  · subst c9
    exact lv_tableIn (tgt := 973) hx hb dL_law_40 (by decide) (by decide) rfl (by decide) (lc_24 G0 hP hD hK hS hl)
  rcases Nat.eq_or_lt_of_le (n := 25) h9 with c9 | h9
  · subst c9
    exact lv_tableIn (tgt := 986) hx hb dL_law_40 (by decide) (by decide) rfl (by decide) (lc_25 G0 hP hD hK hS hl)
  rcases Nat.eq_or_lt_of_le (n := 26) h9 with c9 | h9
  · subst c9
    exact lv_tableIn (tgt := 999) hx hb dL_law_40 (by decide) (by decide) rfl (by decide) (lc_26 G0 hP hD hK hS hl)
  rcases Nat.eq_or_lt_of_le (n := 27) h9 with c9 | h9
  · subst c9
    exact lv_tableIn (tgt := 1012) hx hb dL_law_40 (by decide) (by decide) rfl (by decide) (lc_27 G0 hP hD hK hS hl)
  rcases Nat.eq_or_lt_of_le (n := 28) h9 with c9 | h9
  · subst c9
    exact lv_tableIn (tgt := 1037) hx hb dL_law_40 (by decide) (by decide) rfl (by decide) (lc_28 G0 hP hD hK hS hl)
  rcases Nat.eq_or_lt_of_le (n := 29) h9 with c9 | h9
  · subst c9
    exact lv_tableIn (tgt := 1086) hx hb dL_law_40 (by decide) (by decide) rfl (by decide) (lc_29 G0 hP hD hK hS hl)
  rcases Nat.eq_or_lt_of_le (n := 30) h9 with c9 | h9
  · subst c9
    exact lv_tableIn (tgt := 1099) hx hb dL_law_40 (by decide) (by decide) rfl (by decide) (lc_30 G0 hP hD hK hS hl)
  rcases Nat.eq_or_lt_of_le (n := 31) h9 with c9 | h9
  · subst c9
    exact lv_tableIn (tgt := 1124) hx hb dL_law_40 (by decide) (by decide) rfl (by decide) (lc_31 G0 hP hD hK hS hl)
  rcases Nat.eq_or_lt_of_le (n := 32) h9 with c9 | h9
  · subst c9
    exact lv_tableIn (tgt := 1149) hx hb dL_law_40 (by decide) (by decide) rfl (by decide) (lc_32 G0 hP hD hK hS hl)
  rcases Nat.eq_or_lt_of_le (n := 33) h9 with c9 | h9
  · subst c9
    exact lv_tableIn (tgt := 1186) hx hb dL_law_40 (by decide) (by decide) rfl (by decide) (lc_33 G0 hP hD hK hS hl)
  rcases Nat.eq_or_lt_of_le (n := 34) h9 with c9 | h9
  · subst c9
    exact lv_tableIn (tgt := 1235) hx hb dL_law_40 (by decide) (by decide) rfl (by decide) (lc_34 G0 hP hD hK hS hl)
  rcases Nat.eq_or_lt_of_le (n := 35) h9 with c9 | h9
  · subst c9
    exact lv_tableIn (tgt := 1260) hx hb dL_law_40 (by decide) (by decide) rfl (by decide) (lc_35 G0 hP hD hK hS hl)
  rcases Nat.eq_or_lt_of_le (n := 36) h9 with c9 | h9
  · subst c9
    exact lv_tableIn (tgt := 1285) hx hb dL_law_40 (by decide) (by decide) rfl (by decide) (lc_36 G0 hP hD hK hS hl)
  rcases Nat.eq_or_lt_of_le (n := 37) h9 with c9 | h9
  · subst c9
    exact lv_tableIn (tgt := 1298) hx hb dL_law_40 (by decide) (by decide) rfl (by decide) (lc_37 G0 hP hD hK hS hl)
  rcases Nat.eq_or_lt_of_le (n := 38) h9 with c9 | h9
  · subst c9
    exact lv_tableIn (tgt := 1323) hx hb dL_law_40 (by decide) (by decide) rfl (by decide) (lc_38 G0 hP hD hK hS hl)
  rcases Nat.eq_or_lt_of_le (n := 39) h9 with c9 | h9
  · subst c9
    exact lv_tableIn (tgt := 1348) hx hb dL_law_40 (by decide) (by decide) rfl (by decide) (lc_39 G0 hP hD hK hS hl)
  rcases Nat.eq_or_lt_of_le (n := 40) h9 with c9 | h9
  · subst c9
    exact lv_tableIn (tgt := 1373) hx hb dL_law_40 (by decide) (by decide) rfl (by decide) (lc_40 G0 hP hD hK hS hl)
  refine lv_tableOut (tgt := 1398) hx hb dL_law_40 (Or.inr (by rw [nI_toInt (by omega)]; omega)) (by decide) ?_
  exact law_end G0 hS (by decide) (by decide) (lv_sub hl [0, 4] rfl)
